/-- one step of a body's run that makes no cell -/
theorem xE.step {M : xD} {pc pc2 : Nat} {L L2 : List (Nat × Value)} {st st2 : List Value} {μ μ2 : xM} {Q : Option Value → xM → Prop} (h : xE M pc2 L2 st2 μ2 Q) (hz : μ2.1 = μ.1)
    (k : ∀ (p : Program) (l : Launch) (e : Env) (R : Room) (s : State) (m : MethodId) (args : Array Value) (below : List Frame) (meth : Method) (c : Code) (g : xG) (Qf : State → Prop) (H : Heap) (locs : List Loc) (cells slots : Nat) (ls : Array Slot),
      xCx M p R s m args meth c g → xR g μ H → va_S (xA g) s.heap H locs → lv_has ls M.2.2.1 (L.map fun q => (q.1, xup g q.2)) →
      (∀ (H1 : Heap) (locs1 : List Loc) (ls1 : Array Slot), xR g μ2 H1 → va_S (xA g) s.heap H1 locs1 → lv_has ls1 M.2.2.1 (L2.map fun q => (q.1, xup g q.2)) → W p l e R s m args below meth c H1 locs1 cells slots Qf (F0 m pc2 ls1 (st2.map (xup g)))) →
      W p l e R s m args below meth c H locs cells slots Qf (F0 m pc ls (st.map (xup g)))) : xE M pc L st μ Q := by
  obtain ⟨r, μ', hq, h1, h2, h3, h4⟩ := h
  rw [hz] at h1
  refine ⟨r, μ', hq, h1, by rw [← hz]; exact h2, h3, fun p l e R s m args below meth c g n0 Qf C hr hn he H locs ls hR hS hl => ?_⟩
  refine k p l e R s m args below meth c g Qf H locs _ _ ls C hR hS hl fun H1 locs1 ls1 g1 g2 g3 => ?_
  have := h4 p l e R s m args below meth c g n0 Qf C hr (by rw [hz]; exact hn) he H1 locs1 ls1 g1 g2 g3
  rw [hz] at this
  exact this
/-- the same, the room told -/
theorem xE.step2 {M : xD} {pc pc2 : Nat} {L L2 : List (Nat × Value)} {st st2 : List Value} {μ μ2 : xM} {Q : Option Value → xM → Prop} (h : xE M pc2 L2 st2 μ2 Q) (hz : μ2.1 = μ.1)
    (k : ∀ (p : Program) (l : Launch) (e : Env) (R : Room) (s : State) (m : MethodId) (args : Array Value) (below : List Frame) (meth : Method) (c : Code) (g : xG) (Qf : State → Prop) (H : Heap) (locs : List Loc) (cells slots : Nat) (ls : Array Slot), cells ≤ R.cells → slots ≤ R.slots →
      xCx M p R s m args meth c g → xR g μ H → va_S (xA g) s.heap H locs → lv_has ls M.2.2.1 (L.map fun q => (q.1, xup g q.2)) →
      (∀ (H1 : Heap) (locs1 : List Loc) (ls1 : Array Slot), xR g μ2 H1 → va_S (xA g) s.heap H1 locs1 → lv_has ls1 M.2.2.1 (L2.map fun q => (q.1, xup g q.2)) → W p l e R s m args below meth c H1 locs1 cells slots Qf (F0 m pc2 ls1 (st2.map (xup g)))) →
      W p l e R s m args below meth c H locs cells slots Qf (F0 m pc ls (st.map (xup g)))) : xE M pc L st μ Q := by
  obtain ⟨r, μ', hq, h1, h2, h3, h4⟩ := h
  rw [hz] at h1 h2
  refine ⟨r, μ', hq, h1, h2, h3, fun p l e R s m args below meth c g n0 Qf C hr hn he H locs ls hR hS hl => ?_⟩
  refine k p l e R s m args below meth c g Qf H locs _ _ ls (by omega) (by omega) C hR hS hl fun H1 locs1 ls1 g1 g2 g3 => ?_
  have := h4 p l e R s m args below meth c g n0 Qf C hr (by rw [hz]; exact hn) he H1 locs1 ls1 g1 g2 g3
  rw [hz] at this
  exact this
theorem lv_mono {ls : Array Slot} {n : Nat} {l l' : List (Nat × Value)} (h : lv_has ls n l) (hs : ∀ q ∈ l', q ∈ l) : lv_has ls n l' := ⟨h.1, h.2.1, fun q hq => h.2.2 q (hs q hq)⟩
theorem lx_at {g : xG} {ls : Array Slot} {n : Nat} {L : List (Nat × Value)} (h : lv_has ls n (L.map fun q => (q.1, xup g q.2))) (k : Nat) {i : Nat} {v : Value} (hk : L[k]? = some (i, v)) : ls[i]? = some (.val (xup g v)) := lv_at h k (by rw [List.getElem?_map, hk]; rfl)
/-- fewer locals are known -/
theorem xE.sub {M : xD} {pc : Nat} {L L' : List (Nat × Value)} {st : List Value} {μ : xM} {Q : Option Value → xM → Prop} (ks : List Nat) (hk : ks.filterMap (fun k => L[k]?) = L') (h : xE M pc L' st μ Q) : xE M pc L st μ Q := by
  refine h.step rfl fun p l e R s m args below meth c g Qf H locs cells slots ls C hR hS hl kk => kk H locs ls hR hS (lv_mono hl fun q hq => ?_)
  obtain ⟨q0, h0, rfl⟩ := List.mem_map.mp hq
  rw [← hk] at h0
  obtain ⟨k, -, hk⟩ := List.mem_filterMap.mp h0
  exact List.mem_map.mpr ⟨q0, List.mem_of_getElem? hk, rfl⟩
def xins : List (Nat × Value) → Nat → Value → List (Nat × Value)
  | [], i, v => [(i, v)]
  | q :: l, i, v => if i < q.1 then (i, v) :: q :: l else q :: xins l i v
theorem xins_mem {i : Nat} {v : Value} {q : Nat × Value} : ∀ {L : List (Nat × Value)}, q ∈ xins L i v → q = (i, v) ∨ q ∈ L
  | [], h => by
    rw [xins, List.mem_singleton] at h
    exact Or.inl h
  | x :: l, h => by
    unfold xins at h
    split at h
    · rcases List.mem_cons.mp h with h | h
      · exact Or.inl h
      · exact Or.inr h
    · rcases List.mem_cons.mp h with h | h
      · exact Or.inr (h ▸ List.mem_cons_self)
      · rcases xins_mem h with h | h
        · exact Or.inl h
        · exact Or.inr (List.mem_cons_of_mem _ h)
/-- a value of one word is stored: what stood there, or over it, goes -/
def xput (L : List (Nat × Value)) (i : Nat) (v : Value) : List (Nat × Value) := xins (L.filter fun q => !(q.1 == i) && !(q.1 + 1 == i && q.2.category == 2)) i v
def xput2 (L : List (Nat × Value)) (i : Nat) (v : Value) : List (Nat × Value) := xins (L.filter fun q => !(q.1 == i) && (!(q.1 == i + 1) && !(q.1 + 1 == i && q.2.category == 2))) i v
theorem lx_put {g : xG} {ls : Array Slot} {n i : Nat} {L : List (Nat × Value)} {v : Value} (h : lv_has ls n ((i, xup g v) :: (L.map fun q => (q.1, xup g q.2)).filter (fun q => !(q.1 == i) && !(q.1 + 1 == i && q.2.category == 2)))) : lv_has ls n ((xput L i v).map fun q => (q.1, xup g q.2)) := by
  refine lv_mono h fun q hq => ?_
  obtain ⟨q0, h0, rfl⟩ := List.mem_map.mp hq
  rcases xins_mem h0 with h1 | h1
  · rw [h1]
    exact List.mem_cons_self
  · obtain ⟨a, b⟩ := List.mem_filter.mp h1
    exact List.mem_cons_of_mem _ (List.mem_filter.mpr ⟨List.mem_map.mpr ⟨q0, a, rfl⟩, by simpa only [xup_cat] using b⟩)
theorem lx_put2 {g : xG} {ls : Array Slot} {n i : Nat} {L : List (Nat × Value)} {v : Value} (h : lv_has ls n ((i, xup g v) :: (L.map fun q => (q.1, xup g q.2)).filter (fun q => !(q.1 == i) && (!(q.1 == i + 1) && !(q.1 + 1 == i && q.2.category == 2))))) : lv_has ls n ((xput2 L i v).map fun q => (q.1, xup g q.2)) := by
  refine lv_mono h fun q hq => ?_
  obtain ⟨q0, h0, rfl⟩ := List.mem_map.mp hq
  rcases xins_mem h0 with h1 | h1
  · rw [h1]
    exact List.mem_cons_self
  · obtain ⟨a, b⟩ := List.mem_filter.mp h1
    exact List.mem_cons_of_mem _ (List.mem_filter.mpr ⟨List.mem_map.mpr ⟨q0, a, rfl⟩, by simpa only [xup_cat] using b⟩)
section XR
variable {M : xD} {pc : Nat} {L : List (Nat × Value)} {st : List Value} {μ : xM} {Q : Option Value → xM → Prop}

theorem xe_iadd {x y : Int32} (hd : decode M.2.1 pc = .ok (.iadd, 1))  (h : xE M (pc + 1) L (.int (x + y) :: st) μ Q) : xE M pc L (.int y :: .int x :: st) μ Q :=
  h.step rfl fun p l e R s m args below meth c g Qf H locs cells slots ls C hR hS hl kk => lv_iadd C.1.1 C.1.2.1 hd (kk _ _ _ hR hS hl)
theorem xe_isub {x y : Int32} (hd : decode M.2.1 pc = .ok (.isub, 1))  (h : xE M (pc + 1) L (.int (x - y) :: st) μ Q) : xE M pc L (.int y :: .int x :: st) μ Q :=
  h.step rfl fun p l e R s m args below meth c g Qf H locs cells slots ls C hR hS hl kk => lv_isub C.1.1 C.1.2.1 hd (kk _ _ _ hR hS hl)
theorem xe_imul {x y : Int32} (hd : decode M.2.1 pc = .ok (.imul, 1))  (h : xE M (pc + 1) L (.int (x * y) :: st) μ Q) : xE M pc L (.int y :: .int x :: st) μ Q :=
  h.step rfl fun p l e R s m args below meth c g Qf H locs cells slots ls C hR hS hl kk => lv_imul C.1.1 C.1.2.1 hd (kk _ _ _ hR hS hl)
theorem xe_iand {x y : Int32} (hd : decode M.2.1 pc = .ok (.iand, 1))  (h : xE M (pc + 1) L (.int (x &&& y) :: st) μ Q) : xE M pc L (.int y :: .int x :: st) μ Q :=
  h.step rfl fun p l e R s m args below meth c g Qf H locs cells slots ls C hR hS hl kk => lv_iand C.1.1 C.1.2.1 hd (kk _ _ _ hR hS hl)
theorem xe_ior {x y : Int32} (hd : decode M.2.1 pc = .ok (.ior, 1))  (h : xE M (pc + 1) L (.int (x ||| y) :: st) μ Q) : xE M pc L (.int y :: .int x :: st) μ Q :=
  h.step rfl fun p l e R s m args below meth c g Qf H locs cells slots ls C hR hS hl kk => lv_ior C.1.1 C.1.2.1 hd (kk _ _ _ hR hS hl)
theorem xe_ixor {x y : Int32} (hd : decode M.2.1 pc = .ok (.ixor, 1))  (h : xE M (pc + 1) L (.int (x ^^^ y) :: st) μ Q) : xE M pc L (.int y :: .int x :: st) μ Q :=
  h.step rfl fun p l e R s m args below meth c g Qf H locs cells slots ls C hR hS hl kk => lv_ixor C.1.1 C.1.2.1 hd (kk _ _ _ hR hS hl)
theorem xe_ishl {x y : Int32} (hd : decode M.2.1 pc = .ok (.ishl, 1))  (h : xE M (pc + 1) L (.int (x <<< (y &&& 31)) :: st) μ Q) : xE M pc L (.int y :: .int x :: st) μ Q :=
  h.step rfl fun p l e R s m args below meth c g Qf H locs cells slots ls C hR hS hl kk => lv_ishl C.1.1 C.1.2.1 hd (kk _ _ _ hR hS hl)
theorem xe_ishr {x y : Int32} (hd : decode M.2.1 pc = .ok (.ishr, 1))  (h : xE M (pc + 1) L (.int (x >>> (y &&& 31)) :: st) μ Q) : xE M pc L (.int y :: .int x :: st) μ Q :=
  h.step rfl fun p l e R s m args below meth c g Qf H locs cells slots ls C hR hS hl kk => lv_ishr C.1.1 C.1.2.1 hd (kk _ _ _ hR hS hl)
theorem xe_idiv {x y : Int32} (hd : decode M.2.1 pc = .ok (.idiv, 1)) (hne : ¬ y = 0) (h : xE M (pc + 1) L (.int (x / y) :: st) μ Q) : xE M pc L (.int y :: .int x :: st) μ Q :=
  h.step rfl fun p l e R s m args below meth c g Qf H locs cells slots ls C hR hS hl kk => lv_idiv C.1.1 C.1.2.1 hd hne (kk _ _ _ hR hS hl)
theorem xe_irem {x y : Int32} (hd : decode M.2.1 pc = .ok (.irem, 1)) (hne : ¬ y = 0) (h : xE M (pc + 1) L (.int (x - x / y * y) :: st) μ Q) : xE M pc L (.int y :: .int x :: st) μ Q :=
  h.step rfl fun p l e R s m args below meth c g Qf H locs cells slots ls C hR hS hl kk => lv_irem C.1.1 C.1.2.1 hd hne (kk _ _ _ hR hS hl)
theorem xe_iushr {x y : Int32} (hd : decode M.2.1 pc = .ok (.iushr, 1))  (h : xE M (pc + 1) L (.int ((x.toUInt32 >>> (y.toUInt32 &&& Int32.toUInt32 31)).toInt32) :: st) μ Q) : xE M pc L (.int y :: .int x :: st) μ Q :=
  h.step rfl fun p l e R s m args below meth c g Qf H locs cells slots ls C hR hS hl kk => lv_iushr C.1.1 C.1.2.1 hd rfl (kk _ _ _ hR hS hl)
theorem xe_ladd {x y : Int64} (hd : decode M.2.1 pc = .ok (.ladd, 1))  (h : xE M (pc + 1) L (.long (x + y) :: st) μ Q) : xE M pc L (.long y :: .long x :: st) μ Q :=
  h.step rfl fun p l e R s m args below meth c g Qf H locs cells slots ls C hR hS hl kk => lv_ladd C.1.1 C.1.2.1 hd (kk _ _ _ hR hS hl)
theorem xe_lsub {x y : Int64} (hd : decode M.2.1 pc = .ok (.lsub, 1))  (h : xE M (pc + 1) L (.long (x - y) :: st) μ Q) : xE M pc L (.long y :: .long x :: st) μ Q :=
  h.step rfl fun p l e R s m args below meth c g Qf H locs cells slots ls C hR hS hl kk => lv_lsub C.1.1 C.1.2.1 hd (kk _ _ _ hR hS hl)
theorem xe_lmul {x y : Int64} (hd : decode M.2.1 pc = .ok (.lmul, 1))  (h : xE M (pc + 1) L (.long (x * y) :: st) μ Q) : xE M pc L (.long y :: .long x :: st) μ Q :=
  h.step rfl fun p l e R s m args below meth c g Qf H locs cells slots ls C hR hS hl kk => lv_lmul C.1.1 C.1.2.1 hd (kk _ _ _ hR hS hl)
theorem xe_land {x y : Int64} (hd : decode M.2.1 pc = .ok (.land, 1))  (h : xE M (pc + 1) L (.long (x &&& y) :: st) μ Q) : xE M pc L (.long y :: .long x :: st) μ Q :=
  h.step rfl fun p l e R s m args below meth c g Qf H locs cells slots ls C hR hS hl kk => lv_land C.1.1 C.1.2.1 hd (kk _ _ _ hR hS hl)
theorem xe_lor {x y : Int64} (hd : decode M.2.1 pc = .ok (.lor, 1))  (h : xE M (pc + 1) L (.long (x ||| y) :: st) μ Q) : xE M pc L (.long y :: .long x :: st) μ Q :=
  h.step rfl fun p l e R s m args below meth c g Qf H locs cells slots ls C hR hS hl kk => lv_lor C.1.1 C.1.2.1 hd (kk _ _ _ hR hS hl)
theorem xe_lxor {x y : Int64} (hd : decode M.2.1 pc = .ok (.lxor, 1))  (h : xE M (pc + 1) L (.long (x ^^^ y) :: st) μ Q) : xE M pc L (.long y :: .long x :: st) μ Q :=
  h.step rfl fun p l e R s m args below meth c g Qf H locs cells slots ls C hR hS hl kk => lv_lxor C.1.1 C.1.2.1 hd (kk _ _ _ hR hS hl)
theorem xe_lneg {x : Int64} (hd : decode M.2.1 pc = .ok (.lneg, 1))  (h : xE M (pc + 1) L (.long (-x) :: st) μ Q) : xE M pc L (.long x :: st) μ Q :=
  h.step rfl fun p l e R s m args below meth c g Qf H locs cells slots ls C hR hS hl kk => lv_lneg C.1.1 C.1.2.1 hd (kk _ _ _ hR hS hl)
theorem xe_lshl {x : Int64} {y : Int32} (hd : decode M.2.1 pc = .ok (.lshl, 1))  (h : xE M (pc + 1) L (.long (x <<< (y.toInt64 &&& 63)) :: st) μ Q) : xE M pc L (.int y :: .long x :: st) μ Q :=
  h.step rfl fun p l e R s m args below meth c g Qf H locs cells slots ls C hR hS hl kk => lv_lshl C.1.1 C.1.2.1 hd rfl (kk _ _ _ hR hS hl)
theorem xe_lushr {x : Int64} {y : Int32} (hd : decode M.2.1 pc = .ok (.lushr, 1))  (h : xE M (pc + 1) L (.long ((x.toUInt64 >>> (y.toInt64.toUInt64 &&& Int64.toUInt64 63)).toInt64) :: st) μ Q) : xE M pc L (.int y :: .long x :: st) μ Q :=
  h.step rfl fun p l e R s m args below meth c g Qf H locs cells slots ls C hR hS hl kk => lv_lushr C.1.1 C.1.2.1 hd rfl (kk _ _ _ hR hS hl)
theorem xe_lcmp {x y : Int64} (hd : decode M.2.1 pc = .ok (.lcmp, 1))  (h : xE M (pc + 1) L (.int (lg_cmp x y) :: st) μ Q) : xE M pc L (.long y :: .long x :: st) μ Q :=
  h.step rfl fun p l e R s m args below meth c g Qf H locs cells slots ls C hR hS hl kk => W.lcmp C.1.1 C.1.2.1 hd (kk _ _ _ hR hS hl)
theorem xe_i2l {x : Int32} (hd : decode M.2.1 pc = .ok (.i2l, 1))  (h : xE M (pc + 1) L (.long x.toInt64 :: st) μ Q) : xE M pc L (.int x :: st) μ Q :=
  h.step rfl fun p l e R s m args below meth c g Qf H locs cells slots ls C hR hS hl kk => lv_i2l C.1.1 C.1.2.1 hd rfl (kk _ _ _ hR hS hl)
theorem xe_l2i {x : Int64} (hd : decode M.2.1 pc = .ok (.l2i, 1))  (h : xE M (pc + 1) L (.int x.toInt32 :: st) μ Q) : xE M pc L (.long x :: st) μ Q :=
  h.step rfl fun p l e R s m args below meth c g Qf H locs cells slots ls C hR hS hl kk => lv_l2i C.1.1 C.1.2.1 hd rfl (kk _ _ _ hR hS hl)
theorem xe_iconst {n : Int} {v : Int32} (hd : decode M.2.1 pc = .ok (.iconst n, 1)) (hv : Int32.ofInt n = v) (h : xE M (pc + 1) L (.int v :: st) μ Q) : xE M pc L (st) μ Q :=
  h.step rfl fun p l e R s m args below meth c g Qf H locs cells slots ls C hR hS hl kk => lv_iconst C.1.1 C.1.2.1 hd hv (kk _ _ _ hR hS hl)
theorem xe_bipush {n : Int} {v : Int32} (hd : decode M.2.1 pc = .ok (.bipush n, 2)) (hv : (Int8.ofInt n).toInt32 = v) (h : xE M (pc + 2) L (.int v :: st) μ Q) : xE M pc L (st) μ Q :=
  h.step rfl fun p l e R s m args below meth c g Qf H locs cells slots ls C hR hS hl kk => lv_bipush C.1.1 C.1.2.1 hd hv (kk _ _ _ hR hS hl)
theorem xe_sipush {n : Int} {v : Int32} (hd : decode M.2.1 pc = .ok (.sipush n, 3)) (hv : (Int16.ofInt n).toInt32 = v) (h : xE M (pc + 3) L (.int v :: st) μ Q) : xE M pc L (st) μ Q :=
  h.step rfl fun p l e R s m args below meth c g Qf H locs cells slots ls C hR hS hl kk => lv_sipush C.1.1 C.1.2.1 hd hv (kk _ _ _ hR hS hl)
theorem xe_lconst {n : Fin 2} {v : Int64} (hd : decode M.2.1 pc = .ok (.lconst n, 1)) (hv : Int64.ofNat (n : Nat) = v) (h : xE M (pc + 1) L (.long v :: st) μ Q) : xE M pc L (st) μ Q :=
  h.step rfl fun p l e R s m args below meth c g Qf H locs cells slots ls C hR hS hl kk => lv_lconst C.1.1 C.1.2.1 hd hv (kk _ _ _ hR hS hl)
theorem xe_null  (hd : decode M.2.1 pc = .ok (.aconst_null, 1))  (h : xE M (pc + 1) L (.null :: st) μ Q) : xE M pc L (st) μ Q :=
  h.step rfl fun p l e R s m args below meth c g Qf H locs cells slots ls C hR hS hl kk => lv_null C.1.1 C.1.2.1 hd (kk _ _ _ hR hS hl)
theorem xe_dup {v : Value} (hd : decode M.2.1 pc = .ok (.dup, 1)) (hv : v.category = 1) (h : xE M (pc + 1) L (v :: v :: st) μ Q) : xE M pc L (v :: st) μ Q :=
  h.step rfl fun p l e R s m args below meth c g Qf H locs cells slots ls C hR hS hl kk => lv_dup C.1.1 C.1.2.1 hd (by rw [xup_cat]; exact hv) (kk _ _ _ hR hS hl)
theorem xe_pop {v : Value} (hd : decode M.2.1 pc = .ok (.pop, 1)) (hv : v.category = 1) (h : xE M (pc + 1) L (st) μ Q) : xE M pc L (v :: st) μ Q :=
  h.step rfl fun p l e R s m args below meth c g Qf H locs cells slots ls C hR hS hl kk => lv_pop C.1.1 C.1.2.1 hd (by rw [xup_cat]; exact hv) (kk _ _ _ hR hS hl)
theorem xe_dup2 {v v2 : Value} (hd : decode M.2.1 pc = .ok (.dup2, 1)) (hv : v.category = 1) (hv2 : v2.category = 1) (h : xE M (pc + 1) L (v :: v2 :: v :: v2 :: st) μ Q) : xE M pc L (v :: v2 :: st) μ Q :=
  h.step rfl fun p l e R s m args below meth c g Qf H locs cells slots ls C hR hS hl kk => lv_dup2_11 C.1.1 C.1.2.1 hd (by rw [xup_cat]; exact hv) (by rw [xup_cat]; exact hv2) (kk _ _ _ hR hS hl)
theorem xe_iload_n {k4 : Fin 4} {i : Nat} {x : Int32} (k : Nat) (hd : decode M.2.1 pc = .ok (.iload_n k4, 1)) (hi : (k4 : Nat) = i) (hL : L[k]? = some (i, .int x)) (h : xE M (pc + 1) L (.int x :: st) μ Q) : xE M pc L st μ Q :=
  h.step rfl fun p l e R s m args below meth c g Qf H locs cells slots ls C hR hS hl kk => lv_iload_n C.1.1 C.1.2.1 hd hi (lx_at hl k hL) (kk _ _ _ hR hS hl)
theorem xe_iload {i : Nat} {x : Int32} (k : Nat) (hd : decode M.2.1 pc = .ok (.iload i, 2)) (hL : L[k]? = some (i, .int x)) (h : xE M (pc + 2) L (.int x :: st) μ Q) : xE M pc L st μ Q :=
  h.step rfl fun p l e R s m args below meth c g Qf H locs cells slots ls C hR hS hl kk => lv_iload C.1.1 C.1.2.1 hd (lx_at hl k hL) (kk _ _ _ hR hS hl)
theorem xe_istore_n {k4 : Fin 4} {i : Nat} {x : Int32} {L2 : List (Nat × Value)} (hd : decode M.2.1 pc = .ok (.istore_n k4, 1)) (hi : (k4 : Nat) = i) (hn : i < M.2.2.1) (hL : xput L i (.int x) = L2) (h : xE M (pc + 1) L2 st μ Q) : xE M pc L (.int x :: st) μ Q := by
  subst hL
  exact h.step rfl fun p l e R s m args below meth c g Qf H locs cells slots ls C hR hS hl kk => lv_istore_n C.1.1 C.1.2.1 hd hi hl hn rfl (fun ls1 hl1 => kk _ _ _ hR hS (lx_put (v := .int x) hl1))
theorem xe_istore {i : Nat} {x : Int32} {L2 : List (Nat × Value)} (hd : decode M.2.1 pc = .ok (.istore i, 2)) (hn : i < M.2.2.1) (hL : xput L i (.int x) = L2) (h : xE M (pc + 2) L2 st μ Q) : xE M pc L (.int x :: st) μ Q := by
  subst hL
  exact h.step rfl fun p l e R s m args below meth c g Qf H locs cells slots ls C hR hS hl kk => lv_istore C.1.1 C.1.2.1 hd hl hn rfl (fun ls1 hl1 => kk _ _ _ hR hS (lx_put (v := .int x) hl1))
theorem xe_lload_n {k4 : Fin 4} {i : Nat} {x : Int64} (k : Nat) (hd : decode M.2.1 pc = .ok (.lload_n k4, 1)) (hi : (k4 : Nat) = i) (hL : L[k]? = some (i, .long x)) (h : xE M (pc + 1) L (.long x :: st) μ Q) : xE M pc L st μ Q :=
  h.step rfl fun p l e R s m args below meth c g Qf H locs cells slots ls C hR hS hl kk => lv_lload_n C.1.1 C.1.2.1 hd hi (lx_at hl k hL) (kk _ _ _ hR hS hl)
theorem xe_lload {i : Nat} {x : Int64} (k : Nat) (hd : decode M.2.1 pc = .ok (.lload i, 2)) (hL : L[k]? = some (i, .long x)) (h : xE M (pc + 2) L (.long x :: st) μ Q) : xE M pc L st μ Q :=
  h.step rfl fun p l e R s m args below meth c g Qf H locs cells slots ls C hR hS hl kk => lv_lload C.1.1 C.1.2.1 hd (lx_at hl k hL) (kk _ _ _ hR hS hl)
theorem xe_lstore_n {k4 : Fin 4} {i : Nat} {x : Int64} {L2 : List (Nat × Value)} (hd : decode M.2.1 pc = .ok (.lstore_n k4, 1)) (hi : (k4 : Nat) = i) (hn : i + 1 < M.2.2.1) (hL : xput2 L i (.long x) = L2) (h : xE M (pc + 1) L2 st μ Q) : xE M pc L (.long x :: st) μ Q := by
  subst hL
  exact h.step rfl fun p l e R s m args below meth c g Qf H locs cells slots ls C hR hS hl kk => lv_lstore_n C.1.1 C.1.2.1 hd hi hl hn rfl (fun ls1 hl1 => kk _ _ _ hR hS (lx_put2 (v := .long x) hl1))
theorem xe_lstore {i : Nat} {x : Int64} {L2 : List (Nat × Value)} (hd : decode M.2.1 pc = .ok (.lstore i, 2)) (hn : i + 1 < M.2.2.1) (hL : xput2 L i (.long x) = L2) (h : xE M (pc + 2) L2 st μ Q) : xE M pc L (.long x :: st) μ Q := by
  subst hL
  exact h.step rfl fun p l e R s m args below meth c g Qf H locs cells slots ls C hR hS hl kk => lv_lstore C.1.1 C.1.2.1 hd hl hn rfl (fun ls1 hl1 => kk _ _ _ hR hS (lx_put2 (v := .long x) hl1))
theorem xe_aload_n {k4 : Fin 4} {i : Nat} {x : Nat} (k : Nat) (hd : decode M.2.1 pc = .ok (.aload_n k4, 1)) (hi : (k4 : Nat) = i) (hL : L[k]? = some (i, .ref x)) (h : xE M (pc + 1) L (.ref x :: st) μ Q) : xE M pc L st μ Q :=
  h.step rfl fun p l e R s m args below meth c g Qf H locs cells slots ls C hR hS hl kk => lv_aload_n C.1.1 C.1.2.1 hd hi (lx_at hl k hL) (kk _ _ _ hR hS hl)
theorem xe_aload {i : Nat} {x : Nat} (k : Nat) (hd : decode M.2.1 pc = .ok (.aload i, 2)) (hL : L[k]? = some (i, .ref x)) (h : xE M (pc + 2) L (.ref x :: st) μ Q) : xE M pc L st μ Q :=
  h.step rfl fun p l e R s m args below meth c g Qf H locs cells slots ls C hR hS hl kk => lv_aload C.1.1 C.1.2.1 hd (lx_at hl k hL) (kk _ _ _ hR hS hl)
theorem xe_astore_n {k4 : Fin 4} {i : Nat} {x : Nat} {L2 : List (Nat × Value)} (hd : decode M.2.1 pc = .ok (.astore_n k4, 1)) (hi : (k4 : Nat) = i) (hn : i < M.2.2.1) (hL : xput L i (.ref x) = L2) (h : xE M (pc + 1) L2 st μ Q) : xE M pc L (.ref x :: st) μ Q := by
  subst hL
  exact h.step rfl fun p l e R s m args below meth c g Qf H locs cells slots ls C hR hS hl kk => lv_astore_n C.1.1 C.1.2.1 hd hi hl hn rfl (fun ls1 hl1 => kk _ _ _ hR hS (lx_put (v := .ref x) hl1))
theorem xe_astore {i : Nat} {x : Nat} {L2 : List (Nat × Value)} (hd : decode M.2.1 pc = .ok (.astore i, 2)) (hn : i < M.2.2.1) (hL : xput L i (.ref x) = L2) (h : xE M (pc + 2) L2 st μ Q) : xE M pc L (.ref x :: st) μ Q := by
  subst hL
  exact h.step rfl fun p l e R s m args below meth c g Qf H locs cells slots ls C hR hS hl kk => lv_astore C.1.1 C.1.2.1 hd hl hn rfl (fun ls1 hl1 => kk _ _ _ hR hS (lx_put (v := .ref x) hl1))
theorem xe_aloadN_n {k4 : Fin 4} {i : Nat} (k : Nat) (hd : decode M.2.1 pc = .ok (.aload_n k4, 1)) (hi : (k4 : Nat) = i) (hL : L[k]? = some (i, .null)) (h : xE M (pc + 1) L (.null :: st) μ Q) : xE M pc L st μ Q :=
  h.step rfl fun p l e R s m args below meth c g Qf H locs cells slots ls C hR hS hl kk => lv_aload_nN C.1.1 C.1.2.1 hd hi (lx_at hl k hL) (kk _ _ _ hR hS hl)
theorem xe_aloadN {i : Nat} (k : Nat) (hd : decode M.2.1 pc = .ok (.aload i, 2)) (hL : L[k]? = some (i, .null)) (h : xE M (pc + 2) L (.null :: st) μ Q) : xE M pc L st μ Q :=
  h.step rfl fun p l e R s m args below meth c g Qf H locs cells slots ls C hR hS hl kk => lv_aloadN C.1.1 C.1.2.1 hd (lx_at hl k hL) (kk _ _ _ hR hS hl)
theorem xe_astoreN_n {k4 : Fin 4} {i : Nat} {L2 : List (Nat × Value)} (hd : decode M.2.1 pc = .ok (.astore_n k4, 1)) (hi : (k4 : Nat) = i) (hn : i < M.2.2.1) (hL : xput L i .null = L2) (h : xE M (pc + 1) L2 st μ Q) : xE M pc L (.null :: st) μ Q := by
  subst hL
  exact h.step rfl fun p l e R s m args below meth c g Qf H locs cells slots ls C hR hS hl kk => lv_astore_nN C.1.1 C.1.2.1 hd hi hl hn rfl (fun ls1 hl1 => kk _ _ _ hR hS (lx_put (v := .null) hl1))
theorem xe_astoreN {i : Nat} {L2 : List (Nat × Value)} (hd : decode M.2.1 pc = .ok (.astore i, 2)) (hn : i < M.2.2.1) (hL : xput L i .null = L2) (h : xE M (pc + 2) L2 st μ Q) : xE M pc L (.null :: st) μ Q := by
  subst hL
  exact h.step rfl fun p l e R s m args below meth c g Qf H locs cells slots ls C hR hS hl kk => lv_astoreN C.1.1 C.1.2.1 hd hl hn rfl (fun ls1 hl1 => kk _ _ _ hR hS (lx_put (v := .null) hl1))
theorem xe_iinc {i : Nat} {n : Int} {x : Int32} {v : Int32} {L2 : List (Nat × Value)} (k : Nat) (hd : decode M.2.1 pc = .ok (.iinc i n, 3)) (hk : L[k]? = some (i, .int x)) (hv : x + Int32.ofInt n = v) (hn : i < M.2.2.1) (hL : xput L i (.int v) = L2) (h : xE M (pc + 3) L2 st μ Q) : xE M pc L st μ Q := by
  subst hL
  exact h.step rfl fun p l e R s m args below meth c g Qf H locs cells slots ls C hR hS hl kk => lv_iinc C.1.1 C.1.2.1 hd hl (k := k) (x := x) (by rw [List.getElem?_map, hk]; rfl) hv hn rfl (fun ls1 hl1 => kk _ _ _ hR hS (lx_put (v := .int v) hl1))
theorem xe_goto {off : Int} (tgt : Nat) (hd : decode M.2.1 pc = .ok (.goto off, 3)) (ht : (pc : Int) + off = (tgt : Int)) (h : xE M tgt L st μ Q) : xE M pc L st μ Q :=
  h.step rfl fun p l e R s m args below meth c g Qf H locs cells slots ls C hR hS hl kk => lv_goto C.1.1 C.1.2.1 hd ht (kk _ _ _ hR hS hl)
theorem xe_icmp_eq {x y : Int32} {off : Int} (tgt : Nat) (hd : decode M.2.1 pc = .ok (.if_icmp .eq off, 3)) (ht : (pc : Int) + off = (tgt : Int)) (kt : x = y → xE M tgt L st μ Q) (kf : ¬ x = y → xE M (pc + 3) L st μ Q) : xE M pc L (.int y :: .int x :: st) μ Q := by
  by_cases hP : x = y
  · exact (kt hP).step rfl fun p l e R s m args below meth c g Qf H locs cells slots ls C hR hS hl kk => lv_icmp_eq C.1.1 C.1.2.1 hd ht (fun q => kk _ _ _ hR hS hl) (fun q => absurd hP q)
  · exact (kf hP).step rfl fun p l e R s m args below meth c g Qf H locs cells slots ls C hR hS hl kk => lv_icmp_eq C.1.1 C.1.2.1 hd ht (fun q => absurd q hP) (fun q => kk _ _ _ hR hS hl)
theorem xe_if_eq {x : Int32} {off : Int} (tgt : Nat) (hd : decode M.2.1 pc = .ok (.ifCond .eq off, 3)) (ht : (pc : Int) + off = (tgt : Int)) (kt : x = 0 → xE M tgt L st μ Q) (kf : ¬ x = 0 → xE M (pc + 3) L st μ Q) : xE M pc L (.int x :: st) μ Q := by
  by_cases hP : x = 0
  · exact (kt hP).step rfl fun p l e R s m args below meth c g Qf H locs cells slots ls C hR hS hl kk => lv_if_eq C.1.1 C.1.2.1 hd ht (fun q => kk _ _ _ hR hS hl) (fun q => absurd hP q)
  · exact (kf hP).step rfl fun p l e R s m args below meth c g Qf H locs cells slots ls C hR hS hl kk => lv_if_eq C.1.1 C.1.2.1 hd ht (fun q => absurd q hP) (fun q => kk _ _ _ hR hS hl)
theorem xe_icmp_ne {x y : Int32} {off : Int} (tgt : Nat) (hd : decode M.2.1 pc = .ok (.if_icmp .ne off, 3)) (ht : (pc : Int) + off = (tgt : Int)) (kt : ¬ x = y → xE M tgt L st μ Q) (kf : x = y → xE M (pc + 3) L st μ Q) : xE M pc L (.int y :: .int x :: st) μ Q := by
  by_cases hP : x = y
  · exact (kf hP).step rfl fun p l e R s m args below meth c g Qf H locs cells slots ls C hR hS hl kk => lv_icmp_ne C.1.1 C.1.2.1 hd ht (fun q => absurd hP q) (fun q => kk _ _ _ hR hS hl)
  · exact (kt hP).step rfl fun p l e R s m args below meth c g Qf H locs cells slots ls C hR hS hl kk => lv_icmp_ne C.1.1 C.1.2.1 hd ht (fun q => kk _ _ _ hR hS hl) (fun q => absurd q hP)
theorem xe_if_ne {x : Int32} {off : Int} (tgt : Nat) (hd : decode M.2.1 pc = .ok (.ifCond .ne off, 3)) (ht : (pc : Int) + off = (tgt : Int)) (kt : ¬ x = 0 → xE M tgt L st μ Q) (kf : x = 0 → xE M (pc + 3) L st μ Q) : xE M pc L (.int x :: st) μ Q := by
  by_cases hP : x = 0
  · exact (kf hP).step rfl fun p l e R s m args below meth c g Qf H locs cells slots ls C hR hS hl kk => lv_if_ne C.1.1 C.1.2.1 hd ht (fun q => absurd hP q) (fun q => kk _ _ _ hR hS hl)
  · exact (kt hP).step rfl fun p l e R s m args below meth c g Qf H locs cells slots ls C hR hS hl kk => lv_if_ne C.1.1 C.1.2.1 hd ht (fun q => kk _ _ _ hR hS hl) (fun q => absurd q hP)
theorem xe_icmp_lt {x y : Int32} {off : Int} (tgt : Nat) (hd : decode M.2.1 pc = .ok (.if_icmp .lt off, 3)) (ht : (pc : Int) + off = (tgt : Int)) (kt : x < y → xE M tgt L st μ Q) (kf : ¬ x < y → xE M (pc + 3) L st μ Q) : xE M pc L (.int y :: .int x :: st) μ Q := by
  by_cases hP : x < y
  · exact (kt hP).step rfl fun p l e R s m args below meth c g Qf H locs cells slots ls C hR hS hl kk => lv_icmp_lt C.1.1 C.1.2.1 hd ht (fun q => kk _ _ _ hR hS hl) (fun q => absurd hP q)
  · exact (kf hP).step rfl fun p l e R s m args below meth c g Qf H locs cells slots ls C hR hS hl kk => lv_icmp_lt C.1.1 C.1.2.1 hd ht (fun q => absurd q hP) (fun q => kk _ _ _ hR hS hl)
theorem xe_if_lt {x : Int32} {off : Int} (tgt : Nat) (hd : decode M.2.1 pc = .ok (.ifCond .lt off, 3)) (ht : (pc : Int) + off = (tgt : Int)) (kt : x < 0 → xE M tgt L st μ Q) (kf : ¬ x < 0 → xE M (pc + 3) L st μ Q) : xE M pc L (.int x :: st) μ Q := by
  by_cases hP : x < 0
  · exact (kt hP).step rfl fun p l e R s m args below meth c g Qf H locs cells slots ls C hR hS hl kk => lv_if_lt C.1.1 C.1.2.1 hd ht (fun q => kk _ _ _ hR hS hl) (fun q => absurd hP q)
  · exact (kf hP).step rfl fun p l e R s m args below meth c g Qf H locs cells slots ls C hR hS hl kk => lv_if_lt C.1.1 C.1.2.1 hd ht (fun q => absurd q hP) (fun q => kk _ _ _ hR hS hl)
theorem xe_icmp_ge {x y : Int32} {off : Int} (tgt : Nat) (hd : decode M.2.1 pc = .ok (.if_icmp .ge off, 3)) (ht : (pc : Int) + off = (tgt : Int)) (kt : y ≤ x → xE M tgt L st μ Q) (kf : ¬ y ≤ x → xE M (pc + 3) L st μ Q) : xE M pc L (.int y :: .int x :: st) μ Q := by
  by_cases hP : y ≤ x
  · exact (kt hP).step rfl fun p l e R s m args below meth c g Qf H locs cells slots ls C hR hS hl kk => lv_icmp_ge C.1.1 C.1.2.1 hd ht (fun q => kk _ _ _ hR hS hl) (fun q => absurd hP q)
  · exact (kf hP).step rfl fun p l e R s m args below meth c g Qf H locs cells slots ls C hR hS hl kk => lv_icmp_ge C.1.1 C.1.2.1 hd ht (fun q => absurd q hP) (fun q => kk _ _ _ hR hS hl)
theorem xe_if_ge {x : Int32} {off : Int} (tgt : Nat) (hd : decode M.2.1 pc = .ok (.ifCond .ge off, 3)) (ht : (pc : Int) + off = (tgt : Int)) (kt : 0 ≤ x → xE M tgt L st μ Q) (kf : ¬ 0 ≤ x → xE M (pc + 3) L st μ Q) : xE M pc L (.int x :: st) μ Q := by
  by_cases hP : 0 ≤ x
  · exact (kt hP).step rfl fun p l e R s m args below meth c g Qf H locs cells slots ls C hR hS hl kk => lv_if_ge C.1.1 C.1.2.1 hd ht (fun q => kk _ _ _ hR hS hl) (fun q => absurd hP q)
  · exact (kf hP).step rfl fun p l e R s m args below meth c g Qf H locs cells slots ls C hR hS hl kk => lv_if_ge C.1.1 C.1.2.1 hd ht (fun q => absurd q hP) (fun q => kk _ _ _ hR hS hl)
theorem xe_icmp_gt {x y : Int32} {off : Int} (tgt : Nat) (hd : decode M.2.1 pc = .ok (.if_icmp .gt off, 3)) (ht : (pc : Int) + off = (tgt : Int)) (kt : y < x → xE M tgt L st μ Q) (kf : ¬ y < x → xE M (pc + 3) L st μ Q) : xE M pc L (.int y :: .int x :: st) μ Q := by
  by_cases hP : y < x
  · exact (kt hP).step rfl fun p l e R s m args below meth c g Qf H locs cells slots ls C hR hS hl kk => lv_icmp_gt C.1.1 C.1.2.1 hd ht (fun q => kk _ _ _ hR hS hl) (fun q => absurd hP q)
  · exact (kf hP).step rfl fun p l e R s m args below meth c g Qf H locs cells slots ls C hR hS hl kk => lv_icmp_gt C.1.1 C.1.2.1 hd ht (fun q => absurd q hP) (fun q => kk _ _ _ hR hS hl)
theorem xe_if_gt {x : Int32} {off : Int} (tgt : Nat) (hd : decode M.2.1 pc = .ok (.ifCond .gt off, 3)) (ht : (pc : Int) + off = (tgt : Int)) (kt : 0 < x → xE M tgt L st μ Q) (kf : ¬ 0 < x → xE M (pc + 3) L st μ Q) : xE M pc L (.int x :: st) μ Q := by
  by_cases hP : 0 < x
  · exact (kt hP).step rfl fun p l e R s m args below meth c g Qf H locs cells slots ls C hR hS hl kk => lv_if_gt C.1.1 C.1.2.1 hd ht (fun q => kk _ _ _ hR hS hl) (fun q => absurd hP q)
  · exact (kf hP).step rfl fun p l e R s m args below meth c g Qf H locs cells slots ls C hR hS hl kk => lv_if_gt C.1.1 C.1.2.1 hd ht (fun q => absurd q hP) (fun q => kk _ _ _ hR hS hl)
theorem xe_icmp_le {x y : Int32} {off : Int} (tgt : Nat) (hd : decode M.2.1 pc = .ok (.if_icmp .le off, 3)) (ht : (pc : Int) + off = (tgt : Int)) (kt : x ≤ y → xE M tgt L st μ Q) (kf : ¬ x ≤ y → xE M (pc + 3) L st μ Q) : xE M pc L (.int y :: .int x :: st) μ Q := by
  by_cases hP : x ≤ y
  · exact (kt hP).step rfl fun p l e R s m args below meth c g Qf H locs cells slots ls C hR hS hl kk => lv_icmp_le C.1.1 C.1.2.1 hd ht (fun q => kk _ _ _ hR hS hl) (fun q => absurd hP q)
  · exact (kf hP).step rfl fun p l e R s m args below meth c g Qf H locs cells slots ls C hR hS hl kk => lv_icmp_le C.1.1 C.1.2.1 hd ht (fun q => absurd q hP) (fun q => kk _ _ _ hR hS hl)
theorem xe_if_le {x : Int32} {off : Int} (tgt : Nat) (hd : decode M.2.1 pc = .ok (.ifCond .le off, 3)) (ht : (pc : Int) + off = (tgt : Int)) (kt : x ≤ 0 → xE M tgt L st μ Q) (kf : ¬ x ≤ 0 → xE M (pc + 3) L st μ Q) : xE M pc L (.int x :: st) μ Q := by
  by_cases hP : x ≤ 0
  · exact (kt hP).step rfl fun p l e R s m args below meth c g Qf H locs cells slots ls C hR hS hl kk => lv_if_le C.1.1 C.1.2.1 hd ht (fun q => kk _ _ _ hR hS hl) (fun q => absurd hP q)
  · exact (kf hP).step rfl fun p l e R s m args below meth c g Qf H locs cells slots ls C hR hS hl kk => lv_if_le C.1.1 C.1.2.1 hd ht (fun q => absurd q hP) (fun q => kk _ _ _ hR hS hl)
theorem xe_ifnull_r {x : Nat} {off : Int} (hd : decode M.2.1 pc = .ok (.ifnull off, 3)) (h : xE M (pc + 3) L st μ Q) : xE M pc L (.ref x :: st) μ Q :=
  h.step rfl fun p l e R s m args below meth c g Qf H locs cells slots ls C hR hS hl kk => lv_ifnull C.1.1 C.1.2.1 hd (kk _ _ _ hR hS hl)
theorem xe_ifnull_n {off : Int} (tgt : Nat) (hd : decode M.2.1 pc = .ok (.ifnull off, 3)) (ht : (pc : Int) + off = (tgt : Int)) (h : xE M tgt L st μ Q) : xE M pc L (.null :: st) μ Q :=
  h.step rfl fun p l e R s m args below meth c g Qf H locs cells slots ls C hR hS hl kk => lv_ifnullN C.1.1 C.1.2.1 hd ht (kk _ _ _ hR hS hl)
theorem xe_ifnonnull_r {x : Nat} {off : Int} (tgt : Nat) (hd : decode M.2.1 pc = .ok (.ifnonnull off, 3)) (ht : (pc : Int) + off = (tgt : Int)) (h : xE M tgt L st μ Q) : xE M pc L (.ref x :: st) μ Q :=
  h.step rfl fun p l e R s m args below meth c g Qf H locs cells slots ls C hR hS hl kk => lv_ifnonnull C.1.1 C.1.2.1 hd ht (kk _ _ _ hR hS hl)
theorem xe_ifnonnull_n {off : Int} (hd : decode M.2.1 pc = .ok (.ifnonnull off, 3)) (h : xE M (pc + 3) L st μ Q) : xE M pc L (.null :: st) μ Q :=
  h.step rfl fun p l e R s m args below meth c g Qf H locs cells slots ls C hR hS hl kk => lv_ifnonnullN C.1.1 C.1.2.1 hd (kk _ _ _ hR hS hl)
theorem xe_tableOut {dflt lo hi : Int} {offs : Array Int} {len : Nat} {x : Int32} (tgt : Nat) (hd : decode M.2.1 pc = .ok (.tableswitch dflt lo hi offs, len)) (hx : x.toInt < lo ∨ hi < x.toInt) (ht : (pc : Int) + dflt = (tgt : Int)) (h : xE M tgt L st μ Q) : xE M pc L (.int x :: st) μ Q :=
  h.step rfl fun p l e R s m args below meth c g Qf H locs cells slots ls C hR hS hl kk => lv_tableOut C.1.1 C.1.2.1 hd hx ht (kk _ _ _ hR hS hl)
theorem xe_tableIn {dflt lo hi : Int} {offs : Array Int} {len : Nat} {x : Int32} {off : Int} (tgt : Nat) (hd : decode M.2.1 pc = .ok (.tableswitch dflt lo hi offs, len)) (h1 : ¬ x.toInt < lo) (h2 : ¬ hi < x.toInt) (ho : offs[(x.toInt - lo).toNat]? = some off) (ht : (pc : Int) + off = (tgt : Int)) (h : xE M tgt L st μ Q) : xE M pc L (.int x :: st) μ Q :=
  h.step rfl fun p l e R s m args below meth c g Qf H locs cells slots ls C hR hS hl kk => lv_tableIn C.1.1 C.1.2.1 hd h1 h2 ho ht (kk _ _ _ hR hS hl)
theorem xe_ldc {index : Nat} {v : Int32} (hd : decode M.2.1 pc = .ok (.ldc index, 2)) (hc : Cond.constant M.1.cls index v ∈ xTB) (h : xE M (pc + 2) L (.int v :: st) μ Q) : xE M pc L st μ Q :=
  h.step rfl fun p l e R s m args below meth c g Qf H locs cells slots ls C hR hS hl kk => lv_ldc C.1.1 C.1.2.1 C.1.2.2.2.1 (C.1.2.2.2.2 _ hc) hd (kk _ _ _ hR hS hl)
theorem xe_ldcw {index : Nat} {v : Int32} (hd : decode M.2.1 pc = .ok (.ldc_w index, 3)) (hc : Cond.constant M.1.cls index v ∈ xTB) (h : xE M (pc + 3) L (.int v :: st) μ Q) : xE M pc L st μ Q :=
  h.step rfl fun p l e R s m args below meth c g Qf H locs cells slots ls C hR hS hl kk => lv_ldcw C.1.1 C.1.2.1 C.1.2.2.2.1 (C.1.2.2.2.2 _ hc) hd (kk _ _ _ hR hS hl)
theorem xe_ldc2 {index : Nat} {v : Int64} (hd : decode M.2.1 pc = .ok (.ldc2_w index, 3)) (hc : Cond.constantLong M.1.cls index v ∈ xTB) (h : xE M (pc + 3) L (.long v :: st) μ Q) : xE M pc L st μ Q :=
  h.step rfl fun p l e R s m args below meth c g Qf H locs cells slots ls C hR hS hl kk => lv_ldc2 C.1.1 C.1.2.1 C.1.2.2.2.1 (C.1.2.2.2.2 _ hc) hd (kk _ _ _ hR hS hl)
/-- a return -/
theorem xe_ret {r : Option Value} (hd : decode M.2.1 pc = .ok (xret M.2.2.2.1, 1)) (hok : xok M.2.2.2.1 r) (hq : Q r μ) : xE M pc L r.toList μ Q := by
  refine ⟨r, μ, hq, Nat.le_refl _, Nat.le_refl _, hok, fun p l e R s m args below meth c g n0 Qf C hr hn he H locs ls hR hS hl => ?_⟩
  have h := he H locs pc ls hR hS hd
  cases r with
  | none => exact h
  | some v => exact h
end XR
