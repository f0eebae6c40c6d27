/-! A flat memory: cells are numbered 1, 2, .. in the order in which they are made (0 is the script); a number, a long and a reference plane. -/
abbrev xM : Type := Nat × (Nat → Nat → Int32) × (Nat → Nat → Int64) × (Nat → Nat → Option Nat)
/-- a method: name, bytes, locals, answer, frames and words below it -/
abbrev xD : Type := MethodName × ByteArray × Nat × Option FieldType × Nat × Nat
/-- the script's cell, the first new cell, the script's length, the script, the classes' numbers and slots, the array classes' numbers -/
abbrev xG : Type := Nat × Nat × Nat × (Nat → Int32) × va_G × (Nat → ClassId)
def xSHl : List (Nat × Nat) := [(50, 0), (9, 8), (53, 8), (4, 5), (54, 10), (50, 6), (3, 8), (50, 3), (50, 3), (50, 6), (3, 8), (50, 3), (50, 3), (50, 6), (3, 8), (50, 3), (50, 3), (50, 6), (3, 8), (50, 3), (50, 3), (50, 6), (3, 8), (50, 3), (50, 3), (50, 6), (3, 8), (50, 3), (50, 3), (50, 6), (3, 8), (50, 3), (50, 3), (50, 6), (3, 8), (50, 3), (50, 3), (50, 6), (3, 8), (50, 3), (50, 3), (50, 6), (3, 8), (50, 3), (50, 3), (50, 6), (8, 5), (0, 4), (55, 6), (50, 64), (50, 64), (50, 64), (50, 64), (50, 64), (50, 64), (51, 500), (50, 10), (50, 6), (50, 500), (0, 4), (55, 6), (50, 64), (50, 64), (50, 64), (50, 64), (50, 64), (50, 64), (51, 500), (2, 3), (50, 500), (5, 4), (1, 4), (50, 5), (50, 5), (7, 13), (50, 6), (55, 6), (50, 64), (50, 64), (50, 64), (50, 64), (50, 64), (50, 64), (51, 10), (56, 30), (51, 64), (51, 64), (51, 64), (51, 64), (51, 64), (51, 64), (51, 64), (51, 64), (51, 64), (51, 64), (51, 64), (51, 64), (51, 64), (51, 64), (51, 64), (51, 64), (51, 64), (51, 64), (51, 64), (51, 64), (51, 64), (51, 64), (51, 64), (51, 64), (51, 64), (51, 64), (51, 64), (51, 64), (51, 64), (51, 64), (55, 30), (50, 64), (50, 64), (50, 64), (50, 64), (50, 64), (50, 64), (50, 64), (50, 64), (50, 64), (50, 64), (50, 64), (50, 64), (50, 64), (50, 64), (50, 64), (50, 64), (50, 64), (50, 64), (50, 64), (50, 64), (50, 64), (50, 64), (50, 64), (50, 64), (50, 64), (50, 64), (50, 64), (50, 64), (50, 64), (50, 64), (50, 7), (56, 2), (51, 500), (51, 500), (50, 6), (50, 6), (51, 10), (50, 16), (50, 16), (50, 4), (6, 3), (50, 120), (6, 3), (50, 120), (6, 3), (50, 120), (6, 3), (50, 120), (6, 3), (50, 120), (6, 3), (50, 120), (6, 3), (50, 120), (6, 3), (50, 120), (10, 31), (50, 8), (50, 8), (50, 960), (50, 10), (50, 10), (50, 10), (50, 30), (50, 30), (50, 6), (50, 3006), (50, 3006), (50, 6), (50, 3006), (50, 6), (50, 5010), (52, 10), (50, 3006), (50, 6), (50, 10), (50, 10), (50, 6), (50, 6), (50, 3)]
def xSH (a : Nat) : Nat × Nat := xSHl.getD a (50, 0)
def xtot : Nat → Nat
  | 0 => 0
  | n + 1 => xtot n + (xSH (n + 1)).2
abbrev xCl : List vw_C := [(RX0, TX0, 4), (RX1, TX1, 4), (RX2, TX2, 3), (RX3, TX3, 8), (RX4, TX4, 5), (RX5, TX5, 4), (RX6, TX6, 3), (RX7, TX7, 13), (RX8, TX8, 5), (RX9, TX9, 8), (RX10, TX10, 31)]
def xTy : Nat → Nat → FieldType := fun ci => match ci with
  | 0 => tyX0
  | 1 => tyX1
  | 2 => tyX2
  | 3 => tyX3
  | 4 => tyX4
  | 5 => tyX5
  | 6 => tyX6
  | 7 => tyX7
  | 8 => tyX8
  | 9 => tyX9
  | _ => tyX10
def xET : Nat → FieldType := fun k => match k with
  | 50 => .int
  | 51 => .long
  | 52 => .boolean
  | 53 => .object RX6
  | 54 => .object RX3
  | 55 => .array .int
  | _ => .array .long
abbrev xca (g : xG) : Nat → ClassId := g.2.2.2.2.2
abbrev xids (g : xG) : va_G := g.2.2.2.2.1
abbrev xtys (g : xG) : List (ClassId × FieldType) := [(xca g 50, xET 50), (xca g 51, xET 51), (xca g 52, xET 52), (xca g 53, xET 53), (xca g 54, xET 54), (xca g 55, xET 55), (xca g 56, xET 56)]
def xad (g : xG) : Nat → Nat
  | 0 => g.1
  | a + 1 => g.2.1 + a
def xup (g : xG) : Value → Value
  | .ref a => .ref (xad g a)
  | v => v
theorem xup_cat (g : xG) (v : Value) : (xup g v).category = v.category := by cases v <;> rfl
def xrf (g : xG) (r : Option Nat) : Option Nat := r.map (xad g)
def xfv (g : xG) (μ : xM) (a j : Nat) : FieldType → Value
  | .long => .long (μ.2.2.1 a j)
  | .object _ => va_rf (xrf g (μ.2.2.2 a j))
  | .array _ => va_rf (xrf g (μ.2.2.2 a j))
  | _ => .int (μ.2.1 a j)
def xfs (g : xG) (μ : xM) (ci n a : Nat) : List Value := (List.range n).map fun j => xfv g μ a j (xTy ci j)
def xcellK (g : xG) (μ : xM) (a k n : Nat) : va_E :=
  if k < 50 then .inr (k, xfs g μ k n a) else
  if k = 50 ∨ k = 52 then .inl (xca g k, n, .inl (μ.2.1 a)) else
  if k = 51 then .inl (xca g k, n, .inr (.inl (μ.2.2.1 a))) else
  .inl (xca g k, n, .inr (.inr (.inr (.inr fun j => xrf g (μ.2.2.2 a j)))))
def xcell (g : xG) (μ : xM) (a : Nat) : va_E := xcellK g μ a (xSH a).1 (xSH a).2
def xW (g : xG) (μ : xM) : va_W := (List.range μ.1).map fun i => (g.2.1 + i, xcell g μ (i + 1))
def xA (g : xG) : Nat → Prop := fun q => g.2.1 ≤ q
/-- the script in the memory: cell 0, its length first -/
def xScr (g : xG) (μ : xM) : Prop := g.2.2.1 ≤ 2560 ∧ Int32.ofNat g.2.2.1 = μ.2.1 0 0 ∧ ∀ i, g.2.2.2.1 i = μ.2.1 0 (i + 1)
/-- the heap holds the memory -/
def xR (g : xG) (μ : xM) (H : Heap) : Prop := H.size = g.2.1 + μ.1 ∧ va_P (xids g) xCl (xW g μ) H ∧ xScr g μ
/-- the words that the kit moves by laws of their own -/
def xNw : Cond → Bool
  | .methodLinkNest .. => true
  | .arrayOver _ => true
  | _ => false
def xNL : List Cond := tables_1.filter xNw
theorem xNL_at {w : Cond} (i : Nat) (h : tables_1[i]? = some w) (g : xNw w = true) : w ∈ xNL := List.mem_filter.mpr ⟨List.mem_of_getElem? h, g⟩
def xN (U : State) : Prop := ∀ w ∈ xNL, va_Nw w U
theorem xAOA_moved {t : FieldType} {u U : State} (hvm : u.vm.Alike U.vm) (h : (Cond.arrayOver (.array t)).before #[] u = true) : (Cond.arrayOver (.array t)).before #[] U = true := by
  unfold Cond.before Cond.holds at h ⊢
  simp only [Cond.value, beq_iff_eq] at h ⊢
  cases hc : u.vm.findClass (FieldType.array t).toString with
  | none => simp [hc] at h
  | some comp =>
    simp only [hc, Option.bind_some, Option.bind_eq_some_iff, Option.map_eq_some_iff] at h
    obtain ⟨c, hi, k, hk, hb⟩ := h
    obtain ⟨k', hk', he⟩ := hvm.2.2 _ _ hk
    have hi' : (U.vm.classes.findIdx? fun (x : Class) => match x.kind with | .array component _ => component == comp | _ => false) = some c := by
      have e := va_idx_bare U.vm comp
      have e2 := va_idx_bare u.vm comp
      have eb : U.vm.bare = u.vm.bare := by first | exact hvm.bare_eq | exact hvm.bare_eq.symm
      rw [eb] at e
      exact e.symm.trans (e2.trans hi)
    rw [hvm.findClass, hc, Option.bind_some]
    simp only [Option.bind_eq_some_iff, Option.map_eq_some_iff]
    exact ⟨c, hi', k', hk', by rw [he, hvm.findClass]; exact hb⟩
theorem xAO_moved {t : FieldType} {u U : State} (hvm : u.vm.Alike U.vm) (h : (Cond.arrayOver t).before #[] u = true) : (Cond.arrayOver t).before #[] U = true := by
  cases t <;> first | exact va_AO.moved hvm h | exact xAOA_moved hvm h | (exfalso; revert h; simp [Cond.before, Cond.holds, Cond.value])
theorem xN.same {u U : State} (h : u.vm = U.vm) (k : xN u) : xN U := fun w hw => by
  have h1 := k w hw
  have h2 := (List.mem_filter.mp hw).2
  cases w <;> first | exact va_Nw.same rfl h h1 | (cases h2; done) | exact xAO_moved (by rw [h]; exact Vm.Alike.refl U.vm) h1
theorem xN.warm {s U : State} (hW : s.WarmedH U.vm) (k : xN s) : xN U := fun w hw => by
  have h1 := k w hw
  have h2 := (List.mem_filter.mp hw).2
  cases w <;> first | exact va_Nw.warmM hW h1 | (cases h2; done) | exact xAO_moved hW.alike h1
/-- what the state's tables say of the classes, and the script -/
def xK (g : xG) (U : State) : Prop := va_K (xids g) xCl (xtys g) U ∧ g.1 < g.2.1 ∧ xN U
def xX (g : xG) (U : State) (H : Heap) : Prop := va_X g.1 g.2.2.1 g.2.2.2.1 U H
theorem xK.warm {g : xG} {s U : State} (h : s.WarmedH U.vm) (k : xK g s) : xK g U := ⟨va_K.moved h.alike k.1, k.2.1, k.2.2.warm h⟩
theorem xK.same {g : xG} {u U : State} (h : u.vm = U.vm) (k : xK g u) : xK g U := ⟨va_K.moved (by rw [h]; exact Vm.Alike.refl U.vm) k.1, k.2.1, k.2.2.same h⟩
/-- a method's start and end -/
def xPc (g : xG) (as : List Value) (μ : xM) : Array Value → State → Prop := fun v U => v = (as.map (xup g)).toArray ∧ xR g μ U.heap ∧ xK g U ∧ xX g U U.heap
def xQc (g : xG) (r : Option Value) (μ : xM) : Array Value → State → Outcome → State → Prop := fun _ st o t => o = .returned (r.map (xup g)) ∧ xR g μ t.heap ∧ va_F (xA g) st t
/-- an answer is of the method's type -/
def xok : Option FieldType → Option Value → Prop
  | none, none => True
  | some .int, some (.int _) => True
  | some .boolean, some (.int v) => v = 0 ∨ v = 1
  | some .long, some (.long _) => True
  | some (.object _), some .null => True
  | some (.object _), some (.ref _) => True
  | _, _ => False
def xret : Option FieldType → Instr
  | none => .return_
  | some .long => .lreturn
  | some (.object _) => .areturn
  | _ => .ireturn
def xrm (M : xD) (mc ms : Nat) : Room := { frames := M.2.2.2.2.1, cells := mc, slots := ms, locals := M.2.2.2.2.2 }
/-- a whole run of a method -/
def xMt (M : xD) (as : List Value) (μ : xM) (r : Option Value) (μ' : xM) : Prop :=
  μ.1 ≤ μ'.1 ∧ xtot μ.1 ≤ xtot μ'.1 ∧ xok M.2.2.2.1 r ∧ ∀ (l : Launch) (g : xG), Met l M.1 (.code M.1 M.2.1 M.2.2.1 M.2.2.2.1 :: xTB) (xrm M (μ'.1 - μ.1) (xtot μ'.1 - xtot μ.1)) (xPc g as μ) (xQc g r μ') (μ'.1 - μ.1) (xtot μ'.1 - xtot μ.1) (xA g)
/-- the machine in a method's body -/
def xCx (M : xD) (p : Program) (R : Room) (s : State) (m : MethodId) (args : Array Value) (meth : Method) (c : Code) (g : xG) : Prop :=
  (p.tables.exec = Jvm.exec ∧ c.code = M.2.1 ∧ c.maxLocals = M.2.2.1 ∧ s.vm.findClass M.1.cls = some m.cls ∧ ∀ w ∈ xTB, w.before args s = true) ∧ (M.2.2.2.2.1 ≤ R.frames ∧ M.2.2.2.2.2 ≤ R.locals) ∧ xK g s ∧ xX g s s.heap ∧ meth.name = M.1.name ∧ g.2.1 ≤ s.heap.size
/-- the end that a run comes to: a return, with r on the stack and the memory μ' -/
def xEnd (M : xD) (p : Program) (l : Launch) (e : Env) (R : Room) (s : State) (m : MethodId) (args : Array Value) (below : List Frame) (meth : Method) (c : Code) (g : xG) (n0 : Nat) (r : Option Value) (μ' : xM) (Qf : State → Prop) : Prop :=
  ∀ (H : Heap) (locs : List Loc) (pc : Nat) (ls : Array Slot), xR g μ' H → va_S (xA g) s.heap H locs → decode M.2.1 pc = .ok (xret M.2.2.2.1, 1) → W p l e R s m args below meth c H locs (μ'.1 - n0) (xtot μ'.1 - xtot n0) Qf (F0 m pc ls (r.map (xup g)).toList)
/-- a run within a method's body -/
def xWk (M : xD) (pc : Nat) (L : List (Nat × Value)) (st : List Value) (μ : xM) (r : Option Value) (μ' : xM) : Prop :=
  μ.1 ≤ μ'.1 ∧ xtot μ.1 ≤ xtot μ'.1 ∧ xok M.2.2.2.1 r ∧ ∀ (p : Program) (l : Launch) (e : Env) (R : Room) (s : State) (m : MethodId) (args : Array Value) (below : List Frame) (meth : Method) (c : Code) (g : xG) (n0 : Nat) (Qf : State → Prop),
    xCx M p R s m args meth c g → (μ'.1 - n0 ≤ R.cells ∧ xtot μ'.1 - xtot n0 ≤ R.slots) → (n0 ≤ μ.1 ∧ xtot n0 ≤ xtot μ.1) → xEnd M p l e R s m args below meth c g n0 r μ' Qf →
    ∀ (H : Heap) (locs : List Loc) (ls : Array Slot), xR g μ H → va_S (xA g) s.heap H locs → lv_has ls M.2.2.1 (L.map fun q => (q.1, xup g q.2)) →
      W p l e R s m args below meth c H locs (μ.1 - n0) (xtot μ.1 - xtot n0) Qf (F0 m pc ls (st.map (xup g)))
/-- a run that comes to an end with Q -/
def xE (M : xD) (pc : Nat) (L : List (Nat × Value)) (st : List Value) (μ : xM) (Q : Option Value → xM → Prop) : Prop := ∃ r μ', Q r μ' ∧ xWk M pc L st μ r μ'
def xC (M : xD) (as : List Value) (μ : xM) (Q : Option Value → xM → Prop) : Prop := ∃ r μ', Q r μ' ∧ xMt M as μ r μ'
theorem xE.mono {M : xD} {pc : Nat} {L : List (Nat × Value)} {st : List Value} {μ : xM} {Q Q' : Option Value → xM → Prop} (h : xE M pc L st μ Q) (hq : ∀ r μ', Q r μ' → Q' r μ') : xE M pc L st μ Q' := by
  obtain ⟨r, μ', a, b⟩ := h
  exact ⟨r, μ', hq _ _ a, b⟩
theorem xC.mono {M : xD} {as : List Value} {μ : xM} {Q Q' : Option Value → xM → Prop} (h : xC M as μ Q) (hq : ∀ r μ', Q r μ' → Q' r μ') : xC M as μ Q' := by
  obtain ⟨r, μ', a, b⟩ := h
  exact ⟨r, μ', hq _ _ a, b⟩
theorem xW_at {g : xG} {μ : xM} {a : Nat} (h : a < μ.1) : (xW g μ)[a]? = some (g.2.1 + a, xcell g μ (a + 1)) := by
  unfold xW
  rw [List.getElem?_map, List.getElem?_range h]
  rfl
theorem xW_inv {g : xG} {μ : xM} {k : Nat} {q : Nat × va_E} (h : (xW g μ)[k]? = some q) : k < μ.1 ∧ q = (g.2.1 + k, xcell g μ (k + 1)) := by
  unfold xW at h
  rw [List.getElem?_map] at h
  by_cases hk : k < μ.1
  · rw [List.getElem?_range hk] at h
    exact ⟨hk, (Option.some.inj h).symm⟩
  · rw [List.getElem?_eq_none (by rw [List.length_range]; omega)] at h
    cases h
theorem xW_D (g : xG) (μ : xM) : va_D (xA g) (xW g μ) := by
  refine ⟨fun i j p q hi hj hpq => ?_, fun k q hk => ?_⟩
  · obtain ⟨-, rfl⟩ := xW_inv hi
    obtain ⟨-, rfl⟩ := xW_inv hj
    simp only at hpq
    omega
  · obtain ⟨-, rfl⟩ := xW_inv hk
    show g.2.1 ≤ g.2.1 + k
    omega
/-- the worlds that differ in one cell -/
theorem xW_set {g : xG} {μ μ1 : xM} {a : Nat} {e : va_E} (h : a < μ.1) (hn : μ1.1 = μ.1) (he : xcell g μ1 (a + 1) = e) (ho : ∀ b, b ≠ a + 1 → xcell g μ1 b = xcell g μ b) : (xW g μ).set a (g.2.1 + a, e) = xW g μ1 := by
  apply List.ext_getElem?
  intro k
  by_cases hk : k = a
  · subst hk
    rw [List.getElem?_set_self (by rw [show (xW g μ).length = μ.1 by simp [xW]]; exact h), xW_at (by omega), he]
  · rw [List.getElem?_set_ne (Ne.symm hk)]
    by_cases hl : k < μ.1
    · rw [xW_at hl, xW_at (by omega), ho (k + 1) (by omega)]
    · rw [List.getElem?_eq_none (by simp [xW]; omega), List.getElem?_eq_none (by simp [xW]; omega)]

/-- one number, long, reference is written -/
def up2 {α : Type} (f : Nat → Nat → α) (a k : Nat) (v : α) : Nat → Nat → α := fun b => if b = a then (fun j => if j = k then v else f a j) else f b
theorem up2_ne {α : Type} {f : Nat → Nat → α} {a k b : Nat} {v : α} (h : b ≠ a) : up2 f a k v b = f b := if_neg h
theorem up2_at {α : Type} {f : Nat → Nat → α} {a k : Nat} {v : α} : up2 f a k v a = fun j => if j = k then v else f a j := if_pos rfl
theorem up2_self {α : Type} {f : Nat → Nat → α} {a k : Nat} {v : α} : up2 f a k v a k = v := by rw [up2_at]; exact if_pos rfl
theorem up2_nek {α : Type} {f : Nat → Nat → α} {a k j : Nat} {v : α} (h : j ≠ k) : up2 f a k v a j = f a j := by rw [up2_at]; exact if_neg h
def xwi (μ : xM) (a k : Nat) (v : Int32) : xM := (μ.1, up2 μ.2.1 a k v, μ.2.2)
def xwl (μ : xM) (a k : Nat) (v : Int64) : xM := (μ.1, μ.2.1, up2 μ.2.2.1 a k v, μ.2.2.2)
def xwr (μ : xM) (a k : Nat) (v : Option Nat) : xM := (μ.1, μ.2.1, μ.2.2.1, up2 μ.2.2.2 a k v)
/-- a piece of an array is copied into another -/
def cp2 {α : Type} (f : Nat → Nat → α) (a b sp dp n : Nat) : Nat → Nat → α := fun c => if c = b then va_cpy (f a) (f b) sp dp n else f c
theorem cp2_ne {α : Type} {f : Nat → Nat → α} {a b sp dp n c : Nat} (h : c ≠ b) : cp2 f a b sp dp n c = f c := if_neg h
theorem cp2_at {α : Type} {f : Nat → Nat → α} {a b sp dp n : Nat} : cp2 f a b sp dp n b = va_cpy (f a) (f b) sp dp n := if_pos rfl
def xci (μ : xM) (a b sp dp n : Nat) : xM := (μ.1, cp2 μ.2.1 a b sp dp n, μ.2.2)
def xcl (μ : xM) (a b sp dp n : Nat) : xM := (μ.1, μ.2.1, cp2 μ.2.2.1 a b sp dp n, μ.2.2.2)
theorem xcell_other {g : xG} {μ μ1 : xM} {b : Nat} (h1 : μ1.2.1 b = μ.2.1 b) (h2 : μ1.2.2.1 b = μ.2.2.1 b) (h3 : μ1.2.2.2 b = μ.2.2.2 b) : xcell g μ1 b = xcell g μ b := by
  unfold xcell xcellK xfs
  have hf : ∀ j t, xfv g μ1 b j t = xfv g μ b j t := fun j t => by cases t <;> simp [xfv, h1, h2, h3]
  simp only [hf, h1, h2, h3]
/-- an address within -/
def xin (μ : xM) (a : Nat) : Prop := a - 1 < μ.1 ∧ 0 < a
theorem xad_in {μ : xM} {g : xG} {a : Nat} (h : xin μ a) : xad g a = g.2.1 + (a - 1) ∧ a - 1 + 1 = a := by
  obtain ⟨-, h2⟩ := h
  cases a with
  | zero => omega
  | succ a => exact ⟨rfl, rfl⟩
theorem xrm_cx {M : xD} {p : Program} {R : Room} {s : State} {m : MethodId} {args : Array Value} {meth : Method} {c : Code} {g : xG} (C : xCx M p R s m args meth c g) : p.tables.exec = Jvm.exec ∧ c.code = M.2.1 := ⟨C.1.1, C.1.2.1⟩
