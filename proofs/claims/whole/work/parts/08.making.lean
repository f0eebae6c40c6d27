/-- the types whose first value the planes hold -/
def xsim : FieldType → Bool
  | .int => true
  | .long => true
  | .object _ => true
  | .array _ => true
  | _ => false
theorem xsim_ok : ∀ (ci : Nat) (q : vw_C), xCl[ci]? = some q → ∀ k, k < q.2.2 → xsim (xTy ci k) = true := by
  intro ci q h
  match ci, h with
  | 0, h => cases h; decide +kernel
  | 1, h => cases h; decide +kernel
  | 2, h => cases h; decide +kernel
  | 3, h => cases h; decide +kernel
  | 4, h => cases h; decide +kernel
  | 5, h => cases h; decide +kernel
  | 6, h => cases h; decide +kernel
  | 7, h => cases h; decide +kernel
  | 8, h => cases h; decide +kernel
  | 9, h => cases h; decide +kernel
  | 10, h => cases h; decide +kernel
  | k + 11, h => simp [xCl] at h
/-- d cells more -/
def xgr (μ : xM) (d : Nat) : xM := (μ.1 + d, μ.2)
theorem xtot_mono (n d : Nat) : xtot n ≤ xtot (n + d) := by
  induction d with
  | zero => exact Nat.le_refl _
  | succ d ih => exact Nat.le_trans ih (Nat.le_add_right _ _)
/-- one step of a body's run that makes d cells -/
theorem xE.grow {M : xD} {pc pc2 : Nat} {L : List (Nat × Value)} {st st2 : List Value} {μ : xM} {Q : Option Value → xM → Prop} (d : Nat) (h : xE M pc2 L st2 (xgr μ d) Q)
    (k : ∀ (p : Program) (l : Launch) (e : Env) (R : Room) (s : State) (m : MethodId) (args : Array Value) (below : List Frame) (meth : Method) (c : Code) (g : xG) (Qf : State → Prop) (H : Heap) (locs : List Loc) (cells slots : Nat) (ls : Array Slot),
      xCx M p R s m args meth c g → xR g μ H → va_S (xA g) s.heap H locs → cells + d ≤ R.cells → slots + (xtot (μ.1 + d) - xtot μ.1) ≤ R.slots →
      (∀ H1 : Heap, xR g (xgr μ d) H1 → va_S (xA g) s.heap H1 locs → W p l e R s m args below meth c H1 locs (cells + d) (slots + (xtot (μ.1 + d) - xtot μ.1)) Qf (F0 m pc2 ls (st2.map (xup g)))) →
      W p l e R s m args below meth c H locs cells slots Qf (F0 m pc ls (st.map (xup g)))) : xE M pc L st μ Q := by
  obtain ⟨r, μ', hq, h1, h2, h3, h4⟩ := h
  have h1 : μ.1 + d ≤ μ'.1 := h1
  have h2 : xtot (μ.1 + d) ≤ xtot μ'.1 := h2
  have hm := xtot_mono μ.1 d
  refine ⟨r, μ', hq, by omega, by omega, h3, fun p l e R s m args below meth c g n0 Qf C hr hn he H locs ls hR hS hl => ?_⟩
  refine k p l e R s m args below meth c g Qf H locs _ _ ls C hR hS (by omega) (by omega) fun H1 g1 g2 => ?_
  have key := h4 p l e R s m args below meth c g n0 Qf C hr ⟨by show n0 ≤ μ.1 + d; omega, by show xtot n0 ≤ xtot (μ.1 + d); omega⟩ he H1 locs ls g1 g2 hl
  rw [show (xgr μ d).1 - n0 = μ.1 - n0 + d by show μ.1 + d - n0 = _; omega, show xtot (xgr μ d).1 - xtot n0 = xtot μ.1 - xtot n0 + (xtot (μ.1 + d) - xtot μ.1) by show xtot (μ.1 + d) - xtot n0 = _; omega] at key
  exact key
/-- nothing stands in a cell's planes -/
def xz (μ : xM) (a : Nat) : Prop := (∀ k, μ.2.1 a k = 0) ∧ (∀ k, μ.2.2.1 a k = 0) ∧ ∀ k, μ.2.2.2 a k = none
theorem xfv_z {g : xG} {μ : xM} {a j : Nat} {t : FieldType} (h : xz μ a) (ht : xsim t = true) : xfv g μ a j t = defaultValue t := by
  obtain ⟨h1, h2, h3⟩ := h
  cases t <;> first | (simp [xfv, h1, h2, h3, defaultValue, xrf, va_rf]; done) | cases ht
theorem xgr_P {g : xG} {μ : xM} {d : Nat} {H H1 : Heap} (hR : xR g μ H) (o1 : ∀ q, q < H.size → H1[q]? = H[q]?) (hz : H1.size = H.size + d) (hn : ∀ j, j < d → va_at (xids g) xCl (g.2.1 + μ.1 + j, xcell g μ (μ.1 + j + 1)) H1) : xR g (xgr μ d) H1 := by
  refine ⟨by rw [hz, hR.1]; show _ = g.2.1 + (μ.1 + d); omega, fun k q hk => ?_, hR.2.2⟩
  obtain ⟨h1, rfl⟩ := xW_inv hk
  have h1 : k < μ.1 + d := h1
  by_cases hl : k < μ.1
  · exact (hR.2.1 k _ (xW_at hl)).kept (o1 _ (by show g.2.1 + k < _; rw [hR.1]; omega))
  · have := hn (k - μ.1) (by omega)
    rw [show g.2.1 + μ.1 + (k - μ.1) = g.2.1 + k by omega, show μ.1 + (k - μ.1) + 1 = k + 1 by omega] at this
    exact this
theorem xgr_S {g : xG} {s : State} {d : Nat} {H H1 : Heap} {locs : List Loc} (hS : va_S (xA g) s.heap H locs) (o1 : ∀ q, q < H.size → H1[q]? = H[q]?) (hz : H1.size = H.size + d) : va_S (xA g) s.heap H1 locs :=
  ⟨by have := hS.1; omega, fun x h1 h2 => (o1 x (Nat.lt_of_lt_of_le h1 hS.1)).trans (hS.2.1 x h1 h2), hS.2.2⟩
theorem xup_new {g : xG} {μ : xM} {H : Heap} (hR : xR g μ H) : xup g (.ref (μ.1 + 1)) = .ref H.size := by
  rw [hR.1]
  rfl
section XN
variable {M : xD} {pc : Nat} {L : List (Nat × Value)} {st : List Value} {μ : xM} {Q : Option Value → xM → Prop} {a idx ci N n : Nat} {T : u_T} {C0 : String}
theorem xe_new (hd : decode M.2.1 pc = .ok (.new idx, 3)) (hc : xCl[ci]? = some (C0, T, N)) (h1 : Cond.classLink M.1.cls idx C0 ∈ xTB) (h2 : Cond.instantiable C0 N ∈ xTB) (h3 : Cond.initialized C0 ∈ xTB) (b : Nat) (hb : μ.1 + 1 = b) (hs : xSH b = (ci, N)) (hz : xz μ b) (h : xE M (pc + 3) L (.ref b :: st) (xgr μ 1) Q) : xE M pc L st μ Q := by
  subst hb
  obtain ⟨h5, u1, u2, u3, u4⟩ := xcls ci _ hc
  refine xE.grow 1 h fun p l e R s m args below meth c g Qf H locs cells slots ls C hR hS hce hsl kk => ?_
  have ht : xtot (μ.1 + 1) - xtot μ.1 = N := by show xtot μ.1 + (xSH (μ.1 + 1)).2 - xtot μ.1 = N; rw [hs]; simp
  rw [ht] at hsl kk
  have hKn := C.2.2.1.1.1 ci _ hc
  refine W.newcK C.1.1 C.1.2.1 C.1.2.2.2.1 (C.1.2.2.2.2 _ h1) (C.1.2.2.2.2 _ h2) (C.1.2.2.2.2 _ h3) rfl hd hce hsl hKn.2.1 rfl fun H1 kC hkC e1 z1 o1 => ?_
  have key := kk H1 (xgr_P hR o1 z1 (fun j hj => ?_)) (xgr_S hS o1 z1)
  · rw [List.map_cons, xup_new hR] at key
    exact key
  · obtain rfl : j = 0 := by omega
    rw [Nat.add_zero, Nat.add_zero, xcell_obj hs h5, ← hR.1]
    exact ⟨_, hc, (u_born (xTy ci) C.1.2.2.2.2 u1 hKn hkC e1 u2).to (fun j hj => by simp only [vp_V]; rw [List.getD_eq_getElem?_getD, xfs_at hj, xfv_z hz (xsim_ok ci _ hc j hj)]; rfl)⟩
theorem xe_newarr {atype : ArrayType} {v : Int32} {kd : Nat} (hd : decode M.2.1 pc = .ok (.newarray atype, 2)) (hk : kd = 50 ∧ atype = .int ∨ kd = 51 ∧ atype = .long ∨ kd = 52 ∧ atype = .boolean) (h1 : Cond.arrayClass (newarray.typeOf atype) ∈ xTB) (hv : ¬ v < 0) (hn : v.toNatClampNeg = n) (hsm : n * 8 ≤ 536870912) (b : Nat) (hb : μ.1 + 1 = b) (hs : xSH b = (kd, n)) (hz : xz μ b) (h : xE M (pc + 2) L (.ref b :: st) (xgr μ 1) Q) : xE M pc L (.int v :: st) μ Q := by
  subst hb
  subst hn
  refine xE.grow 1 h fun p l e R s m args below meth c g Qf H locs cells slots ls C hR hS hce hsl kk => ?_
  have ht : xtot (μ.1 + 1) - xtot μ.1 = v.toNatClampNeg := by show xtot μ.1 + (xSH (μ.1 + 1)).2 - xtot μ.1 = _; rw [hs]; simp
  rw [ht] at hsl kk
  refine va_newaK C.1.1 C.1.2.1 (atype := atype) (C.1.2.2.2.2 _ h1) rfl hd rfl hv rfl (by rcases hk with ⟨-, rfl⟩ | ⟨-, rfl⟩ | ⟨-, rfl⟩ <;> (refine Nat.le_trans (Nat.mul_le_mul_left _ ?_) hsm; decide)) hce hsl rfl fun H1 cA e1 z1 o1 hAr hNm => ?_
  have key := kk H1 (xgr_P hR o1 z1 (fun j hj => ?_)) (xgr_S hS o1 z1)
  · rw [List.map_cons, xup_new hR] at key
    exact key
  · obtain rfl : j = 0 := by omega
    rw [Nat.add_zero, Nat.add_zero, ← hR.1]
    obtain ⟨z1, z2, z3⟩ := hz
    rcases hk with ⟨rfl, rfl⟩ | ⟨rfl, rfl⟩ | ⟨rfl, rfl⟩
    · rw [xcell_int hs]
      have hid : xca g 50 = cA := Option.some.inj (((C.2.2.1.1.2 0 _ rfl).2).symm.trans hNm)
      show H1[H.size]? = some (vp_cell _ _)
      rw [e1, vp_cell_i, hid]
      exact congrArg (fun f => some (arrV cA _ f)) (funext fun j => by rw [z1 j]; rfl)
    · rw [xcell_long hs]
      have hid : xca g 51 = cA := Option.some.inj (((C.2.2.1.1.2 1 _ rfl).2).symm.trans hNm)
      show H1[H.size]? = some (vp_cell _ _)
      rw [e1, vp_cell_l, hid]
      exact congrArg (fun f => some (arrV cA _ f)) (funext fun j => by rw [z2 j]; rfl)
    · rw [xcell_bool hs]
      have hid : xca g 52 = cA := Option.some.inj (((C.2.2.1.1.2 2 _ rfl).2).symm.trans hNm)
      show H1[H.size]? = some (vp_cell _ _)
      rw [e1, vp_cell_i, hid]
      exact congrArg (fun f => some (arrV cA _ f)) (funext fun j => by rw [z1 j]; rfl)
theorem xe_newref {v : Int32} {kd : Nat} (hd : decode M.2.1 pc = .ok (.anewarray idx, 3)) (hk : kd = 53 ∧ C0 = RX6 ∨ kd = 54 ∧ C0 = RX3) (h1 : Cond.classLink M.1.cls idx C0 ∈ xTB) (h2 : Cond.arrayOver (.object C0) ∈ xNL) (hv : ¬ v < 0) (hn : v.toNatClampNeg = n) (hsm : n * 4 ≤ 536870912) (b : Nat) (hb : μ.1 + 1 = b) (hs : xSH b = (kd, n)) (hz : xz μ b) (h : xE M (pc + 3) L (.ref b :: st) (xgr μ 1) Q) : xE M pc L (.int v :: st) μ Q := by
  subst hb
  subst hn
  refine xE.grow 1 h fun p l e R s m args below meth c g Qf H locs cells slots ls C hR hS hce hsl kk => ?_
  have ht : xtot (μ.1 + 1) - xtot μ.1 = v.toNatClampNeg := by show xtot μ.1 + (xSH (μ.1 + 1)).2 - xtot μ.1 = _; rw [hs]; simp
  rw [ht] at hsl kk
  refine W.anew C.1.1 C.1.2.1 C.1.2.2.2.1 (C.1.2.2.2.2 _ h1) (va_AO.use (C.2.2.1.2.2 _ h2)) rfl hd rfl hv hsm hce hsl fun cA kA comp f1 f2 f3 f4 => ?_
  generalize hH1 : H.push ({ cls := cA, slots := Array.replicate v.toNatClampNeg .null, vm := .none } : Cell) = H1
  have z1 : H1.size = H.size + 1 := by rw [← hH1, Array.size_push]
  have e1 : H1[H.size]? = some (arrV cA v.toNatClampNeg (fun _ => .null)) := by rw [← hH1, Array.getElem?_push_size, ← arrV_new]
  have o1 : ∀ q : Nat, q < H.size → H1[q]? = H[q]? := fun q hq => by rw [← hH1, Array.getElem?_push, if_neg (Nat.ne_of_lt hq)]
  have key := kk H1 (xgr_P hR o1 z1 (fun j hj => ?_)) (xgr_S hS o1 z1)
  · rw [List.map_cons, xup_new hR] at key
    exact key
  · obtain rfl : j = 0 := by omega
    rw [Nat.add_zero, Nat.add_zero, ← hR.1]
    have hid : xca g kd = cA := by
      rcases hk with ⟨rfl, rfl⟩ | ⟨rfl, rfl⟩
      · obtain ⟨_, _, _, _, _, k4⟩ := (C.2.2.1.1.2 3 _ rfl).2
        exact Option.some.inj (k4.symm.trans f1)
      · obtain ⟨_, _, _, _, _, k4⟩ := (C.2.2.1.1.2 4 _ rfl).2
        exact Option.some.inj (k4.symm.trans f1)
    rw [xcell_ref hs (by rcases hk with ⟨rfl, -⟩ | ⟨rfl, -⟩ <;> decide)]
    show H1[H.size]? = some (vp_cell _ _)
    rw [e1, vp_cell_q, hid]
    exact congrArg (fun f => some (arrV cA _ f)) (funext fun j => by rw [hz.2.2 j]; rfl)
theorem xe_objInit (hd : decode M.2.1 pc = .ok (.invokespecial idx, 3)) (h1 : Cond.methodLink M.1.cls idx Lib.objectInit ∈ xTB) (h2 : Cond.instanceMethod Lib.objectInit ∈ xTB) (h3 : Cond.code Lib.objectInit ⟨#[0xb1]⟩ 1 none ∈ xTB) (hro : 1 ≤ M.2.2.2.2.1 ∧ (st.map fun v => v.category).sum + 12 ≤ M.2.2.2.2.2) (h : xE M (pc + 3) L st μ Q) : xE M pc L (.ref a :: st) μ Q := by
  refine h.step rfl fun p l e R s m args below meth c g Qf H locs cells slots ls C hR hS hl kk => ?_
  refine W.objInit C.1.1 C.1.2.1 C.1.2.2.2.1 (C.1.2.2.2.2 _ h1) (C.1.2.2.2.2 _ h2) (C.1.2.2.2.2 _ h3) rfl (by rw [C.1.2.2.1]; exact hl.1) rfl hd (Nat.le_trans hro.1 C.2.1.1) ?_ (kk _ _ _ hR hS hl)
  rw [List.map_map, show ((fun v : Value => v.category) ∘ xup g) = (fun v : Value => v.category) from funext (xup_cat g)]
  have := Nat.le_trans hro.2 C.2.1.2
  show 2 * 0 + _ + 12 ≤ _
  omega
theorem xe_slen (hd : decode M.2.1 pc = .ok (.arraylength, 1)) (h : xE M (pc + 1) L (.int (μ.2.1 0 0) :: st) μ Q) : xE M pc L (.ref 0 :: st) μ Q := by
  refine h.step rfl fun p l e R s m args below meth c g Qf H locs cells slots ls C hR hS hl kk => ?_
  obtain ⟨-, -, hK, hX, -, hb⟩ := id C
  have kk := kk _ _ _ hR hS hl
  rw [← hR.2.2.2.1] at kk
  exact va_slen C.1.1 C.1.2.1 hX (Nat.lt_of_lt_of_le hK.2.1 hb) (Nat.not_le.mpr hK.2.1) hS hd kk
theorem xe_sld {i : Int32} {n : Nat} (hd : decode M.2.1 pc = .ok (.iaload, 1)) (hn : μ.2.1 0 0 = Int32.ofNat n) (hn2 : n ≤ 2560) (hi : vp_in i n) (h : xE M (pc + 1) L (.int (μ.2.1 0 (i.toNatClampNeg + 1)) :: st) μ Q) : xE M pc L (.int i :: .ref 0 :: st) μ Q := by
  refine h.step rfl fun p l e R s m args below meth c g Qf H locs cells slots ls C hR hS hl kk => ?_
  obtain ⟨-, -, hK, hX, -, hb⟩ := id C
  have kk := kk _ _ _ hR hS hl
  rw [← hR.2.2.2.2] at kk
  have hL : g.2.2.1 = n := by
    have e := hR.2.2.2.1.trans hn
    have l1 := hR.2.2.1
    have e2 := congrArg Int32.toInt e
    rw [Int32.toInt_ofNat_of_lt (by omega), Int32.toInt_ofNat_of_lt (by omega)] at e2
    omega
  exact va_sld C.1.1 C.1.2.1 hX (Nat.lt_of_lt_of_le hK.2.1 hb) (Nat.not_le.mpr hK.2.1) hS (by rw [hL]; exact hi) hd kk
theorem xe_mmax {x y : Int32} (hd : decode M.2.1 pc = .ok (.invokestatic idx, 3)) (h1 : Cond.methodLink M.1.cls idx Lib.Math.max.name ∈ xTB) (h2 : Cond.static Lib.Math.max.name ∈ xTB) (h3 : Cond.initialized "java/lang/Math" ∈ xTB) (h4 : Cond.code Lib.Math.max.name Lib.Math.max.code 2 (some .int) ∈ xTB) (hro : 1 ≤ M.2.2.2.2.1 ∧ (st.map fun v => v.category).sum + 13 ≤ M.2.2.2.2.2) (h : xE M (pc + 3) L (.int (if x < y then y else x) :: st) μ Q) : xE M pc L (.int y :: .int x :: st) μ Q := by
  refine h.step2 rfl fun p l e R s m args below meth c g Qf H locs cells slots ls hc hs C hR hS hl kk => ?_
  exact va_mmax C.1.1 C.1.2.1 (C.1.2.2.1.trans hl.1.symm) C.1.2.2.2.1 (C.1.2.2.2.2 _ h1) (C.1.2.2.2.2 _ h2) (C.1.2.2.2.2 _ h3) (C.1.2.2.2.2 _ h4) (Nat.le_trans hro.1 C.2.1.1) (by rw [List.map_map, show ((fun v : Value => v.category) ∘ xup g) = (fun v : Value => v.category) from funext (xup_cat g)]; exact Nat.le_trans hro.2 C.2.1.2) hc hs hd (kk _ _ _ hR hS hl)
theorem xe_mmin {x y : Int32} (hd : decode M.2.1 pc = .ok (.invokestatic idx, 3)) (h1 : Cond.methodLink M.1.cls idx Lib.Math.min.name ∈ xTB) (h2 : Cond.static Lib.Math.min.name ∈ xTB) (h3 : Cond.initialized "java/lang/Math" ∈ xTB) (h4 : Cond.code Lib.Math.min.name Lib.Math.min.code 2 (some .int) ∈ xTB) (hro : 1 ≤ M.2.2.2.2.1 ∧ (st.map fun v => v.category).sum + 13 ≤ M.2.2.2.2.2) (h : xE M (pc + 3) L (.int (if y < x then y else x) :: st) μ Q) : xE M pc L (.int y :: .int x :: st) μ Q := by
  refine h.step2 rfl fun p l e R s m args below meth c g Qf H locs cells slots ls hc hs C hR hS hl kk => ?_
  exact va_mmin C.1.1 C.1.2.1 (C.1.2.2.1.trans hl.1.symm) C.1.2.2.2.1 (C.1.2.2.2.2 _ h1) (C.1.2.2.2.2 _ h2) (C.1.2.2.2.2 _ h3) (C.1.2.2.2.2 _ h4) (Nat.le_trans hro.1 C.2.1.1) (by rw [List.map_map, show ((fun v : Value => v.category) ∘ xup g) = (fun v : Value => v.category) from funext (xup_cat g)]; exact Nat.le_trans hro.2 C.2.1.2) hc hs hd (kk _ _ _ hR hS hl)
end XN
