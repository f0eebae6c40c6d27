theorem xlay0 : ∀ w ∈ wsX00, w ∈ xTB := by
  have hp : wsX00 = [128, 130, 132, 134].filterMap (fun i => tables_1[i]?) := by decide +kernel
  have hg : wsX00.all goodWord = true := by decide +kernel
  intro w h
  have g := List.all_eq_true.mp hg w h
  rw [hp] at h
  obtain ⟨i, -, hi⟩ := List.mem_filterMap.mp h
  exact xTB_at i hi g
theorem xown0 : ∀ k, k < 4 → (TX0 k).1 = RX0 := by decide +kernel
theorem xlay1 : ∀ w ∈ wsX10, w ∈ xTB := by
  have hp : wsX10 = [205, 207, 209, 211].filterMap (fun i => tables_1[i]?) := by decide +kernel
  have hg : wsX10.all goodWord = true := by decide +kernel
  intro w h
  have g := List.all_eq_true.mp hg w h
  rw [hp] at h
  obtain ⟨i, -, hi⟩ := List.mem_filterMap.mp h
  exact xTB_at i hi g
theorem xown1 : ∀ k, k < 4 → (TX1 k).1 = RX1 := by decide +kernel
theorem xlay2 : ∀ w ∈ wsX20, w ∈ xTB := by
  have hp : wsX20 = [168, 170, 172].filterMap (fun i => tables_1[i]?) := by decide +kernel
  have hg : wsX20.all goodWord = true := by decide +kernel
  intro w h
  have g := List.all_eq_true.mp hg w h
  rw [hp] at h
  obtain ⟨i, -, hi⟩ := List.mem_filterMap.mp h
  exact xTB_at i hi g
theorem xown2 : ∀ k, k < 3 → (TX2 k).1 = RX2 := by decide +kernel
theorem xlay3 : ∀ w ∈ wsX30, w ∈ xTB := by
  have hp : wsX30 = [61, 63, 65, 67, 69, 71, 73, 75].filterMap (fun i => tables_1[i]?) := by decide +kernel
  have hg : wsX30.all goodWord = true := by decide +kernel
  intro w h
  have g := List.all_eq_true.mp hg w h
  rw [hp] at h
  obtain ⟨i, -, hi⟩ := List.mem_filterMap.mp h
  exact xTB_at i hi g
theorem xown3 : ∀ k, k < 8 → (TX3 k).1 = RX3 := by decide +kernel
theorem xlay4 : ∀ w ∈ wsX40, w ∈ xTB := by
  have hp : wsX40 = [95, 97, 99, 101, 103].filterMap (fun i => tables_1[i]?) := by decide +kernel
  have hg : wsX40.all goodWord = true := by decide +kernel
  intro w h
  have g := List.all_eq_true.mp hg w h
  rw [hp] at h
  obtain ⟨i, -, hi⟩ := List.mem_filterMap.mp h
  exact xTB_at i hi g
theorem xown4 : ∀ k, k < 5 → (TX4 k).1 = RX4 := by decide +kernel
theorem xlay5 : ∀ w ∈ wsX50, w ∈ xTB := by
  have hp : wsX50 = [185, 187, 189, 191].filterMap (fun i => tables_1[i]?) := by decide +kernel
  have hg : wsX50.all goodWord = true := by decide +kernel
  intro w h
  have g := List.all_eq_true.mp hg w h
  rw [hp] at h
  obtain ⟨i, -, hi⟩ := List.mem_filterMap.mp h
  exact xTB_at i hi g
theorem xown5 : ∀ k, k < 4 → (TX5 k).1 = RX5 := by decide +kernel
theorem xlay6 : ∀ w ∈ wsX60, w ∈ xTB := by
  have hp : wsX60 = [276, 278, 280].filterMap (fun i => tables_1[i]?) := by decide +kernel
  have hg : wsX60.all goodWord = true := by decide +kernel
  intro w h
  have g := List.all_eq_true.mp hg w h
  rw [hp] at h
  obtain ⟨i, -, hi⟩ := List.mem_filterMap.mp h
  exact xTB_at i hi g
theorem xown6 : ∀ k, k < 3 → (TX6 k).1 = RX6 := by decide +kernel
theorem xlay7 : ∀ w ∈ wsX70, w ∈ xTB := by
  have hp : wsX70 = [236, 238, 240, 242, 244, 246, 248, 250, 252, 254, 256, 258, 260].filterMap (fun i => tables_1[i]?) := by decide +kernel
  have hg : wsX70.all goodWord = true := by decide +kernel
  intro w h
  have g := List.all_eq_true.mp hg w h
  rw [hp] at h
  obtain ⟨i, -, hi⟩ := List.mem_filterMap.mp h
  exact xTB_at i hi g
theorem xown7 : ∀ k, k < 13 → (TX7 k).1 = RX7 := by decide +kernel
theorem xlay8 : ∀ w ∈ wsX80, w ∈ xTB := by
  have hp : wsX80 = [145, 147, 149, 151, 153].filterMap (fun i => tables_1[i]?) := by decide +kernel
  have hg : wsX80.all goodWord = true := by decide +kernel
  intro w h
  have g := List.all_eq_true.mp hg w h
  rw [hp] at h
  obtain ⟨i, -, hi⟩ := List.mem_filterMap.mp h
  exact xTB_at i hi g
theorem xown8 : ∀ k, k < 5 → (TX8 k).1 = RX8 := by decide +kernel
theorem xlay9 : ∀ w ∈ wsX90, w ∈ xTB := by
  have hp : wsX90 = [291, 293, 295, 297, 299, 301, 303, 305].filterMap (fun i => tables_1[i]?) := by decide +kernel
  have hg : wsX90.all goodWord = true := by decide +kernel
  intro w h
  have g := List.all_eq_true.mp hg w h
  rw [hp] at h
  obtain ⟨i, -, hi⟩ := List.mem_filterMap.mp h
  exact xTB_at i hi g
theorem xown9 : ∀ k, k < 8 → (TX9 k).1 = RX9 := by decide +kernel
theorem xlay10 : ∀ w ∈ wsX100, w ∈ xTB := by
  have hp : wsX100 = [842, 844, 846, 848, 850, 852, 854, 856, 858, 860, 862, 864, 866, 868, 870, 872, 874, 876, 878, 880, 882, 884, 886, 888, 890, 892, 894, 896, 898, 900, 902].filterMap (fun i => tables_1[i]?) := by decide +kernel
  have hg : wsX100.all goodWord = true := by decide +kernel
  intro w h
  have g := List.all_eq_true.mp hg w h
  rw [hp] at h
  obtain ⟨i, -, hi⟩ := List.mem_filterMap.mp h
  exact xTB_at i hi g
theorem xown10 : ∀ k, k < 31 → (TX10 k).1 = RX10 := by decide +kernel
/-- what the tables say of the classes -/
theorem xcls : ∀ (ci : Nat) (q : vw_C), xCl[ci]? = some q → ci < 50 ∧ (∀ w ∈ u_ws q.1 q.2.1 q.2.2, w ∈ xTB) ∧ (∀ k, k < q.2.2 → parseFieldDescriptor (q.2.1 k).2.2.1 = some (xTy ci k)) ∧ (∀ a, a < q.2.2 → ∀ b, b < q.2.2 → a ≠ b → (q.2.1 a).2.1 ≠ (q.2.1 b).2.1) ∧ ∀ k, k < q.2.2 → (q.2.1 k).1 = q.1 := by
  intro ci q h
  match ci, h with
  | 0, h => cases h; exact ⟨by decide, xlay0, tyX0_ok, nmX0, xown0⟩
  | 1, h => cases h; exact ⟨by decide, xlay1, tyX1_ok, nmX1, xown1⟩
  | 2, h => cases h; exact ⟨by decide, xlay2, tyX2_ok, nmX2, xown2⟩
  | 3, h => cases h; exact ⟨by decide, xlay3, tyX3_ok, nmX3, xown3⟩
  | 4, h => cases h; exact ⟨by decide, xlay4, tyX4_ok, nmX4, xown4⟩
  | 5, h => cases h; exact ⟨by decide, xlay5, tyX5_ok, nmX5, xown5⟩
  | 6, h => cases h; exact ⟨by decide, xlay6, tyX6_ok, nmX6, xown6⟩
  | 7, h => cases h; exact ⟨by decide, xlay7, tyX7_ok, nmX7, xown7⟩
  | 8, h => cases h; exact ⟨by decide, xlay8, tyX8_ok, nmX8, xown8⟩
  | 9, h => cases h; exact ⟨by decide, xlay9, tyX9_ok, nmX9, xown9⟩
  | 10, h => cases h; exact ⟨by decide, xlay10, tyX10_ok, nmX10, xown10⟩
  | k + 11, h => simp [xCl] at h
/-- a field that a class file's entry names: class, fields, place, type, final -/
def xFld (own : String) (idx ci N k : Nat) (ty : FieldType) (fin : Bool) : Prop := ∃ (C : String) (T : u_T), xCl[ci]? = some (C, T, N) ∧ k < N ∧ xTy ci k = ty ∧ (T k).2.2.2 = fin ∧ Cond.fieldLink own idx C (T k).2.1 (T k).2.2.1 ∈ xTB
theorem xcell_obj {g : xG} {μ : xM} {a ci N : Nat} (hs : xSH a = (ci, N)) (h : ci < 50) : xcell g μ a = .inr (ci, xfs g μ ci N a) := by
  unfold xcell xcellK
  rw [hs]
  exact if_pos h
theorem xcell_int {g : xG} {μ : xM} {a n : Nat} (hs : xSH a = (50, n)) : xcell g μ a = .inl (xca g 50, n, .inl (μ.2.1 a)) := by
  unfold xcell xcellK
  rw [hs]
  rfl
theorem xcell_bool {g : xG} {μ : xM} {a n : Nat} (hs : xSH a = (52, n)) : xcell g μ a = .inl (xca g 52, n, .inl (μ.2.1 a)) := by
  unfold xcell xcellK
  rw [hs]
  rfl
theorem xcell_long {g : xG} {μ : xM} {a n : Nat} (hs : xSH a = (51, n)) : xcell g μ a = .inl (xca g 51, n, .inr (.inl (μ.2.2.1 a))) := by
  unfold xcell xcellK
  rw [hs]
  rfl
theorem xcell_ref {g : xG} {μ : xM} {a k n : Nat} (hs : xSH a = (k, n)) (hk : 52 < k) : xcell g μ a = .inl (xca g k, n, .inr (.inr (.inr (.inr fun j => xrf g (μ.2.2.2 a j))))) := by
  unfold xcell xcellK
  rw [hs]
  simp only
  rw [if_neg (by omega), if_neg (by omega), if_neg (by omega)]
theorem xfs_at {g : xG} {μ : xM} {ci N a k : Nat} (h : k < N) : (xfs g μ ci N a)[k]? = some (xfv g μ a k (xTy ci k)) := by
  unfold xfs
  rw [List.getElem?_map, List.getElem?_range h]
  rfl
theorem xfs_len {g : xG} {μ : xM} {ci N a : Nat} : (xfs g μ ci N a).length = N := by simp [xfs]
theorem xfs_set {g : xG} {μ μ1 : xM} {ci N a k : Nat} {v : Value} (hk : k < N) (hv : xfv g μ1 a k (xTy ci k) = v) (ho : ∀ j, j ≠ k → ∀ t, xfv g μ1 a j t = xfv g μ a j t) : (xfs g μ ci N a).set k v = xfs g μ1 ci N a := by
  apply List.ext_getElem?
  intro j
  by_cases hj : j = k
  · subst hj
    rw [List.getElem?_set_self (by rw [xfs_len]; exact hk), xfs_at hk, hv]
  · rw [List.getElem?_set_ne (Ne.symm hj)]
    by_cases hl : j < N
    · rw [xfs_at hl, xfs_at hl, ho j hj]
    · rw [List.getElem?_eq_none (by rw [xfs_len]; omega), List.getElem?_eq_none (by rw [xfs_len]; omega)]
theorem xW_obj {g : xG} {μ : xM} {a ci N : Nat} (ha : xin μ a) (hs : xSH a = (ci, N)) (h : ci < 50) : (xW g μ)[a - 1]? = some (xad g a, .inr (ci, xfs g μ ci N a)) := by
  obtain ⟨e1, e2⟩ := xad_in (g := g) ha
  rw [xW_at ha.1, e1, e2, xcell_obj hs h]
theorem xW_arr {g : xG} {μ : xM} {a : Nat} {e : va_E} (ha : xin μ a) (h : xcell g μ a = e) : (xW g μ)[a - 1]? = some (xad g a, e) := by
  obtain ⟨e1, e2⟩ := xad_in (g := g) ha
  rw [xW_at ha.1, e1, e2, h]
theorem xad_A {g : xG} {μ : xM} {a : Nat} (ha : xin μ a) : xA g (xad g a) := by
  obtain ⟨e1, -⟩ := xad_in (g := g) ha
  rw [e1]
  show g.2.1 ≤ _
  omega
/-- the world behind a write -/
theorem xR_put {g : xG} {μ μ1 : xM} {a : Nat} {e : va_E} {H H1 : Heap} (hR : xR g μ H) (ha : xin μ a) (hn : μ1.1 = μ.1) (he : xcell g μ1 a = e) (ho : ∀ b, b ≠ a → xcell g μ1 b = xcell g μ b) (hP : va_P (xids g) xCl ((xW g μ).set (a - 1) (xad g a, e)) H1) (hz : H1.size = H.size) : xR g μ1 H1 := by
  obtain ⟨e1, e2⟩ := xad_in (g := g) ha
  have h0 := ho 0 (Nat.ne_of_lt ha.2)
  rw [xcell_int (show xSH 0 = (50, 0) from rfl), xcell_int (show xSH 0 = (50, 0) from rfl)] at h0
  simp only [Sum.inl.injEq, Prod.mk.injEq, true_and] at h0
  refine ⟨by rw [hz, hn]; exact hR.1, ?_, by unfold xScr; rw [h0]; exact hR.2.2⟩
  rw [e1, xW_set ha.1 hn (by rw [e2]; exact he) (by rw [e2]; exact ho)] at hP
  exact hP
theorem xca_ref {g : xG} {U : State} {kd : Nat} (hK : xK g U) (h1 : 52 < kd) (h2 : kd < 57) : ArrOfT U (xca g kd) (xET kd) ∧ va_RA U (xca g kd) (xET kd) ∧ (xET kd).isReference = true := by
  have h : kd = 53 ∨ kd = 54 ∨ kd = 55 ∨ kd = 56 := by omega
  rcases h with rfl | rfl | rfl | rfl
  · exact ⟨(hK.1.2 3 _ rfl).1, (hK.1.2 3 _ rfl).2, rfl⟩
  · exact ⟨(hK.1.2 4 _ rfl).1, (hK.1.2 4 _ rfl).2, rfl⟩
  · exact ⟨(hK.1.2 5 _ rfl).1, (hK.1.2 5 _ rfl).2, rfl⟩
  · exact ⟨(hK.1.2 6 _ rfl).1, (hK.1.2 6 _ rfl).2, rfl⟩
theorem xnat : Cond.native arraycopyName ∈ xTB := xTB_at 356 (by decide +kernel) rfl
theorem xsta : Cond.static arraycopyName ∈ xTB := xTB_at 355 (by decide +kernel) rfl
theorem xsys : Cond.initialized "java/lang/System" ∈ xTB := xTB_at 13 (by decide +kernel) rfl

section XY
variable {M : xD} {p : Program} {l : Launch} {e : Env} {R : Room} {s : State} {m : MethodId} {args : Array Value} {below : List Frame} {meth : Method} {c : Code} {g : xG} {Qf : State → Prop} {H : Heap} {locs : List Loc} {cells slots : Nat} {ls : Array Slot} {μ : xM} {pc a idx ci N k n : Nat} {rest : List Value}
/-- what the tables give of a field -/
theorem xfield {C0 : String} {T : u_T} (C : xCx M p R s m args meth c g) (hc : xCl[ci]? = some (C0, T, N)) (hk : k < N) : ∃ (cf : Nat) (kf : Class) (fi : Nat) (f : Field) (kC : Class), s.fieldFound? (T k).1 (T k).2.1 (T k).2.2.1 = some (cf, kf, fi, f) ∧ f.slot = (xids g).2 ci k ∧ f.isStatic = false ∧ s.vm.findClass C0 = some ((xids g).1 ci) ∧ s.vm.classes[(xids g).1 ci]? = some kC ∧ kC.kind = .ordinary ∧ ((Cond.lays C0 (T k).1 (T k).2.1 (T k).2.2.1).before args s = true ∨ (Cond.laysFinal C0 (T k).1 (T k).2.1 (T k).2.2.1).before args s = true) := by
  obtain ⟨h5, q1, q2, q3, q4⟩ := xcls ci _ hc
  obtain ⟨hS, hfc, kC, hkC, hkind⟩ := C.2.2.1.1.1 ci _ hc
  obtain ⟨cf, kf, fi, f, hi, hsl⟩ := hS k hk
  have hl := u_lays C.1.2.2.2.2 q1 hk
  exact ⟨cf, kf, fi, f, kC, hi, hsl, (u_facts hfc hkC hl hi).1, hfc, hkC, hkind, hl⟩
theorem xfset {C0 : String} {T : u_T} {v : Value} {H1 : Heap} {cell : Cell} {fs : List Value} (C : xCx M p R s m args meth c g) (hc : xCl[ci]? = some (C0, T, N)) (hk : k < N) (hP : va_P (xids g) xCl (xW g μ) H) {q0 : Nat} {ad : Nat} (he : (xW g μ)[q0]? = some (ad, .inr (ci, fs))) (hl : k < fs.length) (q2 : cell.cls = (xids g).1 ci) (q3 : cell.vm = .none) (q4 : ∀ j, j < N → cell.slots[(xids g).2 ci j]? = some (vp_V fs j)) (e1 : H1[ad]? = some (cell.setSlot ((xids g).2 ci k) v)) (e3 : ∀ q, q ≠ ad → H1[q]? = H[q]?) : va_P (xids g) xCl ((xW g μ).set q0 (ad, .inr (ci, fs.set k v))) H1 := by
  obtain ⟨h5, u1, u2, u3, u4⟩ := xcls ci _ hc
  exact va_P.set hP (xW_D g μ) he ⟨_, hc, t_OB.to ⟨_, e1, q2, q3, t_set q4 (va_apart (own := M.1.cls) C.1.2.2.2.2 u1 (xTy ci) u2 u3 C.2.2.1.1 hc) hk v⟩ (fun j _ => vp_updV_set hl v j)⟩ e3
theorem ya_put {C0 : String} {T : u_T} {v : Value} {fs : List Value} {ty : FieldType} {ad q0 : Nat} (C : xCx M p R s m args meth c g) (hP : va_P (xids g) xCl (xW g μ) H) (hS : va_S (xA g) s.heap H locs) (he : (xW g μ)[q0]? = some (ad, .inr (ci, fs))) (hA : xA g ad) (hc : xCl[ci]? = some (C0, T, N)) (hk : k < N) (hw : Cond.fieldLink M.1.cls idx C0 (T k).2.1 (T k).2.2.1 ∈ xTB) (hfin : (T k).2.2.2 = false ∨ ((T k).2.2.2 = true ∧ meth.name = "<init>" ∧ C0 = M.1.cls)) (hty : xTy ci k = ty) (hn : narrow ty v = v) (hfit : fits ty v = true) (hl : k < fs.length) (hd : decode M.2.1 pc = .ok (.putfield idx, 3))
    (kk : ∀ (H1 : Heap) (locs1 : List Loc), va_P (xids g) xCl ((xW g μ).set q0 (ad, .inr (ci, fs.set k v))) H1 → va_S (xA g) s.heap H1 locs1 → H1.size = H.size → W p l e R s m args below meth c H1 locs1 cells slots Qf (F0 m (pc + 3) ls rest)) : W p l e R s m args below meth c H locs cells slots Qf (F0 m pc ls (v :: .ref ad :: rest)) := by
  obtain ⟨h5, u1, u2, u3, u4⟩ := xcls ci _ hc
  obtain ⟨cf, kf, fi, f, kC, hi, hsl, hst, hfc, hkC, hkind, hlay⟩ := xfield C hc hk
  obtain ⟨r, h1, cell, q1, q2, q3, q4⟩ := hP q0 _ he
  cases Option.some.inj (h1.symm.trans hc)
  have hsame := hi
  rw [u4 k hk] at hsame
  have hd2 : parseFieldDescriptor (T k).2.2.1 = some ty := by rw [← hty]; exact u2 k hk
  have end_ : ∀ H1 : Heap, H1[ad]? = some (cell.setSlot f.slot v) → H1.size = H.size → (∀ q, q ≠ ad → H1[q]? = H[q]?) → W p l e R s m args below meth c H1 (locs ++ [⟨ad, f.slot⟩]) cells slots Qf (F0 m (pc + 3) ls rest) := fun H1 e1 e2 e3 => by
    rw [hsl] at e1 ⊢
    exact kk H1 _ (xfset C hc hk hP he hl q2 q3 q4 e1 e3) (hS.put e2 e3 hA) e2
  rcases hfin with hf | ⟨hf, hin, hown⟩
  · have hlay2 := C.1.2.2.2.2 _ (u1 _ (u_in_lay hk))
    unfold u_lay at hlay2
    rw [if_neg (by rw [hf]; decide)] at hlay2
    exact W.putK C.1.1 C.1.2.1 (f := f) ⟨C.1.2.2.2.1, C.1.2.2.2.2 _ hw, ⟨_, _, _, hsame⟩, hst⟩ (by rw [q2]; exact u_store hfc hkC hkind hlay2 hi hd2 hn hfit) q1 q3 (by rw [hsl]; exact k2_hasslot (q4 k hk)) rfl rfl hd end_
  · have hlay2 := C.1.2.2.2.2 _ (u1 _ (u_in_lay hk))
    unfold u_lay at hlay2
    rw [if_pos hf] at hlay2
    have hcf : m.cls = cf := by
      obtain ⟨_, _, c', _, _, _, -, -, hf', -, -, -, hown2, -⟩ := Cond.laysFinal_spec hlay2
      have e1 : c' = cf := by have := hi.symm.trans hf'; simp at this; exact this.1.symm
      rw [u4 k hk, hown] at hown2
      rw [← e1]; exact Option.some.inj (C.1.2.2.2.1.symm.trans hown2)
    exact W.putFinK C.1.1 C.1.2.1 C.1.2.2.2.1 (C.1.2.2.2.2 _ hw) hsame hst hcf hin (by rw [q2]; exact u_fits hfc hkC hkind (Or.inr hlay2) hi hd2 hn hfit) q1 q3 (by rw [hsl]; exact k2_hasslot (q4 k hk)) rfl rfl hd end_
theorem ya_cell {ad q0 : Nat} {e0 e1 : va_E} {H1 : Heap} (hP : va_P (xids g) xCl (xW g μ) H) (hS : va_S (xA g) s.heap H locs) (hA : xA g ad) (he : (xW g μ)[q0]? = some (ad, e0)) (k1 : va_at (xids g) xCl (ad, e1) H1) (z : H1.size = H.size) (oq : ∀ q, q ≠ ad → H1[q]? = H[q]?) : va_P (xids g) xCl ((xW g μ).set q0 (ad, e1)) H1 ∧ va_S (xA g) s.heap H1 (locs ++ [⟨ad, k⟩]) :=
  ⟨va_P.set hP (xW_D g μ) he k1 oq, hS.put z oq hA⟩
theorem ya_iast {q0 ad : Nat} {f : Nat → Int32} {i v : Int32} (C : xCx M p R s m args meth c g) (hP : va_P (xids g) xCl (xW g μ) H) (hS : va_S (xA g) s.heap H locs) (hA : xA g ad) (ha : (xW g μ)[q0]? = some (ad, .inl (xca g 50, n, .inl f))) (hi : vp_in i n) (hd : decode M.2.1 pc = .ok (.iastore, 1))
    (kk : ∀ (H1 : Heap) (locs1 : List Loc), va_P (xids g) xCl ((xW g μ).set q0 (ad, .inl (xca g 50, n, .inl (fun j => if j = i.toNatClampNeg then v else f j)))) H1 → va_S (xA g) s.heap H1 locs1 → H1.size = H.size → W p l e R s m args below meth c H1 locs1 cells slots Qf (F0 m (pc + 1) ls rest)) : W p l e R s m args below meth c H locs cells slots Qf (F0 m pc ls (.int v :: .int i :: .ref ad :: rest)) := by
  refine W.iast C.1.1 C.1.2.1 (hP q0 _ ha) ((C.2.2.1.1.2 0 _ rfl).1 n (fun j => .int (f j))) (fun q => by cases q) (by show ¬ (i < 0 ∨ (arrV _ _ _).slots.size ≤ _); rw [arrV_size]; exact hi) rfl rfl hd fun H1 e z oq => ?_
  obtain ⟨k1, k2⟩ := ya_cell (k := i.toNatClampNeg) (e1 := .inl (xca g 50, n, .inl (fun j => if j = i.toNatClampNeg then v else f j))) hP hS hA ha (show H1[ad]? = some (vp_cell _ _) by rw [e, vp_cell_i, vp_cell_i, arrV_store]; congr 2; funext q; by_cases hq : q = i.toNatClampNeg <;> simp [updV, hq]) z oq
  exact kk H1 _ k1 k2 z
theorem ya_zast {q0 ad : Nat} {f : Nat → Int32} {i v : Int32} (C : xCx M p R s m args meth c g) (hP : va_P (xids g) xCl (xW g μ) H) (hS : va_S (xA g) s.heap H locs) (hA : xA g ad) (ha : (xW g μ)[q0]? = some (ad, .inl (xca g 52, n, .inl f))) (hx : vp_nar .boolean v = v) (hi : vp_in i n) (hd : decode M.2.1 pc = .ok (.bastore, 1))
    (kk : ∀ (H1 : Heap) (locs1 : List Loc), va_P (xids g) xCl ((xW g μ).set q0 (ad, .inl (xca g 52, n, .inl (fun j => if j = i.toNatClampNeg then v else f j)))) H1 → va_S (xA g) s.heap H1 locs1 → H1.size = H.size → W p l e R s m args below meth c H1 locs1 cells slots Qf (F0 m (pc + 1) ls rest)) : W p l e R s m args below meth c H locs cells slots Qf (F0 m pc ls (.int v :: .int i :: .ref ad :: rest)) := by
  refine W.zast C.1.1 C.1.2.1 (hP q0 _ ha) ((C.2.2.1.1.2 2 _ rfl).1 n (fun j => .int (f j))) (fun q => by cases q) (by show ¬ (i < 0 ∨ (arrV _ _ _).slots.size ≤ _); rw [arrV_size]; exact hi) rfl rfl hd fun H1 e z oq => ?_
  obtain ⟨k1, k2⟩ := ya_cell (k := i.toNatClampNeg) (e1 := .inl (xca g 52, n, .inl (fun j => if j = i.toNatClampNeg then v else f j))) hP hS hA ha (show H1[ad]? = some (vp_cell _ _) by
    rw [e, vp_cell_i, vp_cell_i, arrV_store]
    congr 2
    funext q
    by_cases hq : q = i.toNatClampNeg
    · simp only [updV, hq, if_true]
      have h2 : narrow .boolean (.int v) = .int (vp_nar .boolean v) := rfl
      rw [h2, hx]
    · simp [updV, hq]) z oq
  exact kk H1 _ k1 k2 z
theorem ya_last {q0 ad : Nat} {f : Nat → Int64} {i : Int32} {v : Int64} (C : xCx M p R s m args meth c g) (hP : va_P (xids g) xCl (xW g μ) H) (hS : va_S (xA g) s.heap H locs) (hA : xA g ad) (ha : (xW g μ)[q0]? = some (ad, .inl (xca g 51, n, .inr (.inl f)))) (hi : vp_in i n) (hd : decode M.2.1 pc = .ok (.lastore, 1))
    (kk : ∀ (H1 : Heap) (locs1 : List Loc), va_P (xids g) xCl ((xW g μ).set q0 (ad, .inl (xca g 51, n, .inr (.inl (fun j => if j = i.toNatClampNeg then v else f j))))) H1 → va_S (xA g) s.heap H1 locs1 → H1.size = H.size → W p l e R s m args below meth c H1 locs1 cells slots Qf (F0 m (pc + 1) ls rest)) : W p l e R s m args below meth c H locs cells slots Qf (F0 m pc ls (.long v :: .int i :: .ref ad :: rest)) := by
  refine W.last C.1.1 C.1.2.1 (hP q0 _ ha) ((C.2.2.1.1.2 1 _ rfl).1 n (fun j => .long (f j))) (fun q => by cases q) (by show ¬ (i < 0 ∨ (arrV _ _ _).slots.size ≤ _); rw [arrV_size]; exact hi) rfl rfl hd fun H1 e z oq => ?_
  obtain ⟨k1, k2⟩ := ya_cell (k := i.toNatClampNeg) (e1 := .inl (xca g 51, n, .inr (.inl (fun j => if j = i.toNatClampNeg then v else f j)))) hP hS hA ha (show H1[ad]? = some (vp_cell _ _) by rw [e, vp_cell_l, vp_cell_l, arrV_store]; congr 2; funext q; by_cases hq : q = i.toNatClampNeg <;> simp [updV, hq]) z oq
  exact kk H1 _ k1 k2 z
theorem ya_astq {q0 ad qk kd ci bd : Nat} {r : vw_C} {vs : List Value} {f : Nat → Option Nat} {i : Int32} (C : xCx M p R s m args meth c g) (hP : va_P (xids g) xCl (xW g μ) H) (hS : va_S (xA g) s.heap H locs) (hA : xA g ad) (ha : (xW g μ)[q0]? = some (ad, .inl (xca g kd, n, .inr (.inr (.inr (.inr f)))))) (h1 : 52 < kd) (h2 : kd < 57) (hr : xET kd = .object r.1) (hv : (xW g μ)[qk]? = some (bd, .inr (ci, vs))) (hc : xCl[ci]? = some r) (hi : vp_in i n) (hd : decode M.2.1 pc = .ok (.aastore, 1))
    (kk : ∀ (H1 : Heap) (locs1 : List Loc), va_P (xids g) xCl ((xW g μ).set q0 (ad, .inl (xca g kd, n, .inr (.inr (.inr (.inr (fun j => if j = i.toNatClampNeg then some bd else f j))))))) H1 → va_S (xA g) s.heap H1 locs1 → H1.size = H.size → W p l e R s m args below meth c H1 locs1 cells slots Qf (F0 m (pc + 1) ls rest)) : W p l e R s m args below meth c H locs cells slots Qf (F0 m pc ls (.ref bd :: .int i :: .ref ad :: rest)) := by
  have hlt : i.toNatClampNeg < n := Nat.not_le.mp fun q => hi (Or.inr q)
  have h0 : ¬ i < 0 := fun q => hi (Or.inl q)
  obtain ⟨r', hr', cellV, g1, g2, g3, -⟩ := hP qk _ hv
  have hcls := (C.2.2.1.1.1 ci r hc).2
  obtain ⟨-, w2, -⟩ := xca_ref C.2.2.1 h1 h2
  rw [hr] at w2
  obtain ⟨kA, comp, k1, k2, k3, -⟩ := w2
  have hcomp : comp = (xids g).1 ci := Option.some.inj (k3.symm.trans hcls.1)
  subst hcomp
  obtain ⟨kC, hkC, -⟩ := hcls.2
  refine W.aast C.1.1 C.1.2.1 (hP q0 _ ha) (fun q h => by cases h) (fun h => by cases h) k1 k2 rfl hkC ⟨h0, by show _ < (arrV _ _ _).slots.size; rw [arrV_size]; exact hlt⟩ g1 (fun q h => by rw [g3] at h; cases h) (by rw [g2]; exact hkC) (by rw [g2]; exact va_assign hcls) rfl rfl hd fun H1 e z oq => ?_
  obtain ⟨w1, w2⟩ := ya_cell (k := i.toNatClampNeg) (e1 := .inl (xca g kd, n, .inr (.inr (.inr (.inr (fun j => if j = i.toNatClampNeg then some bd else f j)))))) hP hS hA ha (show H1[ad]? = some (vp_cell _ _) by rw [e, vp_cell_q, vp_cell_q, arrV_store]; congr 2; funext q; by_cases hq : q = i.toNatClampNeg <;> simp [updV, hq, va_rf]) z oq
  exact kk H1 _ w1 w2 z
theorem ya_copyi {q0 q1 a0 ad n0 n1 : Nat} {f f1 : Nat → Int32} {sp dp k9 : Int32} (C : xCx M p R s m args meth c g) (hml : c.maxLocals = ls.size) (hw : Cond.methodLink M.1.cls idx arraycopyName ∈ xTB) (hP : va_P (xids g) xCl (xW g μ) H) (hS : va_S (xA g) s.heap H locs) (hA : xA g ad) (ha0 : (xW g μ)[q0]? = some (a0, .inl (xca g 50, n0, .inl f))) (ha1 : (xW g μ)[q1]? = some (ad, .inl (xca g 50, n1, .inl f1))) (h1 : ¬ sp < 0) (h2 : ¬ dp < 0) (h3 : ¬ k9 < 0) (h4 : sp.toNatClampNeg + k9.toNatClampNeg ≤ n0) (h5 : dp.toNatClampNeg + k9.toNatClampNeg ≤ n1) (hfr : 1 ≤ R.frames) (hlo : (rest.map fun v => v.category).sum + (nativeFrameWords "java/lang/System" "arraycopy" 5 + 11) ≤ R.locals) (hd : decode M.2.1 pc = .ok (.invokestatic idx, 3))
    (kk : ∀ (H1 : Heap) (locs1 : List Loc), va_P (xids g) xCl ((xW g μ).set q1 (ad, .inl (xca g 50, n1, .inl (va_cpy f f1 sp.toNatClampNeg dp.toNatClampNeg k9.toNatClampNeg)))) H1 → va_S (xA g) s.heap H1 locs1 → H1.size = H.size → W p l e R s m args below meth c H1 locs1 cells slots Qf (F0 m (pc + 3) ls rest)) : W p l e R s m args below meth c H locs cells slots Qf (F0 m pc ls (.int k9 :: .int dp :: .ref ad :: .int sp :: .ref a0 :: rest)) := by
  have nn : ∀ z : Int32, ¬ z < 0 → z.toInt = (z.toNatClampNeg : Int) := fun z hz => by
    have h0 : (0 : Int) ≤ z.toInt := by simpa using Int32.le_iff_toInt_le.mp (Int32.not_lt.mp hz)
    show z.toInt = ((z.toInt.toNat : Nat) : Int)
    omega
  intro T hT X
  have hc0 := hP q0 _ ha0
  have hc1 := hP q1 _ ha1
  obtain ⟨-, k0, hk0, cm0, hkk0⟩ := (C.2.2.1.1.2 0 _ rfl).1 n0 (fun j => .int (f j))
  obtain ⟨-, k1, hk1, cm1, hkk1⟩ := (C.2.2.1.1.2 0 _ rfl).1 n1 (fun j => .int (f1 j))
  have hlt : ad < H.size := (Array.getElem?_eq_some_iff.mp hc1).1
  obtain ⟨vm', X', step⟩ := X.arraycopy C.1.1 C.1.2.2.2.1 (C.1.2.2.2.2 _ hw) (C.1.2.2.2.2 _ xnat) (C.1.2.2.2.2 _ xsta) (C.1.2.2.2.2 _ xsys) (src := a0) (dst := ad) (cs := vp_cell (xca g 50) (n0, .inl f)) (cd := vp_cell (xca g 50) (n1, .inl f1)) (srcPos := sp) (destPos := dp) (n := k9) (by rw [hT]; exact hc0) (by rw [hT]; exact hc1)
    (fun _ h => by cases h) (fun _ h => by cases h) (fun h => by cases h) (fun h => by cases h) hk0 hk1 hkk0 hkk1 rfl h1 h2 h3
    (by rw [nn sp h1, nn k9 h3]; show ¬ _ > ((arrV _ n0 _).slots.size : Int); rw [arrV_size]; omega)
    (by rw [nn dp h2, nn k9 h3]; show ¬ _ > ((arrV _ n1 _).slots.size : Int); rw [arrV_size]; omega)
    (fun vm₁ _ i hi => by
      have e9 : (vp_cell (xca g 50) (n0, .inl f)).slots.getD (sp.toNatClampNeg + i) .null = .int (f (sp.toNatClampNeg + i)) := by
        show (arrV _ n0 _).slots.getD _ _ = _
        rw [Array.getD_eq_getD_getElem?, arrV_read _ _ (by omega)]
        rfl
      rw [e9]
      exact ⟨rfl, trivial⟩)
    (g := F0 m pc ls (.int k9 :: .int dp :: .ref ad :: .int sp :: .ref a0 :: rest)) rfl (by rw [hml]) (rest := rest) rfl (by rw [C.1.2.1]; exact hd) hfr (by show 2 * 0 + _ + _ ≤ _; omega)
  have e1 : copied (vp_cell (xca g 50) (n0, .inl f)) (vp_cell (xca g 50) (n1, .inl f1)) sp dp k9 = vp_cell (xca g 50) (n1, .inl (va_cpy f f1 sp.toNatClampNeg dp.toNatClampNeg k9.toNatClampNeg)) := va_copied (fun z => .int z) _ _ f f1 h4
  rw [e1] at X' step
  have oq : ∀ q, q ≠ ad → (H.setIfInBounds ad (vp_cell (xca g 50) (n1, .inl (va_cpy f f1 sp.toNatClampNeg dp.toNatClampNeg k9.toNatClampNeg))))[q]? = H[q]? := fun q hq => by simp [Array.getElem?_setIfInBounds, Ne.symm hq]
  have hheap : ((T.setVm vm').setCell ad (vp_cell (xca g 50) (n1, .inl (va_cpy f f1 sp.toNatClampNeg dp.toNatClampNeg k9.toNatClampNeg)))).heap = H.setIfInBounds ad (vp_cell (xca g 50) (n1, .inl (va_cpy f f1 sp.toNatClampNeg dp.toNatClampNeg k9.toNatClampNeg))) := by rw [← hT]; rfl
  obtain ⟨t, a1, b1⟩ := kk _ _ (va_P.set hP (xW_D g μ) ha1 (show (H.setIfInBounds ad _)[ad]? = some _ by simp [Array.getElem?_setIfInBounds, hlt]) oq) ⟨by simp; exact hS.1, fun q g1 g2 => by
      rw [oq q (fun e => g2 (by rw [e]; exact hA))]
      exact hS.2.1 q g1 g2, fun q hq => by
      rcases List.mem_append.mp hq with h | h
      · exact hS.2.2 q h
      · obtain ⟨z, -, hz⟩ := List.mem_map.mp h
        rw [← hz]
        exact hA⟩ (by simp) _ hheap X'
  exact ⟨t, step t a1, b1⟩
theorem ya_copyl {q0 q1 a0 ad n0 n1 : Nat} {f f1 : Nat → Int64} {sp dp k9 : Int32} (C : xCx M p R s m args meth c g) (hml : c.maxLocals = ls.size) (hw : Cond.methodLink M.1.cls idx arraycopyName ∈ xTB) (hP : va_P (xids g) xCl (xW g μ) H) (hS : va_S (xA g) s.heap H locs) (hA : xA g ad) (ha0 : (xW g μ)[q0]? = some (a0, .inl (xca g 51, n0, .inr (.inl f)))) (ha1 : (xW g μ)[q1]? = some (ad, .inl (xca g 51, n1, .inr (.inl f1)))) (h1 : ¬ sp < 0) (h2 : ¬ dp < 0) (h3 : ¬ k9 < 0) (h4 : sp.toNatClampNeg + k9.toNatClampNeg ≤ n0) (h5 : dp.toNatClampNeg + k9.toNatClampNeg ≤ n1) (hfr : 1 ≤ R.frames) (hlo : (rest.map fun v => v.category).sum + (nativeFrameWords "java/lang/System" "arraycopy" 5 + 11) ≤ R.locals) (hd : decode M.2.1 pc = .ok (.invokestatic idx, 3))
    (kk : ∀ (H1 : Heap) (locs1 : List Loc), va_P (xids g) xCl ((xW g μ).set q1 (ad, .inl (xca g 51, n1, .inr (.inl (va_cpy f f1 sp.toNatClampNeg dp.toNatClampNeg k9.toNatClampNeg))))) H1 → va_S (xA g) s.heap H1 locs1 → H1.size = H.size → W p l e R s m args below meth c H1 locs1 cells slots Qf (F0 m (pc + 3) ls rest)) : W p l e R s m args below meth c H locs cells slots Qf (F0 m pc ls (.int k9 :: .int dp :: .ref ad :: .int sp :: .ref a0 :: rest)) := by
  have nn : ∀ z : Int32, ¬ z < 0 → z.toInt = (z.toNatClampNeg : Int) := fun z hz => by
    have h0 : (0 : Int) ≤ z.toInt := by simpa using Int32.le_iff_toInt_le.mp (Int32.not_lt.mp hz)
    show z.toInt = ((z.toInt.toNat : Nat) : Int)
    omega
  intro T hT X
  have hc0 := hP q0 _ ha0
  have hc1 := hP q1 _ ha1
  obtain ⟨-, k0, hk0, cm0, hkk0⟩ := (C.2.2.1.1.2 1 _ rfl).1 n0 (fun j => .long (f j))
  obtain ⟨-, k1, hk1, cm1, hkk1⟩ := (C.2.2.1.1.2 1 _ rfl).1 n1 (fun j => .long (f1 j))
  have hlt : ad < H.size := (Array.getElem?_eq_some_iff.mp hc1).1
  obtain ⟨vm', X', step⟩ := X.arraycopy C.1.1 C.1.2.2.2.1 (C.1.2.2.2.2 _ hw) (C.1.2.2.2.2 _ xnat) (C.1.2.2.2.2 _ xsta) (C.1.2.2.2.2 _ xsys) (src := a0) (dst := ad) (cs := vp_cell (xca g 51) (n0, .inr (.inl f))) (cd := vp_cell (xca g 51) (n1, .inr (.inl f1))) (srcPos := sp) (destPos := dp) (n := k9) (by rw [hT]; exact hc0) (by rw [hT]; exact hc1)
    (fun _ h => by cases h) (fun _ h => by cases h) (fun h => by cases h) (fun h => by cases h) hk0 hk1 hkk0 hkk1 rfl h1 h2 h3
    (by rw [nn sp h1, nn k9 h3]; show ¬ _ > ((arrV _ n0 _).slots.size : Int); rw [arrV_size]; omega)
    (by rw [nn dp h2, nn k9 h3]; show ¬ _ > ((arrV _ n1 _).slots.size : Int); rw [arrV_size]; omega)
    (fun vm₁ _ i hi => by
      have e9 : (vp_cell (xca g 51) (n0, .inr (.inl f))).slots.getD (sp.toNatClampNeg + i) .null = .long (f (sp.toNatClampNeg + i)) := by
        show (arrV _ n0 _).slots.getD _ _ = _
        rw [Array.getD_eq_getD_getElem?, arrV_read _ _ (by omega)]
        rfl
      rw [e9]
      exact ⟨rfl, trivial⟩)
    (g := F0 m pc ls (.int k9 :: .int dp :: .ref ad :: .int sp :: .ref a0 :: rest)) rfl (by rw [hml]) (rest := rest) rfl (by rw [C.1.2.1]; exact hd) hfr (by show 2 * 0 + _ + _ ≤ _; omega)
  have e1 : copied (vp_cell (xca g 51) (n0, .inr (.inl f))) (vp_cell (xca g 51) (n1, .inr (.inl f1))) sp dp k9 = vp_cell (xca g 51) (n1, .inr (.inl (va_cpy f f1 sp.toNatClampNeg dp.toNatClampNeg k9.toNatClampNeg))) := va_copied (fun z => .long z) _ _ f f1 h4
  rw [e1] at X' step
  have oq : ∀ q, q ≠ ad → (H.setIfInBounds ad (vp_cell (xca g 51) (n1, .inr (.inl (va_cpy f f1 sp.toNatClampNeg dp.toNatClampNeg k9.toNatClampNeg)))))[q]? = H[q]? := fun q hq => by simp [Array.getElem?_setIfInBounds, Ne.symm hq]
  have hheap : ((T.setVm vm').setCell ad (vp_cell (xca g 51) (n1, .inr (.inl (va_cpy f f1 sp.toNatClampNeg dp.toNatClampNeg k9.toNatClampNeg))))).heap = H.setIfInBounds ad (vp_cell (xca g 51) (n1, .inr (.inl (va_cpy f f1 sp.toNatClampNeg dp.toNatClampNeg k9.toNatClampNeg)))) := by rw [← hT]; rfl
  obtain ⟨t, a1, b1⟩ := kk _ _ (va_P.set hP (xW_D g μ) ha1 (show (H.setIfInBounds ad _)[ad]? = some _ by simp [Array.getElem?_setIfInBounds, hlt]) oq) ⟨by simp; exact hS.1, fun q g1 g2 => by
      rw [oq q (fun e => g2 (by rw [e]; exact hA))]
      exact hS.2.1 q g1 g2, fun q hq => by
      rcases List.mem_append.mp hq with h | h
      · exact hS.2.2 q h
      · obtain ⟨z, -, hz⟩ := List.mem_map.mp h
        rw [← hz]
        exact hA⟩ (by simp) _ hheap X'
  exact ⟨t, step t a1, b1⟩
end XY
section XM
variable {M : xD} {pc : Nat} {L : List (Nat × Value)} {st : List Value} {μ : xM} {Q : Option Value → xM → Prop} {a idx ci N k n : Nat} {fin : Bool}

theorem xe_getI (hd : decode M.2.1 pc = .ok (.getfield idx, 3)) (hF : xFld M.1.cls idx ci N k .int fin) (hs : xSH a = (ci, N)) (ha : xin μ a) (h : xE M (pc + 3) L (.int (μ.2.1 a k) :: st) μ Q) : xE M pc L (.ref a :: st) μ Q := by
  obtain ⟨C0, T, hc, hk, hty, hfin, hw⟩ := hF
  obtain ⟨h5, q1, q2, q3, q4⟩ := xcls ci _ hc
  refine h.step rfl fun p l e R s m args below meth c g Qf H locs cells slots ls C hR hS hl kk => ?_
  exact va_get C.1.1 C.1.2.1 C.1.2.2.2.2 q1 C.1.2.2.2.1 C.2.2.1.1 hR.2.1 (a - 1) (xW_obj ha hs h5) hc k hk (C.1.2.2.2.2 _ hw) (fun x h9 => by rw [q4 k hk] at h9; exact h9) (by rw [xfs_at hk, hty]; rfl) hd (kk _ _ _ hR hS hl)
theorem xe_getL (hd : decode M.2.1 pc = .ok (.getfield idx, 3)) (hF : xFld M.1.cls idx ci N k .long fin) (hs : xSH a = (ci, N)) (ha : xin μ a) (h : xE M (pc + 3) L (.long (μ.2.2.1 a k) :: st) μ Q) : xE M pc L (.ref a :: st) μ Q := by
  obtain ⟨C0, T, hc, hk, hty, hfin, hw⟩ := hF
  obtain ⟨h5, q1, q2, q3, q4⟩ := xcls ci _ hc
  refine h.step rfl fun p l e R s m args below meth c g Qf H locs cells slots ls C hR hS hl kk => ?_
  exact va_get C.1.1 C.1.2.1 C.1.2.2.2.2 q1 C.1.2.2.2.1 C.2.2.1.1 hR.2.1 (a - 1) (xW_obj ha hs h5) hc k hk (C.1.2.2.2.2 _ hw) (fun x h9 => by rw [q4 k hk] at h9; exact h9) (by rw [xfs_at hk, hty]; rfl) hd (kk _ _ _ hR hS hl)
theorem xe_getR {ty : FieldType} {b : Nat} (hd : decode M.2.1 pc = .ok (.getfield idx, 3)) (hF : xFld M.1.cls idx ci N k ty fin) (hr : refKind ty = true) (hs : xSH a = (ci, N)) (ha : xin μ a) (hv : μ.2.2.2 a k = some b) (h : xE M (pc + 3) L (.ref b :: st) μ Q) : xE M pc L (.ref a :: st) μ Q := by
  obtain ⟨C0, T, hc, hk, hty, hfin, hw⟩ := hF
  obtain ⟨h5, q1, q2, q3, q4⟩ := xcls ci _ hc
  refine h.step rfl fun p l e R s m args below meth c g Qf H locs cells slots ls C hR hS hl kk => ?_
  exact va_get C.1.1 C.1.2.1 C.1.2.2.2.2 q1 C.1.2.2.2.1 C.2.2.1.1 hR.2.1 (a - 1) (xW_obj ha hs h5) hc k hk (C.1.2.2.2.2 _ hw) (fun x h9 => by rw [q4 k hk] at h9; exact h9) (by rw [xfs_at hk, hty]; cases ty <;> first | (simp only [xfv, hv]; rfl) | cases hr) hd (kk _ _ _ hR hS hl)
theorem xe_getN {ty : FieldType} (hd : decode M.2.1 pc = .ok (.getfield idx, 3)) (hF : xFld M.1.cls idx ci N k ty fin) (hr : refKind ty = true) (hs : xSH a = (ci, N)) (ha : xin μ a) (hv : μ.2.2.2 a k = none) (h : xE M (pc + 3) L (.null :: st) μ Q) : xE M pc L (.ref a :: st) μ Q := by
  obtain ⟨C0, T, hc, hk, hty, hfin, hw⟩ := hF
  obtain ⟨h5, q1, q2, q3, q4⟩ := xcls ci _ hc
  refine h.step rfl fun p l e R s m args below meth c g Qf H locs cells slots ls C hR hS hl kk => ?_
  exact va_get C.1.1 C.1.2.1 C.1.2.2.2.2 q1 C.1.2.2.2.1 C.2.2.1.1 hR.2.1 (a - 1) (xW_obj ha hs h5) hc k hk (C.1.2.2.2.2 _ hw) (fun x h9 => by rw [q4 k hk] at h9; exact h9) (by rw [xfs_at hk, hty]; cases ty <;> first | (simp only [xfv, hv]; rfl) | cases hr) hd (kk _ _ _ hR hS hl)
theorem xe_putI {v : Int32} (hd : decode M.2.1 pc = .ok (.putfield idx, 3)) (hF : xFld M.1.cls idx ci N k .int false) (hs : xSH a = (ci, N)) (ha : xin μ a) (h : xE M (pc + 3) L st (xwi μ a k v) Q) : xE M pc L (.int v :: .ref a :: st) μ Q := by
  obtain ⟨C0, T, hc, hk, hty, hfin, hw⟩ := hF
  obtain ⟨h5, q1, q2, q3, q4⟩ := xcls ci _ hc
  refine h.step rfl fun p l e R s m args below meth c g Qf H locs cells slots ls C hR hS hl kk => ?_
  have hz : ∀ H1 : Heap, va_P (xids g) xCl ((xW g μ).set (a - 1) (xad g a, .inr (ci, (xfs g μ ci N a).set k (xup g (.int v))))) H1 → H1.size = H.size → xR g (xwi μ a k v) H1 := fun H1 hP1 z => by
    refine xR_put hR ha rfl ?_ ?_ hP1 z
    · rw [xcell_obj hs h5, ← xfs_set (μ := μ) (v := xup g (.int v)) hk (by rw [hty]; simp [xfv, xwi, up2_self, xup]) (fun j hj t => by cases t <;> simp [xfv, xwi, xwl, xwr, up2_nek hj])]
    · exact fun b hb => xcell_other (by simp [xwi, xwl, xwr, up2_ne hb]) (by simp [xwi, xwl, xwr, up2_ne hb]) (by simp [xwi, xwl, xwr, up2_ne hb])
  exact ya_put C hR.2.1 hS (xW_obj ha hs h5) (xad_A ha) hc hk hw (Or.inl hfin) (ty := .int) (v := xup g (.int v)) hty rfl rfl (by rw [xfs_len]; exact hk) hd (fun H1 locs1 p1 p3 hz1 => kk _ _ _ (hz H1 p1 hz1) p3 hl)
theorem xe_putL {v : Int64} (hd : decode M.2.1 pc = .ok (.putfield idx, 3)) (hF : xFld M.1.cls idx ci N k .long false) (hs : xSH a = (ci, N)) (ha : xin μ a) (h : xE M (pc + 3) L st (xwl μ a k v) Q) : xE M pc L (.long v :: .ref a :: st) μ Q := by
  obtain ⟨C0, T, hc, hk, hty, hfin, hw⟩ := hF
  obtain ⟨h5, q1, q2, q3, q4⟩ := xcls ci _ hc
  refine h.step rfl fun p l e R s m args below meth c g Qf H locs cells slots ls C hR hS hl kk => ?_
  have hz : ∀ H1 : Heap, va_P (xids g) xCl ((xW g μ).set (a - 1) (xad g a, .inr (ci, (xfs g μ ci N a).set k (xup g (.long v))))) H1 → H1.size = H.size → xR g (xwl μ a k v) H1 := fun H1 hP1 z => by
    refine xR_put hR ha rfl ?_ ?_ hP1 z
    · rw [xcell_obj hs h5, ← xfs_set (μ := μ) (v := xup g (.long v)) hk (by rw [hty]; simp [xfv, xwl, up2_self, xup]) (fun j hj t => by cases t <;> simp [xfv, xwi, xwl, xwr, up2_nek hj])]
    · exact fun b hb => xcell_other (by simp [xwi, xwl, xwr, up2_ne hb]) (by simp [xwi, xwl, xwr, up2_ne hb]) (by simp [xwi, xwl, xwr, up2_ne hb])
  exact ya_put C hR.2.1 hS (xW_obj ha hs h5) (xad_A ha) hc hk hw (Or.inl hfin) (ty := .long) (v := xup g (.long v)) hty rfl rfl (by rw [xfs_len]; exact hk) hd (fun H1 locs1 p1 p3 hz1 => kk _ _ _ (hz H1 p1 hz1) p3 hl)
theorem xe_putR {b : Nat} {D0 : String} (hd : decode M.2.1 pc = .ok (.putfield idx, 3)) (hF : xFld M.1.cls idx ci N k (.object D0) false) (hs : xSH a = (ci, N)) (ha : xin μ a) (h : xE M (pc + 3) L st (xwr μ a k (some b)) Q) : xE M pc L (.ref b :: .ref a :: st) μ Q := by
  obtain ⟨C0, T, hc, hk, hty, hfin, hw⟩ := hF
  obtain ⟨h5, q1, q2, q3, q4⟩ := xcls ci _ hc
  refine h.step rfl fun p l e R s m args below meth c g Qf H locs cells slots ls C hR hS hl kk => ?_
  have hz : ∀ H1 : Heap, va_P (xids g) xCl ((xW g μ).set (a - 1) (xad g a, .inr (ci, (xfs g μ ci N a).set k (xup g (.ref b))))) H1 → H1.size = H.size → xR g (xwr μ a k (some b)) H1 := fun H1 hP1 z => by
    refine xR_put hR ha rfl ?_ ?_ hP1 z
    · rw [xcell_obj hs h5, ← xfs_set (μ := μ) (v := xup g (.ref b)) hk (by rw [hty]; simp [xfv, xwr, up2_self, xup, va_rf, xrf]) (fun j hj t => by cases t <;> simp [xfv, xwi, xwl, xwr, up2_nek hj])]
    · exact fun b hb => xcell_other (by simp [xwi, xwl, xwr, up2_ne hb]) (by simp [xwi, xwl, xwr, up2_ne hb]) (by simp [xwi, xwl, xwr, up2_ne hb])
  exact ya_put C hR.2.1 hS (xW_obj ha hs h5) (xad_A ha) hc hk hw (Or.inl hfin) (ty := (.object D0)) (v := xup g (.ref b)) hty rfl rfl (by rw [xfs_len]; exact hk) hd (fun H1 locs1 p1 p3 hz1 => kk _ _ _ (hz H1 p1 hz1) p3 hl)
theorem xe_putFO {b : Nat} {D0 : String} (hd : decode M.2.1 pc = .ok (.putfield idx, 3)) (hF : xFld M.1.cls idx ci N k (.object D0) true) (hini : M.1.name = "<init>") (hown : ∃ (C0 : String) (T : u_T), xCl[ci]? = some (C0, T, N) ∧ C0 = M.1.cls) (hs : xSH a = (ci, N)) (ha : xin μ a) (h : xE M (pc + 3) L st (xwr μ a k (some b)) Q) : xE M pc L (.ref b :: .ref a :: st) μ Q := by
  obtain ⟨C0, T, hc, hk, hty, hfin, hw⟩ := hF
  obtain ⟨h5, q1, q2, q3, q4⟩ := xcls ci _ hc
  refine h.step rfl fun p l e R s m args below meth c g Qf H locs cells slots ls C hR hS hl kk => ?_
  have hz : ∀ H1 : Heap, va_P (xids g) xCl ((xW g μ).set (a - 1) (xad g a, .inr (ci, (xfs g μ ci N a).set k (xup g (.ref b))))) H1 → H1.size = H.size → xR g (xwr μ a k (some b)) H1 := fun H1 hP1 z => by
    refine xR_put hR ha rfl ?_ ?_ hP1 z
    · rw [xcell_obj hs h5, ← xfs_set (μ := μ) (v := xup g (.ref b)) hk (by rw [hty]; simp [xfv, xwr, up2_self, xup, va_rf, xrf]) (fun j hj t => by cases t <;> simp [xfv, xwi, xwl, xwr, up2_nek hj])]
    · exact fun b hb => xcell_other (by simp [xwi, xwl, xwr, up2_ne hb]) (by simp [xwi, xwl, xwr, up2_ne hb]) (by simp [xwi, xwl, xwr, up2_ne hb])
  exact ya_put C hR.2.1 hS (xW_obj ha hs h5) (xad_A ha) hc hk hw (Or.inr ⟨hfin, C.2.2.2.2.1.trans hini, by obtain ⟨C1, T1, e1, e2⟩ := hown; cases Option.some.inj (hc.symm.trans e1); exact e2⟩) (ty := (.object D0)) (v := xup g (.ref b)) hty rfl rfl (by rw [xfs_len]; exact hk) hd (fun H1 locs1 p1 p3 hz1 => kk _ _ _ (hz H1 p1 hz1) p3 hl)
theorem xe_putFA {b : Nat} {D0 : FieldType} (hd : decode M.2.1 pc = .ok (.putfield idx, 3)) (hF : xFld M.1.cls idx ci N k (.array D0) true) (hini : M.1.name = "<init>") (hown : ∃ (C0 : String) (T : u_T), xCl[ci]? = some (C0, T, N) ∧ C0 = M.1.cls) (hs : xSH a = (ci, N)) (ha : xin μ a) (h : xE M (pc + 3) L st (xwr μ a k (some b)) Q) : xE M pc L (.ref b :: .ref a :: st) μ Q := by
  obtain ⟨C0, T, hc, hk, hty, hfin, hw⟩ := hF
  obtain ⟨h5, q1, q2, q3, q4⟩ := xcls ci _ hc
  refine h.step rfl fun p l e R s m args below meth c g Qf H locs cells slots ls C hR hS hl kk => ?_
  have hz : ∀ H1 : Heap, va_P (xids g) xCl ((xW g μ).set (a - 1) (xad g a, .inr (ci, (xfs g μ ci N a).set k (xup g (.ref b))))) H1 → H1.size = H.size → xR g (xwr μ a k (some b)) H1 := fun H1 hP1 z => by
    refine xR_put hR ha rfl ?_ ?_ hP1 z
    · rw [xcell_obj hs h5, ← xfs_set (μ := μ) (v := xup g (.ref b)) hk (by rw [hty]; simp [xfv, xwr, up2_self, xup, va_rf, xrf]) (fun j hj t => by cases t <;> simp [xfv, xwi, xwl, xwr, up2_nek hj])]
    · exact fun b hb => xcell_other (by simp [xwi, xwl, xwr, up2_ne hb]) (by simp [xwi, xwl, xwr, up2_ne hb]) (by simp [xwi, xwl, xwr, up2_ne hb])
  exact ya_put C hR.2.1 hS (xW_obj ha hs h5) (xad_A ha) hc hk hw (Or.inr ⟨hfin, C.2.2.2.2.1.trans hini, by obtain ⟨C1, T1, e1, e2⟩ := hown; cases Option.some.inj (hc.symm.trans e1); exact e2⟩) (ty := (.array D0)) (v := xup g (.ref b)) hty rfl rfl (by rw [xfs_len]; exact hk) hd (fun H1 locs1 p1 p3 hz1 => kk _ _ _ (hz H1 p1 hz1) p3 hl)
theorem xe_iaload {i : Int32} (hd : decode M.2.1 pc = .ok (.iaload, 1)) (hs : xSH a = (50, n)) (ha : xin μ a) (hi : vp_in i n) (h : xE M (pc + 1) L (.int (μ.2.1 a i.toNatClampNeg) :: st) μ Q) : xE M pc L (.int i :: .ref a :: st) μ Q :=
  h.step rfl fun p l e R s m args below meth c g Qf H locs cells slots ls C hR hS hl kk => va_iald C.1.1 C.1.2.1 C.2.2.1.1 hR.2.1 (a - 1) 0 (xW_arr ha (xcell_int hs)) rfl hi hd (kk _ _ _ hR hS hl)
theorem xe_zaload {i : Int32} (hd : decode M.2.1 pc = .ok (.baload, 1)) (hs : xSH a = (52, n)) (ha : xin μ a) (hi : vp_in i n) (h : xE M (pc + 1) L (.int (μ.2.1 a i.toNatClampNeg) :: st) μ Q) : xE M pc L (.int i :: .ref a :: st) μ Q :=
  h.step rfl fun p l e R s m args below meth c g Qf H locs cells slots ls C hR hS hl kk => va_zald C.1.1 C.1.2.1 C.2.2.1.1 hR.2.1 (a - 1) 2 (xW_arr ha (xcell_bool hs)) rfl hi hd (kk _ _ _ hR hS hl)
theorem xe_laload {i : Int32} (hd : decode M.2.1 pc = .ok (.laload, 1)) (hs : xSH a = (51, n)) (ha : xin μ a) (hi : vp_in i n) (h : xE M (pc + 1) L (.long (μ.2.2.1 a i.toNatClampNeg) :: st) μ Q) : xE M pc L (.int i :: .ref a :: st) μ Q :=
  h.step rfl fun p l e R s m args below meth c g Qf H locs cells slots ls C hR hS hl kk => va_lald C.1.1 C.1.2.1 C.2.2.1.1 hR.2.1 (a - 1) 1 (xW_arr ha (xcell_long hs)) rfl hi hd (kk _ _ _ hR hS hl)
theorem xe_aaload {i : Int32} {kd b : Nat} (hd : decode M.2.1 pc = .ok (.aaload, 1)) (hs : xSH a = (kd, n)) (h1 : 52 < kd) (h2 : kd < 57) (ha : xin μ a) (hi : vp_in i n) (hv : μ.2.2.2 a i.toNatClampNeg = some b) (h : xE M (pc + 1) L (.ref b :: st) μ Q) : xE M pc L (.int i :: .ref a :: st) μ Q := by
  refine h.step rfl fun p l e R s m args below meth c g Qf H locs cells slots ls C hR hS hl kk => ?_
  obtain ⟨k1, -, k3⟩ := xca_ref C.2.2.1 h1 h2
  have hlt : i.toNatClampNeg < n := Nat.not_le.mp fun q => hi (Or.inr q)
  exact W.aald (v := xup g (.ref b)) (ty := xET kd) C.1.1 C.1.2.1 (hR.2.1 (a - 1) _ (xW_arr ha (xcell_ref hs h1))) (k1 n (fun j => va_rf (xrf g (μ.2.2.2 a j)))) k3 (fun q => by cases q) (by show ¬ (i < 0 ∨ (arrV _ _ _).slots.size ≤ _); rw [arrV_size]; exact hi) (by show (arrV _ _ _).slots[_]? = _; rw [arrV_read _ _ hlt]; show some (va_rf (xrf g (μ.2.2.2 a i.toNatClampNeg))) = _; rw [hv]; rfl) rfl rfl hd (kk _ _ _ hR hS hl)
theorem xe_iastore {i : Int32} {v : Int32} (hd : decode M.2.1 pc = .ok (.iastore, 1)) (hs : xSH a = (50, n)) (ha : xin μ a) (hi : vp_in i n) (h : xE M (pc + 1) L st (xwi μ a i.toNatClampNeg v) Q) : xE M pc L (.int v :: .int i :: .ref a :: st) μ Q := by
  refine h.step rfl fun p l e R s m args below meth c g Qf H locs cells slots ls C hR hS hl kk => ?_
  refine ya_iast C hR.2.1 hS (xad_A ha) (xW_arr ha (xcell_int hs)) hi hd (fun H1 locs1 p1 p3 hz1 => kk _ _ _ (xR_put hR ha rfl ?_ ?_ p1 hz1) p3 hl)
  · rw [xcell_int hs]
    exact congrArg (fun f : Nat → Int32 => (.inl (xca g 50, n, .inl f) : va_E)) up2_at
  · exact fun b hb => xcell_other (by simp [xwi, xwl, xwr, up2_ne hb]) (by simp [xwi, xwl, xwr, up2_ne hb]) (by simp [xwi, xwl, xwr, up2_ne hb])
theorem xe_zastore {i : Int32} {v : Int32} (hd : decode M.2.1 pc = .ok (.bastore, 1)) (hs : xSH a = (52, n)) (ha : xin μ a) (hi : vp_in i n) (hx : vp_nar .boolean v = v) (h : xE M (pc + 1) L st (xwi μ a i.toNatClampNeg v) Q) : xE M pc L (.int v :: .int i :: .ref a :: st) μ Q := by
  refine h.step rfl fun p l e R s m args below meth c g Qf H locs cells slots ls C hR hS hl kk => ?_
  refine ya_zast C hR.2.1 hS (xad_A ha) (xW_arr ha (xcell_bool hs)) hx hi hd (fun H1 locs1 p1 p3 hz1 => kk _ _ _ (xR_put hR ha rfl ?_ ?_ p1 hz1) p3 hl)
  · rw [xcell_bool hs]
    exact congrArg (fun f : Nat → Int32 => (.inl (xca g 52, n, .inl f) : va_E)) up2_at
  · exact fun b hb => xcell_other (by simp [xwi, xwl, xwr, up2_ne hb]) (by simp [xwi, xwl, xwr, up2_ne hb]) (by simp [xwi, xwl, xwr, up2_ne hb])
theorem xe_lastore {i : Int32} {v : Int64} (hd : decode M.2.1 pc = .ok (.lastore, 1)) (hs : xSH a = (51, n)) (ha : xin μ a) (hi : vp_in i n) (h : xE M (pc + 1) L st (xwl μ a i.toNatClampNeg v) Q) : xE M pc L (.long v :: .int i :: .ref a :: st) μ Q := by
  refine h.step rfl fun p l e R s m args below meth c g Qf H locs cells slots ls C hR hS hl kk => ?_
  refine ya_last C hR.2.1 hS (xad_A ha) (xW_arr ha (xcell_long hs)) hi hd (fun H1 locs1 p1 p3 hz1 => kk _ _ _ (xR_put hR ha rfl ?_ ?_ p1 hz1) p3 hl)
  · rw [xcell_long hs]
    exact congrArg (fun f : Nat → Int64 => (.inl (xca g 51, n, .inr (.inl f)) : va_E)) up2_at
  · exact fun b hb => xcell_other (by simp [xwi, xwl, xwr, up2_ne hb]) (by simp [xwi, xwl, xwr, up2_ne hb]) (by simp [xwi, xwl, xwr, up2_ne hb])
theorem xe_aastore {i : Int32} {kd b N2 : Nat} {r : vw_C} (hd : decode M.2.1 pc = .ok (.aastore, 1)) (hs : xSH a = (kd, n)) (h1 : 52 < kd) (h2 : kd < 55) (ha : xin μ a) (hi : vp_in i n) (hb : xin μ b) (hsb : xSH b = (ci, N2)) (hc : xCl[ci]? = some r) (hr : xET kd = .object r.1) (h : xE M (pc + 1) L st (xwr μ a i.toNatClampNeg (some b)) Q) : xE M pc L (.ref b :: .int i :: .ref a :: st) μ Q := by
  have h5 := (xcls ci _ hc).1
  refine h.step rfl fun p l e R s m args below meth c g Qf H locs cells slots ls C hR hS hl kk => ?_
  refine ya_astq C hR.2.1 hS (xad_A ha) (xW_arr ha (xcell_ref hs h1)) h1 (by omega) hr (xW_obj hb hsb h5) hc hi hd (fun H1 locs1 p1 p3 hz1 => kk _ _ _ (xR_put hR ha rfl ?_ ?_ p1 hz1) p3 hl)
  · rw [xcell_ref hs h1]
    refine congrArg (fun f : Nat → Option Nat => (.inl (xca g kd, n, .inr (.inr (.inr (.inr f)))) : va_E)) (funext fun j => ?_)
    simp only [xwr, up2_at]
    by_cases hj : j = i.toNatClampNeg
    · rw [if_pos hj, if_pos hj]
      rfl
    · rw [if_neg hj, if_neg hj]
  · exact fun b hb => xcell_other (by simp [xwr]) (by simp [xwr]) (by simp [xwr, up2_ne hb])
theorem xe_copyi {b n2 : Nat} {sp dp m9 : Int32} (hd : decode M.2.1 pc = .ok (.invokestatic idx, 3)) (hw : Cond.methodLink M.1.cls idx arraycopyName ∈ xTB) (hro : 1 ≤ M.2.2.2.2.1 ∧ (st.map fun v => v.category).sum + (nativeFrameWords "java/lang/System" "arraycopy" 5 + 11) ≤ M.2.2.2.2.2) (hs : xSH a = (50, n)) (ha : xin μ a) (hs2 : xSH b = (50, n2)) (hb : xin μ b) (h1 : ¬ sp < 0) (h2 : ¬ dp < 0) (h3 : ¬ m9 < 0) (h4 : sp.toNatClampNeg + m9.toNatClampNeg ≤ n) (h5 : dp.toNatClampNeg + m9.toNatClampNeg ≤ n2)
    (h : xE M (pc + 3) L st (xci μ a b sp.toNatClampNeg dp.toNatClampNeg m9.toNatClampNeg) Q) : xE M pc L (.int m9 :: .int dp :: .ref b :: .int sp :: .ref a :: st) μ Q := by
  refine h.step rfl fun p l e R s m args below meth c g Qf H locs cells slots ls C hR hS hl kk => ?_
  refine ya_copyi C (C.1.2.2.1.trans hl.1.symm) hw hR.2.1 hS (xad_A hb) (xW_arr ha (xcell_int hs)) (xW_arr hb (xcell_int hs2)) h1 h2 h3 h4 h5 (Nat.le_trans hro.1 C.2.1.1) (by rw [List.map_map, show ((fun v : Value => v.category) ∘ xup g) = (fun v : Value => v.category) from funext (xup_cat g)]; exact Nat.le_trans hro.2 C.2.1.2) hd (fun H1 locs1 p1 p3 hz1 => kk _ _ _ (xR_put hR hb rfl ?_ ?_ p1 hz1) p3 hl)
  · rw [xcell_int hs2]
    exact congrArg (fun f : Nat → Int32 => (.inl (xca g 50, n2, .inl f) : va_E)) cp2_at
  · exact fun b9 hb9 => xcell_other (by simp [xci, xcl, cp2_ne hb9]) (by simp [xci, xcl, cp2_ne hb9]) (by simp [xci, xcl])
theorem xe_copyl {b n2 : Nat} {sp dp m9 : Int32} (hd : decode M.2.1 pc = .ok (.invokestatic idx, 3)) (hw : Cond.methodLink M.1.cls idx arraycopyName ∈ xTB) (hro : 1 ≤ M.2.2.2.2.1 ∧ (st.map fun v => v.category).sum + (nativeFrameWords "java/lang/System" "arraycopy" 5 + 11) ≤ M.2.2.2.2.2) (hs : xSH a = (51, n)) (ha : xin μ a) (hs2 : xSH b = (51, n2)) (hb : xin μ b) (h1 : ¬ sp < 0) (h2 : ¬ dp < 0) (h3 : ¬ m9 < 0) (h4 : sp.toNatClampNeg + m9.toNatClampNeg ≤ n) (h5 : dp.toNatClampNeg + m9.toNatClampNeg ≤ n2)
    (h : xE M (pc + 3) L st (xcl μ a b sp.toNatClampNeg dp.toNatClampNeg m9.toNatClampNeg) Q) : xE M pc L (.int m9 :: .int dp :: .ref b :: .int sp :: .ref a :: st) μ Q := by
  refine h.step rfl fun p l e R s m args below meth c g Qf H locs cells slots ls C hR hS hl kk => ?_
  refine ya_copyl C (C.1.2.2.1.trans hl.1.symm) hw hR.2.1 hS (xad_A hb) (xW_arr ha (xcell_long hs)) (xW_arr hb (xcell_long hs2)) h1 h2 h3 h4 h5 (Nat.le_trans hro.1 C.2.1.1) (by rw [List.map_map, show ((fun v : Value => v.category) ∘ xup g) = (fun v : Value => v.category) from funext (xup_cat g)]; exact Nat.le_trans hro.2 C.2.1.2) hd (fun H1 locs1 p1 p3 hz1 => kk _ _ _ (xR_put hR hb rfl ?_ ?_ p1 hz1) p3 hl)
  · rw [xcell_long hs2]
    exact congrArg (fun f : Nat → Int64 => (.inl (xca g 51, n2, .inr (.inl f)) : va_E)) cp2_at
  · exact fun b9 hb9 => xcell_other (by simp [xci, xcl, cp2_ne hb9]) (by simp [xci, xcl, cp2_ne hb9]) (by simp [xci, xcl])
end XM
