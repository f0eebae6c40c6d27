/-! a row comes, a row goes -/
def nrm (c : Nat) (a b d : Int32) : Nat → Int32 := row3 a (if 1 < c then b else 0) (if 2 < c then d else 0)
noncomputable def tpos (T : TBL) (t : Nat) (r : Nat → Int32) : Nat := cntlt (T.2.2 t) r (T.2.1 t)
noncomputable def tHas (T : TBL) (t : Nat) (r : Nat → Int32) : Bool := decide (tpos T t r < T.2.1 t) && decide (rcmp (T.2.2 t (tpos T t r)) r = 0)
def insX (X : Nat → Nat → Int32) (p : Nat) (r : Nat → Int32) : Nat → Nat → Int32 := fun i => if i < p then X i else if i = p then r else X (i - 1)
def delX (X : Nat → Nat → Int32) (p : Nat) : Nat → Nat → Int32 := fun i => if i < p then X i else X (i + 1)
def setT {α : Type} (f : Nat → α) (t : Nat) (v : α) : Nat → α := fun k => if k = t then v else f k
noncomputable def tIns (T : TBL) (t : Nat) (r : Nat → Int32) : TBL := (T.1, setT T.2.1 t (T.2.1 t + 1), setT T.2.2 t (insX (T.2.2 t) (tpos T t r) r))
noncomputable def tDel (T : TBL) (t : Nat) (r : Nat → Int32) : TBL := (T.1, setT T.2.1 t (T.2.1 t - 1), setT T.2.2 t (delX (T.2.2 t) (tpos T t r)))
/-- put, in a table that is -/
noncomputable def tPut (T : TBL) (t : Nat) (r : Nat → Int32) : Int32 × TBL := if tHas T t r = true then (0, T) else if 40 ≤ T.2.1 t then (-1, T) else (1, tIns T t r)
noncomputable def tDrop (T : TBL) (t : Nat) (r : Nat → Int32) : Bool × TBL := if tHas T t r = true then (true, tDel T t r) else (false, T)
theorem setT_at {α : Type} {f : Nat → α} {t : Nat} {v : α} : setT f t v t = v := if_pos rfl
theorem setT_ne {α : Type} {f : Nat → α} {t k : Nat} {v : α} (h : k ≠ t) : setT f t v k = f k := if_neg h
theorem tIns_TI {T : TBL} (hT : TI T) {t : Nat} {r : Nat → Int32} (ht : t < 8) (h0 : T.1 t ≠ 0) (hn : T.2.1 t < 40) (hr : ∀ c, T.1 t ≤ c → c < 3 → r c = 0) (hh : ¬ tHas T t r = true) : TI (tIns T t r) := by
  intro k hk
  by_cases h : k = t
  · subst h
    obtain ⟨i1, i2, i3, i4, i5⟩ := hT k hk
    obtain ⟨s1, s2⟩ := cntlt_sorted (r := r) i5
    have sle := cntlt_le (T.2.2 k) r (T.2.1 k)
    simp only [tIns, setT_at]
    have hp : tpos T k r = cntlt (T.2.2 k) r (T.2.1 k) := rfl
    simp only [tHas, Bool.and_eq_true, decide_eq_true_eq, not_and, hp] at hh
    rw [hp]
    generalize cntlt (T.2.2 k) r (T.2.1 k) = p at s1 s2 sle hh
    have s3 : ∀ i, p ≤ i → i < T.2.1 k → rlt r (T.2.2 k i) := fun i a b => by
      have hrp : rlt r (T.2.2 k p) := by
        rcases rtri (T.2.2 k p) r with q | q | q
        · exact absurd q (s2 p (Nat.le_refl _) (by omega))
        · exact absurd (rcmp_eq.mpr q) (hh (by omega))
        · exact q
      rcases Nat.eq_or_lt_of_le a with q | q
      · rw [← q]; exact hrp
      · exact rlt_trans hrp (i5 p i q b)
    refine ⟨i1, by omega, fun q => absurd q h0, fun i c hi hc h3 => ?_, fun i j hij hj => ?_⟩
    · unfold insX
      by_cases q : i < p
      · rw [if_pos q]; exact i4 i c (by omega) hc h3
      · rw [if_neg q]
        by_cases q2 : i = p
        · rw [if_pos q2]; exact hr c hc h3
        · rw [if_neg q2]; exact i4 (i - 1) c (by omega) hc h3
    · unfold insX
      by_cases q1 : i < p
      · rw [if_pos q1]
        by_cases q2 : j < p
        · rw [if_pos q2]; exact i5 i j hij (by omega)
        · rw [if_neg q2]
          by_cases q3 : j = p
          · rw [if_pos q3]; exact s1 i q1
          · rw [if_neg q3]; exact i5 i (j - 1) (by omega) (by omega)
      · rw [if_neg q1, if_neg (show ¬ j < p by omega), if_neg (show ¬ j = p by omega)]
        by_cases q3 : i = p
        · rw [if_pos q3]; exact s3 (j - 1) (by omega) (by omega)
        · rw [if_neg q3]; exact i5 (i - 1) (j - 1) (by omega) (by omega)
  · simp only [tIns, setT_ne h]
    exact hT k hk
theorem tDel_TI {T : TBL} (hT : TI T) {t : Nat} {r : Nat → Int32} (ht : t < 8) (hh : tHas T t r = true) : TI (tDel T t r) := by
  intro k hk
  by_cases h : k = t
  · subst h
    obtain ⟨i1, i2, i3, i4, i5⟩ := hT k hk
    simp only [tHas, Bool.and_eq_true, decide_eq_true_eq] at hh
    simp only [tDel, setT_at]
    generalize tpos T k r = p at hh
    refine ⟨i1, by omega, fun q => by have := i3 q; omega, fun i c hi hc h3 => ?_, fun i j hij hj => ?_⟩
    · unfold delX
      by_cases q : i < p
      · rw [if_pos q]; exact i4 i c (by omega) hc h3
      · rw [if_neg q]; exact i4 (i + 1) c (by omega) hc h3
    · unfold delX
      by_cases q1 : i < p
      · rw [if_pos q1]
        by_cases q2 : j < p
        · rw [if_pos q2]; exact i5 i j hij (by omega)
        · rw [if_neg q2]; exact i5 i (j + 1) (by omega) (by omega)
      · rw [if_neg q1, if_neg (show ¬ j < p by omega)]; exact i5 (i + 1) (j + 1) (by omega) (by omega)
  · simp only [tDel, setT_ne h]
    exact hT k hk
theorem tPut_TI {T : TBL} (hT : TI T) {t : Nat} {r : Nat → Int32} (ht : t < 8) (h0 : T.1 t ≠ 0) (hr : ∀ c, T.1 t ≤ c → c < 3 → r c = 0) : TI (tPut T t r).2 := by
  unfold tPut
  split
  · exact hT
  · split
    · exact hT
    · exact tIns_TI hT ht h0 (by omega) hr (by assumption)
theorem tDrop_TI {T : TBL} (hT : TI T) {t : Nat} {r : Nat → Int32} (ht : t < 8) : TI (tDrop T t r).2 := by
  unfold tDrop
  split
  · exact tDel_TI hT ht (by assumption)
  · exact hT

theorem gX6_isAt_0 (u : xU) (t n cols : Nat) (i : Nat) (a b c : Int32) {Q : Option Value → xM → Prop} (ht : t < 8) (hcols : cols ≤ 3) (hn : n ≤ 40) (hi : i < 2147483648) (v1 : u.1 (156 + 2 * t) 0 = nI (cols)) (v2 : u.1 (156 + 2 * t) 1 = nI (n))
    (k1 : n ≤ i → Q (some (.int (nI (0)))) (xmm u))
    (k2 : ¬ n ≤ i → ¬ (rcmp (fun j => u.1 (157 + 2 * t) (i * 3 + j)) (row3 a b c)) = 0 → Q (some (.int (nI (0)))) (xmm u))
    (k3 : ¬ n ≤ i → (rcmp (fun j => u.1 (157 + 2 * t) (i * 3 + j)) (row3 a b c)) = 0 → Q (some (.int (nI (1)))) (xmm u)) : xE mX6_isAt 0 [(0, .ref (156 + 2 * t)), (1, .int (nI (i))), (2, .int (a)), (3, .int (b)), (4, .int (c))] [] (xmm u) Q := by
  refine xe_iload_n 1 dX6_isAt_0 rfl rfl ?_
  refine xe_aload_n 0 dX6_isAt_1 rfl rfl ?_
  refine xr_getI (v := nI (n)) dX6_isAt_2 fX6_19 (shT _ (by omega)) (by omega) v2 ?_
  refine xn_icmp_ge 24 dX6_isAt_5 (by decide) (by omega) (by omega) (fun c1 => ?_) (fun c1 => ?_)
  · refine xe_iconst (v := nI (0)) dX6_isAt_24 xc0 ?_
    exact xe_ret (r := (some (.int (nI (0))))) dX6_isAt_25 (Or.inl rfl) (k1 c1)
  · refine xe_aload_n 0 dX6_isAt_8 rfl rfl ?_
    refine xe_iload_n 1 dX6_isAt_9 rfl rfl ?_
    refine xe_iload_n 2 dX6_isAt_10 rfl rfl ?_
    refine xe_iload_n 3 dX6_isAt_11 rfl rfl ?_
    refine xe_iload 4 dX6_isAt_12 rfl ?_
    refine xe_callV (As := [.int (nI (i)), .int (a), .int (b), .int (c)]) (rest := []) dX6_isAt_14 wX6_inOrderWith lX6_40 iX6_inOrderWith sX6_inOrderWith ⟨by decide, by decide⟩ (shT _ (by omega)) rfl (xin_mm (by omega)) rfl rfl (by simp [Value.category]) (xC.pure (v := .int (rcmp (fun j => u.1 (157 + 2 * t) (i * 3 + j)) (row3 a b c))) (qX6_inOrderWith u t i a b c (by omega) (by omega)) ?_)
    refine xe_if_ne 24 dX6_isAt_17 (by decide) (fun c2 => ?_) (fun c2 => ?_)
    · refine xe_iconst (v := nI (0)) dX6_isAt_24 xc0 ?_
      exact xe_ret (r := (some (.int (nI (0))))) dX6_isAt_25 (Or.inl rfl) (k2 c1 c2)
    · refine xe_iconst (v := nI (1)) dX6_isAt_20 xc1 ?_
      refine xe_goto 25 dX6_isAt_21 (by decide) ?_
      exact xe_ret (r := (some (.int (nI (1))))) dX6_isAt_25 (Or.inr rfl) (k3 c1 c2)

theorem qX6_isAt {u : xU} {T : TBL} (hT : TI T) (h : CT T u) (t : Nat) (a b c : Int32) (ht : t < 8) : xC mX6_isAt [.ref (156 + 2 * t), .int (nI (tpos T t (row3 a b c))), .int a, .int b, .int c] (xmm u) (fun r μ' => r = some (.int (xb (tHas T t (row3 a b c) = true))) ∧ μ' = xmm u) := by
  obtain ⟨h1, h2, h3⟩ := h t ht
  obtain ⟨i1, i2, i3, i4, i5⟩ := hT t ht
  have sle := cntlt_le (T.2.2 t) (row3 a b c) (T.2.1 t)
  refine xC.of xpl6 (Nat.le_of_ble_eq_true rfl) (gX6_isAt_0 u t (T.2.1 t) (T.1 t) _ a b c ht i1 i2 (by unfold tpos; omega) h1 h2 ?_ ?_ ?_)
  · intro q
    refine ⟨?_, rfl⟩
    rw [xb_f (by simp only [tHas, Bool.and_eq_true, decide_eq_true_eq]; omega)]
    rfl
  · intro q z
    rw [row_eq h ht (by omega)] at z
    refine ⟨?_, rfl⟩
    rw [xb_f (by simp only [tHas, Bool.and_eq_true, decide_eq_true_eq]; exact fun y => z y.2)]
    rfl
  · intro q z
    rw [row_eq h ht (by omega)] at z
    refine ⟨?_, rfl⟩
    rw [xb_t (by simp only [tHas, Bool.and_eq_true, decide_eq_true_eq]; exact ⟨by omega, z⟩)]
    rfl

theorem gX6_insert_0 (u : xU) (t n cols : Nat) (a b c : Int32) {Q : Option Value → xM → Prop} (ht : t < 8) (hcols : cols ≤ 3) (hn : n ≤ 40) (v1 : u.1 (156 + 2 * t) 0 = nI (cols)) (v2 : u.1 (156 + 2 * t) 1 = nI (n))
    (k1 : cols ≤ 1 → cols ≤ 2 → xE mX6_insert 30 [(0, .ref (156 + 2 * t)), (1, .int (a)), (4, .int (nI (0))), (5, .int (nI (0)))] [] (xmm u) Q)
    (k2 : cols ≤ 1 → ¬ cols ≤ 2 → xE mX6_insert 30 [(0, .ref (156 + 2 * t)), (1, .int (a)), (4, .int (nI (0))), (5, .int (c))] [] (xmm u) Q)
    (k3 : ¬ cols ≤ 1 → cols ≤ 2 → xE mX6_insert 30 [(0, .ref (156 + 2 * t)), (1, .int (a)), (4, .int (b)), (5, .int (nI (0)))] [] (xmm u) Q)
    (k4 : ¬ cols ≤ 1 → ¬ cols ≤ 2 → xE mX6_insert 30 [(0, .ref (156 + 2 * t)), (1, .int (a)), (4, .int (b)), (5, .int (c))] [] (xmm u) Q) : xE mX6_insert 0 [(0, .ref (156 + 2 * t)), (1, .int (a)), (2, .int (b)), (3, .int (c))] [] (xmm u) Q := by
  refine xe_aload_n 0 dX6_insert_0 rfl rfl ?_
  refine xr_getI (v := nI (cols)) dX6_insert_1 fX6_15 (shT _ (by omega)) (by omega) v1 ?_
  refine xe_iconst (v := nI (1)) dX6_insert_4 xc1 ?_
  refine xn_icmp_le 12 dX6_insert_5 (by decide) (by omega) (by omega) (fun c1 => ?_) (fun c1 => ?_)
  · refine xe_iconst (v := nI (0)) dX6_insert_12 xc0 ?_
    refine xe_istore (L2 := [(0, .ref (156 + 2 * t)), (1, .int (a)), (2, .int (b)), (3, .int (c)), (4, .int (nI (0)))]) dX6_insert_13 (by decide) rfl ?_
    refine xe_aload_n 0 dX6_insert_15 rfl rfl ?_
    refine xr_getI (v := nI (cols)) dX6_insert_16 fX6_15 (shT _ (by omega)) (by omega) v1 ?_
    refine xe_iconst (v := nI (2)) dX6_insert_19 xc2 ?_
    refine xn_icmp_le 27 dX6_insert_20 (by decide) (by omega) (by omega) (fun c2 => ?_) (fun c2 => ?_)
    · refine xe_iconst (v := nI (0)) dX6_insert_27 xc0 ?_
      refine xe_istore (L2 := [(0, .ref (156 + 2 * t)), (1, .int (a)), (2, .int (b)), (3, .int (c)), (4, .int (nI (0))), (5, .int (nI (0)))]) dX6_insert_28 (by decide) rfl ?_
      refine xE.sub [0, 1, 4, 5] rfl ?_
      exact k1 c1 c2
    · refine xe_iload_n 3 dX6_insert_23 rfl rfl ?_
      refine xe_goto 28 dX6_insert_24 (by decide) ?_
      refine xe_istore (L2 := [(0, .ref (156 + 2 * t)), (1, .int (a)), (2, .int (b)), (3, .int (c)), (4, .int (nI (0))), (5, .int (c))]) dX6_insert_28 (by decide) rfl ?_
      refine xE.sub [0, 1, 4, 5] rfl ?_
      exact k2 c1 c2
  · refine xe_iload_n 2 dX6_insert_8 rfl rfl ?_
    refine xe_goto 13 dX6_insert_9 (by decide) ?_
    refine xe_istore (L2 := [(0, .ref (156 + 2 * t)), (1, .int (a)), (2, .int (b)), (3, .int (c)), (4, .int (b))]) dX6_insert_13 (by decide) rfl ?_
    refine xe_aload_n 0 dX6_insert_15 rfl rfl ?_
    refine xr_getI (v := nI (cols)) dX6_insert_16 fX6_15 (shT _ (by omega)) (by omega) v1 ?_
    refine xe_iconst (v := nI (2)) dX6_insert_19 xc2 ?_
    refine xn_icmp_le 27 dX6_insert_20 (by decide) (by omega) (by omega) (fun c3 => ?_) (fun c3 => ?_)
    · refine xe_iconst (v := nI (0)) dX6_insert_27 xc0 ?_
      refine xe_istore (L2 := [(0, .ref (156 + 2 * t)), (1, .int (a)), (2, .int (b)), (3, .int (c)), (4, .int (b)), (5, .int (nI (0)))]) dX6_insert_28 (by decide) rfl ?_
      refine xE.sub [0, 1, 4, 5] rfl ?_
      exact k3 c1 c3
    · refine xe_iload_n 3 dX6_insert_23 rfl rfl ?_
      refine xe_goto 28 dX6_insert_24 (by decide) ?_
      refine xe_istore (L2 := [(0, .ref (156 + 2 * t)), (1, .int (a)), (2, .int (b)), (3, .int (c)), (4, .int (b)), (5, .int (c))]) dX6_insert_28 (by decide) rfl ?_
      refine xE.sub [0, 1, 4, 5] rfl ?_
      exact k4 c1 c3

theorem gX6_insert_30 (u : xU) (t n cols : Nat) (p : Nat) (a b c : Int32) (E : Prop) [Decidable E] {Q : Option Value → xM → Prop} (ht : t < 8) (hcols : cols ≤ 3) (hn : n ≤ 40) (hp : p ≤ n) (hpE : E → p < n) (hpf : xC mX6_placeFor [.ref (156 + 2 * t), .int a, .int b, .int c] (xmm u) (fun r μ' => r = some (.int (nI p)) ∧ μ' = xmm u)) (hia : xC mX6_isAt [.ref (156 + 2 * t), .int (nI p), .int a, .int b, .int c] (xmm u) (fun r μ' => r = some (.int (xb E)) ∧ μ' = xmm u)) (v1 : u.1 (156 + 2 * t) 0 = nI (cols)) (v2 : u.1 (156 + 2 * t) 1 = nI (n))
    (k1 : ¬ E → n < 40 → Q (some (.int (nI (1)))) (xmm (wi (wi (wi (wi (wci u (157 + 2 * t) (157 + 2 * t) (p * 3) ((p * 3) + 3) ((n - p) * 3)) (157 + 2 * t) (p * 3) (a)) (157 + 2 * t) ((p * 3) + 1) (b)) (157 + 2 * t) ((p * 3) + 2) (c)) (156 + 2 * t) 1 (nI (n + 1)))))
    (k2 : ¬ E → ¬ n < 40 → Q (some (.int (-1))) (xmm u))
    (k3 : E → Q (some (.int (nI (0)))) (xmm u)) : xE mX6_insert 30 [(0, .ref (156 + 2 * t)), (1, .int (a)), (4, .int (b)), (5, .int (c))] [] (xmm u) Q := by
  refine xe_aload_n 0 dX6_insert_30 rfl rfl ?_
  refine xe_iload_n 1 dX6_insert_31 rfl rfl ?_
  refine xe_iload 2 dX6_insert_32 rfl ?_
  refine xe_iload 3 dX6_insert_34 rfl ?_
  refine xe_callV (As := [.int (a), .int (b), .int (c)]) (rest := []) dX6_insert_36 wX6_placeFor lX6_22 iX6_placeFor sX6_placeFor ⟨by decide, by decide⟩ (shT _ (by omega)) rfl (xin_mm (by omega)) rfl rfl (by simp [Value.category]) (xC.pure (v := .int (nI (p))) (hpf) ?_)
  refine xe_istore (L2 := [(0, .ref (156 + 2 * t)), (1, .int (a)), (4, .int (b)), (5, .int (c)), (6, .int (nI (p)))]) dX6_insert_39 (by decide) rfl ?_
  refine xe_aload_n 0 dX6_insert_41 rfl rfl ?_
  refine xe_iload 4 dX6_insert_42 rfl ?_
  refine xe_iload_n 1 dX6_insert_44 rfl rfl ?_
  refine xe_iload 2 dX6_insert_45 rfl ?_
  refine xe_iload 3 dX6_insert_47 rfl ?_
  refine xe_callV (As := [.int (nI (p)), .int (a), .int (b), .int (c)]) (rest := []) dX6_insert_49 wX6_isAt lX6_26 iX6_isAt sX6_isAt ⟨by decide, by decide⟩ (shT _ (by omega)) rfl (xin_mm (by omega)) rfl rfl (by simp [Value.category]) (xC.pure (v := .int (xb (E))) (hia) ?_)
  refine xb_if_eq 57 dX6_insert_52 (by decide) (fun c1 => ?_) (fun c1 => ?_)
  · refine xe_aload_n 0 dX6_insert_57 rfl rfl ?_
    refine xr_getI (v := nI (n)) dX6_insert_58 fX6_19 (shT _ (by omega)) (by omega) v2 ?_
    refine xe_bipush (v := nI (40)) dX6_insert_61 xcb40 ?_
    refine xn_icmp_lt 68 dX6_insert_63 (by decide) (by omega) (by omega) (fun c2 => ?_) (fun c2 => ?_)
    · refine xe_iload 4 dX6_insert_68 rfl ?_
      refine xe_iconst (v := nI (3)) dX6_insert_70 xc3 ?_
      refine xn_imul dX6_insert_71 ?_
      refine xe_istore (L2 := [(0, .ref (156 + 2 * t)), (1, .int (a)), (4, .int (b)), (5, .int (c)), (6, .int (nI (p))), (7, .int (nI (p * 3)))]) dX6_insert_72 (by decide) rfl ?_
      refine xe_aload_n 0 dX6_insert_74 rfl rfl ?_
      refine xr_getR (b := (157 + 2 * t)) dX6_insert_75 fX6_9 rfl (shT _ (by omega)) (by omega) (rT (by omega)) ?_
      refine xe_iload 5 dX6_insert_78 rfl ?_
      refine xe_aload_n 0 dX6_insert_80 rfl rfl ?_
      refine xr_getR (b := (157 + 2 * t)) dX6_insert_81 fX6_9 rfl (shT _ (by omega)) (by omega) (rT (by omega)) ?_
      refine xe_iload 5 dX6_insert_84 rfl ?_
      refine xe_iconst (v := nI (3)) dX6_insert_86 xc3 ?_
      refine xn_iadd dX6_insert_87 ?_
      refine xe_aload_n 0 dX6_insert_88 rfl rfl ?_
      refine xr_getI (v := nI (n)) dX6_insert_89 fX6_19 (shT _ (by omega)) (by omega) v2 ?_
      refine xe_iload 4 dX6_insert_92 rfl ?_
      refine xn_isub dX6_insert_94 (by omega) ?_
      refine xe_iconst (v := nI (3)) dX6_insert_95 xc3 ?_
      refine xn_imul dX6_insert_96 ?_
      refine xr_copyi (sp := p * 3) (dp := (p * 3) + 3) (m9 := (n - p) * 3) dX6_insert_97 lX6_30 (by decide) (shTC _ (by omega)) (by omega) (shTC _ (by omega)) (by omega) (by omega) (by omega) (by omega) (by omega) (by omega) ?_
      refine xe_aload_n 0 dX6_insert_100 rfl rfl ?_
      refine xr_getR (b := (157 + 2 * t)) dX6_insert_101 fX6_9 rfl (shT _ (by omega)) (by omega) (rT (by omega)) ?_
      refine xe_iload 5 dX6_insert_104 rfl ?_
      refine xe_iload_n 1 dX6_insert_106 rfl rfl ?_
      refine xr_iast (k := p * 3) dX6_insert_107 (shTC _ (by omega)) (by omega) (by omega) (by decide) ?_
      refine xe_aload_n 0 dX6_insert_108 rfl rfl ?_
      refine xr_getR (b := (157 + 2 * t)) dX6_insert_109 fX6_9 rfl (shT _ (by omega)) (by omega) (rT (by omega)) ?_
      refine xe_iload 5 dX6_insert_112 rfl ?_
      refine xe_iconst (v := nI (1)) dX6_insert_114 xc1 ?_
      refine xn_iadd dX6_insert_115 ?_
      refine xe_iload 2 dX6_insert_116 rfl ?_
      refine xr_iast (k := (p * 3) + 1) dX6_insert_118 (shTC _ (by omega)) (by omega) (by omega) (by decide) ?_
      refine xe_aload_n 0 dX6_insert_119 rfl rfl ?_
      refine xr_getR (b := (157 + 2 * t)) dX6_insert_120 fX6_9 rfl (shT _ (by omega)) (by omega) (rT (by omega)) ?_
      refine xe_iload 5 dX6_insert_123 rfl ?_
      refine xe_iconst (v := nI (2)) dX6_insert_125 xc2 ?_
      refine xn_iadd dX6_insert_126 ?_
      refine xe_iload 3 dX6_insert_127 rfl ?_
      refine xr_iast (k := (p * 3) + 2) dX6_insert_129 (shTC _ (by omega)) (by omega) (by omega) (by decide) ?_
      refine xe_aload_n 0 dX6_insert_130 rfl rfl ?_
      refine xe_dup dX6_insert_131 rfl ?_
      refine xr_getI (v := nI (n)) dX6_insert_132 fX6_19 (shT _ (by omega)) (by omega) ((wi_ne (by omega)).trans ((wi_ne (by omega)).trans ((wi_ne (by omega)).trans ((wci_ne (by omega)).trans v2)))) ?_
      refine xe_iconst (v := nI (1)) dX6_insert_135 xc1 ?_
      refine xn_iadd dX6_insert_136 ?_
      refine xr_putI dX6_insert_137 fX6_19 (shT _ (by omega)) (by omega) ?_
      refine xe_iconst (v := nI (1)) dX6_insert_140 xc1 ?_
      exact xe_ret (r := (some (.int (nI (1))))) dX6_insert_141 trivial (k1 c1 c2)
    · refine xe_iconst (v := -1) dX6_insert_66 xcm1 ?_
      exact xe_ret (r := (some (.int (-1)))) dX6_insert_67 trivial (k2 c1 c2)
  · have zc1 := hpE c1
    refine xe_iconst (v := nI (0)) dX6_insert_55 xc0 ?_
    exact xe_ret (r := (some (.int (nI (0))))) dX6_insert_56 trivial (k3 c1)

theorem gX6_remove_0 (u : xU) (t n cols : Nat) (a b c : Int32) {Q : Option Value → xM → Prop} (ht : t < 8) (hcols : cols ≤ 3) (hn : n ≤ 40) (v1 : u.1 (156 + 2 * t) 0 = nI (cols)) (v2 : u.1 (156 + 2 * t) 1 = nI (n))
    (k1 : cols ≤ 1 → cols ≤ 2 → xE mX6_remove 30 [(0, .ref (156 + 2 * t)), (1, .int (a)), (4, .int (nI (0))), (5, .int (nI (0)))] [] (xmm u) Q)
    (k2 : cols ≤ 1 → ¬ cols ≤ 2 → xE mX6_remove 30 [(0, .ref (156 + 2 * t)), (1, .int (a)), (4, .int (nI (0))), (5, .int (c))] [] (xmm u) Q)
    (k3 : ¬ cols ≤ 1 → cols ≤ 2 → xE mX6_remove 30 [(0, .ref (156 + 2 * t)), (1, .int (a)), (4, .int (b)), (5, .int (nI (0)))] [] (xmm u) Q)
    (k4 : ¬ cols ≤ 1 → ¬ cols ≤ 2 → xE mX6_remove 30 [(0, .ref (156 + 2 * t)), (1, .int (a)), (4, .int (b)), (5, .int (c))] [] (xmm u) Q) : xE mX6_remove 0 [(0, .ref (156 + 2 * t)), (1, .int (a)), (2, .int (b)), (3, .int (c))] [] (xmm u) Q := by
  refine xe_aload_n 0 dX6_remove_0 rfl rfl ?_
  refine xr_getI (v := nI (cols)) dX6_remove_1 fX6_15 (shT _ (by omega)) (by omega) v1 ?_
  refine xe_iconst (v := nI (1)) dX6_remove_4 xc1 ?_
  refine xn_icmp_le 12 dX6_remove_5 (by decide) (by omega) (by omega) (fun c1 => ?_) (fun c1 => ?_)
  · refine xe_iconst (v := nI (0)) dX6_remove_12 xc0 ?_
    refine xe_istore (L2 := [(0, .ref (156 + 2 * t)), (1, .int (a)), (2, .int (b)), (3, .int (c)), (4, .int (nI (0)))]) dX6_remove_13 (by decide) rfl ?_
    refine xe_aload_n 0 dX6_remove_15 rfl rfl ?_
    refine xr_getI (v := nI (cols)) dX6_remove_16 fX6_15 (shT _ (by omega)) (by omega) v1 ?_
    refine xe_iconst (v := nI (2)) dX6_remove_19 xc2 ?_
    refine xn_icmp_le 27 dX6_remove_20 (by decide) (by omega) (by omega) (fun c2 => ?_) (fun c2 => ?_)
    · refine xe_iconst (v := nI (0)) dX6_remove_27 xc0 ?_
      refine xe_istore (L2 := [(0, .ref (156 + 2 * t)), (1, .int (a)), (2, .int (b)), (3, .int (c)), (4, .int (nI (0))), (5, .int (nI (0)))]) dX6_remove_28 (by decide) rfl ?_
      refine xE.sub [0, 1, 4, 5] rfl ?_
      exact k1 c1 c2
    · refine xe_iload_n 3 dX6_remove_23 rfl rfl ?_
      refine xe_goto 28 dX6_remove_24 (by decide) ?_
      refine xe_istore (L2 := [(0, .ref (156 + 2 * t)), (1, .int (a)), (2, .int (b)), (3, .int (c)), (4, .int (nI (0))), (5, .int (c))]) dX6_remove_28 (by decide) rfl ?_
      refine xE.sub [0, 1, 4, 5] rfl ?_
      exact k2 c1 c2
  · refine xe_iload_n 2 dX6_remove_8 rfl rfl ?_
    refine xe_goto 13 dX6_remove_9 (by decide) ?_
    refine xe_istore (L2 := [(0, .ref (156 + 2 * t)), (1, .int (a)), (2, .int (b)), (3, .int (c)), (4, .int (b))]) dX6_remove_13 (by decide) rfl ?_
    refine xe_aload_n 0 dX6_remove_15 rfl rfl ?_
    refine xr_getI (v := nI (cols)) dX6_remove_16 fX6_15 (shT _ (by omega)) (by omega) v1 ?_
    refine xe_iconst (v := nI (2)) dX6_remove_19 xc2 ?_
    refine xn_icmp_le 27 dX6_remove_20 (by decide) (by omega) (by omega) (fun c3 => ?_) (fun c3 => ?_)
    · refine xe_iconst (v := nI (0)) dX6_remove_27 xc0 ?_
      refine xe_istore (L2 := [(0, .ref (156 + 2 * t)), (1, .int (a)), (2, .int (b)), (3, .int (c)), (4, .int (b)), (5, .int (nI (0)))]) dX6_remove_28 (by decide) rfl ?_
      refine xE.sub [0, 1, 4, 5] rfl ?_
      exact k3 c1 c3
    · refine xe_iload_n 3 dX6_remove_23 rfl rfl ?_
      refine xe_goto 28 dX6_remove_24 (by decide) ?_
      refine xe_istore (L2 := [(0, .ref (156 + 2 * t)), (1, .int (a)), (2, .int (b)), (3, .int (c)), (4, .int (b)), (5, .int (c))]) dX6_remove_28 (by decide) rfl ?_
      refine xE.sub [0, 1, 4, 5] rfl ?_
      exact k4 c1 c3

theorem gX6_remove_30 (u : xU) (t n cols : Nat) (p : Nat) (a b c : Int32) (E : Prop) [Decidable E] {Q : Option Value → xM → Prop} (ht : t < 8) (hcols : cols ≤ 3) (hn : n ≤ 40) (hp : p ≤ n) (hpE : E → p < n) (hpf : xC mX6_placeFor [.ref (156 + 2 * t), .int a, .int b, .int c] (xmm u) (fun r μ' => r = some (.int (nI p)) ∧ μ' = xmm u)) (hia : xC mX6_isAt [.ref (156 + 2 * t), .int (nI p), .int a, .int b, .int c] (xmm u) (fun r μ' => r = some (.int (xb E)) ∧ μ' = xmm u)) (v1 : u.1 (156 + 2 * t) 0 = nI (cols)) (v2 : u.1 (156 + 2 * t) 1 = nI (n))
    (k1 : E → Q (some (.int (nI (1)))) (xmm (wci (wi u (156 + 2 * t) 1 (nI (n - 1))) (157 + 2 * t) (157 + 2 * t) ((p * 3) + 3) (p * 3) (((n - 1) - p) * 3))))
    (k2 : ¬ E → Q (some (.int (nI (0)))) (xmm u)) : xE mX6_remove 30 [(0, .ref (156 + 2 * t)), (1, .int (a)), (4, .int (b)), (5, .int (c))] [] (xmm u) Q := by
  refine xe_aload_n 0 dX6_remove_30 rfl rfl ?_
  refine xe_iload_n 1 dX6_remove_31 rfl rfl ?_
  refine xe_iload 2 dX6_remove_32 rfl ?_
  refine xe_iload 3 dX6_remove_34 rfl ?_
  refine xe_callV (As := [.int (a), .int (b), .int (c)]) (rest := []) dX6_remove_36 wX6_placeFor lX6_22 iX6_placeFor sX6_placeFor ⟨by decide, by decide⟩ (shT _ (by omega)) rfl (xin_mm (by omega)) rfl rfl (by simp [Value.category]) (xC.pure (v := .int (nI (p))) (hpf) ?_)
  refine xe_istore (L2 := [(0, .ref (156 + 2 * t)), (1, .int (a)), (4, .int (b)), (5, .int (c)), (6, .int (nI (p)))]) dX6_remove_39 (by decide) rfl ?_
  refine xe_aload_n 0 dX6_remove_41 rfl rfl ?_
  refine xe_iload 4 dX6_remove_42 rfl ?_
  refine xe_iload_n 1 dX6_remove_44 rfl rfl ?_
  refine xe_iload 2 dX6_remove_45 rfl ?_
  refine xe_iload 3 dX6_remove_47 rfl ?_
  refine xe_callV (As := [.int (nI (p)), .int (a), .int (b), .int (c)]) (rest := []) dX6_remove_49 wX6_isAt lX6_26 iX6_isAt sX6_isAt ⟨by decide, by decide⟩ (shT _ (by omega)) rfl (xin_mm (by omega)) rfl rfl (by simp [Value.category]) (xC.pure (v := .int (xb (E))) (hia) ?_)
  refine xb_if_ne 57 dX6_remove_52 (by decide) (fun c1 => ?_) (fun c1 => ?_)
  · have zc1 := hpE c1
    refine xe_aload_n 0 dX6_remove_57 rfl rfl ?_
    refine xe_dup dX6_remove_58 rfl ?_
    refine xr_getI (v := nI (n)) dX6_remove_59 fX6_19 (shT _ (by omega)) (by omega) v2 ?_
    refine xe_iconst (v := nI (1)) dX6_remove_62 xc1 ?_
    refine xn_isub dX6_remove_63 (by omega) ?_
    refine xr_putI dX6_remove_64 fX6_19 (shT _ (by omega)) (by omega) ?_
    refine xe_iload 4 dX6_remove_67 rfl ?_
    refine xe_iconst (v := nI (3)) dX6_remove_69 xc3 ?_
    refine xn_imul dX6_remove_70 ?_
    refine xe_istore (L2 := [(0, .ref (156 + 2 * t)), (1, .int (a)), (4, .int (b)), (5, .int (c)), (6, .int (nI (p))), (7, .int (nI (p * 3)))]) dX6_remove_71 (by decide) rfl ?_
    refine xe_aload_n 0 dX6_remove_73 rfl rfl ?_
    refine xr_getR (b := (157 + 2 * t)) dX6_remove_74 fX6_9 rfl (shT _ (by omega)) (by omega) (rT (by omega)) ?_
    refine xe_iload 5 dX6_remove_77 rfl ?_
    refine xe_iconst (v := nI (3)) dX6_remove_79 xc3 ?_
    refine xn_iadd dX6_remove_80 ?_
    refine xe_aload_n 0 dX6_remove_81 rfl rfl ?_
    refine xr_getR (b := (157 + 2 * t)) dX6_remove_82 fX6_9 rfl (shT _ (by omega)) (by omega) (rT (by omega)) ?_
    refine xe_iload 5 dX6_remove_85 rfl ?_
    refine xe_aload_n 0 dX6_remove_87 rfl rfl ?_
    refine xr_getI (v := nI (n - 1)) dX6_remove_88 fX6_19 (shT _ (by omega)) (by omega) wi_self ?_
    refine xe_iload 4 dX6_remove_91 rfl ?_
    refine xn_isub dX6_remove_93 (by omega) ?_
    refine xe_iconst (v := nI (3)) dX6_remove_94 xc3 ?_
    refine xn_imul dX6_remove_95 ?_
    refine xr_copyi (sp := (p * 3) + 3) (dp := p * 3) (m9 := ((n - 1) - p) * 3) dX6_remove_96 lX6_30 (by decide) (shTC _ (by omega)) (by omega) (shTC _ (by omega)) (by omega) (by omega) (by omega) (by omega) (by omega) (by omega) ?_
    refine xe_iconst (v := nI (1)) dX6_remove_99 xc1 ?_
    exact xe_ret (r := (some (.int (nI (1))))) dX6_remove_100 (Or.inr rfl) (k1 c1)
  · refine xe_iconst (v := nI (0)) dX6_remove_55 xc0 ?_
    exact xe_ret (r := (some (.int (nI (0))))) dX6_remove_56 (Or.inl rfl) (k2 c1)

theorem nrm_z {c : Nat} {a b d : Int32} (h : c ≠ 0) : ∀ k, c ≤ k → k < 3 → nrm c a b d k = 0 := by
  intro k hk h3
  unfold nrm row3
  rw [if_neg (by omega)]
  by_cases h1 : k = 1
  · rw [if_pos h1, if_neg (by omega)]
  · rw [if_neg h1, if_neg (by omega)]
/-- what a method of the tables leaves alone -/
def frT (u u' : xU) : Prop := (∀ x, ¬ (156 ≤ x ∧ x < 172) → u'.1 x = u.1 x) ∧ u'.2 = u.2
theorem frT.rf {u : xU} : frT u u := ⟨fun _ _ => rfl, rfl⟩
/-- an answer and the tables behind it -/
def pT (u : xU) (v : Value) (T' : TBL) : Option Value → xM → Prop := fun r μ' => ∃ u', μ' = xmm u' ∧ r = some v ∧ CT T' u' ∧ frT u u'
theorem insert_at {u : xU} {T : TBL} (hT : TI T) (h : CT T u) (t : Nat) (a b c : Int32) (ht : t < 8) : xE mX6_insert 30 [(0, .ref (156 + 2 * t)), (1, .int (a)), (4, .int (b)), (5, .int (c))] [] (xmm u) (pT u (.int (tPut T t (row3 a b c)).1) (tPut T t (row3 a b c)).2) := by
  obtain ⟨h1, h2, h3⟩ := h t ht
  obtain ⟨i1, i2, i3, i4, i5⟩ := hT t ht
  have sle : tpos T t (row3 a b c) ≤ T.2.1 t := cntlt_le (T.2.2 t) (row3 a b c) (T.2.1 t)
  refine gX6_insert_30 u t (T.2.1 t) (T.1 t) (tpos T t (row3 a b c)) a b c (tHas T t (row3 a b c) = true) ht i1 i2 sle (fun q => by simp only [tHas, Bool.and_eq_true, decide_eq_true_eq] at q; exact q.1) (qX6_placeFor hT h t a b c ht) (qX6_isAt hT h t a b c ht) h1 h2 (fun q z => ?_) (fun q z => ?_) (fun q => ?_)
  · unfold tPut
    rw [if_neg q, if_neg (by omega)]
    refine ⟨_, rfl, rfl, fun k hk => ?_, fun x hx => ?_, rfl⟩
    · by_cases hkt : k = t
      · subst hkt
        simp only [tIns, setT_at]
        generalize tpos T k (row3 a b c) = p at sle
        refine ⟨?_, ?_, fun i j hi hj => ?_⟩
        · exact (up2_nek (by decide)).trans ((congrFun (up2_ne (by omega)) _).trans ((congrFun (up2_ne (by omega)) _).trans ((congrFun (up2_ne (by omega)) _).trans ((congrFun (cp2_ne (by omega)) _).trans h1))))
        · exact up2_self
        · show (up2 (up2 (up2 (up2 (cp2 u.1 _ _ _ _ _) _ _ _) _ _ _) _ _ _) _ _ _) (157 + 2 * k) (i * 3 + j) = _
          rw [up2_ne (by omega), up2_at, up2_at, up2_at, cp2_at]
          unfold insX va_cpy row3
          dsimp only
          by_cases q1 : i < p
          · rw [if_pos q1, if_neg (by omega), if_neg (by omega), if_neg (by omega), if_neg (by omega)]
            exact h3 i j (by omega) hj
          · rw [if_neg q1]
            by_cases q2 : i = p
            · subst q2
              rw [if_pos rfl]
              rcases (by omega : j = 0 ∨ j = 1 ∨ j = 2) with rfl | rfl | rfl
              · rw [if_neg (by omega), if_neg (by omega), if_pos (by omega), if_pos rfl]
              · rw [if_neg (by omega), if_pos (by omega), if_neg (by decide), if_pos rfl]
              · rw [if_pos (by omega), if_neg (by decide), if_neg (by decide)]
            · rw [if_neg q2, if_neg (by omega), if_neg (by omega), if_neg (by omega), if_pos (by omega)]
              have := h3 (i - 1) j (by omega) hj
              rw [show p * 3 + (i * 3 + j - (p * 3 + 3)) = (i - 1) * 3 + j by omega]
              exact this
      · simp only [tIns, setT_ne hkt]
        obtain ⟨g1, g2, g3⟩ := h k hk
        have e1 : ∀ x y, (up2 (up2 (up2 (up2 (cp2 u.1 (157 + 2 * t) (157 + 2 * t) (tpos T t (row3 a b c) * 3) (tpos T t (row3 a b c) * 3 + 3) ((T.2.1 t - tpos T t (row3 a b c)) * 3)) (157 + 2 * t) (tpos T t (row3 a b c) * 3) a) (157 + 2 * t) (tpos T t (row3 a b c) * 3 + 1) b) (157 + 2 * t) (tpos T t (row3 a b c) * 3 + 2) c) (156 + 2 * t) 1 (nI (T.2.1 t + 1))) (156 + 2 * k + x) y = u.1 (156 + 2 * k + x) y ∨ 1 < x := fun x y => by
          by_cases hx : 1 < x
          · exact Or.inr hx
          · left
            rw [up2_ne (by omega), up2_ne (by omega), up2_ne (by omega), up2_ne (by omega), cp2_ne (by omega)]
        refine ⟨((e1 0 0).resolve_right (by decide)).trans g1, ((e1 0 1).resolve_right (by decide)).trans g2, fun i j hi hj => ?_⟩
        have := (e1 1 (i * 3 + j)).resolve_right (by decide)
        rw [show 156 + 2 * k + 1 = 157 + 2 * k by omega] at this
        exact this.trans (g3 i j hi hj)
    · show (up2 (up2 (up2 (up2 (cp2 u.1 _ _ _ _ _) _ _ _) _ _ _) _ _ _) _ _ _) x = _
      rw [up2_ne (by omega), up2_ne (by omega), up2_ne (by omega), up2_ne (by omega), cp2_ne (by omega)]
  · unfold tPut
    rw [if_neg q, if_pos (by omega)]
    exact ⟨u, rfl, rfl, h, frT.rf⟩
  · unfold tPut
    rw [if_pos q]
    exact ⟨u, rfl, rfl, h, frT.rf⟩
theorem remove_at {u : xU} {T : TBL} (hT : TI T) (h : CT T u) (t : Nat) (a b c : Int32) (ht : t < 8) : xE mX6_remove 30 [(0, .ref (156 + 2 * t)), (1, .int (a)), (4, .int (b)), (5, .int (c))] [] (xmm u) (pT u (.int (xb ((tDrop T t (row3 a b c)).1 = true))) (tDrop T t (row3 a b c)).2) := by
  obtain ⟨h1, h2, h3⟩ := h t ht
  obtain ⟨i1, i2, i3, i4, i5⟩ := hT t ht
  have sle : tpos T t (row3 a b c) ≤ T.2.1 t := cntlt_le (T.2.2 t) (row3 a b c) (T.2.1 t)
  have hE : tHas T t (row3 a b c) = true → tpos T t (row3 a b c) < T.2.1 t := fun q => by simp only [tHas, Bool.and_eq_true, decide_eq_true_eq] at q; exact q.1
  refine gX6_remove_30 u t (T.2.1 t) (T.1 t) (tpos T t (row3 a b c)) a b c (tHas T t (row3 a b c) = true) ht i1 i2 sle hE (qX6_placeFor hT h t a b c ht) (qX6_isAt hT h t a b c ht) h1 h2 (fun q => ?_) (fun q => ?_)
  · have hlt := hE q
    unfold tDrop
    rw [if_pos q]
    refine ⟨_, rfl, rfl, fun k hk => ?_, fun x hx => ?_, rfl⟩
    · by_cases hkt : k = t
      · subst hkt
        simp only [tDel, setT_at]
        generalize tpos T k (row3 a b c) = p at sle hlt
        refine ⟨?_, ?_, fun i j hi hj => ?_⟩
        · exact (congrFun (cp2_ne (by omega)) _).trans ((up2_nek (by decide)).trans h1)
        · exact (congrFun (cp2_ne (by omega)) _).trans up2_self
        · show (cp2 (up2 u.1 _ _ _) _ _ _ _ _) (157 + 2 * k) (i * 3 + j) = _
          rw [cp2_at, up2_ne (by omega)]
          unfold delX va_cpy
          by_cases q1 : i < p
          · rw [if_pos q1, if_neg (by omega)]
            exact h3 i j (by omega) hj
          · rw [if_neg q1, if_pos (by omega)]
            have := h3 (i + 1) j (by omega) hj
            rw [show p * 3 + 3 + (i * 3 + j - p * 3) = (i + 1) * 3 + j by omega]
            exact this
      · simp only [tDel, setT_ne hkt]
        obtain ⟨g1, g2, g3⟩ := h k hk
        refine ⟨?_, ?_, fun i j hi hj => ?_⟩
        · exact (congrFun (cp2_ne (by omega)) _).trans ((congrFun (up2_ne (by omega)) _).trans g1)
        · exact (congrFun (cp2_ne (by omega)) _).trans ((congrFun (up2_ne (by omega)) _).trans g2)
        · exact (congrFun (cp2_ne (by omega)) _).trans ((congrFun (up2_ne (by omega)) _).trans (g3 i j hi hj))
    · show (cp2 (up2 u.1 _ _ _) _ _ _ _ _) x = _
      rw [cp2_ne (by omega), up2_ne (by omega)]
  · unfold tDrop
    rw [if_neg q]
    exact ⟨u, rfl, rfl, h, frT.rf⟩
theorem nrm_eq (n : Nat) (a b c : Int32) : nrm n a b c = row3 a (if n ≤ 1 then 0 else b) (if n ≤ 2 then 0 else c) := by
  unfold nrm
  by_cases h1 : n ≤ 1
  · rw [if_pos h1, if_pos (show n ≤ 2 by omega), if_neg (by omega), if_neg (by omega)]
  · by_cases h2 : n ≤ 2
    · rw [if_neg h1, if_pos h2, if_pos (by omega), if_neg (by omega)]
    · rw [if_neg h1, if_neg h2, if_pos (by omega), if_pos (by omega)]
theorem qX6_insert {u : xU} {T : TBL} (hT : TI T) (h : CT T u) (t : Nat) (a b c : Int32) (ht : t < 8) : xC mX6_insert [.ref (156 + 2 * t), .int a, .int b, .int c] (xmm u) (pT u (.int (tPut T t (nrm (T.1 t) a b c)).1) (tPut T t (nrm (T.1 t) a b c)).2) := by
  obtain ⟨h1, h2, h3⟩ := h t ht
  obtain ⟨i1, i2, i3, i4, i5⟩ := hT t ht
  rw [nrm_eq]
  refine xC.of xpl6 (Nat.le_of_ble_eq_true rfl) (gX6_insert_0 u t (T.2.1 t) (T.1 t) a b c ht i1 i2 h1 h2 (fun q z => ?_) (fun q z => ?_) (fun q z => ?_) (fun q z => ?_)) <;> simp only [q, z, if_true, if_false] <;> exact insert_at hT h t _ _ _ ht
theorem qX6_remove {u : xU} {T : TBL} (hT : TI T) (h : CT T u) (t : Nat) (a b c : Int32) (ht : t < 8) : xC mX6_remove [.ref (156 + 2 * t), .int a, .int b, .int c] (xmm u) (pT u (.int (xb ((tDrop T t (nrm (T.1 t) a b c)).1 = true))) (tDrop T t (nrm (T.1 t) a b c)).2) := by
  obtain ⟨h1, h2, h3⟩ := h t ht
  obtain ⟨i1, i2, i3, i4, i5⟩ := hT t ht
  rw [nrm_eq]
  refine xC.of xpl6 (Nat.le_of_ble_eq_true rfl) (gX6_remove_0 u t (T.2.1 t) (T.1 t) a b c ht i1 i2 h1 h2 (fun q z => ?_) (fun q z => ?_) (fun q z => ?_) (fun q z => ?_)) <;> simp only [q, z, if_true, if_false] <;> exact remove_at hT h t _ _ _ ht

