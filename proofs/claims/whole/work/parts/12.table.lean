theorem gJ6_compare_7cf53_0 (u : xU) (a b : Int32) {Q : Option Value → xM → Prop}  
    (k1 : b ≤ a → ¬ a = b → Q (some (.int (nI (1)))) (xmm u))
    (k2 : b ≤ a → a = b → Q (some (.int (nI (0)))) (xmm u))
    (k3 : ¬ b ≤ a → Q (some (.int (-1))) (xmm u)) : xE mJ6_compare_7cf53 0 [(0, .int (a)), (1, .int (b))] [] (xmm u) Q := by
  refine xe_iload_n 0 dJ6_compare_7cf53_0 rfl rfl ?_
  refine xe_iload_n 1 dJ6_compare_7cf53_1 rfl rfl ?_
  refine xe_icmp_ge 9 dJ6_compare_7cf53_2 (by decide) (fun c1 => ?_) (fun c1 => ?_)
  · refine xe_iload_n 0 dJ6_compare_7cf53_9 rfl rfl ?_
    refine xe_iload_n 1 dJ6_compare_7cf53_10 rfl rfl ?_
    refine xe_icmp_ne 18 dJ6_compare_7cf53_11 (by decide) (fun c2 => ?_) (fun c2 => ?_)
    · refine xe_iconst (v := nI (1)) dJ6_compare_7cf53_18 xc1 ?_
      exact xe_ret (r := (some (.int (nI (1))))) dJ6_compare_7cf53_19 trivial (k1 c1 c2)
    · refine xe_iconst (v := nI (0)) dJ6_compare_7cf53_14 xc0 ?_
      refine xe_goto 19 dJ6_compare_7cf53_15 (by decide) ?_
      exact xe_ret (r := (some (.int (nI (0))))) dJ6_compare_7cf53_19 trivial (k2 c1 c2)
  · refine xe_iconst (v := -1) dJ6_compare_7cf53_5 xcm1 ?_
    refine xe_goto 19 dJ6_compare_7cf53_6 (by decide) ?_
    exact xe_ret (r := (some (.int (-1)))) dJ6_compare_7cf53_19 trivial (k3 c1)

/-- what Integer.compare answers -/
def cmpI (a b : Int32) : Int32 := if a < b then -1 else if a = b then 0 else 1
theorem qJ6_compare (u : xU) (a b : Int32) : xC mJ6_compare_7cf53 [.int a, .int b] (xmm u) (fun r μ' => r = some (.int (cmpI a b)) ∧ μ' = xmm u) := by
  refine xC.of xplJ6 (Nat.le_of_ble_eq_true rfl) (gJ6_compare_7cf53_0 u a b ?_ ?_ ?_) <;> (intros; refine ⟨?_, rfl⟩; simp_all [cmpI, nI_z, nI_o, Int32.not_lt, Int32.not_le])

theorem gX9_ahead_0 (u : xU) (a b : Int32) {Q : Option Value → xM → Prop}  
    (k1 : (b - (nI (1))) ≤ (a - (nI (1))) → Q (some (.int (nI (0)))) (xmm u))
    (k2 : ¬ (b - (nI (1))) ≤ (a - (nI (1))) → Q (some (.int (nI (1)))) (xmm u)) : xE mX9_ahead 0 [(0, .int (a)), (1, .int (b))] [] (xmm u) Q := by
  refine xe_iload_n 0 dX9_ahead_0 rfl rfl ?_
  refine xe_iconst (v := nI (1)) dX9_ahead_1 xc1 ?_
  refine xe_isub dX9_ahead_2 ?_
  refine xe_iload_n 1 dX9_ahead_3 rfl rfl ?_
  refine xe_iconst (v := nI (1)) dX9_ahead_4 xc1 ?_
  refine xe_isub dX9_ahead_5 ?_
  refine xe_icmp_ge 13 dX9_ahead_6 (by decide) (fun c1 => ?_) (fun c1 => ?_)
  · refine xe_iconst (v := nI (0)) dX9_ahead_13 xc0 ?_
    exact xe_ret (r := (some (.int (nI (0))))) dX9_ahead_14 (Or.inl rfl) (k1 c1)
  · refine xe_iconst (v := nI (1)) dX9_ahead_9 xc1 ?_
    refine xe_goto 14 dX9_ahead_10 (by decide) ?_
    exact xe_ret (r := (some (.int (nI (1))))) dX9_ahead_14 (Or.inr rfl) (k2 c1)

theorem qX9_ahead (u : xU) (a b : Int32) : xC mX9_ahead [.int a, .int b] (xmm u) (fun r μ' => r = some (.int (xb (a - 1 < b - 1))) ∧ μ' = xmm u) := by
  refine xC.of xpl9 (Nat.le_of_ble_eq_true rfl) (gX9_ahead_0 u a b ?_ ?_) <;> (intros; refine ⟨?_, rfl⟩; simp_all [xb, nI_z, nI_o])

theorem gX9_inOrder_0 (u : xU) (a b : Int32) {Q : Option Value → xM → Prop}  
    (k1 : Q (some (.int (cmpI (a - (nI (1))) (b - (nI (1)))))) (xmm u)) : xE mX9_inOrder 0 [(0, .int (a)), (1, .int (b))] [] (xmm u) Q := by
  refine xe_iload_n 0 dX9_inOrder_0 rfl rfl ?_
  refine xe_iconst (v := nI (1)) dX9_inOrder_1 xc1 ?_
  refine xe_isub dX9_inOrder_2 ?_
  refine xe_iload_n 1 dX9_inOrder_3 rfl rfl ?_
  refine xe_iconst (v := nI (1)) dX9_inOrder_4 xc1 ?_
  refine xe_isub dX9_inOrder_5 ?_
  refine xe_callS (As := [.int (a - (nI (1))), .int (b - (nI (1)))]) (rest := []) dX9_inOrder_6 wJ6_compare_7cf53 lX9_238 tJ6_compare_7cf53 ⟨by decide, by decide⟩ rfl rfl (by simp [Value.category]) (xC.pure (v := .int (cmpI (a - (nI (1))) (b - (nI (1))))) (qJ6_compare u (a - (nI (1))) (b - (nI (1)))) ?_)
  exact xe_ret (r := (some (.int (cmpI (a - (nI (1))) (b - (nI (1))))))) dX9_inOrder_9 trivial (k1)

theorem qX9_inOrder (u : xU) (a b : Int32) : xC mX9_inOrder [.int a, .int b] (xmm u) (fun r μ' => r = some (.int (cmpI (a - 1) (b - 1))) ∧ μ' = xmm u) :=
  xC.of xpl9 (Nat.le_of_ble_eq_true rfl) (gX9_inOrder_0 u a b ⟨rfl, rfl⟩)

theorem gX9_shift_0 (u : xU) (k : Nat) {Q : Option Value → xM → Prop} (hk : k < 6) 
    (k1 : Q (some (.int (nI ((5 - k) * 6)))) (xmm u)) : xE mX9_shift 0 [(0, .int (nI (k)))] [] (xmm u) Q := by
  refine xe_iconst (v := nI (5)) dX9_shift_0 xc5 ?_
  refine xe_iload_n 0 dX9_shift_1 rfl rfl ?_
  refine xn_isub dX9_shift_2 (by omega) ?_
  refine xe_bipush (v := nI (6)) dX9_shift_3 xcb6 ?_
  refine xn_imul dX9_shift_5 ?_
  exact xe_ret (r := (some (.int (nI ((5 - k) * 6))))) dX9_shift_6 trivial (k1)

theorem qX9_shift (u : xU) (k : Nat) (hk : k < 6) : xC mX9_shift [.int (nI k)] (xmm u) (fun r μ' => r = some (.int (nI ((5 - k) * 6))) ∧ μ' = xmm u) :=
  xC.of xpl9 (Nat.le_of_ble_eq_true rfl) (gX9_shift_0 u k hk ⟨rfl, rfl⟩)

theorem gX6_cell_0 (u : xU) (t n cols : Nat) (i c : Nat) {Q : Option Value → xM → Prop} (ht : t < 8) (hcols : cols ≤ 3) (hn : n ≤ 40) (hi : i < n) (hc : c < cols) (v1 : u.1 (156 + 2 * t) 0 = nI (cols)) (v2 : u.1 (156 + 2 * t) 1 = nI (n))
    (k1 : i < 0 → Q (some (.int (nI (0)))) (xmm u))
    (k2 : ¬ i < 0 → n ≤ i → Q (some (.int (nI (0)))) (xmm u))
    (k3 : ¬ i < 0 → ¬ n ≤ i → c < 0 → Q (some (.int (nI (0)))) (xmm u))
    (k4 : ¬ i < 0 → ¬ n ≤ i → ¬ c < 0 → c < cols → Q (some (.int (u.1 (157 + 2 * t) ((i * 3) + c)))) (xmm u))
    (k5 : ¬ i < 0 → ¬ n ≤ i → ¬ c < 0 → ¬ c < cols → Q (some (.int (nI (0)))) (xmm u)) : xE mX6_cell 0 [(0, .ref (156 + 2 * t)), (1, .int (nI (i))), (2, .int (nI (c)))] [] (xmm u) Q := by
  refine xe_iload_n 1 dX6_cell_0 rfl rfl ?_
  refine xn_if_lt 24 dX6_cell_1 (by decide) (by omega) (fun c1 => ?_) (fun c1 => ?_)
  · refine xe_iconst (v := nI (0)) dX6_cell_24 xc0 ?_
    exact xe_ret (r := (some (.int (nI (0))))) dX6_cell_25 trivial (k1 c1)
  · refine xe_iload_n 1 dX6_cell_4 rfl rfl ?_
    refine xe_aload_n 0 dX6_cell_5 rfl rfl ?_
    refine xr_getI (v := nI (n)) dX6_cell_6 fX6_19 (shT _ (by omega)) (by omega) v2 ?_
    refine xn_icmp_ge 24 dX6_cell_9 (by decide) (by omega) (by omega) (fun c2 => ?_) (fun c2 => ?_)
    · refine xe_iconst (v := nI (0)) dX6_cell_24 xc0 ?_
      exact xe_ret (r := (some (.int (nI (0))))) dX6_cell_25 trivial (k2 c1 c2)
    · refine xe_iload_n 2 dX6_cell_12 rfl rfl ?_
      refine xn_if_lt 24 dX6_cell_13 (by decide) (by omega) (fun c3 => ?_) (fun c3 => ?_)
      · refine xe_iconst (v := nI (0)) dX6_cell_24 xc0 ?_
        exact xe_ret (r := (some (.int (nI (0))))) dX6_cell_25 trivial (k3 c1 c2 c3)
      · refine xe_iload_n 2 dX6_cell_16 rfl rfl ?_
        refine xe_aload_n 0 dX6_cell_17 rfl rfl ?_
        refine xr_getI (v := nI (cols)) dX6_cell_18 fX6_15 (shT _ (by omega)) (by omega) v1 ?_
        refine xn_icmp_lt 26 dX6_cell_21 (by decide) (by omega) (by omega) (fun c4 => ?_) (fun c4 => ?_)
        · refine xe_aload_n 0 dX6_cell_26 rfl rfl ?_
          refine xr_getR (b := (157 + 2 * t)) dX6_cell_27 fX6_9 rfl (shT _ (by omega)) (by omega) (rT (by omega)) ?_
          refine xe_iload_n 1 dX6_cell_30 rfl rfl ?_
          refine xe_iconst (v := nI (3)) dX6_cell_31 xc3 ?_
          refine xn_imul dX6_cell_32 ?_
          refine xe_iload_n 2 dX6_cell_33 rfl rfl ?_
          refine xn_iadd dX6_cell_34 ?_
          refine xr_iald (k := (i * 3) + c) (v := u.1 (157 + 2 * t) ((i * 3) + c)) dX6_cell_35 (shTC _ (by omega)) (by omega) (by omega) (by decide) rfl ?_
          exact xe_ret (r := (some (.int (u.1 (157 + 2 * t) ((i * 3) + c))))) dX6_cell_36 trivial (k4 c1 c2 c3 c4)
        · refine xe_iconst (v := nI (0)) dX6_cell_24 xc0 ?_
          exact xe_ret (r := (some (.int (nI (0))))) dX6_cell_25 trivial (k5 c1 c2 c3 c4)

theorem gX6_inOrderWith_0 (u : xU) (t i : Nat) (a b c : Int32) {Q : Option Value → xM → Prop} (ht : t < 8) (hi : i < 40) 
    (k1 : (cmpI ((u.1 (157 + 2 * t) (i * 3)) - 1) (a - 1)) = 0 → (cmpI ((u.1 (157 + 2 * t) ((i * 3) + 1)) - 1) (b - 1)) = 0 → Q (some (.int (cmpI ((u.1 (157 + 2 * t) ((i * 3) + 2)) - 1) (c - 1)))) (xmm u))
    (k2 : (cmpI ((u.1 (157 + 2 * t) (i * 3)) - 1) (a - 1)) = 0 → ¬ (cmpI ((u.1 (157 + 2 * t) ((i * 3) + 1)) - 1) (b - 1)) = 0 → Q (some (.int (cmpI ((u.1 (157 + 2 * t) ((i * 3) + 1)) - 1) (b - 1)))) (xmm u))
    (k3 : ¬ (cmpI ((u.1 (157 + 2 * t) (i * 3)) - 1) (a - 1)) = 0 → Q (some (.int (cmpI ((u.1 (157 + 2 * t) (i * 3)) - 1) (a - 1)))) (xmm u)) : xE mX6_inOrderWith 0 [(0, .ref (156 + 2 * t)), (1, .int (nI (i))), (2, .int (a)), (3, .int (b)), (4, .int (c))] [] (xmm u) Q := by
  refine xe_iload_n 1 dX6_inOrderWith_0 rfl rfl ?_
  refine xe_iconst (v := nI (3)) dX6_inOrderWith_1 xc3 ?_
  refine xn_imul dX6_inOrderWith_2 ?_
  refine xe_istore (L2 := [(0, .ref (156 + 2 * t)), (1, .int (nI (i))), (2, .int (a)), (3, .int (b)), (4, .int (c)), (5, .int (nI (i * 3)))]) dX6_inOrderWith_3 (by decide) rfl ?_
  refine xe_aload_n 0 dX6_inOrderWith_5 rfl rfl ?_
  refine xr_getR (b := (157 + 2 * t)) dX6_inOrderWith_6 fX6_9 rfl (shT _ (by omega)) (by omega) (rT (by omega)) ?_
  refine xe_iload 5 dX6_inOrderWith_9 rfl ?_
  refine xr_iald (k := i * 3) (v := u.1 (157 + 2 * t) (i * 3)) dX6_inOrderWith_11 (shTC _ (by omega)) (by omega) (by omega) (by decide) rfl ?_
  refine xe_iload_n 2 dX6_inOrderWith_12 rfl rfl ?_
  refine xe_callSN (As := [.int (u.1 (157 + 2 * t) (i * 3)), .int (a)]) (rest := []) dX6_inOrderWith_13 wX9_inOrder lX6_44 tX9_inOrder ⟨by decide, by decide⟩ rfl rfl (by simp [Value.category]) (xC.pure (v := .int (cmpI ((u.1 (157 + 2 * t) (i * 3)) - 1) (a - 1))) (qX9_inOrder u (u.1 (157 + 2 * t) (i * 3)) a) ?_)
  refine xe_istore (L2 := [(0, .ref (156 + 2 * t)), (1, .int (nI (i))), (2, .int (a)), (3, .int (b)), (4, .int (c)), (5, .int (nI (i * 3))), (6, .int (cmpI ((u.1 (157 + 2 * t) (i * 3)) - 1) (a - 1)))]) dX6_inOrderWith_16 (by decide) rfl ?_
  refine xe_iload 6 dX6_inOrderWith_18 rfl ?_
  refine xe_if_eq 26 dX6_inOrderWith_20 (by decide) (fun c1 => ?_) (fun c1 => ?_)
  · refine xe_aload_n 0 dX6_inOrderWith_26 rfl rfl ?_
    refine xr_getR (b := (157 + 2 * t)) dX6_inOrderWith_27 fX6_9 rfl (shT _ (by omega)) (by omega) (rT (by omega)) ?_
    refine xe_iload 5 dX6_inOrderWith_30 rfl ?_
    refine xe_iconst (v := nI (1)) dX6_inOrderWith_32 xc1 ?_
    refine xn_iadd dX6_inOrderWith_33 ?_
    refine xr_iald (k := (i * 3) + 1) (v := u.1 (157 + 2 * t) ((i * 3) + 1)) dX6_inOrderWith_34 (shTC _ (by omega)) (by omega) (by omega) (by decide) rfl ?_
    refine xe_iload_n 3 dX6_inOrderWith_35 rfl rfl ?_
    refine xe_callSN (As := [.int (u.1 (157 + 2 * t) ((i * 3) + 1)), .int (b)]) (rest := []) dX6_inOrderWith_36 wX9_inOrder lX6_44 tX9_inOrder ⟨by decide, by decide⟩ rfl rfl (by simp [Value.category]) (xC.pure (v := .int (cmpI ((u.1 (157 + 2 * t) ((i * 3) + 1)) - 1) (b - 1))) (qX9_inOrder u (u.1 (157 + 2 * t) ((i * 3) + 1)) b) ?_)
    refine xe_istore (L2 := [(0, .ref (156 + 2 * t)), (1, .int (nI (i))), (2, .int (a)), (3, .int (b)), (4, .int (c)), (5, .int (nI (i * 3))), (6, .int (cmpI ((u.1 (157 + 2 * t) (i * 3)) - 1) (a - 1))), (7, .int (cmpI ((u.1 (157 + 2 * t) ((i * 3) + 1)) - 1) (b - 1)))]) dX6_inOrderWith_39 (by decide) rfl ?_
    refine xe_iload 7 dX6_inOrderWith_41 rfl ?_
    refine xe_if_eq 51 dX6_inOrderWith_43 (by decide) (fun c2 => ?_) (fun c2 => ?_)
    · refine xe_aload_n 0 dX6_inOrderWith_51 rfl rfl ?_
      refine xr_getR (b := (157 + 2 * t)) dX6_inOrderWith_52 fX6_9 rfl (shT _ (by omega)) (by omega) (rT (by omega)) ?_
      refine xe_iload 5 dX6_inOrderWith_55 rfl ?_
      refine xe_iconst (v := nI (2)) dX6_inOrderWith_57 xc2 ?_
      refine xn_iadd dX6_inOrderWith_58 ?_
      refine xr_iald (k := (i * 3) + 2) (v := u.1 (157 + 2 * t) ((i * 3) + 2)) dX6_inOrderWith_59 (shTC _ (by omega)) (by omega) (by omega) (by decide) rfl ?_
      refine xe_iload 4 dX6_inOrderWith_60 rfl ?_
      refine xe_callSN (As := [.int (u.1 (157 + 2 * t) ((i * 3) + 2)), .int (c)]) (rest := []) dX6_inOrderWith_62 wX9_inOrder lX6_44 tX9_inOrder ⟨by decide, by decide⟩ rfl rfl (by simp [Value.category]) (xC.pure (v := .int (cmpI ((u.1 (157 + 2 * t) ((i * 3) + 2)) - 1) (c - 1))) (qX9_inOrder u (u.1 (157 + 2 * t) ((i * 3) + 2)) c) ?_)
      exact xe_ret (r := (some (.int (cmpI ((u.1 (157 + 2 * t) ((i * 3) + 2)) - 1) (c - 1))))) dX6_inOrderWith_65 trivial (k1 c1 c2)
    · refine xe_iload 7 dX6_inOrderWith_46 rfl ?_
      refine xe_goto 65 dX6_inOrderWith_48 (by decide) ?_
      exact xe_ret (r := (some (.int (cmpI ((u.1 (157 + 2 * t) ((i * 3) + 1)) - 1) (b - 1))))) dX6_inOrderWith_65 trivial (k2 c1 c2)
  · refine xe_iload 6 dX6_inOrderWith_23 rfl ?_
    exact xe_ret (r := (some (.int (cmpI ((u.1 (157 + 2 * t) (i * 3)) - 1) (a - 1))))) dX6_inOrderWith_25 trivial (k3 c1)

theorem gX6_placeFor_0 (u : xU) (t n cols : Nat) (a b c : Int32) {Q : Option Value → xM → Prop} (ht : t < 8) (hcols : cols ≤ 3) (hn : n ≤ 40) (v1 : u.1 (156 + 2 * t) 0 = nI (cols)) (v2 : u.1 (156 + 2 * t) 1 = nI (n))
    (k1 : xE mX6_placeFor 9 [(0, .ref (156 + 2 * t)), (1, .int (a)), (2, .int (b)), (3, .int (c)), (4, .int (nI (0))), (5, .int (nI (n)))] [] (xmm u) Q) : xE mX6_placeFor 0 [(0, .ref (156 + 2 * t)), (1, .int (a)), (2, .int (b)), (3, .int (c))] [] (xmm u) Q := by
  refine xe_iconst (v := nI (0)) dX6_placeFor_0 xc0 ?_
  refine xe_istore (L2 := [(0, .ref (156 + 2 * t)), (1, .int (a)), (2, .int (b)), (3, .int (c)), (4, .int (nI (0)))]) dX6_placeFor_1 (by decide) rfl ?_
  refine xe_aload_n 0 dX6_placeFor_3 rfl rfl ?_
  refine xr_getI (v := nI (n)) dX6_placeFor_4 fX6_19 (shT _ (by omega)) (by omega) v2 ?_
  refine xe_istore (L2 := [(0, .ref (156 + 2 * t)), (1, .int (a)), (2, .int (b)), (3, .int (c)), (4, .int (nI (0))), (5, .int (nI (n)))]) dX6_placeFor_7 (by decide) rfl ?_
  exact k1

theorem gX6_placeFor_9 (u : xU) (t lo hi : Nat) (a b c : Int32) {Q : Option Value → xM → Prop} (ht : t < 8) (hlo : lo ≤ 40) (hhi : hi ≤ 40) 
    (k1 : hi ≤ lo → Q (some (.int (nI (lo)))) (xmm u))
    (k2 : ¬ hi ≤ lo → xC mX6_inOrderWith [.ref (156 + 2 * t), .int (nI ((lo + hi) / 2)), .int (a), .int (b), .int (c)] (xmm u) (fun r μ1 => xE mX6_placeFor 34 [(0, .ref (156 + 2 * t)), (1, .int (a)), (2, .int (b)), (3, .int (c)), (4, .int (nI (lo))), (5, .int (nI (hi))), (6, .int (nI ((lo + hi) / 2)))] (r.toList ++ []) μ1 Q)) : xE mX6_placeFor 9 [(0, .ref (156 + 2 * t)), (1, .int (a)), (2, .int (b)), (3, .int (c)), (4, .int (nI (lo))), (5, .int (nI (hi)))] [] (xmm u) Q := by
  refine xe_iload 4 dX6_placeFor_9 rfl ?_
  refine xe_iload 5 dX6_placeFor_11 rfl ?_
  refine xn_icmp_ge 53 dX6_placeFor_13 (by decide) (by omega) (by omega) (fun c1 => ?_) (fun c1 => ?_)
  · refine xe_iload 4 dX6_placeFor_53 rfl ?_
    exact xe_ret (r := (some (.int (nI (lo))))) dX6_placeFor_55 trivial (k1 c1)
  · refine xe_iload 4 dX6_placeFor_16 rfl ?_
    refine xe_iload 5 dX6_placeFor_18 rfl ?_
    refine xn_iadd dX6_placeFor_20 ?_
    refine xe_iconst (v := nI (1)) dX6_placeFor_21 xc1 ?_
    refine xn_half dX6_placeFor_22 (by omega) ?_
    refine xe_istore (L2 := [(0, .ref (156 + 2 * t)), (1, .int (a)), (2, .int (b)), (3, .int (c)), (4, .int (nI (lo))), (5, .int (nI (hi))), (6, .int (nI ((lo + hi) / 2)))]) dX6_placeFor_23 (by decide) rfl ?_
    refine xe_aload_n 0 dX6_placeFor_25 rfl rfl ?_
    refine xe_iload 6 dX6_placeFor_26 rfl ?_
    refine xe_iload_n 1 dX6_placeFor_28 rfl rfl ?_
    refine xe_iload_n 2 dX6_placeFor_29 rfl rfl ?_
    refine xe_iload_n 3 dX6_placeFor_30 rfl rfl ?_
    refine xe_callV (As := [.int (nI ((lo + hi) / 2)), .int (a), .int (b), .int (c)]) (rest := []) dX6_placeFor_31 wX6_inOrderWith lX6_40 iX6_inOrderWith sX6_inOrderWith ⟨by decide, by decide⟩ (shT _ (by omega)) rfl (xin_mm (by omega)) rfl rfl (by simp [Value.category]) ?_
    exact k2 c1

