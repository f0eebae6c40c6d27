theorem qX10_isTable_b {u : xU} {T : TBL} (hT : TI T) (h : MT T u) (t : Int32) : xC mX10_isTable [.ref 172, .int t] (xmm u) (fun r μ' => r = some (.int (xb (tIs T t = true))) ∧ μ' = xmm u) := by
  by_cases ho : tOk t
  · obtain ⟨k, hk, rfl⟩ := tOk_iff.mp ho
    have q := qX10_isTable u k (T.2.1 k) (T.1 k) hk (hT k hk).1 (hT k hk).2.1 (h k hk).1 (h k hk).2.1
    rw [xb_eq (show 0 < T.1 k ↔ tIs T (nI k) = true by rw [tIs_n hk]; omega)] at q
    exact q
  · have q := qX10_isTableI u t ho
    rw [xb_eq (show False ↔ tIs T t = true from ⟨fun z => z.elim, fun z => by obtain ⟨k, hk, rfl, -⟩ := tIs_t z; exact ho (tOk_iff.mpr ⟨k, hk, rfl⟩)⟩)] at q
    exact q
theorem qX10_put {u : xU} {T : TBL} (hT : TI T) (h : MT T u) (t a b c : Int32) : xC mX10_put [.ref 172, .int t, .int a, .int b, .int c] (xmm u) (pM u (.int (aPut T t a b c).1) (aPut T t a b c).2) := by
  unfold aPut
  by_cases hi : tIs T t = true
  · obtain ⟨k, hk, rfl, e, h0⟩ := tIs_t hi
    rw [if_pos hi, e]
    exact mput_in hT h k a b c hk h0
  · rw [if_neg hi]
    have q := qX10_isTable_b hT h t
    rw [xb_eq (show tIs T t = true ↔ False from ⟨hi, fun z => z.elim⟩)] at q
    exact xC.of xpl10 (Nat.le_of_ble_eq_true rfl) (gX10_put_I u t a b c q (fun z => z.elim) (fun _ => ⟨u, rfl, rfl, h, frM.rf⟩))
theorem qX10_drop {u : xU} {T : TBL} (hT : TI T) (h : MT T u) (t a b c : Int32) : xC mX10_drop [.ref 172, .int t, .int a, .int b, .int c] (xmm u) (pM u (.int (xb ((aDrop T t a b c).1 = true))) (aDrop T t a b c).2) := by
  unfold aDrop
  by_cases hi : tIs T t = true
  · obtain ⟨k, hk, rfl, e, h0⟩ := tIs_t hi
    rw [if_pos hi, e]
    exact mdrop_in hT h k a b c hk h0
  · rw [if_neg hi]
    have q := qX10_isTable_b hT h t
    rw [xb_eq (show tIs T t = true ↔ False from ⟨hi, fun z => z.elim⟩)] at q
    exact xC.of xpl10 (Nat.le_of_ble_eq_true rfl) (gX10_drop_I u t a b c q (fun _ => ⟨u, rfl, by rw [xb_f (fun z => by cases z)]; rfl, h, frM.rf⟩) (fun z => z.elim))

theorem gX10_rows_0 (u : xU) (t n cols : Nat) {Q : Option Value → xM → Prop} (ht : t < 8) (hcols : cols ≤ 3) (hn : n ≤ 40) (hit : xC mX10_isTable [.ref 172, .int (nI t)] (xmm u) (fun r μ' => r = some (.int (xb (0 < cols))) ∧ μ' = xmm u)) (v1 : u.1 173 t = nI (cols)) (v2 : u.1 174 t = nI (n))
    (k1 : ¬ (0 < cols) → Q (some (.int (-1))) (xmm u))
    (k2 : 0 < cols → Q (some (.int (nI (n)))) (xmm u)) : xE mX10_rows 0 [(0, .ref 172), (1, .int (nI (t)))] [] (xmm u) Q := by
  refine xe_aload_n 0 dX10_rows_0 rfl rfl ?_
  refine xe_iload_n 1 dX10_rows_1 rfl rfl ?_
  refine xe_callV (As := [.int (nI (t))]) (rest := []) dX10_rows_2 wX10_isTable lX10_107 iX10_isTable sX10_isTable ⟨by decide, by decide⟩ sh172 rfl (xin_mm (by decide)) rfl rfl (by simp [Value.category]) (xC.pure (v := .int (xb (0 < cols))) (hit) ?_)
  refine xb_if_eq 17 dX10_rows_5 (by decide) (fun c1 => ?_) (fun c1 => ?_)
  · refine xe_iconst (v := -1) dX10_rows_17 xcm1 ?_
    exact xe_ret (r := (some (.int (-1)))) dX10_rows_18 trivial (k1 c1)
  · refine xe_aload_n 0 dX10_rows_8 rfl rfl ?_
    refine xr_getR (b := 174) dX10_rows_9 fX10_13 rfl sh172 (by decide) rfl ?_
    refine xe_iload_n 1 dX10_rows_12 rfl rfl ?_
    refine xr_iald (k := t) (v := nI (n)) dX10_rows_13 sh174 (by decide) (by omega) (by decide) v2 ?_
    refine xe_goto 18 dX10_rows_14 (by decide) ?_
    exact xe_ret (r := (some (.int (nI (n))))) dX10_rows_18 trivial (k2 c1)

theorem gX10_rows_I (u : xU) (t : Int32) {Q : Option Value → xM → Prop} (hit : xC mX10_isTable [.ref 172, .int t] (xmm u) (fun r μ' => r = some (.int (xb (False))) ∧ μ' = xmm u)) 
    (k1 : ¬ False → Q (some (.int (-1))) (xmm u))
    (k2 : False → False) : xE mX10_rows 0 [(0, .ref 172), (1, .int (t))] [] (xmm u) Q := by
  refine xe_aload_n 0 dX10_rows_0 rfl rfl ?_
  refine xe_iload_n 1 dX10_rows_1 rfl rfl ?_
  refine xe_callV (As := [.int (t)]) (rest := []) dX10_rows_2 wX10_isTable lX10_107 iX10_isTable sX10_isTable ⟨by decide, by decide⟩ sh172 rfl (xin_mm (by decide)) rfl rfl (by simp [Value.category]) (xC.pure (v := .int (xb (False))) (hit) ?_)
  refine xb_if_eq 17 dX10_rows_5 (by decide) (fun c1 => ?_) (fun c1 => ?_)
  · refine xe_iconst (v := -1) dX10_rows_17 xcm1 ?_
    exact xe_ret (r := (some (.int (-1)))) dX10_rows_18 trivial (k1 c1)
  · refine xe_aload_n 0 dX10_rows_8 rfl rfl ?_
    refine xr_getR (b := 174) dX10_rows_9 fX10_13 rfl sh172 (by decide) rfl ?_
    refine xe_iload_n 1 dX10_rows_12 rfl rfl ?_
    exact (k2 c1).elim

theorem gX10_row_I (u : xU) (t i c : Int32) {Q : Option Value → xM → Prop} (hit : xC mX10_isTable [.ref 172, .int t] (xmm u) (fun r μ' => r = some (.int (xb (False))) ∧ μ' = xmm u)) 
    (k1 : ¬ False → Q (some (.int (nI (0)))) (xmm u))
    (k2 : False → False) : xE mX10_row 0 [(0, .ref 172), (1, .int (t)), (2, .int (i)), (3, .int (c))] [] (xmm u) Q := by
  refine xe_aload_n 0 dX10_row_0 rfl rfl ?_
  refine xe_iload_n 1 dX10_row_1 rfl rfl ?_
  refine xe_callV (As := [.int (t)]) (rest := []) dX10_row_2 wX10_isTable lX10_107 iX10_isTable sX10_isTable ⟨by decide, by decide⟩ sh172 rfl (xin_mm (by decide)) rfl rfl (by simp [Value.category]) (xC.pure (v := .int (xb (False))) (hit) ?_)
  refine xb_if_eq 50 dX10_row_5 (by decide) (fun c1 => ?_) (fun c1 => ?_)
  · refine xe_iconst (v := nI (0)) dX10_row_50 xc0 ?_
    exact xe_ret (r := (some (.int (nI (0))))) dX10_row_51 trivial (k1 c1)
  · refine xe_iload_n 2 dX10_row_8 rfl rfl ?_
    refine xe_iconst (v := nI (0)) dX10_row_9 xc0 ?_
    refine xe_aload_n 0 dX10_row_10 rfl rfl ?_
    refine xr_getR (b := 174) dX10_row_11 fX10_13 rfl sh172 (by decide) rfl ?_
    refine xe_iload_n 1 dX10_row_14 rfl rfl ?_
    exact (k2 c1).elim

theorem gX10_row_0 (u : xU) (t n cols : Nat) (i c : Nat) {Q : Option Value → xM → Prop} (ht : t < 8) (hcols : cols ≤ 3) (hn : n ≤ 40) (hc0 : 0 < cols) (hn0 : 0 < n) (hi : i < 2147483648) (hc : c < 2147483648) (hit : xC mX10_isTable [.ref 172, .int (nI t)] (xmm u) (fun r μ' => r = some (.int (xb (0 < cols))) ∧ μ' = xmm u)) (v1 : u.1 173 t = nI (cols)) (v2 : u.1 174 t = nI (n))
    (k1 : ¬ (0 < cols) → Q (some (.int (nI (0)))) (xmm u))
    (k2 : 0 < cols → ¬ (0 ≤ i ∧ i ≤ (n - 1)) → Q (some (.int (nI (0)))) (xmm u))
    (k3 : 0 < cols → 0 ≤ i ∧ i ≤ (n - 1) → ¬ (0 ≤ c ∧ c ≤ (cols - 1)) → Q (some (.int (nI (0)))) (xmm u))
    (k4 : 0 < cols → 0 ≤ i ∧ i ≤ (n - 1) → 0 ≤ c ∧ c ≤ (cols - 1) → Q (some (.int (u.1 175 (120 * t + 3 * i + c)))) (xmm u)) : xE mX10_row 0 [(0, .ref 172), (1, .int (nI (t))), (2, .int (nI (i))), (3, .int (nI (c)))] [] (xmm u) Q := by
  refine xe_aload_n 0 dX10_row_0 rfl rfl ?_
  refine xe_iload_n 1 dX10_row_1 rfl rfl ?_
  refine xe_callV (As := [.int (nI (t))]) (rest := []) dX10_row_2 wX10_isTable lX10_107 iX10_isTable sX10_isTable ⟨by decide, by decide⟩ sh172 rfl (xin_mm (by decide)) rfl rfl (by simp [Value.category]) (xC.pure (v := .int (xb (0 < cols))) (hit) ?_)
  refine xb_if_eq 50 dX10_row_5 (by decide) (fun c1 => ?_) (fun c1 => ?_)
  · refine xe_iconst (v := nI (0)) dX10_row_50 xc0 ?_
    exact xe_ret (r := (some (.int (nI (0))))) dX10_row_51 trivial (k1 c1)
  · refine xe_iload_n 2 dX10_row_8 rfl rfl ?_
    refine xe_iconst (v := nI (0)) dX10_row_9 xc0 ?_
    refine xe_aload_n 0 dX10_row_10 rfl rfl ?_
    refine xr_getR (b := 174) dX10_row_11 fX10_13 rfl sh172 (by decide) rfl ?_
    refine xe_iload_n 1 dX10_row_14 rfl rfl ?_
    refine xr_iald (k := t) (v := nI (n)) dX10_row_15 sh174 (by decide) (by omega) (by decide) v2 ?_
    refine xe_iconst (v := nI (1)) dX10_row_16 xc1 ?_
    refine xn_isub dX10_row_17 (by omega) ?_
    refine xe_callS (As := [.int (nI (i)), .int (nI (0)), .int (nI (n - 1))]) (rest := []) dX10_row_18 wX10_lies lX10_88 tX10_lies ⟨by decide, by decide⟩ rfl rfl (by simp [Value.category]) (xC.pure (v := .int (xb (0 ≤ i ∧ i ≤ (n - 1)))) (qX10_liesN u i 0 (n - 1) (by omega) (by omega) (by omega)) ?_)
    refine xb_if_eq 50 dX10_row_21 (by decide) (fun c2 => ?_) (fun c2 => ?_)
    · refine xe_iconst (v := nI (0)) dX10_row_50 xc0 ?_
      exact xe_ret (r := (some (.int (nI (0))))) dX10_row_51 trivial (k2 c1 c2)
    · refine xe_iload_n 3 dX10_row_24 rfl rfl ?_
      refine xe_iconst (v := nI (0)) dX10_row_25 xc0 ?_
      refine xe_aload_n 0 dX10_row_26 rfl rfl ?_
      refine xr_getR (b := 173) dX10_row_27 fX10_7 rfl sh172 (by decide) rfl ?_
      refine xe_iload_n 1 dX10_row_30 rfl rfl ?_
      refine xr_iald (k := t) (v := nI (cols)) dX10_row_31 sh173 (by decide) (by omega) (by decide) v1 ?_
      refine xe_iconst (v := nI (1)) dX10_row_32 xc1 ?_
      refine xn_isub dX10_row_33 (by omega) ?_
      refine xe_callS (As := [.int (nI (c)), .int (nI (0)), .int (nI (cols - 1))]) (rest := []) dX10_row_34 wX10_lies lX10_88 tX10_lies ⟨by decide, by decide⟩ rfl rfl (by simp [Value.category]) (xC.pure (v := .int (xb (0 ≤ c ∧ c ≤ (cols - 1)))) (qX10_liesN u c 0 (cols - 1) (by omega) (by omega) (by omega)) ?_)
      refine xb_if_eq 50 dX10_row_37 (by decide) (fun c3 => ?_) (fun c3 => ?_)
      · refine xe_iconst (v := nI (0)) dX10_row_50 xc0 ?_
        exact xe_ret (r := (some (.int (nI (0))))) dX10_row_51 trivial (k3 c1 c2 c3)
      · refine xe_aload_n 0 dX10_row_40 rfl rfl ?_
        refine xe_iload_n 1 dX10_row_41 rfl rfl ?_
        refine xe_iload_n 2 dX10_row_42 rfl rfl ?_
        refine xe_iload_n 3 dX10_row_43 rfl rfl ?_
        refine xe_callV (As := [.int (nI (t)), .int (nI (i)), .int (nI (c))]) (rest := []) dX10_row_44 wX10_cell lX10_95 iX10_cell sX10_cell ⟨by decide, by decide⟩ sh172 rfl (xin_mm (by decide)) rfl rfl (by simp [Value.category]) (xC.pure (v := .int (u.1 175 (120 * t + 3 * i + c))) (qX10_cell u t i c (by omega) (by omega) (by omega)) ?_)
        refine xe_goto 51 dX10_row_47 (by decide) ?_
        exact xe_ret (r := (some (.int (u.1 175 (120 * t + 3 * i + c))))) dX10_row_51 trivial (k4 c1 c2 c3)

theorem gX10_row_J (u : xU) (t n cols : Nat) (i c : Int32) {Q : Option Value → xM → Prop} (ht : t < 8) (hcols : cols ≤ 3) (hn : n ≤ 40) (hc0 : 0 < cols) (hn0 : 0 < n) (hit : xC mX10_isTable [.ref 172, .int (nI t)] (xmm u) (fun r μ' => r = some (.int (xb (0 < cols))) ∧ μ' = xmm u)) (v1 : u.1 173 t = nI (cols)) (v2 : u.1 174 t = nI (n))
    (k1 : ¬ (0 < cols) → Q (some (.int (nI (0)))) (xmm u))
    (k2 : 0 < cols → ¬ (0 ≤ i ∧ i ≤ (nI (n - 1))) → Q (some (.int (nI (0)))) (xmm u))
    (k3 : 0 < cols → 0 ≤ i ∧ i ≤ (nI (n - 1)) → ¬ (0 ≤ c ∧ c ≤ (nI (cols - 1))) → Q (some (.int (nI (0)))) (xmm u))
    (k4 : 0 < cols → 0 ≤ i ∧ i ≤ (nI (n - 1)) → 0 ≤ c ∧ c ≤ (nI (cols - 1)) → xC mX10_cell [.ref 172, .int (nI (t)), .int (i), .int (c)] (xmm u) (fun r μ1 => xE mX10_row 47 [] (r.toList ++ []) μ1 Q)) : xE mX10_row 0 [(0, .ref 172), (1, .int (nI (t))), (2, .int (i)), (3, .int (c))] [] (xmm u) Q := by
  refine xe_aload_n 0 dX10_row_0 rfl rfl ?_
  refine xe_iload_n 1 dX10_row_1 rfl rfl ?_
  refine xe_callV (As := [.int (nI (t))]) (rest := []) dX10_row_2 wX10_isTable lX10_107 iX10_isTable sX10_isTable ⟨by decide, by decide⟩ sh172 rfl (xin_mm (by decide)) rfl rfl (by simp [Value.category]) (xC.pure (v := .int (xb (0 < cols))) (hit) ?_)
  refine xb_if_eq 50 dX10_row_5 (by decide) (fun c1 => ?_) (fun c1 => ?_)
  · refine xe_iconst (v := nI (0)) dX10_row_50 xc0 ?_
    exact xe_ret (r := (some (.int (nI (0))))) dX10_row_51 trivial (k1 c1)
  · refine xe_iload_n 2 dX10_row_8 rfl rfl ?_
    refine xe_iconst (v := nI (0)) dX10_row_9 xc0 ?_
    refine xe_aload_n 0 dX10_row_10 rfl rfl ?_
    refine xr_getR (b := 174) dX10_row_11 fX10_13 rfl sh172 (by decide) rfl ?_
    refine xe_iload_n 1 dX10_row_14 rfl rfl ?_
    refine xr_iald (k := t) (v := nI (n)) dX10_row_15 sh174 (by decide) (by omega) (by decide) v2 ?_
    refine xe_iconst (v := nI (1)) dX10_row_16 xc1 ?_
    refine xn_isub dX10_row_17 (by omega) ?_
    refine xe_callS (As := [.int (i), .int (nI (0)), .int (nI (n - 1))]) (rest := []) dX10_row_18 wX10_lies lX10_88 tX10_lies ⟨by decide, by decide⟩ rfl rfl (by simp [Value.category]) (xC.pure (v := .int (xb (0 ≤ i ∧ i ≤ (nI (n - 1))))) (qX10_lies u i (nI (0)) (nI (n - 1))) ?_)
    refine xb_if_eq 50 dX10_row_21 (by decide) (fun c2 => ?_) (fun c2 => ?_)
    · refine xe_iconst (v := nI (0)) dX10_row_50 xc0 ?_
      exact xe_ret (r := (some (.int (nI (0))))) dX10_row_51 trivial (k2 c1 c2)
    · refine xe_iload_n 3 dX10_row_24 rfl rfl ?_
      refine xe_iconst (v := nI (0)) dX10_row_25 xc0 ?_
      refine xe_aload_n 0 dX10_row_26 rfl rfl ?_
      refine xr_getR (b := 173) dX10_row_27 fX10_7 rfl sh172 (by decide) rfl ?_
      refine xe_iload_n 1 dX10_row_30 rfl rfl ?_
      refine xr_iald (k := t) (v := nI (cols)) dX10_row_31 sh173 (by decide) (by omega) (by decide) v1 ?_
      refine xe_iconst (v := nI (1)) dX10_row_32 xc1 ?_
      refine xn_isub dX10_row_33 (by omega) ?_
      refine xe_callS (As := [.int (c), .int (nI (0)), .int (nI (cols - 1))]) (rest := []) dX10_row_34 wX10_lies lX10_88 tX10_lies ⟨by decide, by decide⟩ rfl rfl (by simp [Value.category]) (xC.pure (v := .int (xb (0 ≤ c ∧ c ≤ (nI (cols - 1))))) (qX10_lies u c (nI (0)) (nI (cols - 1))) ?_)
      refine xb_if_eq 50 dX10_row_37 (by decide) (fun c3 => ?_) (fun c3 => ?_)
      · refine xe_iconst (v := nI (0)) dX10_row_50 xc0 ?_
        exact xe_ret (r := (some (.int (nI (0))))) dX10_row_51 trivial (k3 c1 c2 c3)
      · refine xe_aload_n 0 dX10_row_40 rfl rfl ?_
        refine xe_iload_n 1 dX10_row_41 rfl rfl ?_
        refine xe_iload_n 2 dX10_row_42 rfl rfl ?_
        refine xe_iload_n 3 dX10_row_43 rfl rfl ?_
        refine xE.sub [] rfl ?_
        refine xe_callV (As := [.int (nI (t)), .int (i), .int (c)]) (rest := []) dX10_row_44 wX10_cell lX10_95 iX10_cell sX10_cell ⟨by decide, by decide⟩ sh172 rfl (xin_mm (by decide)) rfl rfl (by simp [Value.category]) ?_
        exact k4 c1 c2 c3

theorem gX10_row_K (u : xU) (t cols : Nat) (i c : Int32) {Q : Option Value → xM → Prop} (ht : t < 8) (hcols : cols ≤ 3) (hc0 : 0 < cols) (hit : xC mX10_isTable [.ref 172, .int (nI t)] (xmm u) (fun r μ' => r = some (.int (xb (0 < cols))) ∧ μ' = xmm u)) (v1 : u.1 173 t = nI (cols)) (v2 : u.1 174 t = 0)
    (k1 : ¬ (0 < cols) → Q (some (.int (nI (0)))) (xmm u))
    (k2 : 0 < cols → ¬ (0 ≤ i ∧ i ≤ (0 - 1)) → Q (some (.int (nI (0)))) (xmm u))
    (k3 : 0 < cols → 0 ≤ i ∧ i ≤ (0 - 1) → ¬ (0 ≤ c ∧ c ≤ (nI (cols - 1))) → Q (some (.int (nI (0)))) (xmm u))
    (k4 : 0 < cols → 0 ≤ i ∧ i ≤ (0 - 1) → 0 ≤ c ∧ c ≤ (nI (cols - 1)) → xC mX10_cell [.ref 172, .int (nI (t)), .int (i), .int (c)] (xmm u) (fun r μ1 => xE mX10_row 47 [] (r.toList ++ []) μ1 Q)) : xE mX10_row 0 [(0, .ref 172), (1, .int (nI (t))), (2, .int (i)), (3, .int (c))] [] (xmm u) Q := by
  refine xe_aload_n 0 dX10_row_0 rfl rfl ?_
  refine xe_iload_n 1 dX10_row_1 rfl rfl ?_
  refine xe_callV (As := [.int (nI (t))]) (rest := []) dX10_row_2 wX10_isTable lX10_107 iX10_isTable sX10_isTable ⟨by decide, by decide⟩ sh172 rfl (xin_mm (by decide)) rfl rfl (by simp [Value.category]) (xC.pure (v := .int (xb (0 < cols))) (hit) ?_)
  refine xb_if_eq 50 dX10_row_5 (by decide) (fun c1 => ?_) (fun c1 => ?_)
  · refine xe_iconst (v := nI (0)) dX10_row_50 xc0 ?_
    exact xe_ret (r := (some (.int (nI (0))))) dX10_row_51 trivial (k1 c1)
  · refine xe_iload_n 2 dX10_row_8 rfl rfl ?_
    refine xe_iconst (v := nI (0)) dX10_row_9 xc0 ?_
    refine xe_aload_n 0 dX10_row_10 rfl rfl ?_
    refine xr_getR (b := 174) dX10_row_11 fX10_13 rfl sh172 (by decide) rfl ?_
    refine xe_iload_n 1 dX10_row_14 rfl rfl ?_
    refine xr_iald (k := t) (v := 0) dX10_row_15 sh174 (by decide) (by omega) (by decide) v2 ?_
    refine xe_iconst (v := nI (1)) dX10_row_16 xc1 ?_
    refine xe_isub dX10_row_17 ?_
    refine xe_callS (As := [.int (i), .int (nI (0)), .int (0 - 1)]) (rest := []) dX10_row_18 wX10_lies lX10_88 tX10_lies ⟨by decide, by decide⟩ rfl rfl (by simp [Value.category]) (xC.pure (v := .int (xb (0 ≤ i ∧ i ≤ (0 - 1)))) (qX10_lies u i (nI (0)) (0 - 1)) ?_)
    refine xb_if_eq 50 dX10_row_21 (by decide) (fun c2 => ?_) (fun c2 => ?_)
    · refine xe_iconst (v := nI (0)) dX10_row_50 xc0 ?_
      exact xe_ret (r := (some (.int (nI (0))))) dX10_row_51 trivial (k2 c1 c2)
    · refine xe_iload_n 3 dX10_row_24 rfl rfl ?_
      refine xe_iconst (v := nI (0)) dX10_row_25 xc0 ?_
      refine xe_aload_n 0 dX10_row_26 rfl rfl ?_
      refine xr_getR (b := 173) dX10_row_27 fX10_7 rfl sh172 (by decide) rfl ?_
      refine xe_iload_n 1 dX10_row_30 rfl rfl ?_
      refine xr_iald (k := t) (v := nI (cols)) dX10_row_31 sh173 (by decide) (by omega) (by decide) v1 ?_
      refine xe_iconst (v := nI (1)) dX10_row_32 xc1 ?_
      refine xn_isub dX10_row_33 (by omega) ?_
      refine xe_callS (As := [.int (c), .int (nI (0)), .int (nI (cols - 1))]) (rest := []) dX10_row_34 wX10_lies lX10_88 tX10_lies ⟨by decide, by decide⟩ rfl rfl (by simp [Value.category]) (xC.pure (v := .int (xb (0 ≤ c ∧ c ≤ (nI (cols - 1))))) (qX10_lies u c (nI (0)) (nI (cols - 1))) ?_)
      refine xb_if_eq 50 dX10_row_37 (by decide) (fun c3 => ?_) (fun c3 => ?_)
      · refine xe_iconst (v := nI (0)) dX10_row_50 xc0 ?_
        exact xe_ret (r := (some (.int (nI (0))))) dX10_row_51 trivial (k3 c1 c2 c3)
      · refine xe_aload_n 0 dX10_row_40 rfl rfl ?_
        refine xe_iload_n 1 dX10_row_41 rfl rfl ?_
        refine xe_iload_n 2 dX10_row_42 rfl rfl ?_
        refine xe_iload_n 3 dX10_row_43 rfl rfl ?_
        refine xE.sub [] rfl ?_
        refine xe_callV (As := [.int (nI (t)), .int (i), .int (c)]) (rest := []) dX10_row_44 wX10_cell lX10_95 iX10_cell sX10_cell ⟨by decide, by decide⟩ sh172 rfl (xin_mm (by decide)) rfl rfl (by simp [Value.category]) ?_
        exact k4 c1 c2 c3

theorem qX10_rows {u : xU} {T : TBL} (hT : TI T) (h : MT T u) (t : Int32) : xC mX10_rows [.ref 172, .int t] (xmm u) (fun r μ' => r = some (.int (aRows T t)) ∧ μ' = xmm u) := by
  unfold aRows
  by_cases hi : tIs T t = true
  · obtain ⟨k, hk, rfl, e, h0⟩ := tIs_t hi
    rw [if_pos hi, e]
    exact xC.of xpl10 (Nat.le_of_ble_eq_true rfl) (gX10_rows_0 u k (T.2.1 k) (T.1 k) hk (hT k hk).1 (hT k hk).2.1 (qX10_isTable u k (T.2.1 k) (T.1 k) hk (hT k hk).1 (hT k hk).2.1 (h k hk).1 (h k hk).2.1) (h k hk).1 (h k hk).2.1 (fun q => absurd (by omega) q) (fun q => ⟨rfl, rfl⟩))
  · rw [if_neg hi]
    have q := qX10_isTable_b hT h t
    rw [xb_eq (show tIs T t = true ↔ False from ⟨hi, fun z => z.elim⟩)] at q
    exact xC.of xpl10 (Nat.le_of_ble_eq_true rfl) (gX10_rows_I u t q (fun _ => ⟨rfl, rfl⟩) (fun z => z.elim))
theorem qX10_row {u : xU} {T : TBL} (hT : TI T) (h : MT T u) (t i c : Int32) : xC mX10_row [.ref 172, .int t, .int i, .int c] (xmm u) (fun r μ' => r = some (.int (aRow T t i c)) ∧ μ' = xmm u) := by
  unfold aRow
  by_cases hi : tIs T t = true
  · obtain ⟨k, hk, rfl, e, h0⟩ := tIs_t hi
    rw [if_pos hi, e]
    obtain ⟨h1, h2, h3⟩ := h k hk
    obtain ⟨i1, i2, -⟩ := hT k hk
    have ht := qX10_isTable u k (T.2.1 k) (T.1 k) hk i1 i2 h1 h2
    have bad : ∀ {i c : Int32}, ¬ (0 ≤ i ∧ i ≤ nI (T.2.1 k - 1) ∧ 0 ≤ c ∧ c ≤ nI (T.1 k - 1)) ∨ T.2.1 k = 0 → aCell T k i c = 0 := fun {i c} q => by
      unfold aCell
      rw [if_neg]
      rintro ⟨a1, a2, a3, a4⟩
      rcases xspl i with z | ⟨i, hi, rfl⟩
      · exact neg_nn z a1
      rcases xspl c with z | ⟨c, hc, rfl⟩
      · exact neg_nn z a3
      rw [nI_ltn hi (by omega)] at a2
      rw [nI_ltn hc (by omega)] at a4
      rcases q with q | q
      · exact q ⟨a1, (nI_len hi (by omega)).mpr (by omega), a3, (nI_len hc (by omega)).mpr (by omega)⟩
      · omega
    by_cases hn : T.2.1 k = 0
    · rw [bad (Or.inr hn)]
      have m1 : ∀ x : Int32, ¬ (0 ≤ x ∧ x ≤ 0 - 1) := fun x q => by
        have a := q.1
        have b := q.2
        rw [Int32.le_iff_toInt_le] at a b
        rw [show ((0 : Int32) - 1).toInt = -1 from by decide] at b
        rw [show (0 : Int32).toInt = 0 from by decide] at a
        omega
      refine xC.of xpl10 (Nat.le_of_ble_eq_true rfl) (gX10_row_K u k (T.1 k) i c hk i1 (by omega) ht h1 (by rw [h2, hn]; rfl) (fun q => absurd (by omega) q) (fun q z => ⟨rfl, rfl⟩) (fun q z => absurd z (m1 i)) (fun q z => absurd z (m1 i)))
    · rcases xspl i with z | ⟨i, hi, rfl⟩
      · rw [bad (Or.inl (fun q => neg_nn z q.1))]
        exact xC.of xpl10 (Nat.le_of_ble_eq_true rfl) (gX10_row_J u k (T.2.1 k) (T.1 k) i c hk i1 i2 (by omega) (by omega) ht h1 h2 (fun q => absurd (by omega) q) (fun q z => ⟨rfl, rfl⟩) (fun q y => absurd y.1 (neg_nn z)) (fun q y => absurd y.1 (neg_nn z)))
      · rcases xspl c with z | ⟨c, hc, rfl⟩
        · rw [bad (Or.inl (fun q => neg_nn z q.2.2.1))]
          exact xC.of xpl10 (Nat.le_of_ble_eq_true rfl) (gX10_row_J u k (T.2.1 k) (T.1 k) _ c hk i1 i2 (by omega) (by omega) ht h1 h2 (fun q => absurd (by omega) q) (fun q z => ⟨rfl, rfl⟩) (fun q y x => ⟨rfl, rfl⟩) (fun q y x => absurd x.1 (neg_nn z)))
        · rw [aCell_N hT hk hi hc]
          refine xC.of xpl10 (Nat.le_of_ble_eq_true rfl) (gX10_row_0 u k (T.2.1 k) (T.1 k) i c hk i1 i2 (by omega) (by omega) hi hc ht h1 h2 (fun q => absurd (by omega) q) (fun q z => ⟨?_, rfl⟩) (fun q z y => ⟨?_, rfl⟩) (fun q z y => ⟨?_, rfl⟩))
          · rw [if_neg (by omega)]; rfl
          · rw [if_neg (by omega)]; rfl
          · rw [if_pos (by omega), h3 i c (by omega) (by omega)]
  · rw [if_neg hi]
    have q := qX10_isTable_b hT h t
    rw [xb_eq (show tIs T t = true ↔ False from ⟨hi, fun z => z.elim⟩)] at q
    exact xC.of xpl10 (Nat.le_of_ble_eq_true rfl) (gX10_row_I u t i c q (fun _ => ⟨rfl, rfl⟩) (fun z => z.elim))

