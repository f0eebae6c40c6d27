theorem gX10_isName_z (u : xU) (k : Int32) {Q : Option Value → xM → Prop}  (v1 : u.1 172 16 = (-1))
    (k1 : Q (some (.int (nI (0)))) (xmm u)) : xE mX10_isName 0 [(0, .ref 172), (1, .int (k))] [] (xmm u) Q := by
  refine xe_aload_n 0 dX10_isName_0 rfl rfl ?_
  refine xr_getI (v := (-1)) dX10_isName_1 fX10_46 sh172 (by decide) v1 ?_
  refine xe_iconst (v := -1) dX10_isName_4 xcm1 ?_
  refine xe_icmp_eq 26 dX10_isName_5 (by decide) (fun _ => ?_) (fun q => absurd rfl q)
  refine xe_iconst (v := nI (0)) dX10_isName_26 xc0 ?_
  exact xe_ret (r := (some (.int (nI (0))))) dX10_isName_27 (Or.inl rfl) (k1)

theorem gX10_isName_s (u : xU) (n m : Nat) (k : Int32) {Q : Option Value → xM → Prop} (hn1 : 1 ≤ n) (hn : n ≤ 6) (hm : m ≤ 500) (v1 : u.1 172 16 = nI (m)) (v2 : u.1 172 15 = nI (n))
    (k1 : (nI (m)) = (-1) → Q (some (.int (nI (0)))) (xmm u))
    (k2 : ¬ (nI (m)) = (-1) → ¬ (0 ≤ k ∧ k ≤ (nI (n - 1))) → Q (some (.int (nI (0)))) (xmm u))
    (k3 : ¬ (nI (m)) = (-1) → 0 ≤ k ∧ k ≤ (nI (n - 1)) → Q (some (.int (nI (1)))) (xmm u)) : xE mX10_isName 0 [(0, .ref 172), (1, .int (k))] [] (xmm u) Q := by
  refine xe_aload_n 0 dX10_isName_0 rfl rfl ?_
  refine xr_getI (v := nI (m)) dX10_isName_1 fX10_46 sh172 (by decide) v1 ?_
  refine xe_iconst (v := -1) dX10_isName_4 xcm1 ?_
  refine xe_icmp_eq 26 dX10_isName_5 (by decide) (fun c1 => ?_) (fun c1 => ?_)
  · refine xe_iconst (v := nI (0)) dX10_isName_26 xc0 ?_
    exact xe_ret (r := (some (.int (nI (0))))) dX10_isName_27 (Or.inl rfl) (k1 c1)
  · refine xe_iload_n 1 dX10_isName_8 rfl rfl ?_
    refine xe_iconst (v := nI (0)) dX10_isName_9 xc0 ?_
    refine xe_aload_n 0 dX10_isName_10 rfl rfl ?_
    refine xr_getI (v := nI (n)) dX10_isName_11 fX10_173 sh172 (by decide) v2 ?_
    refine xe_iconst (v := nI (1)) dX10_isName_14 xc1 ?_
    refine xn_isub dX10_isName_15 (by omega) ?_
    refine xe_callS (As := [.int (k), .int (nI (0)), .int (nI (n - 1))]) (rest := []) dX10_isName_16 wX10_lies lX10_88 tX10_lies ⟨by decide, by decide⟩ rfl rfl (by simp [Value.category]) (xC.pure (v := .int (xb (0 ≤ k ∧ k ≤ (nI (n - 1))))) (qX10_lies u k (nI (0)) (nI (n - 1))) ?_)
    refine xb_if_eq 26 dX10_isName_19 (by decide) (fun c2 => ?_) (fun c2 => ?_)
    · refine xe_iconst (v := nI (0)) dX10_isName_26 xc0 ?_
      exact xe_ret (r := (some (.int (nI (0))))) dX10_isName_27 (Or.inl rfl) (k2 c1 c2)
    · refine xe_iconst (v := nI (1)) dX10_isName_22 xc1 ?_
      refine xe_goto 27 dX10_isName_23 (by decide) ?_
      exact xe_ret (r := (some (.int (nI (1))))) dX10_isName_27 (Or.inr rfl) (k3 c1 c2)

theorem gX10_answer_I (u : xU) (i k z : Int32) (b : Bool) {Q : Option Value → xM → Prop} (hin : xC mX10_isName [.ref 172, .int k] (xmm u) (fun r μ' => r = some (.int (xb (b = true))) ∧ μ' = xmm u)) (v1 : u.1 172 16 = z)
    (k1 : ¬ (b = true) → Q (some (.int (nI (0)))) (xmm u))
    (k2 : b = true → ¬ (0 ≤ i ∧ i ≤ (z - 1)) → Q (some (.int (nI (0)))) (xmm u))
    (k3 : b = true → 0 ≤ i ∧ i ≤ (z - 1) → False) : xE mX10_answer 0 [(0, .ref 172), (1, .int (i)), (2, .int (k))] [] (xmm u) Q := by
  refine xe_aload_n 0 dX10_answer_0 rfl rfl ?_
  refine xe_iload_n 2 dX10_answer_1 rfl rfl ?_
  refine xe_callV (As := [.int (k)]) (rest := []) dX10_answer_2 wX10_isName lX10_182 iX10_isName sX10_isName ⟨by decide, by decide⟩ sh172 rfl (xin_mm (by decide)) rfl rfl (by simp [Value.category]) (xC.pure (v := .int (xb (b = true))) (hin) ?_)
  refine xb_if_eq 36 dX10_answer_5 (by decide) (fun c1 => ?_) (fun c1 => ?_)
  · refine xe_iconst (v := nI (0)) dX10_answer_36 xc0 ?_
    exact xe_ret (r := (some (.int (nI (0))))) dX10_answer_37 trivial (k1 c1)
  · refine xe_iload_n 1 dX10_answer_8 rfl rfl ?_
    refine xe_iconst (v := nI (0)) dX10_answer_9 xc0 ?_
    refine xe_aload_n 0 dX10_answer_10 rfl rfl ?_
    refine xr_getI (v := z) dX10_answer_11 fX10_46 sh172 (by decide) v1 ?_
    refine xe_iconst (v := nI (1)) dX10_answer_14 xc1 ?_
    refine xe_isub dX10_answer_15 ?_
    refine xe_callS (As := [.int (i), .int (nI (0)), .int (z - 1)]) (rest := []) dX10_answer_16 wX10_lies lX10_88 tX10_lies ⟨by decide, by decide⟩ rfl rfl (by simp [Value.category]) (xC.pure (v := .int (xb (0 ≤ i ∧ i ≤ (z - 1)))) (qX10_lies u i (nI (0)) (z - 1)) ?_)
    refine xb_if_eq 36 dX10_answer_19 (by decide) (fun c2 => ?_) (fun c2 => ?_)
    · refine xe_iconst (v := nI (0)) dX10_answer_36 xc0 ?_
      exact xe_ret (r := (some (.int (nI (0))))) dX10_answer_37 trivial (k2 c1 c2)
    · refine xe_aload_n 0 dX10_answer_22 rfl rfl ?_
      refine xr_getR (b := 185) dX10_answer_23 fX10_50 rfl sh172 (by decide) rfl ?_
      refine xe_bipush (v := nI (6)) dX10_answer_26 xcb6 ?_
      refine xe_iload_n 1 dX10_answer_28 rfl rfl ?_
      refine xe_imul dX10_answer_29 ?_
      refine xe_iload_n 2 dX10_answer_30 rfl rfl ?_
      refine xe_iadd dX10_answer_31 ?_
      exact (k3 c1 c2).elim

theorem gX10_answer_N (u : xU) (i k m : Nat) (v : Int32) (b : Bool) {Q : Option Value → xM → Prop} (hi : i < m) (hm : m ≤ 500) (hk : k < 6) (hin : xC mX10_isName [.ref 172, .int (nI k)] (xmm u) (fun r μ' => r = some (.int (xb (b = true))) ∧ μ' = xmm u)) (v1 : u.1 172 16 = nI (m)) (v2 : u.1 185 ((6 * i) + k) = v)
    (k1 : ¬ (b = true) → Q (some (.int (nI (0)))) (xmm u))
    (k2 : b = true → ¬ (0 ≤ i ∧ i ≤ (m - 1)) → Q (some (.int (nI (0)))) (xmm u))
    (k3 : b = true → 0 ≤ i ∧ i ≤ (m - 1) → Q (some (.int (v))) (xmm u)) : xE mX10_answer 0 [(0, .ref 172), (1, .int (nI (i))), (2, .int (nI (k)))] [] (xmm u) Q := by
  refine xe_aload_n 0 dX10_answer_0 rfl rfl ?_
  refine xe_iload_n 2 dX10_answer_1 rfl rfl ?_
  refine xe_callV (As := [.int (nI (k))]) (rest := []) dX10_answer_2 wX10_isName lX10_182 iX10_isName sX10_isName ⟨by decide, by decide⟩ sh172 rfl (xin_mm (by decide)) rfl rfl (by simp [Value.category]) (xC.pure (v := .int (xb (b = true))) (hin) ?_)
  refine xb_if_eq 36 dX10_answer_5 (by decide) (fun c1 => ?_) (fun c1 => ?_)
  · refine xe_iconst (v := nI (0)) dX10_answer_36 xc0 ?_
    exact xe_ret (r := (some (.int (nI (0))))) dX10_answer_37 trivial (k1 c1)
  · refine xe_iload_n 1 dX10_answer_8 rfl rfl ?_
    refine xe_iconst (v := nI (0)) dX10_answer_9 xc0 ?_
    refine xe_aload_n 0 dX10_answer_10 rfl rfl ?_
    refine xr_getI (v := nI (m)) dX10_answer_11 fX10_46 sh172 (by decide) v1 ?_
    refine xe_iconst (v := nI (1)) dX10_answer_14 xc1 ?_
    refine xn_isub dX10_answer_15 (by omega) ?_
    refine xe_callS (As := [.int (nI (i)), .int (nI (0)), .int (nI (m - 1))]) (rest := []) dX10_answer_16 wX10_lies lX10_88 tX10_lies ⟨by decide, by decide⟩ rfl rfl (by simp [Value.category]) (xC.pure (v := .int (xb (0 ≤ i ∧ i ≤ (m - 1)))) (qX10_liesN u i 0 (m - 1) (by omega) (by omega) (by omega)) ?_)
    refine xb_if_eq 36 dX10_answer_19 (by decide) (fun c2 => ?_) (fun c2 => ?_)
    · refine xe_iconst (v := nI (0)) dX10_answer_36 xc0 ?_
      exact xe_ret (r := (some (.int (nI (0))))) dX10_answer_37 trivial (k2 c1 c2)
    · refine xe_aload_n 0 dX10_answer_22 rfl rfl ?_
      refine xr_getR (b := 185) dX10_answer_23 fX10_50 rfl sh172 (by decide) rfl ?_
      refine xe_bipush (v := nI (6)) dX10_answer_26 xcb6 ?_
      refine xe_iload_n 1 dX10_answer_28 rfl rfl ?_
      refine xn_imul dX10_answer_29 ?_
      refine xe_iload_n 2 dX10_answer_30 rfl rfl ?_
      refine xn_iadd dX10_answer_31 ?_
      refine xr_iald (k := (6 * i) + k) (v := v) dX10_answer_32 sh185 (by decide) (by omega) (by decide) v2 ?_
      refine xe_goto 37 dX10_answer_33 (by decide) ?_
      exact xe_ret (r := (some (.int (v)))) dX10_answer_37 trivial (k3 c1 c2)

theorem gX10_meetings_I (u : xU) (i : Int32) (b : Bool) {Q : Option Value → xM → Prop} (hin : xC mX10_isName [.ref 172, .int i] (xmm u) (fun r μ' => r = some (.int (xb (b = true))) ∧ μ' = xmm u)) 
    (k1 : ¬ (b = true) → Q (some (.int (-1))) (xmm u))
    (k2 : b = true → False) : xE mX10_meetings 0 [(0, .ref 172), (1, .int (i))] [] (xmm u) Q := by
  refine xe_aload_n 0 dX10_meetings_0 rfl rfl ?_
  refine xe_iload_n 1 dX10_meetings_1 rfl rfl ?_
  refine xe_callV (As := [.int (i)]) (rest := []) dX10_meetings_2 wX10_isName lX10_182 iX10_isName sX10_isName ⟨by decide, by decide⟩ sh172 rfl (xin_mm (by decide)) rfl rfl (by simp [Value.category]) (xC.pure (v := .int (xb (b = true))) (hin) ?_)
  refine xb_if_eq 17 dX10_meetings_5 (by decide) (fun c1 => ?_) (fun c1 => ?_)
  · refine xe_iconst (v := -1) dX10_meetings_17 xcm1 ?_
    exact xe_ret (r := (some (.int (-1)))) dX10_meetings_18 trivial (k1 c1)
  · refine xe_aload_n 0 dX10_meetings_8 rfl rfl ?_
    refine xr_getR (b := 186) dX10_meetings_9 fX10_53 rfl sh172 (by decide) rfl ?_
    refine xe_iload_n 1 dX10_meetings_12 rfl rfl ?_
    exact (k2 c1).elim

theorem gX10_meetings_N (u : xU) (i : Nat) (v : Int32) (b : Bool) {Q : Option Value → xM → Prop} (hi : i < 6) (hin : xC mX10_isName [.ref 172, .int (nI i)] (xmm u) (fun r μ' => r = some (.int (xb (b = true))) ∧ μ' = xmm u)) (v1 : u.1 186 i = v)
    (k1 : ¬ (b = true) → Q (some (.int (-1))) (xmm u))
    (k2 : b = true → Q (some (.int (v))) (xmm u)) : xE mX10_meetings 0 [(0, .ref 172), (1, .int (nI (i)))] [] (xmm u) Q := by
  refine xe_aload_n 0 dX10_meetings_0 rfl rfl ?_
  refine xe_iload_n 1 dX10_meetings_1 rfl rfl ?_
  refine xe_callV (As := [.int (nI (i))]) (rest := []) dX10_meetings_2 wX10_isName lX10_182 iX10_isName sX10_isName ⟨by decide, by decide⟩ sh172 rfl (xin_mm (by decide)) rfl rfl (by simp [Value.category]) (xC.pure (v := .int (xb (b = true))) (hin) ?_)
  refine xb_if_eq 17 dX10_meetings_5 (by decide) (fun c1 => ?_) (fun c1 => ?_)
  · refine xe_iconst (v := -1) dX10_meetings_17 xcm1 ?_
    exact xe_ret (r := (some (.int (-1)))) dX10_meetings_18 trivial (k1 c1)
  · refine xe_aload_n 0 dX10_meetings_8 rfl rfl ?_
    refine xr_getR (b := 186) dX10_meetings_9 fX10_53 rfl sh172 (by decide) rfl ?_
    refine xe_iload_n 1 dX10_meetings_12 rfl rfl ?_
    refine xr_iald (k := i) (v := v) dX10_meetings_13 sh186 (by decide) (by omega) (by decide) v1 ?_
    refine xe_goto 18 dX10_meetings_14 (by decide) ?_
    exact xe_ret (r := (some (.int (v)))) dX10_meetings_18 trivial (k2 c1)

theorem gX10_witness_I (u : xU) (i p z P : Int32) {Q : Option Value → xM → Prop}  (v1 : u.1 172 16 = z) (v2 : u.1 172 17 = P)
    (k1 : z = (-1) → Q (some (.int (-1))) (xmm u))
    (k2 : ¬ z = (-1) → ¬ (0 ≤ i ∧ i ≤ (z - 1)) → Q (some (.int (-1))) (xmm u))
    (k3 : ¬ z = (-1) → 0 ≤ i ∧ i ≤ (z - 1) → ¬ (0 ≤ p ∧ p ≤ (P - 1)) → Q (some (.int (-1))) (xmm u))
    (k4 : ¬ z = (-1) → 0 ≤ i ∧ i ≤ (z - 1) → 0 ≤ p ∧ p ≤ (P - 1) → False) : xE mX10_witness 0 [(0, .ref 172), (1, .int (i)), (2, .int (p))] [] (xmm u) Q := by
  refine xe_aload_n 0 dX10_witness_0 rfl rfl ?_
  refine xr_getI (v := z) dX10_witness_1 fX10_46 sh172 (by decide) v1 ?_
  refine xe_iconst (v := -1) dX10_witness_4 xcm1 ?_
  refine xe_icmp_eq 59 dX10_witness_5 (by decide) (fun c1 => ?_) (fun c1 => ?_)
  · refine xe_iconst (v := -1) dX10_witness_59 xcm1 ?_
    exact xe_ret (r := (some (.int (-1)))) dX10_witness_60 trivial (k1 c1)
  · refine xe_iload_n 1 dX10_witness_8 rfl rfl ?_
    refine xe_iconst (v := nI (0)) dX10_witness_9 xc0 ?_
    refine xe_aload_n 0 dX10_witness_10 rfl rfl ?_
    refine xr_getI (v := z) dX10_witness_11 fX10_46 sh172 (by decide) v1 ?_
    refine xe_iconst (v := nI (1)) dX10_witness_14 xc1 ?_
    refine xe_isub dX10_witness_15 ?_
    refine xe_callS (As := [.int (i), .int (nI (0)), .int (z - 1)]) (rest := []) dX10_witness_16 wX10_lies lX10_88 tX10_lies ⟨by decide, by decide⟩ rfl rfl (by simp [Value.category]) (xC.pure (v := .int (xb (0 ≤ i ∧ i ≤ (z - 1)))) (qX10_lies u i (nI (0)) (z - 1)) ?_)
    refine xb_if_eq 59 dX10_witness_19 (by decide) (fun c2 => ?_) (fun c2 => ?_)
    · refine xe_iconst (v := -1) dX10_witness_59 xcm1 ?_
      exact xe_ret (r := (some (.int (-1)))) dX10_witness_60 trivial (k2 c1 c2)
    · refine xe_iload_n 2 dX10_witness_22 rfl rfl ?_
      refine xe_iconst (v := nI (0)) dX10_witness_23 xc0 ?_
      refine xe_aload_n 0 dX10_witness_24 rfl rfl ?_
      refine xr_getI (v := P) dX10_witness_25 fX10_176 sh172 (by decide) v2 ?_
      refine xe_iconst (v := nI (1)) dX10_witness_28 xc1 ?_
      refine xe_isub dX10_witness_29 ?_
      refine xe_callS (As := [.int (p), .int (nI (0)), .int (P - 1)]) (rest := []) dX10_witness_30 wX10_lies lX10_88 tX10_lies ⟨by decide, by decide⟩ rfl rfl (by simp [Value.category]) (xC.pure (v := .int (xb (0 ≤ p ∧ p ≤ (P - 1)))) (qX10_lies u p (nI (0)) (P - 1)) ?_)
      refine xb_if_eq 59 dX10_witness_33 (by decide) (fun c3 => ?_) (fun c3 => ?_)
      · refine xe_iconst (v := -1) dX10_witness_59 xcm1 ?_
        exact xe_ret (r := (some (.int (-1)))) dX10_witness_60 trivial (k3 c1 c2 c3)
      · refine xe_aload_n 0 dX10_witness_36 rfl rfl ?_
        refine xr_getR (b := 188) dX10_witness_37 fX10_59 rfl sh172 (by decide) rfl ?_
        refine xe_iload_n 2 dX10_witness_40 rfl rfl ?_
        exact (k4 c1 c2 c3).elim

theorem gX10_witness_N (u : xU) (i p m P : Nat) (v : Int32) (bh : Bool) {Q : Option Value → xM → Prop} (hi : i < m) (hm : m ≤ 500) (hp : p < P) (hP : P ≤ 10) (v1 : u.1 172 16 = nI (m)) (v2 : u.1 172 17 = nI (P)) (v3 : u.1 188 p = xb (bh = true)) (v4 : u.1 187 ((10 * i) + p) = v)
    (k1 : (nI (m)) = (-1) → Q (some (.int (-1))) (xmm u))
    (k2 : ¬ (nI (m)) = (-1) → ¬ (0 ≤ i ∧ i ≤ (m - 1)) → Q (some (.int (-1))) (xmm u))
    (k3 : ¬ (nI (m)) = (-1) → 0 ≤ i ∧ i ≤ (m - 1) → ¬ (0 ≤ p ∧ p ≤ (P - 1)) → Q (some (.int (-1))) (xmm u))
    (k4 : ¬ (nI (m)) = (-1) → 0 ≤ i ∧ i ≤ (m - 1) → 0 ≤ p ∧ p ≤ (P - 1) → ¬ (bh = true) → Q (some (.int (-1))) (xmm u))
    (k5 : ¬ (nI (m)) = (-1) → 0 ≤ i ∧ i ≤ (m - 1) → 0 ≤ p ∧ p ≤ (P - 1) → bh = true → Q (some (.int (v))) (xmm u)) : xE mX10_witness 0 [(0, .ref 172), (1, .int (nI (i))), (2, .int (nI (p)))] [] (xmm u) Q := by
  refine xe_aload_n 0 dX10_witness_0 rfl rfl ?_
  refine xr_getI (v := nI (m)) dX10_witness_1 fX10_46 sh172 (by decide) v1 ?_
  refine xe_iconst (v := -1) dX10_witness_4 xcm1 ?_
  refine xe_icmp_eq 59 dX10_witness_5 (by decide) (fun c1 => ?_) (fun c1 => ?_)
  · refine xe_iconst (v := -1) dX10_witness_59 xcm1 ?_
    exact xe_ret (r := (some (.int (-1)))) dX10_witness_60 trivial (k1 c1)
  · refine xe_iload_n 1 dX10_witness_8 rfl rfl ?_
    refine xe_iconst (v := nI (0)) dX10_witness_9 xc0 ?_
    refine xe_aload_n 0 dX10_witness_10 rfl rfl ?_
    refine xr_getI (v := nI (m)) dX10_witness_11 fX10_46 sh172 (by decide) v1 ?_
    refine xe_iconst (v := nI (1)) dX10_witness_14 xc1 ?_
    refine xn_isub dX10_witness_15 (by omega) ?_
    refine xe_callS (As := [.int (nI (i)), .int (nI (0)), .int (nI (m - 1))]) (rest := []) dX10_witness_16 wX10_lies lX10_88 tX10_lies ⟨by decide, by decide⟩ rfl rfl (by simp [Value.category]) (xC.pure (v := .int (xb (0 ≤ i ∧ i ≤ (m - 1)))) (qX10_liesN u i 0 (m - 1) (by omega) (by omega) (by omega)) ?_)
    refine xb_if_eq 59 dX10_witness_19 (by decide) (fun c2 => ?_) (fun c2 => ?_)
    · refine xe_iconst (v := -1) dX10_witness_59 xcm1 ?_
      exact xe_ret (r := (some (.int (-1)))) dX10_witness_60 trivial (k2 c1 c2)
    · refine xe_iload_n 2 dX10_witness_22 rfl rfl ?_
      refine xe_iconst (v := nI (0)) dX10_witness_23 xc0 ?_
      refine xe_aload_n 0 dX10_witness_24 rfl rfl ?_
      refine xr_getI (v := nI (P)) dX10_witness_25 fX10_176 sh172 (by decide) v2 ?_
      refine xe_iconst (v := nI (1)) dX10_witness_28 xc1 ?_
      refine xn_isub dX10_witness_29 (by omega) ?_
      refine xe_callS (As := [.int (nI (p)), .int (nI (0)), .int (nI (P - 1))]) (rest := []) dX10_witness_30 wX10_lies lX10_88 tX10_lies ⟨by decide, by decide⟩ rfl rfl (by simp [Value.category]) (xC.pure (v := .int (xb (0 ≤ p ∧ p ≤ (P - 1)))) (qX10_liesN u p 0 (P - 1) (by omega) (by omega) (by omega)) ?_)
      refine xb_if_eq 59 dX10_witness_33 (by decide) (fun c3 => ?_) (fun c3 => ?_)
      · refine xe_iconst (v := -1) dX10_witness_59 xcm1 ?_
        exact xe_ret (r := (some (.int (-1)))) dX10_witness_60 trivial (k3 c1 c2 c3)
      · refine xe_aload_n 0 dX10_witness_36 rfl rfl ?_
        refine xr_getR (b := 188) dX10_witness_37 fX10_59 rfl sh172 (by decide) rfl ?_
        refine xe_iload_n 2 dX10_witness_40 rfl rfl ?_
        refine xr_zald (k := p) (v := xb (bh = true)) dX10_witness_41 sh188 (by decide) (by omega) (by decide) v3 ?_
        refine xb_if_eq 59 dX10_witness_42 (by decide) (fun c4 => ?_) (fun c4 => ?_)
        · refine xe_iconst (v := -1) dX10_witness_59 xcm1 ?_
          exact xe_ret (r := (some (.int (-1)))) dX10_witness_60 trivial (k4 c1 c2 c3 c4)
        · refine xe_aload_n 0 dX10_witness_45 rfl rfl ?_
          refine xr_getR (b := 187) dX10_witness_46 fX10_56 rfl sh172 (by decide) rfl ?_
          refine xe_bipush (v := nI (10)) dX10_witness_49 xcb10 ?_
          refine xe_iload_n 1 dX10_witness_51 rfl rfl ?_
          refine xn_imul dX10_witness_52 ?_
          refine xe_iload_n 2 dX10_witness_53 rfl rfl ?_
          refine xn_iadd dX10_witness_54 ?_
          refine xr_iald (k := (10 * i) + p) (v := v) dX10_witness_55 sh187 (by decide) (by omega) (by decide) v4 ?_
          refine xe_goto 60 dX10_witness_56 (by decide) ?_
          exact xe_ret (r := (some (.int (v)))) dX10_witness_60 trivial (k5 c1 c2 c3 c4)

theorem gX10_isNew_0 (u : xU) (i k : Nat) {Q : Option Value → xM → Prop}  
    (k1 : xE mX10_isNew 2 [(0, .ref 172), (1, .int (nI (i))), (2, .int (nI (k))), (3, .int (nI (0)))] [] (xmm u) Q) : xE mX10_isNew 0 [(0, .ref 172), (1, .int (nI (i))), (2, .int (nI (k)))] [] (xmm u) Q := by
  refine xe_iconst (v := nI (0)) dX10_isNew_0 xc0 ?_
  refine xe_istore_n (L2 := [(0, .ref 172), (1, .int (nI (i))), (2, .int (nI (k))), (3, .int (nI (0)))]) dX10_isNew_1 rfl (by decide) rfl ?_
  exact k1

theorem gX10_isNew_2 (u : xU) (i k j : Nat) (x y : Int32) {Q : Option Value → xM → Prop} (hi : i < 500) (hk : k < 6) (hj : j ≤ i) (v1 : u.1 185 ((6 * j) + k) = x) (v2 : u.1 185 ((6 * i) + k) = y)
    (k1 : i ≤ j → Q (some (.int (nI (1)))) (xmm u))
    (k2 : ¬ i ≤ j → ¬ x = y → xE mX10_isNew 2 [(0, .ref 172), (1, .int (nI (i))), (2, .int (nI (k))), (3, .int (nI (j + 1)))] [] (xmm u) Q)
    (k3 : ¬ i ≤ j → x = y → Q (some (.int (nI (0)))) (xmm u)) : xE mX10_isNew 2 [(0, .ref 172), (1, .int (nI (i))), (2, .int (nI (k))), (3, .int (nI (j)))] [] (xmm u) Q := by
  refine xe_iload_n 3 dX10_isNew_2 rfl rfl ?_
  refine xe_iload_n 1 dX10_isNew_3 rfl rfl ?_
  refine xn_icmp_ge 40 dX10_isNew_4 (by decide) (by omega) (by omega) (fun c1 => ?_) (fun c1 => ?_)
  · refine xe_iconst (v := nI (1)) dX10_isNew_40 xc1 ?_
    exact xe_ret (r := (some (.int (nI (1))))) dX10_isNew_41 (Or.inr rfl) (k1 c1)
  · refine xe_aload_n 0 dX10_isNew_7 rfl rfl ?_
    refine xr_getR (b := 185) dX10_isNew_8 fX10_50 rfl sh172 (by decide) rfl ?_
    refine xe_bipush (v := nI (6)) dX10_isNew_11 xcb6 ?_
    refine xe_iload_n 3 dX10_isNew_13 rfl rfl ?_
    refine xn_imul dX10_isNew_14 ?_
    refine xe_iload_n 2 dX10_isNew_15 rfl rfl ?_
    refine xn_iadd dX10_isNew_16 ?_
    refine xr_iald (k := (6 * j) + k) (v := x) dX10_isNew_17 sh185 (by decide) (by omega) (by decide) v1 ?_
    refine xe_aload_n 0 dX10_isNew_18 rfl rfl ?_
    refine xr_getR (b := 185) dX10_isNew_19 fX10_50 rfl sh172 (by decide) rfl ?_
    refine xe_bipush (v := nI (6)) dX10_isNew_22 xcb6 ?_
    refine xe_iload_n 1 dX10_isNew_24 rfl rfl ?_
    refine xn_imul dX10_isNew_25 ?_
    refine xe_iload_n 2 dX10_isNew_26 rfl rfl ?_
    refine xn_iadd dX10_isNew_27 ?_
    refine xr_iald (k := (6 * i) + k) (v := y) dX10_isNew_28 sh185 (by decide) (by omega) (by decide) v2 ?_
    refine xe_icmp_ne 34 dX10_isNew_29 (by decide) (fun c2 => ?_) (fun c2 => ?_)
    · refine xn_iinc (c := 1) (L2 := [(0, .ref 172), (1, .int (nI (i))), (2, .int (nI (k))), (3, .int (nI (j + 1)))]) 3 dX10_isNew_34 rfl (by decide) rfl ?_
      refine xe_goto 2 dX10_isNew_37 (by decide) ?_
      exact k2 c1 c2
    · refine xe_iconst (v := nI (0)) dX10_isNew_32 xc0 ?_
      exact xe_ret (r := (some (.int (nI (0))))) dX10_isNew_33 (Or.inl rfl) (k3 c1 c2)

theorem gX10_sum_I (u : xU) (k w : Int32) {Q : Option Value → xM → Prop} (hin : xC mX10_isName [.ref 172, .int k] (xmm u) (fun r μ' => r = some (.int (xb (False))) ∧ μ' = xmm u)) 
    (k1 : ¬ (0 ≤ w ∧ w ≤ 4) → Q (some (.long (0))) (xmm u))
    (k2 : 0 ≤ w ∧ w ≤ 4 → False → xE mX10_sum 38 [(0, .ref 172), (1, .int (k)), (2, .int (w)), (3, .long (0)), (5, .int (nI (0))), (6, .int (nI (0))), (7, .int ((-2147483648))), (8, .int ((-2147483648))), (9, .int (nI (0)))] [] (xmm u) Q)
    (k3 : 0 ≤ w ∧ w ≤ 4 → ¬ False → Q (some (.long (0))) (xmm u)) : xE mX10_sum 0 [(0, .ref 172), (1, .int (k)), (2, .int (w))] [] (xmm u) Q := by
  refine xe_iload_n 2 dX10_sum_0 rfl rfl ?_
  refine xe_iconst (v := nI (0)) dX10_sum_1 xc0 ?_
  refine xe_iconst (v := nI (4)) dX10_sum_2 xc4 ?_
  refine xe_callS (As := [.int (w), .int (nI (0)), .int (nI (4))]) (rest := []) dX10_sum_3 wX10_lies lX10_88 tX10_lies ⟨by decide, by decide⟩ rfl rfl (by simp [Value.category]) (xC.pure (v := .int (xb (0 ≤ w ∧ w ≤ 4))) (qX10_lies u w (nI (0)) (nI (4))) ?_)
  refine xb_if_eq 17 dX10_sum_6 (by decide) (fun c1 => ?_) (fun c1 => ?_)
  · refine xe_lconst (v := 0) dX10_sum_17 (by decide) ?_
    exact xe_ret (r := (some (.long (0)))) dX10_sum_18 trivial (k1 c1)
  · refine xe_aload_n 0 dX10_sum_9 rfl rfl ?_
    refine xe_iload_n 1 dX10_sum_10 rfl rfl ?_
    refine xe_callV (As := [.int (k)]) (rest := []) dX10_sum_11 wX10_isName lX10_182 iX10_isName sX10_isName ⟨by decide, by decide⟩ sh172 rfl (xin_mm (by decide)) rfl rfl (by simp [Value.category]) (xC.pure (v := .int (xb (False))) (hin) ?_)
    refine xb_if_ne 19 dX10_sum_14 (by decide) (fun c2 => ?_) (fun c2 => ?_)
    · refine xe_lconst (v := 0) dX10_sum_19 (by decide) ?_
      refine xe_lstore_n (L2 := [(0, .ref 172), (1, .int (k)), (2, .int (w)), (3, .long (0))]) dX10_sum_20 rfl (by decide) rfl ?_
      refine xe_iconst (v := nI (0)) dX10_sum_21 xc0 ?_
      refine xe_istore (L2 := [(0, .ref 172), (1, .int (k)), (2, .int (w)), (3, .long (0)), (5, .int (nI (0)))]) dX10_sum_22 (by decide) rfl ?_
      refine xe_iconst (v := nI (0)) dX10_sum_24 xc0 ?_
      refine xe_istore (L2 := [(0, .ref 172), (1, .int (k)), (2, .int (w)), (3, .long (0)), (5, .int (nI (0))), (6, .int (nI (0)))]) dX10_sum_25 (by decide) rfl ?_
      refine xe_ldc dX10_sum_27 kX10_87 ?_
      refine xe_istore (L2 := [(0, .ref 172), (1, .int (k)), (2, .int (w)), (3, .long (0)), (5, .int (nI (0))), (6, .int (nI (0))), (7, .int ((-2147483648)))]) dX10_sum_29 (by decide) rfl ?_
      refine xe_ldc dX10_sum_31 kX10_87 ?_
      refine xe_istore (L2 := [(0, .ref 172), (1, .int (k)), (2, .int (w)), (3, .long (0)), (5, .int (nI (0))), (6, .int (nI (0))), (7, .int ((-2147483648))), (8, .int ((-2147483648)))]) dX10_sum_33 (by decide) rfl ?_
      refine xe_iconst (v := nI (0)) dX10_sum_35 xc0 ?_
      refine xe_istore (L2 := [(0, .ref 172), (1, .int (k)), (2, .int (w)), (3, .long (0)), (5, .int (nI (0))), (6, .int (nI (0))), (7, .int ((-2147483648))), (8, .int ((-2147483648))), (9, .int (nI (0)))]) dX10_sum_36 (by decide) rfl ?_
      exact k2 c1 c2
    · refine xe_lconst (v := 0) dX10_sum_17 (by decide) ?_
      exact xe_ret (r := (some (.long (0)))) dX10_sum_18 trivial (k3 c1 c2)

theorem gX10_sum_N (u : xU) (k : Nat) (w : Int32) {Q : Option Value → xM → Prop} (hin : xC mX10_isName [.ref 172, .int (nI k)] (xmm u) (fun r μ' => r = some (.int (xb (True))) ∧ μ' = xmm u)) 
    (k1 : ¬ (0 ≤ w ∧ w ≤ 4) → Q (some (.long (0))) (xmm u))
    (k2 : 0 ≤ w ∧ w ≤ 4 → True → xE mX10_sum 38 [(0, .ref 172), (1, .int (nI (k))), (2, .int (w)), (3, .long (0)), (5, .int (nI (0))), (6, .int (nI (0))), (7, .int ((-2147483648))), (8, .int ((-2147483648))), (9, .int (nI (0)))] [] (xmm u) Q)
    (k3 : 0 ≤ w ∧ w ≤ 4 → ¬ True → Q (some (.long (0))) (xmm u)) : xE mX10_sum 0 [(0, .ref 172), (1, .int (nI (k))), (2, .int (w))] [] (xmm u) Q := by
  refine xe_iload_n 2 dX10_sum_0 rfl rfl ?_
  refine xe_iconst (v := nI (0)) dX10_sum_1 xc0 ?_
  refine xe_iconst (v := nI (4)) dX10_sum_2 xc4 ?_
  refine xe_callS (As := [.int (w), .int (nI (0)), .int (nI (4))]) (rest := []) dX10_sum_3 wX10_lies lX10_88 tX10_lies ⟨by decide, by decide⟩ rfl rfl (by simp [Value.category]) (xC.pure (v := .int (xb (0 ≤ w ∧ w ≤ 4))) (qX10_lies u w (nI (0)) (nI (4))) ?_)
  refine xb_if_eq 17 dX10_sum_6 (by decide) (fun c1 => ?_) (fun c1 => ?_)
  · refine xe_lconst (v := 0) dX10_sum_17 (by decide) ?_
    exact xe_ret (r := (some (.long (0)))) dX10_sum_18 trivial (k1 c1)
  · refine xe_aload_n 0 dX10_sum_9 rfl rfl ?_
    refine xe_iload_n 1 dX10_sum_10 rfl rfl ?_
    refine xe_callV (As := [.int (nI (k))]) (rest := []) dX10_sum_11 wX10_isName lX10_182 iX10_isName sX10_isName ⟨by decide, by decide⟩ sh172 rfl (xin_mm (by decide)) rfl rfl (by simp [Value.category]) (xC.pure (v := .int (xb (True))) (hin) ?_)
    refine xb_if_ne 19 dX10_sum_14 (by decide) (fun c2 => ?_) (fun c2 => ?_)
    · refine xe_lconst (v := 0) dX10_sum_19 (by decide) ?_
      refine xe_lstore_n (L2 := [(0, .ref 172), (1, .int (nI (k))), (2, .int (w)), (3, .long (0))]) dX10_sum_20 rfl (by decide) rfl ?_
      refine xe_iconst (v := nI (0)) dX10_sum_21 xc0 ?_
      refine xe_istore (L2 := [(0, .ref 172), (1, .int (nI (k))), (2, .int (w)), (3, .long (0)), (5, .int (nI (0)))]) dX10_sum_22 (by decide) rfl ?_
      refine xe_iconst (v := nI (0)) dX10_sum_24 xc0 ?_
      refine xe_istore (L2 := [(0, .ref 172), (1, .int (nI (k))), (2, .int (w)), (3, .long (0)), (5, .int (nI (0))), (6, .int (nI (0)))]) dX10_sum_25 (by decide) rfl ?_
      refine xe_ldc dX10_sum_27 kX10_87 ?_
      refine xe_istore (L2 := [(0, .ref 172), (1, .int (nI (k))), (2, .int (w)), (3, .long (0)), (5, .int (nI (0))), (6, .int (nI (0))), (7, .int ((-2147483648)))]) dX10_sum_29 (by decide) rfl ?_
      refine xe_ldc dX10_sum_31 kX10_87 ?_
      refine xe_istore (L2 := [(0, .ref 172), (1, .int (nI (k))), (2, .int (w)), (3, .long (0)), (5, .int (nI (0))), (6, .int (nI (0))), (7, .int ((-2147483648))), (8, .int ((-2147483648)))]) dX10_sum_33 (by decide) rfl ?_
      refine xe_iconst (v := nI (0)) dX10_sum_35 xc0 ?_
      refine xe_istore (L2 := [(0, .ref 172), (1, .int (nI (k))), (2, .int (w)), (3, .long (0)), (5, .int (nI (0))), (6, .int (nI (0))), (7, .int ((-2147483648))), (8, .int ((-2147483648))), (9, .int (nI (0)))]) dX10_sum_36 (by decide) rfl ?_
      exact k2 c1 c2
    · refine xe_lconst (v := 0) dX10_sum_17 (by decide) ?_
      exact xe_ret (r := (some (.long (0)))) dX10_sum_18 trivial (k3 c1 c2)

theorem gX10_sum_38 (u : xU) (k nb kd i m : Nat) (w mo le v : Int32) (s : Int64) (b : Bool) {Q : Option Value → xM → Prop} (hi : i < m) (hm : m ≤ 500) (hk : k < 6) (hnb : nb ≤ 500) (hkd : kd ≤ 500) (hnw : xC mX10_isNew [.ref 172, .int (nI i), .int (nI k)] (xmm u) (fun r μ' => r = some (.int (xb (b = true))) ∧ μ' = xmm u)) (v1 : u.1 172 16 = nI (m)) (v2 : u.1 185 ((6 * i) + k) = v)
    (k1 : m ≤ i → ¬ w = 0 → ¬ w = 1 → ¬ w = 2 → ¬ w = 3 → Q (some (.long ((nI (kd)).toInt64))) (xmm u))
    (k2 : m ≤ i → ¬ w = 0 → ¬ w = 1 → ¬ w = 2 → w = 3 → Q (some (.long (le.toInt64))) (xmm u))
    (k3 : m ≤ i → ¬ w = 0 → ¬ w = 1 → w = 2 → Q (some (.long (mo.toInt64))) (xmm u))
    (k4 : m ≤ i → ¬ w = 0 → w = 1 → Q (some (.long ((nI (nb)).toInt64))) (xmm u))
    (k5 : m ≤ i → w = 0 → Q (some (.long (s))) (xmm u))
    (k6 : ¬ m ≤ i → ¬ (b = true) → ¬ v = ((-2147483648)) → nb = 0 → nb = 0 → xE mX10_sum 38 [(0, .ref 172), (1, .int (nI (k))), (2, .int (w)), (3, .long (s + v.toInt64)), (5, .int (nI (nb + 1))), (6, .int (nI (kd + 0))), (7, .int (v)), (8, .int (v)), (9, .int (nI (i + 1)))] [] (xmm u) Q)
    (k7 : ¬ m ≤ i → ¬ (b = true) → ¬ v = ((-2147483648)) → nb = 0 → ¬ nb = 0 → le ≤ v → xE mX10_sum 38 [(0, .ref 172), (1, .int (nI (k))), (2, .int (w)), (3, .long (s + v.toInt64)), (5, .int (nI (nb + 1))), (6, .int (nI (kd + 0))), (7, .int (v)), (8, .int (le)), (9, .int (nI (i + 1)))] [] (xmm u) Q)
    (k8 : ¬ m ≤ i → ¬ (b = true) → ¬ v = ((-2147483648)) → nb = 0 → ¬ nb = 0 → ¬ le ≤ v → xE mX10_sum 38 [(0, .ref 172), (1, .int (nI (k))), (2, .int (w)), (3, .long (s + v.toInt64)), (5, .int (nI (nb + 1))), (6, .int (nI (kd + 0))), (7, .int (v)), (8, .int (v)), (9, .int (nI (i + 1)))] [] (xmm u) Q)
    (k9 : ¬ m ≤ i → ¬ (b = true) → ¬ v = ((-2147483648)) → ¬ nb = 0 → v ≤ mo → nb = 0 → xE mX10_sum 38 [(0, .ref 172), (1, .int (nI (k))), (2, .int (w)), (3, .long (s + v.toInt64)), (5, .int (nI (nb + 1))), (6, .int (nI (kd + 0))), (7, .int (mo)), (8, .int (v)), (9, .int (nI (i + 1)))] [] (xmm u) Q)
    (k10 : ¬ m ≤ i → ¬ (b = true) → ¬ v = ((-2147483648)) → ¬ nb = 0 → v ≤ mo → ¬ nb = 0 → le ≤ v → xE mX10_sum 38 [(0, .ref 172), (1, .int (nI (k))), (2, .int (w)), (3, .long (s + v.toInt64)), (5, .int (nI (nb + 1))), (6, .int (nI (kd + 0))), (7, .int (mo)), (8, .int (le)), (9, .int (nI (i + 1)))] [] (xmm u) Q)
    (k11 : ¬ m ≤ i → ¬ (b = true) → ¬ v = ((-2147483648)) → ¬ nb = 0 → v ≤ mo → ¬ nb = 0 → ¬ le ≤ v → xE mX10_sum 38 [(0, .ref 172), (1, .int (nI (k))), (2, .int (w)), (3, .long (s + v.toInt64)), (5, .int (nI (nb + 1))), (6, .int (nI (kd + 0))), (7, .int (mo)), (8, .int (v)), (9, .int (nI (i + 1)))] [] (xmm u) Q)
    (k12 : ¬ m ≤ i → ¬ (b = true) → ¬ v = ((-2147483648)) → ¬ nb = 0 → ¬ v ≤ mo → nb = 0 → xE mX10_sum 38 [(0, .ref 172), (1, .int (nI (k))), (2, .int (w)), (3, .long (s + v.toInt64)), (5, .int (nI (nb + 1))), (6, .int (nI (kd + 0))), (7, .int (v)), (8, .int (v)), (9, .int (nI (i + 1)))] [] (xmm u) Q)
    (k13 : ¬ m ≤ i → ¬ (b = true) → ¬ v = ((-2147483648)) → ¬ nb = 0 → ¬ v ≤ mo → ¬ nb = 0 → le ≤ v → xE mX10_sum 38 [(0, .ref 172), (1, .int (nI (k))), (2, .int (w)), (3, .long (s + v.toInt64)), (5, .int (nI (nb + 1))), (6, .int (nI (kd + 0))), (7, .int (v)), (8, .int (le)), (9, .int (nI (i + 1)))] [] (xmm u) Q)
    (k14 : ¬ m ≤ i → ¬ (b = true) → ¬ v = ((-2147483648)) → ¬ nb = 0 → ¬ v ≤ mo → ¬ nb = 0 → ¬ le ≤ v → xE mX10_sum 38 [(0, .ref 172), (1, .int (nI (k))), (2, .int (w)), (3, .long (s + v.toInt64)), (5, .int (nI (nb + 1))), (6, .int (nI (kd + 0))), (7, .int (v)), (8, .int (v)), (9, .int (nI (i + 1)))] [] (xmm u) Q)
    (k15 : ¬ m ≤ i → ¬ (b = true) → v = ((-2147483648)) → xE mX10_sum 38 [(0, .ref 172), (1, .int (nI (k))), (2, .int (w)), (3, .long (s)), (5, .int (nI (nb))), (6, .int (nI (kd + 0))), (7, .int (mo)), (8, .int (le)), (9, .int (nI (i + 1)))] [] (xmm u) Q)
    (k16 : ¬ m ≤ i → b = true → ¬ v = ((-2147483648)) → nb = 0 → nb = 0 → xE mX10_sum 38 [(0, .ref 172), (1, .int (nI (k))), (2, .int (w)), (3, .long (s + v.toInt64)), (5, .int (nI (nb + 1))), (6, .int (nI (kd + 1))), (7, .int (v)), (8, .int (v)), (9, .int (nI (i + 1)))] [] (xmm u) Q)
    (k17 : ¬ m ≤ i → b = true → ¬ v = ((-2147483648)) → nb = 0 → ¬ nb = 0 → le ≤ v → xE mX10_sum 38 [(0, .ref 172), (1, .int (nI (k))), (2, .int (w)), (3, .long (s + v.toInt64)), (5, .int (nI (nb + 1))), (6, .int (nI (kd + 1))), (7, .int (v)), (8, .int (le)), (9, .int (nI (i + 1)))] [] (xmm u) Q)
    (k18 : ¬ m ≤ i → b = true → ¬ v = ((-2147483648)) → nb = 0 → ¬ nb = 0 → ¬ le ≤ v → xE mX10_sum 38 [(0, .ref 172), (1, .int (nI (k))), (2, .int (w)), (3, .long (s + v.toInt64)), (5, .int (nI (nb + 1))), (6, .int (nI (kd + 1))), (7, .int (v)), (8, .int (v)), (9, .int (nI (i + 1)))] [] (xmm u) Q)
    (k19 : ¬ m ≤ i → b = true → ¬ v = ((-2147483648)) → ¬ nb = 0 → v ≤ mo → nb = 0 → xE mX10_sum 38 [(0, .ref 172), (1, .int (nI (k))), (2, .int (w)), (3, .long (s + v.toInt64)), (5, .int (nI (nb + 1))), (6, .int (nI (kd + 1))), (7, .int (mo)), (8, .int (v)), (9, .int (nI (i + 1)))] [] (xmm u) Q)
    (k20 : ¬ m ≤ i → b = true → ¬ v = ((-2147483648)) → ¬ nb = 0 → v ≤ mo → ¬ nb = 0 → le ≤ v → xE mX10_sum 38 [(0, .ref 172), (1, .int (nI (k))), (2, .int (w)), (3, .long (s + v.toInt64)), (5, .int (nI (nb + 1))), (6, .int (nI (kd + 1))), (7, .int (mo)), (8, .int (le)), (9, .int (nI (i + 1)))] [] (xmm u) Q)
    (k21 : ¬ m ≤ i → b = true → ¬ v = ((-2147483648)) → ¬ nb = 0 → v ≤ mo → ¬ nb = 0 → ¬ le ≤ v → xE mX10_sum 38 [(0, .ref 172), (1, .int (nI (k))), (2, .int (w)), (3, .long (s + v.toInt64)), (5, .int (nI (nb + 1))), (6, .int (nI (kd + 1))), (7, .int (mo)), (8, .int (v)), (9, .int (nI (i + 1)))] [] (xmm u) Q)
    (k22 : ¬ m ≤ i → b = true → ¬ v = ((-2147483648)) → ¬ nb = 0 → ¬ v ≤ mo → nb = 0 → xE mX10_sum 38 [(0, .ref 172), (1, .int (nI (k))), (2, .int (w)), (3, .long (s + v.toInt64)), (5, .int (nI (nb + 1))), (6, .int (nI (kd + 1))), (7, .int (v)), (8, .int (v)), (9, .int (nI (i + 1)))] [] (xmm u) Q)
    (k23 : ¬ m ≤ i → b = true → ¬ v = ((-2147483648)) → ¬ nb = 0 → ¬ v ≤ mo → ¬ nb = 0 → le ≤ v → xE mX10_sum 38 [(0, .ref 172), (1, .int (nI (k))), (2, .int (w)), (3, .long (s + v.toInt64)), (5, .int (nI (nb + 1))), (6, .int (nI (kd + 1))), (7, .int (v)), (8, .int (le)), (9, .int (nI (i + 1)))] [] (xmm u) Q)
    (k24 : ¬ m ≤ i → b = true → ¬ v = ((-2147483648)) → ¬ nb = 0 → ¬ v ≤ mo → ¬ nb = 0 → ¬ le ≤ v → xE mX10_sum 38 [(0, .ref 172), (1, .int (nI (k))), (2, .int (w)), (3, .long (s + v.toInt64)), (5, .int (nI (nb + 1))), (6, .int (nI (kd + 1))), (7, .int (v)), (8, .int (v)), (9, .int (nI (i + 1)))] [] (xmm u) Q)
    (k25 : ¬ m ≤ i → b = true → v = ((-2147483648)) → xE mX10_sum 38 [(0, .ref 172), (1, .int (nI (k))), (2, .int (w)), (3, .long (s)), (5, .int (nI (nb))), (6, .int (nI (kd + 1))), (7, .int (mo)), (8, .int (le)), (9, .int (nI (i + 1)))] [] (xmm u) Q) : xE mX10_sum 38 [(0, .ref 172), (1, .int (nI (k))), (2, .int (w)), (3, .long (s)), (5, .int (nI (nb))), (6, .int (nI (kd))), (7, .int (mo)), (8, .int (le)), (9, .int (nI (i)))] [] (xmm u) Q := by
  refine xe_iload 8 dX10_sum_38 rfl ?_
  refine xe_aload_n 0 dX10_sum_40 rfl rfl ?_
  refine xr_getI (v := nI (m)) dX10_sum_41 fX10_46 sh172 (by decide) v1 ?_
  refine xn_icmp_ge 148 dX10_sum_44 (by decide) (by omega) (by omega) (fun c1 => ?_) (fun c1 => ?_)
  · refine xe_iload_n 2 dX10_sum_148 rfl rfl ?_
    refine xe_if_ne 156 dX10_sum_149 (by decide) (fun c2 => ?_) (fun c2 => ?_)
    · refine xe_iload_n 2 dX10_sum_156 rfl rfl ?_
      refine xe_iconst (v := nI (1)) dX10_sum_157 xc1 ?_
      refine xe_icmp_ne 167 dX10_sum_158 (by decide) (fun c3 => ?_) (fun c3 => ?_)
      · refine xe_iload_n 2 dX10_sum_167 rfl rfl ?_
        refine xe_iconst (v := nI (2)) dX10_sum_168 xc2 ?_
        refine xe_icmp_ne 178 dX10_sum_169 (by decide) (fun c4 => ?_) (fun c4 => ?_)
        · refine xe_iload_n 2 dX10_sum_178 rfl rfl ?_
          refine xe_iconst (v := nI (3)) dX10_sum_179 xc3 ?_
          refine xe_icmp_ne 189 dX10_sum_180 (by decide) (fun c5 => ?_) (fun c5 => ?_)
          · refine xe_iload 5 dX10_sum_189 rfl ?_
            refine xe_i2l dX10_sum_191 ?_
            exact xe_ret (r := (some (.long ((nI (kd)).toInt64)))) dX10_sum_192 trivial (k1 c1 c2 c3 c4 c5)
          · refine xe_iload 7 dX10_sum_183 rfl ?_
            refine xe_i2l dX10_sum_185 ?_
            refine xe_goto 192 dX10_sum_186 (by decide) ?_
            exact xe_ret (r := (some (.long (le.toInt64)))) dX10_sum_192 trivial (k2 c1 c2 c3 c4 c5)
        · refine xe_iload 6 dX10_sum_172 rfl ?_
          refine xe_i2l dX10_sum_174 ?_
          refine xe_goto 192 dX10_sum_175 (by decide) ?_
          exact xe_ret (r := (some (.long (mo.toInt64)))) dX10_sum_192 trivial (k3 c1 c2 c3 c4)
      · refine xe_iload 4 dX10_sum_161 rfl ?_
        refine xe_i2l dX10_sum_163 ?_
        refine xe_goto 192 dX10_sum_164 (by decide) ?_
        exact xe_ret (r := (some (.long ((nI (nb)).toInt64)))) dX10_sum_192 trivial (k4 c1 c2 c3)
    · refine xe_lload_n 3 dX10_sum_152 rfl rfl ?_
      refine xe_goto 192 dX10_sum_153 (by decide) ?_
      exact xe_ret (r := (some (.long (s)))) dX10_sum_192 trivial (k5 c1 c2)
  · refine xe_aload_n 0 dX10_sum_47 rfl rfl ?_
    refine xr_getR (b := 185) dX10_sum_48 fX10_50 rfl sh172 (by decide) rfl ?_
    refine xe_bipush (v := nI (6)) dX10_sum_51 xcb6 ?_
    refine xe_iload 8 dX10_sum_53 rfl ?_
    refine xn_imul dX10_sum_55 ?_
    refine xe_iload_n 1 dX10_sum_56 rfl rfl ?_
    refine xn_iadd dX10_sum_57 ?_
    refine xr_iald (k := (6 * i) + k) (v := v) dX10_sum_58 sh185 (by decide) (by omega) (by decide) v2 ?_
    refine xe_istore (L2 := [(0, .ref 172), (1, .int (nI (k))), (2, .int (w)), (3, .long (s)), (5, .int (nI (nb))), (6, .int (nI (kd))), (7, .int (mo)), (8, .int (le)), (9, .int (nI (i))), (10, .int (v))]) dX10_sum_59 (by decide) rfl ?_
    refine xe_iload 5 dX10_sum_61 rfl ?_
    refine xe_aload_n 0 dX10_sum_63 rfl rfl ?_
    refine xe_iload 8 dX10_sum_64 rfl ?_
    refine xe_iload_n 1 dX10_sum_66 rfl rfl ?_
    refine xe_callV (As := [.int (nI (i)), .int (nI (k))]) (rest := [.int (nI (kd))]) dX10_sum_67 wX10_isNew lX10_185 iX10_isNew sX10_isNew ⟨by decide, by decide⟩ sh172 rfl (xin_mm (by decide)) rfl rfl (by simp [Value.category]) (xC.pure (v := .int (xb (b = true))) (hnw) ?_)
    refine xb_if_eq 77 dX10_sum_70 (by decide) (fun c6 => ?_) (fun c6 => ?_)
    · refine xe_iconst (v := nI (0)) dX10_sum_77 xc0 ?_
      refine xn_iadd dX10_sum_78 ?_
      refine xe_istore (L2 := [(0, .ref 172), (1, .int (nI (k))), (2, .int (w)), (3, .long (s)), (5, .int (nI (nb))), (6, .int (nI (kd + 0))), (7, .int (mo)), (8, .int (le)), (9, .int (nI (i))), (10, .int (v))]) dX10_sum_79 (by decide) rfl ?_
      refine xe_iload 9 dX10_sum_81 rfl ?_
      refine xe_ldc dX10_sum_83 kX10_87 ?_
      refine xe_icmp_ne 91 dX10_sum_85 (by decide) (fun c7 => ?_) (fun c7 => ?_)
      · refine xe_iload 4 dX10_sum_91 rfl ?_
        refine xn_if_eq 103 dX10_sum_93 (by decide) (by omega) (fun c8 => ?_) (fun c8 => ?_)
        · refine xe_iload 9 dX10_sum_103 rfl ?_
          refine xe_goto 110 dX10_sum_105 (by decide) ?_
          refine xe_istore (L2 := [(0, .ref 172), (1, .int (nI (k))), (2, .int (w)), (3, .long (s)), (5, .int (nI (nb))), (6, .int (nI (kd + 0))), (7, .int (v)), (8, .int (le)), (9, .int (nI (i))), (10, .int (v))]) dX10_sum_110 (by decide) rfl ?_
          refine xe_iload 4 dX10_sum_112 rfl ?_
          refine xn_if_eq 124 dX10_sum_114 (by decide) (by omega) (fun c9 => ?_) (fun c9 => ?_)
          · refine xe_iload 9 dX10_sum_124 rfl ?_
            refine xe_goto 131 dX10_sum_126 (by decide) ?_
            refine xe_istore (L2 := [(0, .ref 172), (1, .int (nI (k))), (2, .int (w)), (3, .long (s)), (5, .int (nI (nb))), (6, .int (nI (kd + 0))), (7, .int (v)), (8, .int (v)), (9, .int (nI (i))), (10, .int (v))]) dX10_sum_131 (by decide) rfl ?_
            refine xe_lload_n 3 dX10_sum_133 rfl rfl ?_
            refine xe_iload 9 dX10_sum_134 rfl ?_
            refine xe_i2l dX10_sum_136 ?_
            refine xe_ladd dX10_sum_137 ?_
            refine xe_lstore_n (L2 := [(0, .ref 172), (1, .int (nI (k))), (2, .int (w)), (3, .long (s + v.toInt64)), (5, .int (nI (nb))), (6, .int (nI (kd + 0))), (7, .int (v)), (8, .int (v)), (9, .int (nI (i))), (10, .int (v))]) dX10_sum_138 rfl (by decide) rfl ?_
            refine xn_iinc (c := 1) (L2 := [(0, .ref 172), (1, .int (nI (k))), (2, .int (w)), (3, .long (s + v.toInt64)), (5, .int (nI (nb + 1))), (6, .int (nI (kd + 0))), (7, .int (v)), (8, .int (v)), (9, .int (nI (i))), (10, .int (v))]) 4 dX10_sum_139 rfl (by decide) rfl ?_
            refine xn_iinc (c := 1) (L2 := [(0, .ref 172), (1, .int (nI (k))), (2, .int (w)), (3, .long (s + v.toInt64)), (5, .int (nI (nb + 1))), (6, .int (nI (kd + 0))), (7, .int (v)), (8, .int (v)), (9, .int (nI (i + 1))), (10, .int (v))]) 8 dX10_sum_142 rfl (by decide) rfl ?_
            refine xe_goto 38 dX10_sum_145 (by decide) ?_
            refine xE.sub [0, 1, 2, 3, 4, 5, 6, 7, 8] rfl ?_
            exact k6 c1 c6 c7 c8 c9
          · refine xe_iload 9 dX10_sum_117 rfl ?_
            refine xe_iload 7 dX10_sum_119 rfl ?_
            refine xe_icmp_ge 129 dX10_sum_121 (by decide) (fun c10 => ?_) (fun c10 => ?_)
            · refine xe_iload 7 dX10_sum_129 rfl ?_
              refine xe_istore (L2 := [(0, .ref 172), (1, .int (nI (k))), (2, .int (w)), (3, .long (s)), (5, .int (nI (nb))), (6, .int (nI (kd + 0))), (7, .int (v)), (8, .int (le)), (9, .int (nI (i))), (10, .int (v))]) dX10_sum_131 (by decide) rfl ?_
              refine xe_lload_n 3 dX10_sum_133 rfl rfl ?_
              refine xe_iload 9 dX10_sum_134 rfl ?_
              refine xe_i2l dX10_sum_136 ?_
              refine xe_ladd dX10_sum_137 ?_
              refine xe_lstore_n (L2 := [(0, .ref 172), (1, .int (nI (k))), (2, .int (w)), (3, .long (s + v.toInt64)), (5, .int (nI (nb))), (6, .int (nI (kd + 0))), (7, .int (v)), (8, .int (le)), (9, .int (nI (i))), (10, .int (v))]) dX10_sum_138 rfl (by decide) rfl ?_
              refine xn_iinc (c := 1) (L2 := [(0, .ref 172), (1, .int (nI (k))), (2, .int (w)), (3, .long (s + v.toInt64)), (5, .int (nI (nb + 1))), (6, .int (nI (kd + 0))), (7, .int (v)), (8, .int (le)), (9, .int (nI (i))), (10, .int (v))]) 4 dX10_sum_139 rfl (by decide) rfl ?_
              refine xn_iinc (c := 1) (L2 := [(0, .ref 172), (1, .int (nI (k))), (2, .int (w)), (3, .long (s + v.toInt64)), (5, .int (nI (nb + 1))), (6, .int (nI (kd + 0))), (7, .int (v)), (8, .int (le)), (9, .int (nI (i + 1))), (10, .int (v))]) 8 dX10_sum_142 rfl (by decide) rfl ?_
              refine xe_goto 38 dX10_sum_145 (by decide) ?_
              refine xE.sub [0, 1, 2, 3, 4, 5, 6, 7, 8] rfl ?_
              exact k7 c1 c6 c7 c8 c9 c10
            · refine xe_iload 9 dX10_sum_124 rfl ?_
              refine xe_goto 131 dX10_sum_126 (by decide) ?_
              refine xe_istore (L2 := [(0, .ref 172), (1, .int (nI (k))), (2, .int (w)), (3, .long (s)), (5, .int (nI (nb))), (6, .int (nI (kd + 0))), (7, .int (v)), (8, .int (v)), (9, .int (nI (i))), (10, .int (v))]) dX10_sum_131 (by decide) rfl ?_
              refine xe_lload_n 3 dX10_sum_133 rfl rfl ?_
              refine xe_iload 9 dX10_sum_134 rfl ?_
              refine xe_i2l dX10_sum_136 ?_
              refine xe_ladd dX10_sum_137 ?_
              refine xe_lstore_n (L2 := [(0, .ref 172), (1, .int (nI (k))), (2, .int (w)), (3, .long (s + v.toInt64)), (5, .int (nI (nb))), (6, .int (nI (kd + 0))), (7, .int (v)), (8, .int (v)), (9, .int (nI (i))), (10, .int (v))]) dX10_sum_138 rfl (by decide) rfl ?_
              refine xn_iinc (c := 1) (L2 := [(0, .ref 172), (1, .int (nI (k))), (2, .int (w)), (3, .long (s + v.toInt64)), (5, .int (nI (nb + 1))), (6, .int (nI (kd + 0))), (7, .int (v)), (8, .int (v)), (9, .int (nI (i))), (10, .int (v))]) 4 dX10_sum_139 rfl (by decide) rfl ?_
              refine xn_iinc (c := 1) (L2 := [(0, .ref 172), (1, .int (nI (k))), (2, .int (w)), (3, .long (s + v.toInt64)), (5, .int (nI (nb + 1))), (6, .int (nI (kd + 0))), (7, .int (v)), (8, .int (v)), (9, .int (nI (i + 1))), (10, .int (v))]) 8 dX10_sum_142 rfl (by decide) rfl ?_
              refine xe_goto 38 dX10_sum_145 (by decide) ?_
              refine xE.sub [0, 1, 2, 3, 4, 5, 6, 7, 8] rfl ?_
              exact k8 c1 c6 c7 c8 c9 c10
        · refine xe_iload 9 dX10_sum_96 rfl ?_
          refine xe_iload 6 dX10_sum_98 rfl ?_
          refine xe_icmp_le 108 dX10_sum_100 (by decide) (fun c11 => ?_) (fun c11 => ?_)
          · refine xe_iload 6 dX10_sum_108 rfl ?_
            refine xe_istore (L2 := [(0, .ref 172), (1, .int (nI (k))), (2, .int (w)), (3, .long (s)), (5, .int (nI (nb))), (6, .int (nI (kd + 0))), (7, .int (mo)), (8, .int (le)), (9, .int (nI (i))), (10, .int (v))]) dX10_sum_110 (by decide) rfl ?_
            refine xe_iload 4 dX10_sum_112 rfl ?_
            refine xn_if_eq 124 dX10_sum_114 (by decide) (by omega) (fun c12 => ?_) (fun c12 => ?_)
            · refine xe_iload 9 dX10_sum_124 rfl ?_
              refine xe_goto 131 dX10_sum_126 (by decide) ?_
              refine xe_istore (L2 := [(0, .ref 172), (1, .int (nI (k))), (2, .int (w)), (3, .long (s)), (5, .int (nI (nb))), (6, .int (nI (kd + 0))), (7, .int (mo)), (8, .int (v)), (9, .int (nI (i))), (10, .int (v))]) dX10_sum_131 (by decide) rfl ?_
              refine xe_lload_n 3 dX10_sum_133 rfl rfl ?_
              refine xe_iload 9 dX10_sum_134 rfl ?_
              refine xe_i2l dX10_sum_136 ?_
              refine xe_ladd dX10_sum_137 ?_
              refine xe_lstore_n (L2 := [(0, .ref 172), (1, .int (nI (k))), (2, .int (w)), (3, .long (s + v.toInt64)), (5, .int (nI (nb))), (6, .int (nI (kd + 0))), (7, .int (mo)), (8, .int (v)), (9, .int (nI (i))), (10, .int (v))]) dX10_sum_138 rfl (by decide) rfl ?_
              refine xn_iinc (c := 1) (L2 := [(0, .ref 172), (1, .int (nI (k))), (2, .int (w)), (3, .long (s + v.toInt64)), (5, .int (nI (nb + 1))), (6, .int (nI (kd + 0))), (7, .int (mo)), (8, .int (v)), (9, .int (nI (i))), (10, .int (v))]) 4 dX10_sum_139 rfl (by decide) rfl ?_
              refine xn_iinc (c := 1) (L2 := [(0, .ref 172), (1, .int (nI (k))), (2, .int (w)), (3, .long (s + v.toInt64)), (5, .int (nI (nb + 1))), (6, .int (nI (kd + 0))), (7, .int (mo)), (8, .int (v)), (9, .int (nI (i + 1))), (10, .int (v))]) 8 dX10_sum_142 rfl (by decide) rfl ?_
              refine xe_goto 38 dX10_sum_145 (by decide) ?_
              refine xE.sub [0, 1, 2, 3, 4, 5, 6, 7, 8] rfl ?_
              exact k9 c1 c6 c7 c8 c11 c12
            · refine xe_iload 9 dX10_sum_117 rfl ?_
              refine xe_iload 7 dX10_sum_119 rfl ?_
              refine xe_icmp_ge 129 dX10_sum_121 (by decide) (fun c13 => ?_) (fun c13 => ?_)
              · refine xe_iload 7 dX10_sum_129 rfl ?_
                refine xe_istore (L2 := [(0, .ref 172), (1, .int (nI (k))), (2, .int (w)), (3, .long (s)), (5, .int (nI (nb))), (6, .int (nI (kd + 0))), (7, .int (mo)), (8, .int (le)), (9, .int (nI (i))), (10, .int (v))]) dX10_sum_131 (by decide) rfl ?_
                refine xe_lload_n 3 dX10_sum_133 rfl rfl ?_
                refine xe_iload 9 dX10_sum_134 rfl ?_
                refine xe_i2l dX10_sum_136 ?_
                refine xe_ladd dX10_sum_137 ?_
                refine xe_lstore_n (L2 := [(0, .ref 172), (1, .int (nI (k))), (2, .int (w)), (3, .long (s + v.toInt64)), (5, .int (nI (nb))), (6, .int (nI (kd + 0))), (7, .int (mo)), (8, .int (le)), (9, .int (nI (i))), (10, .int (v))]) dX10_sum_138 rfl (by decide) rfl ?_
                refine xn_iinc (c := 1) (L2 := [(0, .ref 172), (1, .int (nI (k))), (2, .int (w)), (3, .long (s + v.toInt64)), (5, .int (nI (nb + 1))), (6, .int (nI (kd + 0))), (7, .int (mo)), (8, .int (le)), (9, .int (nI (i))), (10, .int (v))]) 4 dX10_sum_139 rfl (by decide) rfl ?_
                refine xn_iinc (c := 1) (L2 := [(0, .ref 172), (1, .int (nI (k))), (2, .int (w)), (3, .long (s + v.toInt64)), (5, .int (nI (nb + 1))), (6, .int (nI (kd + 0))), (7, .int (mo)), (8, .int (le)), (9, .int (nI (i + 1))), (10, .int (v))]) 8 dX10_sum_142 rfl (by decide) rfl ?_
                refine xe_goto 38 dX10_sum_145 (by decide) ?_
                refine xE.sub [0, 1, 2, 3, 4, 5, 6, 7, 8] rfl ?_
                exact k10 c1 c6 c7 c8 c11 c12 c13
              · refine xe_iload 9 dX10_sum_124 rfl ?_
                refine xe_goto 131 dX10_sum_126 (by decide) ?_
                refine xe_istore (L2 := [(0, .ref 172), (1, .int (nI (k))), (2, .int (w)), (3, .long (s)), (5, .int (nI (nb))), (6, .int (nI (kd + 0))), (7, .int (mo)), (8, .int (v)), (9, .int (nI (i))), (10, .int (v))]) dX10_sum_131 (by decide) rfl ?_
                refine xe_lload_n 3 dX10_sum_133 rfl rfl ?_
                refine xe_iload 9 dX10_sum_134 rfl ?_
                refine xe_i2l dX10_sum_136 ?_
                refine xe_ladd dX10_sum_137 ?_
                refine xe_lstore_n (L2 := [(0, .ref 172), (1, .int (nI (k))), (2, .int (w)), (3, .long (s + v.toInt64)), (5, .int (nI (nb))), (6, .int (nI (kd + 0))), (7, .int (mo)), (8, .int (v)), (9, .int (nI (i))), (10, .int (v))]) dX10_sum_138 rfl (by decide) rfl ?_
                refine xn_iinc (c := 1) (L2 := [(0, .ref 172), (1, .int (nI (k))), (2, .int (w)), (3, .long (s + v.toInt64)), (5, .int (nI (nb + 1))), (6, .int (nI (kd + 0))), (7, .int (mo)), (8, .int (v)), (9, .int (nI (i))), (10, .int (v))]) 4 dX10_sum_139 rfl (by decide) rfl ?_
                refine xn_iinc (c := 1) (L2 := [(0, .ref 172), (1, .int (nI (k))), (2, .int (w)), (3, .long (s + v.toInt64)), (5, .int (nI (nb + 1))), (6, .int (nI (kd + 0))), (7, .int (mo)), (8, .int (v)), (9, .int (nI (i + 1))), (10, .int (v))]) 8 dX10_sum_142 rfl (by decide) rfl ?_
                refine xe_goto 38 dX10_sum_145 (by decide) ?_
                refine xE.sub [0, 1, 2, 3, 4, 5, 6, 7, 8] rfl ?_
                exact k11 c1 c6 c7 c8 c11 c12 c13
          · refine xe_iload 9 dX10_sum_103 rfl ?_
            refine xe_goto 110 dX10_sum_105 (by decide) ?_
            refine xe_istore (L2 := [(0, .ref 172), (1, .int (nI (k))), (2, .int (w)), (3, .long (s)), (5, .int (nI (nb))), (6, .int (nI (kd + 0))), (7, .int (v)), (8, .int (le)), (9, .int (nI (i))), (10, .int (v))]) dX10_sum_110 (by decide) rfl ?_
            refine xe_iload 4 dX10_sum_112 rfl ?_
            refine xn_if_eq 124 dX10_sum_114 (by decide) (by omega) (fun c14 => ?_) (fun c14 => ?_)
            · refine xe_iload 9 dX10_sum_124 rfl ?_
              refine xe_goto 131 dX10_sum_126 (by decide) ?_
              refine xe_istore (L2 := [(0, .ref 172), (1, .int (nI (k))), (2, .int (w)), (3, .long (s)), (5, .int (nI (nb))), (6, .int (nI (kd + 0))), (7, .int (v)), (8, .int (v)), (9, .int (nI (i))), (10, .int (v))]) dX10_sum_131 (by decide) rfl ?_
              refine xe_lload_n 3 dX10_sum_133 rfl rfl ?_
              refine xe_iload 9 dX10_sum_134 rfl ?_
              refine xe_i2l dX10_sum_136 ?_
              refine xe_ladd dX10_sum_137 ?_
              refine xe_lstore_n (L2 := [(0, .ref 172), (1, .int (nI (k))), (2, .int (w)), (3, .long (s + v.toInt64)), (5, .int (nI (nb))), (6, .int (nI (kd + 0))), (7, .int (v)), (8, .int (v)), (9, .int (nI (i))), (10, .int (v))]) dX10_sum_138 rfl (by decide) rfl ?_
              refine xn_iinc (c := 1) (L2 := [(0, .ref 172), (1, .int (nI (k))), (2, .int (w)), (3, .long (s + v.toInt64)), (5, .int (nI (nb + 1))), (6, .int (nI (kd + 0))), (7, .int (v)), (8, .int (v)), (9, .int (nI (i))), (10, .int (v))]) 4 dX10_sum_139 rfl (by decide) rfl ?_
              refine xn_iinc (c := 1) (L2 := [(0, .ref 172), (1, .int (nI (k))), (2, .int (w)), (3, .long (s + v.toInt64)), (5, .int (nI (nb + 1))), (6, .int (nI (kd + 0))), (7, .int (v)), (8, .int (v)), (9, .int (nI (i + 1))), (10, .int (v))]) 8 dX10_sum_142 rfl (by decide) rfl ?_
              refine xe_goto 38 dX10_sum_145 (by decide) ?_
              refine xE.sub [0, 1, 2, 3, 4, 5, 6, 7, 8] rfl ?_
              exact k12 c1 c6 c7 c8 c11 c14
            · refine xe_iload 9 dX10_sum_117 rfl ?_
              refine xe_iload 7 dX10_sum_119 rfl ?_
              refine xe_icmp_ge 129 dX10_sum_121 (by decide) (fun c15 => ?_) (fun c15 => ?_)
              · refine xe_iload 7 dX10_sum_129 rfl ?_
                refine xe_istore (L2 := [(0, .ref 172), (1, .int (nI (k))), (2, .int (w)), (3, .long (s)), (5, .int (nI (nb))), (6, .int (nI (kd + 0))), (7, .int (v)), (8, .int (le)), (9, .int (nI (i))), (10, .int (v))]) dX10_sum_131 (by decide) rfl ?_
                refine xe_lload_n 3 dX10_sum_133 rfl rfl ?_
                refine xe_iload 9 dX10_sum_134 rfl ?_
                refine xe_i2l dX10_sum_136 ?_
                refine xe_ladd dX10_sum_137 ?_
                refine xe_lstore_n (L2 := [(0, .ref 172), (1, .int (nI (k))), (2, .int (w)), (3, .long (s + v.toInt64)), (5, .int (nI (nb))), (6, .int (nI (kd + 0))), (7, .int (v)), (8, .int (le)), (9, .int (nI (i))), (10, .int (v))]) dX10_sum_138 rfl (by decide) rfl ?_
                refine xn_iinc (c := 1) (L2 := [(0, .ref 172), (1, .int (nI (k))), (2, .int (w)), (3, .long (s + v.toInt64)), (5, .int (nI (nb + 1))), (6, .int (nI (kd + 0))), (7, .int (v)), (8, .int (le)), (9, .int (nI (i))), (10, .int (v))]) 4 dX10_sum_139 rfl (by decide) rfl ?_
                refine xn_iinc (c := 1) (L2 := [(0, .ref 172), (1, .int (nI (k))), (2, .int (w)), (3, .long (s + v.toInt64)), (5, .int (nI (nb + 1))), (6, .int (nI (kd + 0))), (7, .int (v)), (8, .int (le)), (9, .int (nI (i + 1))), (10, .int (v))]) 8 dX10_sum_142 rfl (by decide) rfl ?_
                refine xe_goto 38 dX10_sum_145 (by decide) ?_
                refine xE.sub [0, 1, 2, 3, 4, 5, 6, 7, 8] rfl ?_
                exact k13 c1 c6 c7 c8 c11 c14 c15
              · refine xe_iload 9 dX10_sum_124 rfl ?_
                refine xe_goto 131 dX10_sum_126 (by decide) ?_
                refine xe_istore (L2 := [(0, .ref 172), (1, .int (nI (k))), (2, .int (w)), (3, .long (s)), (5, .int (nI (nb))), (6, .int (nI (kd + 0))), (7, .int (v)), (8, .int (v)), (9, .int (nI (i))), (10, .int (v))]) dX10_sum_131 (by decide) rfl ?_
                refine xe_lload_n 3 dX10_sum_133 rfl rfl ?_
                refine xe_iload 9 dX10_sum_134 rfl ?_
                refine xe_i2l dX10_sum_136 ?_
                refine xe_ladd dX10_sum_137 ?_
                refine xe_lstore_n (L2 := [(0, .ref 172), (1, .int (nI (k))), (2, .int (w)), (3, .long (s + v.toInt64)), (5, .int (nI (nb))), (6, .int (nI (kd + 0))), (7, .int (v)), (8, .int (v)), (9, .int (nI (i))), (10, .int (v))]) dX10_sum_138 rfl (by decide) rfl ?_
                refine xn_iinc (c := 1) (L2 := [(0, .ref 172), (1, .int (nI (k))), (2, .int (w)), (3, .long (s + v.toInt64)), (5, .int (nI (nb + 1))), (6, .int (nI (kd + 0))), (7, .int (v)), (8, .int (v)), (9, .int (nI (i))), (10, .int (v))]) 4 dX10_sum_139 rfl (by decide) rfl ?_
                refine xn_iinc (c := 1) (L2 := [(0, .ref 172), (1, .int (nI (k))), (2, .int (w)), (3, .long (s + v.toInt64)), (5, .int (nI (nb + 1))), (6, .int (nI (kd + 0))), (7, .int (v)), (8, .int (v)), (9, .int (nI (i + 1))), (10, .int (v))]) 8 dX10_sum_142 rfl (by decide) rfl ?_
                refine xe_goto 38 dX10_sum_145 (by decide) ?_
                refine xE.sub [0, 1, 2, 3, 4, 5, 6, 7, 8] rfl ?_
                exact k14 c1 c6 c7 c8 c11 c14 c15
      · refine xe_goto 142 dX10_sum_88 (by decide) ?_
        refine xn_iinc (c := 1) (L2 := [(0, .ref 172), (1, .int (nI (k))), (2, .int (w)), (3, .long (s)), (5, .int (nI (nb))), (6, .int (nI (kd + 0))), (7, .int (mo)), (8, .int (le)), (9, .int (nI (i + 1))), (10, .int (v))]) 8 dX10_sum_142 rfl (by decide) rfl ?_
        refine xe_goto 38 dX10_sum_145 (by decide) ?_
        refine xE.sub [0, 1, 2, 3, 4, 5, 6, 7, 8] rfl ?_
        exact k15 c1 c6 c7
    · refine xe_iconst (v := nI (1)) dX10_sum_73 xc1 ?_
      refine xe_goto 78 dX10_sum_74 (by decide) ?_
      refine xn_iadd dX10_sum_78 ?_
      refine xe_istore (L2 := [(0, .ref 172), (1, .int (nI (k))), (2, .int (w)), (3, .long (s)), (5, .int (nI (nb))), (6, .int (nI (kd + 1))), (7, .int (mo)), (8, .int (le)), (9, .int (nI (i))), (10, .int (v))]) dX10_sum_79 (by decide) rfl ?_
      refine xe_iload 9 dX10_sum_81 rfl ?_
      refine xe_ldc dX10_sum_83 kX10_87 ?_
      refine xe_icmp_ne 91 dX10_sum_85 (by decide) (fun c16 => ?_) (fun c16 => ?_)
      · refine xe_iload 4 dX10_sum_91 rfl ?_
        refine xn_if_eq 103 dX10_sum_93 (by decide) (by omega) (fun c17 => ?_) (fun c17 => ?_)
        · refine xe_iload 9 dX10_sum_103 rfl ?_
          refine xe_goto 110 dX10_sum_105 (by decide) ?_
          refine xe_istore (L2 := [(0, .ref 172), (1, .int (nI (k))), (2, .int (w)), (3, .long (s)), (5, .int (nI (nb))), (6, .int (nI (kd + 1))), (7, .int (v)), (8, .int (le)), (9, .int (nI (i))), (10, .int (v))]) dX10_sum_110 (by decide) rfl ?_
          refine xe_iload 4 dX10_sum_112 rfl ?_
          refine xn_if_eq 124 dX10_sum_114 (by decide) (by omega) (fun c18 => ?_) (fun c18 => ?_)
          · refine xe_iload 9 dX10_sum_124 rfl ?_
            refine xe_goto 131 dX10_sum_126 (by decide) ?_
            refine xe_istore (L2 := [(0, .ref 172), (1, .int (nI (k))), (2, .int (w)), (3, .long (s)), (5, .int (nI (nb))), (6, .int (nI (kd + 1))), (7, .int (v)), (8, .int (v)), (9, .int (nI (i))), (10, .int (v))]) dX10_sum_131 (by decide) rfl ?_
            refine xe_lload_n 3 dX10_sum_133 rfl rfl ?_
            refine xe_iload 9 dX10_sum_134 rfl ?_
            refine xe_i2l dX10_sum_136 ?_
            refine xe_ladd dX10_sum_137 ?_
            refine xe_lstore_n (L2 := [(0, .ref 172), (1, .int (nI (k))), (2, .int (w)), (3, .long (s + v.toInt64)), (5, .int (nI (nb))), (6, .int (nI (kd + 1))), (7, .int (v)), (8, .int (v)), (9, .int (nI (i))), (10, .int (v))]) dX10_sum_138 rfl (by decide) rfl ?_
            refine xn_iinc (c := 1) (L2 := [(0, .ref 172), (1, .int (nI (k))), (2, .int (w)), (3, .long (s + v.toInt64)), (5, .int (nI (nb + 1))), (6, .int (nI (kd + 1))), (7, .int (v)), (8, .int (v)), (9, .int (nI (i))), (10, .int (v))]) 4 dX10_sum_139 rfl (by decide) rfl ?_
            refine xn_iinc (c := 1) (L2 := [(0, .ref 172), (1, .int (nI (k))), (2, .int (w)), (3, .long (s + v.toInt64)), (5, .int (nI (nb + 1))), (6, .int (nI (kd + 1))), (7, .int (v)), (8, .int (v)), (9, .int (nI (i + 1))), (10, .int (v))]) 8 dX10_sum_142 rfl (by decide) rfl ?_
            refine xe_goto 38 dX10_sum_145 (by decide) ?_
            refine xE.sub [0, 1, 2, 3, 4, 5, 6, 7, 8] rfl ?_
            exact k16 c1 c6 c16 c17 c18
          · refine xe_iload 9 dX10_sum_117 rfl ?_
            refine xe_iload 7 dX10_sum_119 rfl ?_
            refine xe_icmp_ge 129 dX10_sum_121 (by decide) (fun c19 => ?_) (fun c19 => ?_)
            · refine xe_iload 7 dX10_sum_129 rfl ?_
              refine xe_istore (L2 := [(0, .ref 172), (1, .int (nI (k))), (2, .int (w)), (3, .long (s)), (5, .int (nI (nb))), (6, .int (nI (kd + 1))), (7, .int (v)), (8, .int (le)), (9, .int (nI (i))), (10, .int (v))]) dX10_sum_131 (by decide) rfl ?_
              refine xe_lload_n 3 dX10_sum_133 rfl rfl ?_
              refine xe_iload 9 dX10_sum_134 rfl ?_
              refine xe_i2l dX10_sum_136 ?_
              refine xe_ladd dX10_sum_137 ?_
              refine xe_lstore_n (L2 := [(0, .ref 172), (1, .int (nI (k))), (2, .int (w)), (3, .long (s + v.toInt64)), (5, .int (nI (nb))), (6, .int (nI (kd + 1))), (7, .int (v)), (8, .int (le)), (9, .int (nI (i))), (10, .int (v))]) dX10_sum_138 rfl (by decide) rfl ?_
              refine xn_iinc (c := 1) (L2 := [(0, .ref 172), (1, .int (nI (k))), (2, .int (w)), (3, .long (s + v.toInt64)), (5, .int (nI (nb + 1))), (6, .int (nI (kd + 1))), (7, .int (v)), (8, .int (le)), (9, .int (nI (i))), (10, .int (v))]) 4 dX10_sum_139 rfl (by decide) rfl ?_
              refine xn_iinc (c := 1) (L2 := [(0, .ref 172), (1, .int (nI (k))), (2, .int (w)), (3, .long (s + v.toInt64)), (5, .int (nI (nb + 1))), (6, .int (nI (kd + 1))), (7, .int (v)), (8, .int (le)), (9, .int (nI (i + 1))), (10, .int (v))]) 8 dX10_sum_142 rfl (by decide) rfl ?_
              refine xe_goto 38 dX10_sum_145 (by decide) ?_
              refine xE.sub [0, 1, 2, 3, 4, 5, 6, 7, 8] rfl ?_
              exact k17 c1 c6 c16 c17 c18 c19
            · refine xe_iload 9 dX10_sum_124 rfl ?_
              refine xe_goto 131 dX10_sum_126 (by decide) ?_
              refine xe_istore (L2 := [(0, .ref 172), (1, .int (nI (k))), (2, .int (w)), (3, .long (s)), (5, .int (nI (nb))), (6, .int (nI (kd + 1))), (7, .int (v)), (8, .int (v)), (9, .int (nI (i))), (10, .int (v))]) dX10_sum_131 (by decide) rfl ?_
              refine xe_lload_n 3 dX10_sum_133 rfl rfl ?_
              refine xe_iload 9 dX10_sum_134 rfl ?_
              refine xe_i2l dX10_sum_136 ?_
              refine xe_ladd dX10_sum_137 ?_
              refine xe_lstore_n (L2 := [(0, .ref 172), (1, .int (nI (k))), (2, .int (w)), (3, .long (s + v.toInt64)), (5, .int (nI (nb))), (6, .int (nI (kd + 1))), (7, .int (v)), (8, .int (v)), (9, .int (nI (i))), (10, .int (v))]) dX10_sum_138 rfl (by decide) rfl ?_
              refine xn_iinc (c := 1) (L2 := [(0, .ref 172), (1, .int (nI (k))), (2, .int (w)), (3, .long (s + v.toInt64)), (5, .int (nI (nb + 1))), (6, .int (nI (kd + 1))), (7, .int (v)), (8, .int (v)), (9, .int (nI (i))), (10, .int (v))]) 4 dX10_sum_139 rfl (by decide) rfl ?_
              refine xn_iinc (c := 1) (L2 := [(0, .ref 172), (1, .int (nI (k))), (2, .int (w)), (3, .long (s + v.toInt64)), (5, .int (nI (nb + 1))), (6, .int (nI (kd + 1))), (7, .int (v)), (8, .int (v)), (9, .int (nI (i + 1))), (10, .int (v))]) 8 dX10_sum_142 rfl (by decide) rfl ?_
              refine xe_goto 38 dX10_sum_145 (by decide) ?_
              refine xE.sub [0, 1, 2, 3, 4, 5, 6, 7, 8] rfl ?_
              exact k18 c1 c6 c16 c17 c18 c19
        · refine xe_iload 9 dX10_sum_96 rfl ?_
          refine xe_iload 6 dX10_sum_98 rfl ?_
          refine xe_icmp_le 108 dX10_sum_100 (by decide) (fun c20 => ?_) (fun c20 => ?_)
          · refine xe_iload 6 dX10_sum_108 rfl ?_
            refine xe_istore (L2 := [(0, .ref 172), (1, .int (nI (k))), (2, .int (w)), (3, .long (s)), (5, .int (nI (nb))), (6, .int (nI (kd + 1))), (7, .int (mo)), (8, .int (le)), (9, .int (nI (i))), (10, .int (v))]) dX10_sum_110 (by decide) rfl ?_
            refine xe_iload 4 dX10_sum_112 rfl ?_
            refine xn_if_eq 124 dX10_sum_114 (by decide) (by omega) (fun c21 => ?_) (fun c21 => ?_)
            · refine xe_iload 9 dX10_sum_124 rfl ?_
              refine xe_goto 131 dX10_sum_126 (by decide) ?_
              refine xe_istore (L2 := [(0, .ref 172), (1, .int (nI (k))), (2, .int (w)), (3, .long (s)), (5, .int (nI (nb))), (6, .int (nI (kd + 1))), (7, .int (mo)), (8, .int (v)), (9, .int (nI (i))), (10, .int (v))]) dX10_sum_131 (by decide) rfl ?_
              refine xe_lload_n 3 dX10_sum_133 rfl rfl ?_
              refine xe_iload 9 dX10_sum_134 rfl ?_
              refine xe_i2l dX10_sum_136 ?_
              refine xe_ladd dX10_sum_137 ?_
              refine xe_lstore_n (L2 := [(0, .ref 172), (1, .int (nI (k))), (2, .int (w)), (3, .long (s + v.toInt64)), (5, .int (nI (nb))), (6, .int (nI (kd + 1))), (7, .int (mo)), (8, .int (v)), (9, .int (nI (i))), (10, .int (v))]) dX10_sum_138 rfl (by decide) rfl ?_
              refine xn_iinc (c := 1) (L2 := [(0, .ref 172), (1, .int (nI (k))), (2, .int (w)), (3, .long (s + v.toInt64)), (5, .int (nI (nb + 1))), (6, .int (nI (kd + 1))), (7, .int (mo)), (8, .int (v)), (9, .int (nI (i))), (10, .int (v))]) 4 dX10_sum_139 rfl (by decide) rfl ?_
              refine xn_iinc (c := 1) (L2 := [(0, .ref 172), (1, .int (nI (k))), (2, .int (w)), (3, .long (s + v.toInt64)), (5, .int (nI (nb + 1))), (6, .int (nI (kd + 1))), (7, .int (mo)), (8, .int (v)), (9, .int (nI (i + 1))), (10, .int (v))]) 8 dX10_sum_142 rfl (by decide) rfl ?_
              refine xe_goto 38 dX10_sum_145 (by decide) ?_
              refine xE.sub [0, 1, 2, 3, 4, 5, 6, 7, 8] rfl ?_
              exact k19 c1 c6 c16 c17 c20 c21
            · refine xe_iload 9 dX10_sum_117 rfl ?_
              refine xe_iload 7 dX10_sum_119 rfl ?_
              refine xe_icmp_ge 129 dX10_sum_121 (by decide) (fun c22 => ?_) (fun c22 => ?_)
              · refine xe_iload 7 dX10_sum_129 rfl ?_
                refine xe_istore (L2 := [(0, .ref 172), (1, .int (nI (k))), (2, .int (w)), (3, .long (s)), (5, .int (nI (nb))), (6, .int (nI (kd + 1))), (7, .int (mo)), (8, .int (le)), (9, .int (nI (i))), (10, .int (v))]) dX10_sum_131 (by decide) rfl ?_
                refine xe_lload_n 3 dX10_sum_133 rfl rfl ?_
                refine xe_iload 9 dX10_sum_134 rfl ?_
                refine xe_i2l dX10_sum_136 ?_
                refine xe_ladd dX10_sum_137 ?_
                refine xe_lstore_n (L2 := [(0, .ref 172), (1, .int (nI (k))), (2, .int (w)), (3, .long (s + v.toInt64)), (5, .int (nI (nb))), (6, .int (nI (kd + 1))), (7, .int (mo)), (8, .int (le)), (9, .int (nI (i))), (10, .int (v))]) dX10_sum_138 rfl (by decide) rfl ?_
                refine xn_iinc (c := 1) (L2 := [(0, .ref 172), (1, .int (nI (k))), (2, .int (w)), (3, .long (s + v.toInt64)), (5, .int (nI (nb + 1))), (6, .int (nI (kd + 1))), (7, .int (mo)), (8, .int (le)), (9, .int (nI (i))), (10, .int (v))]) 4 dX10_sum_139 rfl (by decide) rfl ?_
                refine xn_iinc (c := 1) (L2 := [(0, .ref 172), (1, .int (nI (k))), (2, .int (w)), (3, .long (s + v.toInt64)), (5, .int (nI (nb + 1))), (6, .int (nI (kd + 1))), (7, .int (mo)), (8, .int (le)), (9, .int (nI (i + 1))), (10, .int (v))]) 8 dX10_sum_142 rfl (by decide) rfl ?_
                refine xe_goto 38 dX10_sum_145 (by decide) ?_
                refine xE.sub [0, 1, 2, 3, 4, 5, 6, 7, 8] rfl ?_
                exact k20 c1 c6 c16 c17 c20 c21 c22
              · refine xe_iload 9 dX10_sum_124 rfl ?_
                refine xe_goto 131 dX10_sum_126 (by decide) ?_
                refine xe_istore (L2 := [(0, .ref 172), (1, .int (nI (k))), (2, .int (w)), (3, .long (s)), (5, .int (nI (nb))), (6, .int (nI (kd + 1))), (7, .int (mo)), (8, .int (v)), (9, .int (nI (i))), (10, .int (v))]) dX10_sum_131 (by decide) rfl ?_
                refine xe_lload_n 3 dX10_sum_133 rfl rfl ?_
                refine xe_iload 9 dX10_sum_134 rfl ?_
                refine xe_i2l dX10_sum_136 ?_
                refine xe_ladd dX10_sum_137 ?_
                refine xe_lstore_n (L2 := [(0, .ref 172), (1, .int (nI (k))), (2, .int (w)), (3, .long (s + v.toInt64)), (5, .int (nI (nb))), (6, .int (nI (kd + 1))), (7, .int (mo)), (8, .int (v)), (9, .int (nI (i))), (10, .int (v))]) dX10_sum_138 rfl (by decide) rfl ?_
                refine xn_iinc (c := 1) (L2 := [(0, .ref 172), (1, .int (nI (k))), (2, .int (w)), (3, .long (s + v.toInt64)), (5, .int (nI (nb + 1))), (6, .int (nI (kd + 1))), (7, .int (mo)), (8, .int (v)), (9, .int (nI (i))), (10, .int (v))]) 4 dX10_sum_139 rfl (by decide) rfl ?_
                refine xn_iinc (c := 1) (L2 := [(0, .ref 172), (1, .int (nI (k))), (2, .int (w)), (3, .long (s + v.toInt64)), (5, .int (nI (nb + 1))), (6, .int (nI (kd + 1))), (7, .int (mo)), (8, .int (v)), (9, .int (nI (i + 1))), (10, .int (v))]) 8 dX10_sum_142 rfl (by decide) rfl ?_
                refine xe_goto 38 dX10_sum_145 (by decide) ?_
                refine xE.sub [0, 1, 2, 3, 4, 5, 6, 7, 8] rfl ?_
                exact k21 c1 c6 c16 c17 c20 c21 c22
          · refine xe_iload 9 dX10_sum_103 rfl ?_
            refine xe_goto 110 dX10_sum_105 (by decide) ?_
            refine xe_istore (L2 := [(0, .ref 172), (1, .int (nI (k))), (2, .int (w)), (3, .long (s)), (5, .int (nI (nb))), (6, .int (nI (kd + 1))), (7, .int (v)), (8, .int (le)), (9, .int (nI (i))), (10, .int (v))]) dX10_sum_110 (by decide) rfl ?_
            refine xe_iload 4 dX10_sum_112 rfl ?_
            refine xn_if_eq 124 dX10_sum_114 (by decide) (by omega) (fun c23 => ?_) (fun c23 => ?_)
            · refine xe_iload 9 dX10_sum_124 rfl ?_
              refine xe_goto 131 dX10_sum_126 (by decide) ?_
              refine xe_istore (L2 := [(0, .ref 172), (1, .int (nI (k))), (2, .int (w)), (3, .long (s)), (5, .int (nI (nb))), (6, .int (nI (kd + 1))), (7, .int (v)), (8, .int (v)), (9, .int (nI (i))), (10, .int (v))]) dX10_sum_131 (by decide) rfl ?_
              refine xe_lload_n 3 dX10_sum_133 rfl rfl ?_
              refine xe_iload 9 dX10_sum_134 rfl ?_
              refine xe_i2l dX10_sum_136 ?_
              refine xe_ladd dX10_sum_137 ?_
              refine xe_lstore_n (L2 := [(0, .ref 172), (1, .int (nI (k))), (2, .int (w)), (3, .long (s + v.toInt64)), (5, .int (nI (nb))), (6, .int (nI (kd + 1))), (7, .int (v)), (8, .int (v)), (9, .int (nI (i))), (10, .int (v))]) dX10_sum_138 rfl (by decide) rfl ?_
              refine xn_iinc (c := 1) (L2 := [(0, .ref 172), (1, .int (nI (k))), (2, .int (w)), (3, .long (s + v.toInt64)), (5, .int (nI (nb + 1))), (6, .int (nI (kd + 1))), (7, .int (v)), (8, .int (v)), (9, .int (nI (i))), (10, .int (v))]) 4 dX10_sum_139 rfl (by decide) rfl ?_
              refine xn_iinc (c := 1) (L2 := [(0, .ref 172), (1, .int (nI (k))), (2, .int (w)), (3, .long (s + v.toInt64)), (5, .int (nI (nb + 1))), (6, .int (nI (kd + 1))), (7, .int (v)), (8, .int (v)), (9, .int (nI (i + 1))), (10, .int (v))]) 8 dX10_sum_142 rfl (by decide) rfl ?_
              refine xe_goto 38 dX10_sum_145 (by decide) ?_
              refine xE.sub [0, 1, 2, 3, 4, 5, 6, 7, 8] rfl ?_
              exact k22 c1 c6 c16 c17 c20 c23
            · refine xe_iload 9 dX10_sum_117 rfl ?_
              refine xe_iload 7 dX10_sum_119 rfl ?_
              refine xe_icmp_ge 129 dX10_sum_121 (by decide) (fun c24 => ?_) (fun c24 => ?_)
              · refine xe_iload 7 dX10_sum_129 rfl ?_
                refine xe_istore (L2 := [(0, .ref 172), (1, .int (nI (k))), (2, .int (w)), (3, .long (s)), (5, .int (nI (nb))), (6, .int (nI (kd + 1))), (7, .int (v)), (8, .int (le)), (9, .int (nI (i))), (10, .int (v))]) dX10_sum_131 (by decide) rfl ?_
                refine xe_lload_n 3 dX10_sum_133 rfl rfl ?_
                refine xe_iload 9 dX10_sum_134 rfl ?_
                refine xe_i2l dX10_sum_136 ?_
                refine xe_ladd dX10_sum_137 ?_
                refine xe_lstore_n (L2 := [(0, .ref 172), (1, .int (nI (k))), (2, .int (w)), (3, .long (s + v.toInt64)), (5, .int (nI (nb))), (6, .int (nI (kd + 1))), (7, .int (v)), (8, .int (le)), (9, .int (nI (i))), (10, .int (v))]) dX10_sum_138 rfl (by decide) rfl ?_
                refine xn_iinc (c := 1) (L2 := [(0, .ref 172), (1, .int (nI (k))), (2, .int (w)), (3, .long (s + v.toInt64)), (5, .int (nI (nb + 1))), (6, .int (nI (kd + 1))), (7, .int (v)), (8, .int (le)), (9, .int (nI (i))), (10, .int (v))]) 4 dX10_sum_139 rfl (by decide) rfl ?_
                refine xn_iinc (c := 1) (L2 := [(0, .ref 172), (1, .int (nI (k))), (2, .int (w)), (3, .long (s + v.toInt64)), (5, .int (nI (nb + 1))), (6, .int (nI (kd + 1))), (7, .int (v)), (8, .int (le)), (9, .int (nI (i + 1))), (10, .int (v))]) 8 dX10_sum_142 rfl (by decide) rfl ?_
                refine xe_goto 38 dX10_sum_145 (by decide) ?_
                refine xE.sub [0, 1, 2, 3, 4, 5, 6, 7, 8] rfl ?_
                exact k23 c1 c6 c16 c17 c20 c23 c24
              · refine xe_iload 9 dX10_sum_124 rfl ?_
                refine xe_goto 131 dX10_sum_126 (by decide) ?_
                refine xe_istore (L2 := [(0, .ref 172), (1, .int (nI (k))), (2, .int (w)), (3, .long (s)), (5, .int (nI (nb))), (6, .int (nI (kd + 1))), (7, .int (v)), (8, .int (v)), (9, .int (nI (i))), (10, .int (v))]) dX10_sum_131 (by decide) rfl ?_
                refine xe_lload_n 3 dX10_sum_133 rfl rfl ?_
                refine xe_iload 9 dX10_sum_134 rfl ?_
                refine xe_i2l dX10_sum_136 ?_
                refine xe_ladd dX10_sum_137 ?_
                refine xe_lstore_n (L2 := [(0, .ref 172), (1, .int (nI (k))), (2, .int (w)), (3, .long (s + v.toInt64)), (5, .int (nI (nb))), (6, .int (nI (kd + 1))), (7, .int (v)), (8, .int (v)), (9, .int (nI (i))), (10, .int (v))]) dX10_sum_138 rfl (by decide) rfl ?_
                refine xn_iinc (c := 1) (L2 := [(0, .ref 172), (1, .int (nI (k))), (2, .int (w)), (3, .long (s + v.toInt64)), (5, .int (nI (nb + 1))), (6, .int (nI (kd + 1))), (7, .int (v)), (8, .int (v)), (9, .int (nI (i))), (10, .int (v))]) 4 dX10_sum_139 rfl (by decide) rfl ?_
                refine xn_iinc (c := 1) (L2 := [(0, .ref 172), (1, .int (nI (k))), (2, .int (w)), (3, .long (s + v.toInt64)), (5, .int (nI (nb + 1))), (6, .int (nI (kd + 1))), (7, .int (v)), (8, .int (v)), (9, .int (nI (i + 1))), (10, .int (v))]) 8 dX10_sum_142 rfl (by decide) rfl ?_
                refine xe_goto 38 dX10_sum_145 (by decide) ?_
                refine xE.sub [0, 1, 2, 3, 4, 5, 6, 7, 8] rfl ?_
                exact k24 c1 c6 c16 c17 c20 c23 c24
      · refine xe_goto 142 dX10_sum_88 (by decide) ?_
        refine xn_iinc (c := 1) (L2 := [(0, .ref 172), (1, .int (nI (k))), (2, .int (w)), (3, .long (s)), (5, .int (nI (nb))), (6, .int (nI (kd + 1))), (7, .int (mo)), (8, .int (le)), (9, .int (nI (i + 1))), (10, .int (v))]) 8 dX10_sum_142 rfl (by decide) rfl ?_
        refine xe_goto 38 dX10_sum_145 (by decide) ?_
        refine xE.sub [0, 1, 2, 3, 4, 5, 6, 7, 8] rfl ?_
        exact k25 c1 c6 c16

theorem gX10_sum_e (u : xU) (k nb kd i m : Nat) (w mo le : Int32) (s : Int64) {Q : Option Value → xM → Prop} (hi : i = m) (hm : m ≤ 500) (v1 : u.1 172 16 = nI (m))
    (k1 : m ≤ i → ¬ w = 0 → ¬ w = 1 → ¬ w = 2 → ¬ w = 3 → Q (some (.long ((nI (kd)).toInt64))) (xmm u))
    (k2 : m ≤ i → ¬ w = 0 → ¬ w = 1 → ¬ w = 2 → w = 3 → Q (some (.long (le.toInt64))) (xmm u))
    (k3 : m ≤ i → ¬ w = 0 → ¬ w = 1 → w = 2 → Q (some (.long (mo.toInt64))) (xmm u))
    (k4 : m ≤ i → ¬ w = 0 → w = 1 → Q (some (.long ((nI (nb)).toInt64))) (xmm u))
    (k5 : m ≤ i → w = 0 → Q (some (.long (s))) (xmm u))
    (k6 : ¬ m ≤ i → xE mX10_sum 47 [(0, .ref 172), (1, .int (nI (k))), (2, .int (w)), (3, .long (s)), (5, .int (nI (nb))), (6, .int (nI (kd))), (7, .int (mo)), (8, .int (le)), (9, .int (nI (i)))] [] (xmm u) Q) : xE mX10_sum 38 [(0, .ref 172), (1, .int (nI (k))), (2, .int (w)), (3, .long (s)), (5, .int (nI (nb))), (6, .int (nI (kd))), (7, .int (mo)), (8, .int (le)), (9, .int (nI (i)))] [] (xmm u) Q := by
  refine xe_iload 8 dX10_sum_38 rfl ?_
  refine xe_aload_n 0 dX10_sum_40 rfl rfl ?_
  refine xr_getI (v := nI (m)) dX10_sum_41 fX10_46 sh172 (by decide) v1 ?_
  refine xn_icmp_ge 148 dX10_sum_44 (by decide) (by omega) (by omega) (fun c1 => ?_) (fun c1 => ?_)
  · refine xe_iload_n 2 dX10_sum_148 rfl rfl ?_
    refine xe_if_ne 156 dX10_sum_149 (by decide) (fun c2 => ?_) (fun c2 => ?_)
    · refine xe_iload_n 2 dX10_sum_156 rfl rfl ?_
      refine xe_iconst (v := nI (1)) dX10_sum_157 xc1 ?_
      refine xe_icmp_ne 167 dX10_sum_158 (by decide) (fun c3 => ?_) (fun c3 => ?_)
      · refine xe_iload_n 2 dX10_sum_167 rfl rfl ?_
        refine xe_iconst (v := nI (2)) dX10_sum_168 xc2 ?_
        refine xe_icmp_ne 178 dX10_sum_169 (by decide) (fun c4 => ?_) (fun c4 => ?_)
        · refine xe_iload_n 2 dX10_sum_178 rfl rfl ?_
          refine xe_iconst (v := nI (3)) dX10_sum_179 xc3 ?_
          refine xe_icmp_ne 189 dX10_sum_180 (by decide) (fun c5 => ?_) (fun c5 => ?_)
          · refine xe_iload 5 dX10_sum_189 rfl ?_
            refine xe_i2l dX10_sum_191 ?_
            exact xe_ret (r := (some (.long ((nI (kd)).toInt64)))) dX10_sum_192 trivial (k1 c1 c2 c3 c4 c5)
          · refine xe_iload 7 dX10_sum_183 rfl ?_
            refine xe_i2l dX10_sum_185 ?_
            refine xe_goto 192 dX10_sum_186 (by decide) ?_
            exact xe_ret (r := (some (.long (le.toInt64)))) dX10_sum_192 trivial (k2 c1 c2 c3 c4 c5)
        · refine xe_iload 6 dX10_sum_172 rfl ?_
          refine xe_i2l dX10_sum_174 ?_
          refine xe_goto 192 dX10_sum_175 (by decide) ?_
          exact xe_ret (r := (some (.long (mo.toInt64)))) dX10_sum_192 trivial (k3 c1 c2 c3 c4)
      · refine xe_iload 4 dX10_sum_161 rfl ?_
        refine xe_i2l dX10_sum_163 ?_
        refine xe_goto 192 dX10_sum_164 (by decide) ?_
        exact xe_ret (r := (some (.long ((nI (nb)).toInt64)))) dX10_sum_192 trivial (k4 c1 c2 c3)
    · refine xe_lload_n 3 dX10_sum_152 rfl rfl ?_
      refine xe_goto 192 dX10_sum_153 (by decide) ?_
      exact xe_ret (r := (some (.long (s)))) dX10_sum_192 trivial (k5 c1 c2)
  · exact k6 c1

theorem gX10_group_I (u : xU) (k v w j : Int32) {Q : Option Value → xM → Prop} (hin : xC mX10_isName [.ref 172, .int k] (xmm u) (fun r μ' => r = some (.int (xb (False))) ∧ μ' = xmm u)) 
    (k1 : ¬ False → Q (some (.long (0))) (xmm u))
    (k2 : False → ¬ (0 ≤ w ∧ w ≤ 1) → Q (some (.long (0))) (xmm u))
    (k3 : False → 0 ≤ w ∧ w ≤ 1 → ¬ w = 1 → xE mX10_group 39 [(0, .ref 172), (1, .int (k)), (2, .int (v)), (3, .int (w)), (4, .int (j)), (5, .long (0)), (7, .int (nI (0)))] [] (xmm u) Q)
    (k4 : False → 0 ≤ w ∧ w ≤ 1 → w = 1 → xC mX10_isName [.ref 172, .int (j)] (xmm u) (fun r μ1 => xE mX10_group 28 [(0, .ref 172), (1, .int (k)), (2, .int (v)), (3, .int (w)), (4, .int (j))] (r.toList ++ []) μ1 Q)) : xE mX10_group 0 [(0, .ref 172), (1, .int (k)), (2, .int (v)), (3, .int (w)), (4, .int (j))] [] (xmm u) Q := by
  refine xe_aload_n 0 dX10_group_0 rfl rfl ?_
  refine xe_iload_n 1 dX10_group_1 rfl rfl ?_
  refine xe_callV (As := [.int (k)]) (rest := []) dX10_group_2 wX10_isName lX10_182 iX10_isName sX10_isName ⟨by decide, by decide⟩ sh172 rfl (xin_mm (by decide)) rfl rfl (by simp [Value.category]) (xC.pure (v := .int (xb (False))) (hin) ?_)
  refine xb_if_eq 31 dX10_group_5 (by decide) (fun c1 => ?_) (fun c1 => ?_)
  · refine xe_lconst (v := 0) dX10_group_31 (by decide) ?_
    exact xe_ret (r := (some (.long (0)))) dX10_group_32 trivial (k1 c1)
  · refine xe_iload_n 3 dX10_group_8 rfl rfl ?_
    refine xe_iconst (v := nI (0)) dX10_group_9 xc0 ?_
    refine xe_iconst (v := nI (1)) dX10_group_10 xc1 ?_
    refine xe_callS (As := [.int (w), .int (nI (0)), .int (nI (1))]) (rest := []) dX10_group_11 wX10_lies lX10_88 tX10_lies ⟨by decide, by decide⟩ rfl rfl (by simp [Value.category]) (xC.pure (v := .int (xb (0 ≤ w ∧ w ≤ 1))) (qX10_lies u w (nI (0)) (nI (1))) ?_)
    refine xb_if_eq 31 dX10_group_14 (by decide) (fun c2 => ?_) (fun c2 => ?_)
    · refine xe_lconst (v := 0) dX10_group_31 (by decide) ?_
      exact xe_ret (r := (some (.long (0)))) dX10_group_32 trivial (k2 c1 c2)
    · refine xe_iload_n 3 dX10_group_17 rfl rfl ?_
      refine xe_iconst (v := nI (1)) dX10_group_18 xc1 ?_
      refine xe_icmp_ne 33 dX10_group_19 (by decide) (fun c3 => ?_) (fun c3 => ?_)
      · refine xe_lconst (v := 0) dX10_group_33 (by decide) ?_
        refine xe_lstore (L2 := [(0, .ref 172), (1, .int (k)), (2, .int (v)), (3, .int (w)), (4, .int (j)), (5, .long (0))]) dX10_group_34 (by decide) rfl ?_
        refine xe_iconst (v := nI (0)) dX10_group_36 xc0 ?_
        refine xe_istore (L2 := [(0, .ref 172), (1, .int (k)), (2, .int (v)), (3, .int (w)), (4, .int (j)), (5, .long (0)), (7, .int (nI (0)))]) dX10_group_37 (by decide) rfl ?_
        exact k3 c1 c2 c3
      · refine xe_aload_n 0 dX10_group_22 rfl rfl ?_
        refine xe_iload 4 dX10_group_23 rfl ?_
        refine xe_callV (As := [.int (j)]) (rest := []) dX10_group_25 wX10_isName lX10_182 iX10_isName sX10_isName ⟨by decide, by decide⟩ sh172 rfl (xin_mm (by decide)) rfl rfl (by simp [Value.category]) ?_
        exact k4 c1 c2 c3

theorem gX10_group_N (u : xU) (k : Nat) (v w j : Int32) (bj : Bool) {Q : Option Value → xM → Prop} (hin : xC mX10_isName [.ref 172, .int (nI k)] (xmm u) (fun r μ' => r = some (.int (xb (True))) ∧ μ' = xmm u)) (hij : xC mX10_isName [.ref 172, .int j] (xmm u) (fun r μ' => r = some (.int (xb (bj = true))) ∧ μ' = xmm u)) 
    (k1 : ¬ True → Q (some (.long (0))) (xmm u))
    (k2 : True → ¬ (0 ≤ w ∧ w ≤ 1) → Q (some (.long (0))) (xmm u))
    (k3 : True → 0 ≤ w ∧ w ≤ 1 → ¬ w = 1 → xE mX10_group 39 [(0, .ref 172), (1, .int (nI (k))), (2, .int (v)), (3, .int (w)), (4, .int (j)), (5, .long (0)), (7, .int (nI (0)))] [] (xmm u) Q)
    (k4 : True → 0 ≤ w ∧ w ≤ 1 → w = 1 → bj = true → xE mX10_group 39 [(0, .ref 172), (1, .int (nI (k))), (2, .int (v)), (3, .int (w)), (4, .int (j)), (5, .long (0)), (7, .int (nI (0)))] [] (xmm u) Q)
    (k5 : True → 0 ≤ w ∧ w ≤ 1 → w = 1 → ¬ (bj = true) → Q (some (.long (0))) (xmm u)) : xE mX10_group 0 [(0, .ref 172), (1, .int (nI (k))), (2, .int (v)), (3, .int (w)), (4, .int (j))] [] (xmm u) Q := by
  refine xe_aload_n 0 dX10_group_0 rfl rfl ?_
  refine xe_iload_n 1 dX10_group_1 rfl rfl ?_
  refine xe_callV (As := [.int (nI (k))]) (rest := []) dX10_group_2 wX10_isName lX10_182 iX10_isName sX10_isName ⟨by decide, by decide⟩ sh172 rfl (xin_mm (by decide)) rfl rfl (by simp [Value.category]) (xC.pure (v := .int (xb (True))) (hin) ?_)
  refine xb_if_eq 31 dX10_group_5 (by decide) (fun c1 => ?_) (fun c1 => ?_)
  · refine xe_lconst (v := 0) dX10_group_31 (by decide) ?_
    exact xe_ret (r := (some (.long (0)))) dX10_group_32 trivial (k1 c1)
  · refine xe_iload_n 3 dX10_group_8 rfl rfl ?_
    refine xe_iconst (v := nI (0)) dX10_group_9 xc0 ?_
    refine xe_iconst (v := nI (1)) dX10_group_10 xc1 ?_
    refine xe_callS (As := [.int (w), .int (nI (0)), .int (nI (1))]) (rest := []) dX10_group_11 wX10_lies lX10_88 tX10_lies ⟨by decide, by decide⟩ rfl rfl (by simp [Value.category]) (xC.pure (v := .int (xb (0 ≤ w ∧ w ≤ 1))) (qX10_lies u w (nI (0)) (nI (1))) ?_)
    refine xb_if_eq 31 dX10_group_14 (by decide) (fun c2 => ?_) (fun c2 => ?_)
    · refine xe_lconst (v := 0) dX10_group_31 (by decide) ?_
      exact xe_ret (r := (some (.long (0)))) dX10_group_32 trivial (k2 c1 c2)
    · refine xe_iload_n 3 dX10_group_17 rfl rfl ?_
      refine xe_iconst (v := nI (1)) dX10_group_18 xc1 ?_
      refine xe_icmp_ne 33 dX10_group_19 (by decide) (fun c3 => ?_) (fun c3 => ?_)
      · refine xe_lconst (v := 0) dX10_group_33 (by decide) ?_
        refine xe_lstore (L2 := [(0, .ref 172), (1, .int (nI (k))), (2, .int (v)), (3, .int (w)), (4, .int (j)), (5, .long (0))]) dX10_group_34 (by decide) rfl ?_
        refine xe_iconst (v := nI (0)) dX10_group_36 xc0 ?_
        refine xe_istore (L2 := [(0, .ref 172), (1, .int (nI (k))), (2, .int (v)), (3, .int (w)), (4, .int (j)), (5, .long (0)), (7, .int (nI (0)))]) dX10_group_37 (by decide) rfl ?_
        exact k3 c1 c2 c3
      · refine xe_aload_n 0 dX10_group_22 rfl rfl ?_
        refine xe_iload 4 dX10_group_23 rfl ?_
        refine xe_callV (As := [.int (j)]) (rest := []) dX10_group_25 wX10_isName lX10_182 iX10_isName sX10_isName ⟨by decide, by decide⟩ sh172 rfl (xin_mm (by decide)) rfl rfl (by simp [Value.category]) (xC.pure (v := .int (xb (bj = true))) (hij) ?_)
        refine xb_if_ne 33 dX10_group_28 (by decide) (fun c4 => ?_) (fun c4 => ?_)
        · refine xe_lconst (v := 0) dX10_group_33 (by decide) ?_
          refine xe_lstore (L2 := [(0, .ref 172), (1, .int (nI (k))), (2, .int (v)), (3, .int (w)), (4, .int (j)), (5, .long (0))]) dX10_group_34 (by decide) rfl ?_
          refine xe_iconst (v := nI (0)) dX10_group_36 xc0 ?_
          refine xe_istore (L2 := [(0, .ref 172), (1, .int (nI (k))), (2, .int (v)), (3, .int (w)), (4, .int (j)), (5, .long (0)), (7, .int (nI (0)))]) dX10_group_37 (by decide) rfl ?_
          exact k4 c1 c2 c3 c4
        · refine xe_lconst (v := 0) dX10_group_31 (by decide) ?_
          exact xe_ret (r := (some (.long (0)))) dX10_group_32 trivial (k5 c1 c2 c3 c4)

theorem gX10_group_39_0 (u : xU) (k i m : Nat) (j : Int32) (v x : Int32) (s : Int64) {Q : Option Value → xM → Prop} (hi : i < m) (hm : m ≤ 500) (hk : k < 6) (v1 : u.1 172 16 = nI (m)) (v2 : u.1 185 ((6 * i) + k) = x)
    (k1 : m ≤ i → Q (some (.long (s))) (xmm u))
    (k2 : ¬ m ≤ i → x = v → ¬ (nI (1)) = ((-2147483648)) → xE mX10_group 39 [(0, .ref 172), (1, .int (nI (k))), (2, .int (v)), (3, .int (nI (0))), (4, .int (j)), (5, .long (s + ((nI (1)).toInt64))), (7, .int (nI (i + 1)))] [] (xmm u) Q)
    (k3 : ¬ m ≤ i → x = v → (nI (1)) = ((-2147483648)) → xE mX10_group 39 [(0, .ref 172), (1, .int (nI (k))), (2, .int (v)), (3, .int (nI (0))), (4, .int (j)), (5, .long (s + 0)), (7, .int (nI (i + 1)))] [] (xmm u) Q)
    (k4 : ¬ m ≤ i → ¬ x = v → xE mX10_group 39 [(0, .ref 172), (1, .int (nI (k))), (2, .int (v)), (3, .int (nI (0))), (4, .int (j)), (5, .long (s)), (7, .int (nI (i + 1)))] [] (xmm u) Q) : xE mX10_group 39 [(0, .ref 172), (1, .int (nI (k))), (2, .int (v)), (3, .int (nI (0))), (4, .int (j)), (5, .long (s)), (7, .int (nI (i)))] [] (xmm u) Q := by
  refine xe_iload 6 dX10_group_39 rfl ?_
  refine xe_aload_n 0 dX10_group_41 rfl rfl ?_
  refine xr_getI (v := nI (m)) dX10_group_42 fX10_46 sh172 (by decide) v1 ?_
  refine xn_icmp_ge 115 dX10_group_45 (by decide) (by omega) (by omega) (fun c1 => ?_) (fun c1 => ?_)
  · refine xe_lload 5 dX10_group_115 rfl ?_
    exact xe_ret (r := (some (.long (s)))) dX10_group_117 trivial (k1 c1)
  · refine xe_aload_n 0 dX10_group_48 rfl rfl ?_
    refine xr_getR (b := 185) dX10_group_49 fX10_50 rfl sh172 (by decide) rfl ?_
    refine xe_bipush (v := nI (6)) dX10_group_52 xcb6 ?_
    refine xe_iload 6 dX10_group_54 rfl ?_
    refine xn_imul dX10_group_56 ?_
    refine xe_iload_n 1 dX10_group_57 rfl rfl ?_
    refine xn_iadd dX10_group_58 ?_
    refine xr_iald (k := (6 * i) + k) (v := x) dX10_group_59 sh185 (by decide) (by omega) (by decide) v2 ?_
    refine xe_iload_n 2 dX10_group_60 rfl rfl ?_
    refine xe_icmp_eq 67 dX10_group_61 (by decide) (fun c2 => ?_) (fun c2 => ?_)
    · refine xe_iload_n 3 dX10_group_67 rfl rfl ?_
      refine xn_if_ne 75 dX10_group_68 (by decide) (by omega) (fun q => absurd q (by decide)) (fun _ => ?_)
      refine xe_iconst (v := nI (1)) dX10_group_71 xc1 ?_
      refine xe_goto 88 dX10_group_72 (by decide) ?_
      refine xe_istore (L2 := [(0, .ref 172), (1, .int (nI (k))), (2, .int (v)), (3, .int (nI (0))), (4, .int (j)), (5, .long (s)), (7, .int (nI (i))), (8, .int (nI (1)))]) dX10_group_88 (by decide) rfl ?_
      refine xe_lload 5 dX10_group_90 rfl ?_
      refine xe_iload 7 dX10_group_92 rfl ?_
      refine xe_ldc dX10_group_94 kX10_87 ?_
      refine xe_icmp_ne 103 dX10_group_96 (by decide) (fun c3 => ?_) (fun c3 => ?_)
      · refine xe_iload 7 dX10_group_103 rfl ?_
        refine xe_i2l dX10_group_105 ?_
        refine xe_ladd dX10_group_106 ?_
        refine xe_lstore (L2 := [(0, .ref 172), (1, .int (nI (k))), (2, .int (v)), (3, .int (nI (0))), (4, .int (j)), (5, .long (s + ((nI (1)).toInt64))), (7, .int (nI (i))), (8, .int (nI (1)))]) dX10_group_107 (by decide) rfl ?_
        refine xn_iinc (c := 1) (L2 := [(0, .ref 172), (1, .int (nI (k))), (2, .int (v)), (3, .int (nI (0))), (4, .int (j)), (5, .long (s + ((nI (1)).toInt64))), (7, .int (nI (i + 1))), (8, .int (nI (1)))]) 6 dX10_group_109 rfl (by decide) rfl ?_
        refine xe_goto 39 dX10_group_112 (by decide) ?_
        refine xE.sub [0, 1, 2, 3, 4, 5, 6] rfl ?_
        exact k2 c1 c2 c3
      · refine xe_lconst (v := 0) dX10_group_99 (by decide) ?_
        refine xe_goto 106 dX10_group_100 (by decide) ?_
        refine xe_ladd dX10_group_106 ?_
        refine xe_lstore (L2 := [(0, .ref 172), (1, .int (nI (k))), (2, .int (v)), (3, .int (nI (0))), (4, .int (j)), (5, .long (s + 0)), (7, .int (nI (i))), (8, .int (nI (1)))]) dX10_group_107 (by decide) rfl ?_
        refine xn_iinc (c := 1) (L2 := [(0, .ref 172), (1, .int (nI (k))), (2, .int (v)), (3, .int (nI (0))), (4, .int (j)), (5, .long (s + 0)), (7, .int (nI (i + 1))), (8, .int (nI (1)))]) 6 dX10_group_109 rfl (by decide) rfl ?_
        refine xe_goto 39 dX10_group_112 (by decide) ?_
        refine xE.sub [0, 1, 2, 3, 4, 5, 6] rfl ?_
        exact k3 c1 c2 c3
    · refine xe_goto 109 dX10_group_64 (by decide) ?_
      refine xn_iinc (c := 1) (L2 := [(0, .ref 172), (1, .int (nI (k))), (2, .int (v)), (3, .int (nI (0))), (4, .int (j)), (5, .long (s)), (7, .int (nI (i + 1)))]) 6 dX10_group_109 rfl (by decide) rfl ?_
      refine xe_goto 39 dX10_group_112 (by decide) ?_
      exact k4 c1 c2

theorem gX10_group_e_0 (u : xU) (k i m : Nat) (j : Int32) (v : Int32) (s : Int64) {Q : Option Value → xM → Prop} (hi : i = m) (hm : m ≤ 500) (v1 : u.1 172 16 = nI (m))
    (k1 : m ≤ i → Q (some (.long (s))) (xmm u))
    (k2 : ¬ m ≤ i → xE mX10_group 48 [(0, .ref 172), (1, .int (nI (k))), (2, .int (v)), (3, .int (nI (0))), (4, .int (j)), (5, .long (s)), (7, .int (nI (i)))] [] (xmm u) Q) : xE mX10_group 39 [(0, .ref 172), (1, .int (nI (k))), (2, .int (v)), (3, .int (nI (0))), (4, .int (j)), (5, .long (s)), (7, .int (nI (i)))] [] (xmm u) Q := by
  refine xe_iload 6 dX10_group_39 rfl ?_
  refine xe_aload_n 0 dX10_group_41 rfl rfl ?_
  refine xr_getI (v := nI (m)) dX10_group_42 fX10_46 sh172 (by decide) v1 ?_
  refine xn_icmp_ge 115 dX10_group_45 (by decide) (by omega) (by omega) (fun c1 => ?_) (fun c1 => ?_)
  · refine xe_lload 5 dX10_group_115 rfl ?_
    exact xe_ret (r := (some (.long (s)))) dX10_group_117 trivial (k1 c1)
  · exact k2 c1

theorem gX10_group_39_1 (u : xU) (k i m : Nat) (j : Nat) (v x : Int32) (s : Int64) (y : Int32) {Q : Option Value → xM → Prop} (hi : i < m) (hm : m ≤ 500) (hk : k < 6) (hj : j < 6) (v1 : u.1 172 16 = nI (m)) (v2 : u.1 185 ((6 * i) + k) = x) (v3 : u.1 185 ((6 * i) + j) = y)
    (k1 : m ≤ i → Q (some (.long (s))) (xmm u))
    (k2 : ¬ m ≤ i → x = v → ¬ y = ((-2147483648)) → xE mX10_group 39 [(0, .ref 172), (1, .int (nI (k))), (2, .int (v)), (3, .int (nI (1))), (4, .int (nI (j))), (5, .long (s + y.toInt64)), (7, .int (nI (i + 1)))] [] (xmm u) Q)
    (k3 : ¬ m ≤ i → x = v → y = ((-2147483648)) → xE mX10_group 39 [(0, .ref 172), (1, .int (nI (k))), (2, .int (v)), (3, .int (nI (1))), (4, .int (nI (j))), (5, .long (s + 0)), (7, .int (nI (i + 1)))] [] (xmm u) Q)
    (k4 : ¬ m ≤ i → ¬ x = v → xE mX10_group 39 [(0, .ref 172), (1, .int (nI (k))), (2, .int (v)), (3, .int (nI (1))), (4, .int (nI (j))), (5, .long (s)), (7, .int (nI (i + 1)))] [] (xmm u) Q) : xE mX10_group 39 [(0, .ref 172), (1, .int (nI (k))), (2, .int (v)), (3, .int (nI (1))), (4, .int (nI (j))), (5, .long (s)), (7, .int (nI (i)))] [] (xmm u) Q := by
  refine xe_iload 6 dX10_group_39 rfl ?_
  refine xe_aload_n 0 dX10_group_41 rfl rfl ?_
  refine xr_getI (v := nI (m)) dX10_group_42 fX10_46 sh172 (by decide) v1 ?_
  refine xn_icmp_ge 115 dX10_group_45 (by decide) (by omega) (by omega) (fun c1 => ?_) (fun c1 => ?_)
  · refine xe_lload 5 dX10_group_115 rfl ?_
    exact xe_ret (r := (some (.long (s)))) dX10_group_117 trivial (k1 c1)
  · refine xe_aload_n 0 dX10_group_48 rfl rfl ?_
    refine xr_getR (b := 185) dX10_group_49 fX10_50 rfl sh172 (by decide) rfl ?_
    refine xe_bipush (v := nI (6)) dX10_group_52 xcb6 ?_
    refine xe_iload 6 dX10_group_54 rfl ?_
    refine xn_imul dX10_group_56 ?_
    refine xe_iload_n 1 dX10_group_57 rfl rfl ?_
    refine xn_iadd dX10_group_58 ?_
    refine xr_iald (k := (6 * i) + k) (v := x) dX10_group_59 sh185 (by decide) (by omega) (by decide) v2 ?_
    refine xe_iload_n 2 dX10_group_60 rfl rfl ?_
    refine xe_icmp_eq 67 dX10_group_61 (by decide) (fun c2 => ?_) (fun c2 => ?_)
    · refine xe_iload_n 3 dX10_group_67 rfl rfl ?_
      refine xn_if_ne 75 dX10_group_68 (by decide) (by omega) (fun _ => ?_) (fun q => absurd q (by decide))
      refine xe_aload_n 0 dX10_group_75 rfl rfl ?_
      refine xr_getR (b := 185) dX10_group_76 fX10_50 rfl sh172 (by decide) rfl ?_
      refine xe_bipush (v := nI (6)) dX10_group_79 xcb6 ?_
      refine xe_iload 6 dX10_group_81 rfl ?_
      refine xn_imul dX10_group_83 ?_
      refine xe_iload 4 dX10_group_84 rfl ?_
      refine xn_iadd dX10_group_86 ?_
      refine xr_iald (k := (6 * i) + j) (v := y) dX10_group_87 sh185 (by decide) (by omega) (by decide) v3 ?_
      refine xe_istore (L2 := [(0, .ref 172), (1, .int (nI (k))), (2, .int (v)), (3, .int (nI (1))), (4, .int (nI (j))), (5, .long (s)), (7, .int (nI (i))), (8, .int (y))]) dX10_group_88 (by decide) rfl ?_
      refine xe_lload 5 dX10_group_90 rfl ?_
      refine xe_iload 7 dX10_group_92 rfl ?_
      refine xe_ldc dX10_group_94 kX10_87 ?_
      refine xe_icmp_ne 103 dX10_group_96 (by decide) (fun c3 => ?_) (fun c3 => ?_)
      · refine xe_iload 7 dX10_group_103 rfl ?_
        refine xe_i2l dX10_group_105 ?_
        refine xe_ladd dX10_group_106 ?_
        refine xe_lstore (L2 := [(0, .ref 172), (1, .int (nI (k))), (2, .int (v)), (3, .int (nI (1))), (4, .int (nI (j))), (5, .long (s + y.toInt64)), (7, .int (nI (i))), (8, .int (y))]) dX10_group_107 (by decide) rfl ?_
        refine xn_iinc (c := 1) (L2 := [(0, .ref 172), (1, .int (nI (k))), (2, .int (v)), (3, .int (nI (1))), (4, .int (nI (j))), (5, .long (s + y.toInt64)), (7, .int (nI (i + 1))), (8, .int (y))]) 6 dX10_group_109 rfl (by decide) rfl ?_
        refine xe_goto 39 dX10_group_112 (by decide) ?_
        refine xE.sub [0, 1, 2, 3, 4, 5, 6] rfl ?_
        exact k2 c1 c2 c3
      · refine xe_lconst (v := 0) dX10_group_99 (by decide) ?_
        refine xe_goto 106 dX10_group_100 (by decide) ?_
        refine xe_ladd dX10_group_106 ?_
        refine xe_lstore (L2 := [(0, .ref 172), (1, .int (nI (k))), (2, .int (v)), (3, .int (nI (1))), (4, .int (nI (j))), (5, .long (s + 0)), (7, .int (nI (i))), (8, .int (y))]) dX10_group_107 (by decide) rfl ?_
        refine xn_iinc (c := 1) (L2 := [(0, .ref 172), (1, .int (nI (k))), (2, .int (v)), (3, .int (nI (1))), (4, .int (nI (j))), (5, .long (s + 0)), (7, .int (nI (i + 1))), (8, .int (y))]) 6 dX10_group_109 rfl (by decide) rfl ?_
        refine xe_goto 39 dX10_group_112 (by decide) ?_
        refine xE.sub [0, 1, 2, 3, 4, 5, 6] rfl ?_
        exact k3 c1 c2 c3
    · refine xe_goto 109 dX10_group_64 (by decide) ?_
      refine xn_iinc (c := 1) (L2 := [(0, .ref 172), (1, .int (nI (k))), (2, .int (v)), (3, .int (nI (1))), (4, .int (nI (j))), (5, .long (s)), (7, .int (nI (i + 1)))]) 6 dX10_group_109 rfl (by decide) rfl ?_
      refine xe_goto 39 dX10_group_112 (by decide) ?_
      exact k4 c1 c2

theorem gX10_group_e_1 (u : xU) (k i m : Nat) (j : Nat) (v : Int32) (s : Int64) {Q : Option Value → xM → Prop} (hi : i = m) (hm : m ≤ 500) (v1 : u.1 172 16 = nI (m))
    (k1 : m ≤ i → Q (some (.long (s))) (xmm u))
    (k2 : ¬ m ≤ i → xE mX10_group 48 [(0, .ref 172), (1, .int (nI (k))), (2, .int (v)), (3, .int (nI (1))), (4, .int (nI (j))), (5, .long (s)), (7, .int (nI (i)))] [] (xmm u) Q) : xE mX10_group 39 [(0, .ref 172), (1, .int (nI (k))), (2, .int (v)), (3, .int (nI (1))), (4, .int (nI (j))), (5, .long (s)), (7, .int (nI (i)))] [] (xmm u) Q := by
  refine xe_iload 6 dX10_group_39 rfl ?_
  refine xe_aload_n 0 dX10_group_41 rfl rfl ?_
  refine xr_getI (v := nI (m)) dX10_group_42 fX10_46 sh172 (by decide) v1 ?_
  refine xn_icmp_ge 115 dX10_group_45 (by decide) (by omega) (by omega) (fun c1 => ?_) (fun c1 => ?_)
  · refine xe_lload 5 dX10_group_115 rfl ?_
    exact xe_ret (r := (some (.long (s)))) dX10_group_117 trivial (k1 c1)
  · exact k2 c1

theorem gX10_keep_n (u : xU) {Q : Option Value → xM → Prop}  (v1 : u.1 172 16 = (-1))
    (k1 : Q (some (.int (-1))) (xmm u)) : xE mX10_keep 0 [(0, .ref 172)] [] (xmm u) Q := by
  refine xe_aload_n 0 dX10_keep_0 rfl rfl ?_
  refine xr_getI (v := (-1)) dX10_keep_1 fX10_46 sh172 (by decide) v1 ?_
  refine xe_iconst (v := -1) dX10_keep_4 xcm1 ?_
  refine xe_icmp_ne 10 dX10_keep_5 (by decide) (fun q => absurd rfl q) (fun _ => ?_)
  refine xe_iconst (v := -1) dX10_keep_8 xcm1 ?_
  exact xe_ret (r := (some (.int (-1)))) dX10_keep_9 trivial (k1)

theorem gX10_keep_s (u : xU) (n m : Nat) {Q : Option Value → xM → Prop}  (v1 : u.1 172 16 = nI (m)) (v2 : u.1 172 15 = nI (n))
    (k1 : ¬ (nI (m)) = (-1) → xE mX10_keep 28 [(0, .ref 172), (1, .int (nI (0)))] [] (xmm (wi (wi u 172 22 (nI (n))) 172 23 (nI (m)))) Q)
    (k2 : (nI (m)) = (-1) → Q (some (.int (-1))) (xmm u)) : xE mX10_keep 0 [(0, .ref 172)] [] (xmm u) Q := by
  refine xe_aload_n 0 dX10_keep_0 rfl rfl ?_
  refine xr_getI (v := nI (m)) dX10_keep_1 fX10_46 sh172 (by decide) v1 ?_
  refine xe_iconst (v := -1) dX10_keep_4 xcm1 ?_
  refine xe_icmp_ne 10 dX10_keep_5 (by decide) (fun c1 => ?_) (fun c1 => ?_)
  · refine xe_aload_n 0 dX10_keep_10 rfl rfl ?_
    refine xe_aload_n 0 dX10_keep_11 rfl rfl ?_
    refine xr_getI (v := nI (n)) dX10_keep_12 fX10_173 sh172 (by decide) v2 ?_
    refine xr_putI dX10_keep_15 fX10_188 sh172 (by decide) ?_
    refine xe_aload_n 0 dX10_keep_18 rfl rfl ?_
    refine xe_aload_n 0 dX10_keep_19 rfl rfl ?_
    refine xr_getI (v := nI (m)) dX10_keep_20 fX10_46 sh172 (by decide) ((wi_nek (by decide)).trans v1) ?_
    refine xr_putI dX10_keep_23 fX10_63 sh172 (by decide) ?_
    refine xe_iconst (v := nI (0)) dX10_keep_26 xc0 ?_
    refine xe_istore_n (L2 := [(0, .ref 172), (1, .int (nI (0)))]) dX10_keep_27 rfl (by decide) rfl ?_
    exact k1 c1
  · refine xe_iconst (v := -1) dX10_keep_8 xcm1 ?_
    exact xe_ret (r := (some (.int (-1)))) dX10_keep_9 trivial (k2 c1)

theorem gX10_keep_28 (u : xU) (i : Nat) (x y : Int32) {Q : Option Value → xM → Prop} (hi : i ≤ 3006) (v1 : u.1 185 i = x) (v2 : u.1 172 23 = y)
    (k1 : 3006 ≤ i → Q (some (.int (y))) (xmm u))
    (k2 : ¬ 3006 ≤ i → xE mX10_keep 28 [(0, .ref 172), (1, .int (nI (i + 1)))] [] (xmm (wi u 189 i (x))) Q) : xE mX10_keep 28 [(0, .ref 172), (1, .int (nI (i)))] [] (xmm u) Q := by
  refine xe_iload_n 1 dX10_keep_28 rfl rfl ?_
  refine xe_sipush (v := nI (3006)) dX10_keep_29 xcs3006 ?_
  refine xn_icmp_ge 53 dX10_keep_32 (by decide) (by omega) (by omega) (fun c1 => ?_) (fun c1 => ?_)
  · refine xe_aload_n 0 dX10_keep_53 rfl rfl ?_
    refine xr_getI (v := y) dX10_keep_54 fX10_63 sh172 (by decide) v2 ?_
    exact xe_ret (r := (some (.int (y)))) dX10_keep_57 trivial (k1 c1)
  · refine xe_aload_n 0 dX10_keep_35 rfl rfl ?_
    refine xr_getR (b := 189) dX10_keep_36 fX10_66 rfl sh172 (by decide) rfl ?_
    refine xe_iload_n 1 dX10_keep_39 rfl rfl ?_
    refine xe_aload_n 0 dX10_keep_40 rfl rfl ?_
    refine xr_getR (b := 185) dX10_keep_41 fX10_50 rfl sh172 (by decide) rfl ?_
    refine xe_iload_n 1 dX10_keep_44 rfl rfl ?_
    refine xr_iald (k := i) (v := x) dX10_keep_45 sh185 (by decide) (by omega) (by decide) v1 ?_
    refine xr_iast (k := i) dX10_keep_46 sh189 (by decide) (by omega) (by decide) ?_
    refine xn_iinc (c := 1) (L2 := [(0, .ref 172), (1, .int (nI (i + 1)))]) 1 dX10_keep_47 rfl (by decide) rfl ?_
    refine xe_goto 28 dX10_keep_50 (by decide) ?_
    exact k2 c1

