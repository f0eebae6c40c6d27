theorem gX0_at_I (u : xU) (A : Nat) (i k z : Int32) (b : Bool) {Q : Option Value → xM → Prop} (hA : A = 47 ∨ A = 59) (hca : xC mX0_carries [.ref A, .int k] (xmm u) (fun r μ' => r = some (.int (xb (b = true))) ∧ μ' = xmm u)) (v1 : u.1 A 1 = z)
    (k1 : i < 0 → Q (some (.int (nI (0)))) (xmm u))
    (k2 : ¬ i < 0 → z ≤ i → Q (some (.int (nI (0)))) (xmm u))
    (k3 : ¬ i < 0 → ¬ z ≤ i → b = true → False)
    (k4 : ¬ i < 0 → ¬ z ≤ i → ¬ (b = true) → Q (some (.int (nI (0)))) (xmm u)) : xE mX0_at 0 [(0, .ref A), (1, .int (i)), (2, .int (k))] [] (xmm u) Q := by
  refine xe_iload_n 1 dX0_at_0 rfl rfl ?_
  refine xe_if_lt 20 dX0_at_1 (by decide) (fun c1 => ?_) (fun c1 => ?_)
  · refine xe_iconst (v := nI (0)) dX0_at_20 xc0 ?_
    refine xe_goto 41 dX0_at_21 (by decide) ?_
    exact xe_ret (r := (some (.int (nI (0))))) dX0_at_41 trivial (k1 c1)
  · refine xe_iload_n 1 dX0_at_4 rfl rfl ?_
    refine xe_aload_n 0 dX0_at_5 rfl rfl ?_
    refine xr_getI (v := z) dX0_at_6 fX0_9 (shA hA).1 (by omega) v1 ?_
    refine xe_icmp_ge 20 dX0_at_9 (by decide) (fun c2 => ?_) (fun c2 => ?_)
    · refine xe_iconst (v := nI (0)) dX0_at_20 xc0 ?_
      refine xe_goto 41 dX0_at_21 (by decide) ?_
      exact xe_ret (r := (some (.int (nI (0))))) dX0_at_41 trivial (k2 c1 c2)
    · refine xe_aload_n 0 dX0_at_12 rfl rfl ?_
      refine xe_iload_n 2 dX0_at_13 rfl rfl ?_
      refine xe_callV (As := [.int (k)]) (rest := []) dX0_at_14 wX0_carries lX0_37 iX0_carries sX0_carries ⟨by decide, by decide⟩ (shA hA).1 rfl (xin_mm (by omega)) rfl rfl (by simp [Value.category]) (xC.pure (v := .int (xb (b = true))) (hca) ?_)
      refine xb_if_ne 24 dX0_at_17 (by decide) (fun c3 => ?_) (fun c3 => ?_)
      · refine xe_aload_n 0 dX0_at_24 rfl rfl ?_
        refine xr_getR (b := (A + 1)) dX0_at_25 fX0_17 rfl (shA hA).1 (by omega) (rA hA).1 ?_
        refine xe_iload_n 2 dX0_at_28 rfl rfl ?_
        exact (k3 c1 c2 c3).elim
      · refine xe_iconst (v := nI (0)) dX0_at_20 xc0 ?_
        refine xe_goto 41 dX0_at_21 (by decide) ?_
        exact xe_ret (r := (some (.int (nI (0))))) dX0_at_41 trivial (k4 c1 c2 c3)

theorem gX0_at_N (u : xU) (A i k m s : Nat) (x : Int64) (v : Int32) (b : Bool) {Q : Option Value → xM → Prop} (hA : A = 47 ∨ A = 59) (hi : i < 500) (hm : m ≤ 500) (hk : k < 6) (hs : s < 64) (hca : xC mX0_carries [.ref A, .int (nI k)] (xmm u) (fun r μ' => r = some (.int (xb (b = true))) ∧ μ' = xmm u)) (hsp : xC mX9_spotIn [.long x, .int (nI k)] (xmm u) (fun r μ' => r = some (.int (nI s)) ∧ μ' = xmm u)) (v1 : u.1 A 1 = nI (m)) (v2 : u.2.1 (A + 8) i = x) (v3 : u.1 (A + 2 + k) s = v)
    (k1 : m ≤ i → Q (some (.int (nI (0)))) (xmm u))
    (k2 : ¬ m ≤ i → b = true → Q (some (.int (v))) (xmm u))
    (k3 : ¬ m ≤ i → ¬ (b = true) → Q (some (.int (nI (0)))) (xmm u)) : xE mX0_at 0 [(0, .ref A), (1, .int (nI (i))), (2, .int (nI (k)))] [] (xmm u) Q := by
  refine xe_iload_n 1 dX0_at_0 rfl rfl ?_
  refine xn_if_lt 20 dX0_at_1 (by decide) (by omega) (fun q => absurd q (by omega)) (fun _ => ?_)
  refine xe_iload_n 1 dX0_at_4 rfl rfl ?_
  refine xe_aload_n 0 dX0_at_5 rfl rfl ?_
  refine xr_getI (v := nI (m)) dX0_at_6 fX0_9 (shA hA).1 (by omega) v1 ?_
  refine xn_icmp_ge 20 dX0_at_9 (by decide) (by omega) (by omega) (fun c1 => ?_) (fun c1 => ?_)
  · refine xe_iconst (v := nI (0)) dX0_at_20 xc0 ?_
    refine xe_goto 41 dX0_at_21 (by decide) ?_
    exact xe_ret (r := (some (.int (nI (0))))) dX0_at_41 trivial (k1 c1)
  · refine xe_aload_n 0 dX0_at_12 rfl rfl ?_
    refine xe_iload_n 2 dX0_at_13 rfl rfl ?_
    refine xe_callV (As := [.int (nI (k))]) (rest := []) dX0_at_14 wX0_carries lX0_37 iX0_carries sX0_carries ⟨by decide, by decide⟩ (shA hA).1 rfl (xin_mm (by omega)) rfl rfl (by simp [Value.category]) (xC.pure (v := .int (xb (b = true))) (hca) ?_)
    refine xb_if_ne 24 dX0_at_17 (by decide) (fun c2 => ?_) (fun c2 => ?_)
    · refine xe_aload_n 0 dX0_at_24 rfl rfl ?_
      refine xr_getR (b := (A + 1)) dX0_at_25 fX0_17 rfl (shA hA).1 (by omega) (rA hA).1 ?_
      refine xe_iload_n 2 dX0_at_28 rfl rfl ?_
      refine xr_aald (k := k) (b := (A + 2 + k)) dX0_at_29 (shA hA).2.1 (by decide) (by decide) (by omega) (by omega) (by decide) (rAD hA (by omega)) ?_
      refine xe_aload_n 0 dX0_at_30 rfl rfl ?_
      refine xr_getR (b := (A + 8)) dX0_at_31 fX0_20 rfl (shA hA).1 (by omega) (rA hA).2 ?_
      refine xe_iload_n 1 dX0_at_34 rfl rfl ?_
      refine xr_lald (k := i) (v := x) dX0_at_35 (shA hA).2.2 (by omega) (by omega) (by decide) v2 ?_
      refine xe_iload_n 2 dX0_at_36 rfl rfl ?_
      refine xe_callSN (As := [.long (x), .int (nI (k))]) (rest := [.ref (A + 2 + k)]) dX0_at_37 wX9_spotIn lX0_41 tX9_spotIn ⟨by decide, by decide⟩ rfl rfl (by simp [Value.category]) (xC.pure (v := .int (nI (s))) (hsp) ?_)
      refine xr_iald (k := s) (v := v) dX0_at_40 (shAD hA (by omega)) (by omega) (by omega) (by decide) v3 ?_
      exact xe_ret (r := (some (.int (v)))) dX0_at_41 trivial (k2 c1 c2)
    · refine xe_iconst (v := nI (0)) dX0_at_20 xc0 ?_
      refine xe_goto 41 dX0_at_21 (by decide) ?_
      exact xe_ret (r := (some (.int (nI (0))))) dX0_at_41 trivial (k3 c1 c2)

theorem gX0_numberOrZero_0 (u : xU) (A i k : Nat) (v : Int32) {Q : Option Value → xM → Prop} (hA : A = 47 ∨ A = 59) (hat : xC mX0_at [.ref A, .int (nI i), .int (nI k)] (xmm u) (fun r μ' => r = some (.int v) ∧ μ' = xmm u)) 
    (k1 : ¬ v = ((-2147483648)) → Q (some (.int (v))) (xmm u))
    (k2 : v = ((-2147483648)) → Q (some (.int (nI (0)))) (xmm u)) : xE mX0_numberOrZero 0 [(0, .ref A), (1, .int (nI (i))), (2, .int (nI (k)))] [] (xmm u) Q := by
  refine xe_aload_n 0 dX0_numberOrZero_0 rfl rfl ?_
  refine xe_iload_n 1 dX0_numberOrZero_1 rfl rfl ?_
  refine xe_iload_n 2 dX0_numberOrZero_2 rfl rfl ?_
  refine xe_callV (As := [.int (nI (i)), .int (nI (k))]) (rest := []) dX0_numberOrZero_3 wX0_at lX0_45 iX0_at sX0_at ⟨by decide, by decide⟩ (shA hA).1 rfl (xin_mm (by omega)) rfl rfl (by simp [Value.category]) (xC.pure (v := .int (v)) (hat) ?_)
  refine xe_istore_n (L2 := [(0, .ref A), (1, .int (nI (i))), (2, .int (nI (k))), (3, .int (v))]) dX0_numberOrZero_6 rfl (by decide) rfl ?_
  refine xe_iload_n 3 dX0_numberOrZero_7 rfl rfl ?_
  refine xe_ldc dX0_numberOrZero_8 kX0_55 ?_
  refine xe_icmp_ne 17 dX0_numberOrZero_10 (by decide) (fun c1 => ?_) (fun c1 => ?_)
  · refine xe_iload_n 3 dX0_numberOrZero_17 rfl rfl ?_
    exact xe_ret (r := (some (.int (v)))) dX0_numberOrZero_18 trivial (k1 c1)
  · refine xe_iconst (v := nI (0)) dX0_numberOrZero_13 xc0 ?_
    refine xe_goto 18 dX0_numberOrZero_14 (by decide) ?_
    exact xe_ret (r := (some (.int (nI (0))))) dX0_numberOrZero_18 trivial (k2 c1)

theorem gX0_total_0 (u : xU) (A k : Nat) {Q : Option Value → xM → Prop}  
    (k1 : xE mX0_total 5 [(0, .ref A), (1, .int (nI (k))), (2, .long (0)), (4, .int (nI (0)))] [] (xmm u) Q) : xE mX0_total 0 [(0, .ref A), (1, .int (nI (k)))] [] (xmm u) Q := by
  refine xe_lconst (v := 0) dX0_total_0 (by decide) ?_
  refine xe_lstore_n (L2 := [(0, .ref A), (1, .int (nI (k))), (2, .long (0))]) dX0_total_1 rfl (by decide) rfl ?_
  refine xe_iconst (v := nI (0)) dX0_total_2 xc0 ?_
  refine xe_istore (L2 := [(0, .ref A), (1, .int (nI (k))), (2, .long (0)), (4, .int (nI (0)))]) dX0_total_3 (by decide) rfl ?_
  exact k1

theorem gX0_total_5 (u : xU) (A k m i : Nat) (t : Int64) (v : Int32) {Q : Option Value → xM → Prop} (hA : A = 47 ∨ A = 59) (hm : m ≤ 500) (hi : i < m) (hnz : xC mX0_numberOrZero [.ref A, .int (nI i), .int (nI k)] (xmm u) (fun r μ' => r = some (.int v) ∧ μ' = xmm u)) (v1 : u.1 A 1 = nI (m))
    (k1 : m ≤ i → Q (some (.long (t))) (xmm u))
    (k2 : ¬ m ≤ i → xE mX0_total 5 [(0, .ref A), (1, .int (nI (k))), (2, .long (t + v.toInt64)), (4, .int (nI (i + 1)))] [] (xmm u) Q) : xE mX0_total 5 [(0, .ref A), (1, .int (nI (k))), (2, .long (t)), (4, .int (nI (i)))] [] (xmm u) Q := by
  refine xe_iload 3 dX0_total_5 rfl ?_
  refine xe_aload_n 0 dX0_total_7 rfl rfl ?_
  refine xr_getI (v := nI (m)) dX0_total_8 fX0_9 (shA hA).1 (by omega) v1 ?_
  refine xn_icmp_ge 31 dX0_total_11 (by decide) (by omega) (by omega) (fun c1 => ?_) (fun c1 => ?_)
  · refine xe_lload_n 2 dX0_total_31 rfl rfl ?_
    exact xe_ret (r := (some (.long (t)))) dX0_total_32 trivial (k1 c1)
  · refine xe_lload_n 2 dX0_total_14 rfl rfl ?_
    refine xe_aload_n 0 dX0_total_15 rfl rfl ?_
    refine xe_iload 3 dX0_total_16 rfl ?_
    refine xe_iload_n 1 dX0_total_18 rfl rfl ?_
    refine xe_callV (As := [.int (nI (i)), .int (nI (k))]) (rest := [.long (t)]) dX0_total_19 wX0_numberOrZero lX0_52 iX0_numberOrZero sX0_numberOrZero ⟨by decide, by decide⟩ (shA hA).1 rfl (xin_mm (by omega)) rfl rfl (by simp [Value.category]) (xC.pure (v := .int (v)) (hnz) ?_)
    refine xe_i2l dX0_total_22 ?_
    refine xe_ladd dX0_total_23 ?_
    refine xe_lstore_n (L2 := [(0, .ref A), (1, .int (nI (k))), (2, .long (t + v.toInt64)), (4, .int (nI (i)))]) dX0_total_24 rfl (by decide) rfl ?_
    refine xn_iinc (c := 1) (L2 := [(0, .ref A), (1, .int (nI (k))), (2, .long (t + v.toInt64)), (4, .int (nI (i + 1)))]) 3 dX0_total_25 rfl (by decide) rfl ?_
    refine xe_goto 5 dX0_total_28 (by decide) ?_
    exact k2 c1

theorem gX0_total_e (u : xU) (A k m i : Nat) (t : Int64) {Q : Option Value → xM → Prop} (hA : A = 47 ∨ A = 59) (hm : m ≤ 500) (hi : i = m) (v1 : u.1 A 1 = nI (m))
    (k1 : m ≤ i → Q (some (.long (t))) (xmm u))
    (k2 : ¬ m ≤ i → xE mX0_total 14 [(0, .ref A), (1, .int (nI (k))), (2, .long (t)), (4, .int (nI (i)))] [] (xmm u) Q) : xE mX0_total 5 [(0, .ref A), (1, .int (nI (k))), (2, .long (t)), (4, .int (nI (i)))] [] (xmm u) Q := by
  refine xe_iload 3 dX0_total_5 rfl ?_
  refine xe_aload_n 0 dX0_total_7 rfl rfl ?_
  refine xr_getI (v := nI (m)) dX0_total_8 fX0_9 (shA hA).1 (by omega) v1 ?_
  refine xn_icmp_ge 31 dX0_total_11 (by decide) (by omega) (by omega) (fun c1 => ?_) (fun c1 => ?_)
  · refine xe_lload_n 2 dX0_total_31 rfl rfl ?_
    exact xe_ret (r := (some (.long (t)))) dX0_total_32 trivial (k1 c1)
  · exact k2 c1

theorem gX0_howManyWith_0 (u : xU) (A k : Nat) (w : Int32) {Q : Option Value → xM → Prop}  
    (k1 : xE mX0_howManyWith 5 [(0, .ref A), (1, .int (nI (k))), (2, .int (w)), (3, .int (nI (0))), (4, .int (nI (0)))] [] (xmm u) Q) : xE mX0_howManyWith 0 [(0, .ref A), (1, .int (nI (k))), (2, .int (w))] [] (xmm u) Q := by
  refine xe_iconst (v := nI (0)) dX0_howManyWith_0 xc0 ?_
  refine xe_istore_n (L2 := [(0, .ref A), (1, .int (nI (k))), (2, .int (w)), (3, .int (nI (0)))]) dX0_howManyWith_1 rfl (by decide) rfl ?_
  refine xe_iconst (v := nI (0)) dX0_howManyWith_2 xc0 ?_
  refine xe_istore (L2 := [(0, .ref A), (1, .int (nI (k))), (2, .int (w)), (3, .int (nI (0))), (4, .int (nI (0)))]) dX0_howManyWith_3 (by decide) rfl ?_
  exact k1

theorem gX0_howManyWith_5 (u : xU) (A k m i f : Nat) (w v : Int32) {Q : Option Value → xM → Prop} (hA : A = 47 ∨ A = 59) (hm : m ≤ 500) (hi : i < m) (hat : xC mX0_at [.ref A, .int (nI i), .int (nI k)] (xmm u) (fun r μ' => r = some (.int v) ∧ μ' = xmm u)) (v1 : u.1 A 1 = nI (m))
    (k1 : m ≤ i → Q (some (.long ((nI (f)).toInt64))) (xmm u))
    (k2 : ¬ m ≤ i → ¬ v = w → xE mX0_howManyWith 5 [(0, .ref A), (1, .int (nI (k))), (2, .int (w)), (3, .int (nI (f))), (4, .int (nI (i + 1)))] [] (xmm u) Q)
    (k3 : ¬ m ≤ i → v = w → xE mX0_howManyWith 5 [(0, .ref A), (1, .int (nI (k))), (2, .int (w)), (3, .int (nI (f + 1))), (4, .int (nI (i + 1)))] [] (xmm u) Q) : xE mX0_howManyWith 5 [(0, .ref A), (1, .int (nI (k))), (2, .int (w)), (3, .int (nI (f))), (4, .int (nI (i)))] [] (xmm u) Q := by
  refine xe_iload 4 dX0_howManyWith_5 rfl ?_
  refine xe_aload_n 0 dX0_howManyWith_7 rfl rfl ?_
  refine xr_getI (v := nI (m)) dX0_howManyWith_8 fX0_9 (shA hA).1 (by omega) v1 ?_
  refine xn_icmp_ge 34 dX0_howManyWith_11 (by decide) (by omega) (by omega) (fun c1 => ?_) (fun c1 => ?_)
  · refine xe_iload_n 3 dX0_howManyWith_34 rfl rfl ?_
    refine xe_i2l dX0_howManyWith_35 ?_
    exact xe_ret (r := (some (.long ((nI (f)).toInt64)))) dX0_howManyWith_36 trivial (k1 c1)
  · refine xe_aload_n 0 dX0_howManyWith_14 rfl rfl ?_
    refine xe_iload 4 dX0_howManyWith_15 rfl ?_
    refine xe_iload_n 1 dX0_howManyWith_17 rfl rfl ?_
    refine xe_callV (As := [.int (nI (i)), .int (nI (k))]) (rest := []) dX0_howManyWith_18 wX0_at lX0_45 iX0_at sX0_at ⟨by decide, by decide⟩ (shA hA).1 rfl (xin_mm (by omega)) rfl rfl (by simp [Value.category]) (xC.pure (v := .int (v)) (hat) ?_)
    refine xe_iload_n 2 dX0_howManyWith_21 rfl rfl ?_
    refine xe_icmp_ne 28 dX0_howManyWith_22 (by decide) (fun c2 => ?_) (fun c2 => ?_)
    · refine xn_iinc (c := 1) (L2 := [(0, .ref A), (1, .int (nI (k))), (2, .int (w)), (3, .int (nI (f))), (4, .int (nI (i + 1)))]) 4 dX0_howManyWith_28 rfl (by decide) rfl ?_
      refine xe_goto 5 dX0_howManyWith_31 (by decide) ?_
      exact k2 c1 c2
    · refine xn_iinc (c := 1) (L2 := [(0, .ref A), (1, .int (nI (k))), (2, .int (w)), (3, .int (nI (f + 1))), (4, .int (nI (i)))]) 3 dX0_howManyWith_25 rfl (by decide) rfl ?_
      refine xn_iinc (c := 1) (L2 := [(0, .ref A), (1, .int (nI (k))), (2, .int (w)), (3, .int (nI (f + 1))), (4, .int (nI (i + 1)))]) 4 dX0_howManyWith_28 rfl (by decide) rfl ?_
      refine xe_goto 5 dX0_howManyWith_31 (by decide) ?_
      exact k3 c1 c2

theorem gX0_howManyWith_e (u : xU) (A k m i f : Nat) (w : Int32) {Q : Option Value → xM → Prop} (hA : A = 47 ∨ A = 59) (hm : m ≤ 500) (hi : i = m) (v1 : u.1 A 1 = nI (m))
    (k1 : m ≤ i → Q (some (.long ((nI (f)).toInt64))) (xmm u))
    (k2 : ¬ m ≤ i → xE mX0_howManyWith 14 [(0, .ref A), (1, .int (nI (k))), (2, .int (w)), (3, .int (nI (f))), (4, .int (nI (i)))] [] (xmm u) Q) : xE mX0_howManyWith 5 [(0, .ref A), (1, .int (nI (k))), (2, .int (w)), (3, .int (nI (f))), (4, .int (nI (i)))] [] (xmm u) Q := by
  refine xe_iload 4 dX0_howManyWith_5 rfl ?_
  refine xe_aload_n 0 dX0_howManyWith_7 rfl rfl ?_
  refine xr_getI (v := nI (m)) dX0_howManyWith_8 fX0_9 (shA hA).1 (by omega) v1 ?_
  refine xn_icmp_ge 34 dX0_howManyWith_11 (by decide) (by omega) (by omega) (fun c1 => ?_) (fun c1 => ?_)
  · refine xe_iload_n 3 dX0_howManyWith_34 rfl rfl ?_
    refine xe_i2l dX0_howManyWith_35 ?_
    exact xe_ret (r := (some (.long ((nI (f)).toInt64)))) dX0_howManyWith_36 trivial (k1 c1)
  · exact k2 c1

theorem gX0_numbers_0 (u : xU) (A k m : Nat) (y : Int64) {Q : Option Value → xM → Prop} (hA : A = 47 ∨ A = 59) (hhm : xC mX0_howManyWith [.ref A, .int (nI k), .int (-2147483648)] (xmm u) (fun r μ' => r = some (.long y) ∧ μ' = xmm u)) (v1 : u.1 A 1 = nI (m))
    (k1 : Q (some (.long (((nI (m)).toInt64) - y))) (xmm u)) : xE mX0_numbers 0 [(0, .ref A), (1, .int (nI (k)))] [] (xmm u) Q := by
  refine xe_aload_n 0 dX0_numbers_0 rfl rfl ?_
  refine xr_getI (v := nI (m)) dX0_numbers_1 fX0_9 (shA hA).1 (by omega) v1 ?_
  refine xe_i2l dX0_numbers_4 ?_
  refine xe_aload_n 0 dX0_numbers_5 rfl rfl ?_
  refine xe_iload_n 1 dX0_numbers_6 rfl rfl ?_
  refine xe_ldc dX0_numbers_7 kX0_55 ?_
  refine xe_callV (As := [.int (nI (k)), .int ((-2147483648))]) (rest := [.long ((nI (m)).toInt64)]) dX0_numbers_9 wX0_howManyWith lX0_56 iX0_howManyWith sX0_howManyWith ⟨by decide, by decide⟩ (shA hA).1 rfl (xin_mm (by omega)) rfl rfl (by simp [Value.category]) (xC.pure (v := .long (y)) (hhm) ?_)
  refine xe_lsub dX0_numbers_12 ?_
  exact xe_ret (r := (some (.long (((nI (m)).toInt64) - y)))) dX0_numbers_13 trivial (k1)

theorem gX0_greatest_0 (u : xU) (A k : Nat) {Q : Option Value → xM → Prop}  
    (k1 : xE mX0_greatest 5 [(0, .ref A), (1, .int (nI (k))), (2, .int ((-2147483648))), (3, .int (nI (0)))] [] (xmm u) Q) : xE mX0_greatest 0 [(0, .ref A), (1, .int (nI (k)))] [] (xmm u) Q := by
  refine xe_ldc dX0_greatest_0 kX0_55 ?_
  refine xe_istore_n (L2 := [(0, .ref A), (1, .int (nI (k))), (2, .int ((-2147483648)))]) dX0_greatest_2 rfl (by decide) rfl ?_
  refine xe_iconst (v := nI (0)) dX0_greatest_3 xc0 ?_
  refine xe_istore_n (L2 := [(0, .ref A), (1, .int (nI (k))), (2, .int ((-2147483648))), (3, .int (nI (0)))]) dX0_greatest_4 rfl (by decide) rfl ?_
  exact k1

theorem gX0_greatest_5 (u : xU) (A k m i : Nat) (g v : Int32) {Q : Option Value → xM → Prop} (hA : A = 47 ∨ A = 59) (hm : m ≤ 500) (hi : i < m) (hat : xC mX0_at [.ref A, .int (nI i), .int (nI k)] (xmm u) (fun r μ' => r = some (.int v) ∧ μ' = xmm u)) (v1 : u.1 A 1 = nI (m))
    (k1 : m ≤ i → Q (some (.long (g.toInt64))) (xmm u))
    (k2 : ¬ m ≤ i → xE mX0_greatest 5 [(0, .ref A), (1, .int (nI (k))), (2, .int (if g < v then v else g)), (3, .int (nI (i + 1)))] [] (xmm u) Q) : xE mX0_greatest 5 [(0, .ref A), (1, .int (nI (k))), (2, .int (g)), (3, .int (nI (i)))] [] (xmm u) Q := by
  refine xe_iload_n 3 dX0_greatest_5 rfl rfl ?_
  refine xe_aload_n 0 dX0_greatest_6 rfl rfl ?_
  refine xr_getI (v := nI (m)) dX0_greatest_7 fX0_9 (shA hA).1 (by omega) v1 ?_
  refine xn_icmp_ge 30 dX0_greatest_10 (by decide) (by omega) (by omega) (fun c1 => ?_) (fun c1 => ?_)
  · refine xe_iload_n 2 dX0_greatest_30 rfl rfl ?_
    refine xe_i2l dX0_greatest_31 ?_
    exact xe_ret (r := (some (.long (g.toInt64)))) dX0_greatest_32 trivial (k1 c1)
  · refine xe_iload_n 2 dX0_greatest_13 rfl rfl ?_
    refine xe_aload_n 0 dX0_greatest_14 rfl rfl ?_
    refine xe_iload_n 3 dX0_greatest_15 rfl rfl ?_
    refine xe_iload_n 1 dX0_greatest_16 rfl rfl ?_
    refine xe_callV (As := [.int (nI (i)), .int (nI (k))]) (rest := [.int (g)]) dX0_greatest_17 wX0_at lX0_45 iX0_at sX0_at ⟨by decide, by decide⟩ (shA hA).1 rfl (xin_mm (by omega)) rfl rfl (by simp [Value.category]) (xC.pure (v := .int (v)) (hat) ?_)
    refine xe_mmax dX0_greatest_20 lX0_60 xmath_max xmathi xmathc_max (by decide) ?_
    refine xe_istore_n (L2 := [(0, .ref A), (1, .int (nI (k))), (2, .int (if g < v then v else g)), (3, .int (nI (i)))]) dX0_greatest_23 rfl (by decide) rfl ?_
    refine xn_iinc (c := 1) (L2 := [(0, .ref A), (1, .int (nI (k))), (2, .int (if g < v then v else g)), (3, .int (nI (i + 1)))]) 3 dX0_greatest_24 rfl (by decide) rfl ?_
    refine xe_goto 5 dX0_greatest_27 (by decide) ?_
    exact k2 c1

theorem gX0_greatest_e (u : xU) (A k m i : Nat) (g : Int32) {Q : Option Value → xM → Prop} (hA : A = 47 ∨ A = 59) (hm : m ≤ 500) (hi : i = m) (v1 : u.1 A 1 = nI (m))
    (k1 : m ≤ i → Q (some (.long (g.toInt64))) (xmm u))
    (k2 : ¬ m ≤ i → xE mX0_greatest 13 [(0, .ref A), (1, .int (nI (k))), (2, .int (g)), (3, .int (nI (i)))] [] (xmm u) Q) : xE mX0_greatest 5 [(0, .ref A), (1, .int (nI (k))), (2, .int (g)), (3, .int (nI (i)))] [] (xmm u) Q := by
  refine xe_iload_n 3 dX0_greatest_5 rfl rfl ?_
  refine xe_aload_n 0 dX0_greatest_6 rfl rfl ?_
  refine xr_getI (v := nI (m)) dX0_greatest_7 fX0_9 (shA hA).1 (by omega) v1 ?_
  refine xn_icmp_ge 30 dX0_greatest_10 (by decide) (by omega) (by omega) (fun c1 => ?_) (fun c1 => ?_)
  · refine xe_iload_n 2 dX0_greatest_30 rfl rfl ?_
    refine xe_i2l dX0_greatest_31 ?_
    exact xe_ret (r := (some (.long (g.toInt64)))) dX0_greatest_32 trivial (k1 c1)
  · exact k2 c1

theorem gX0_least_0 (u : xU) (A k : Nat) {Q : Option Value → xM → Prop}  
    (k1 : xE mX0_least 5 [(0, .ref A), (1, .int (nI (k))), (2, .int ((-2147483648))), (3, .int (nI (0)))] [] (xmm u) Q) : xE mX0_least 0 [(0, .ref A), (1, .int (nI (k)))] [] (xmm u) Q := by
  refine xe_ldc dX0_least_0 kX0_55 ?_
  refine xe_istore_n (L2 := [(0, .ref A), (1, .int (nI (k))), (2, .int ((-2147483648)))]) dX0_least_2 rfl (by decide) rfl ?_
  refine xe_iconst (v := nI (0)) dX0_least_3 xc0 ?_
  refine xe_istore_n (L2 := [(0, .ref A), (1, .int (nI (k))), (2, .int ((-2147483648))), (3, .int (nI (0)))]) dX0_least_4 rfl (by decide) rfl ?_
  exact k1

theorem gX0_least_5 (u : xU) (A k m i : Nat) (g v : Int32) {Q : Option Value → xM → Prop} (hA : A = 47 ∨ A = 59) (hm : m ≤ 500) (hi : i < m) (hat : xC mX0_at [.ref A, .int (nI i), .int (nI k)] (xmm u) (fun r μ' => r = some (.int v) ∧ μ' = xmm u)) (v1 : u.1 A 1 = nI (m))
    (k1 : m ≤ i → Q (some (.long (g.toInt64))) (xmm u))
    (k2 : ¬ m ≤ i → ¬ (ky v < ky g) → xE mX0_least 5 [(0, .ref A), (1, .int (nI (k))), (2, .int (g)), (3, .int (nI (i + 1)))] [] (xmm u) Q)
    (k3 : ¬ m ≤ i → ky v < ky g → xE mX0_least 5 [(0, .ref A), (1, .int (nI (k))), (2, .int (v)), (3, .int (nI (i + 1)))] [] (xmm u) Q) : xE mX0_least 5 [(0, .ref A), (1, .int (nI (k))), (2, .int (g)), (3, .int (nI (i)))] [] (xmm u) Q := by
  refine xe_iload_n 3 dX0_least_5 rfl rfl ?_
  refine xe_aload_n 0 dX0_least_6 rfl rfl ?_
  refine xr_getI (v := nI (m)) dX0_least_7 fX0_9 (shA hA).1 (by omega) v1 ?_
  refine xn_icmp_ge 39 dX0_least_10 (by decide) (by omega) (by omega) (fun c1 => ?_) (fun c1 => ?_)
  · refine xe_iload_n 2 dX0_least_39 rfl rfl ?_
    refine xe_i2l dX0_least_40 ?_
    exact xe_ret (r := (some (.long (g.toInt64)))) dX0_least_41 trivial (k1 c1)
  · refine xe_aload_n 0 dX0_least_13 rfl rfl ?_
    refine xe_iload_n 3 dX0_least_14 rfl rfl ?_
    refine xe_iload_n 1 dX0_least_15 rfl rfl ?_
    refine xe_callV (As := [.int (nI (i)), .int (nI (k))]) (rest := []) dX0_least_16 wX0_at lX0_45 iX0_at sX0_at ⟨by decide, by decide⟩ (shA hA).1 rfl (xin_mm (by omega)) rfl rfl (by simp [Value.category]) (xC.pure (v := .int (v)) (hat) ?_)
    refine xe_iload_n 2 dX0_least_19 rfl rfl ?_
    refine xe_callSN (As := [.int (v), .int (g)]) (rest := []) dX0_least_20 wX9_ahead lX0_65 tX9_ahead ⟨by decide, by decide⟩ rfl rfl (by simp [Value.category]) (xC.pure (v := .int (xb (ky v < ky g))) (qX9_ahead u v g) ?_)
    refine xb_if_eq 33 dX0_least_23 (by decide) (fun c2 => ?_) (fun c2 => ?_)
    · refine xn_iinc (c := 1) (L2 := [(0, .ref A), (1, .int (nI (k))), (2, .int (g)), (3, .int (nI (i + 1)))]) 3 dX0_least_33 rfl (by decide) rfl ?_
      refine xe_goto 5 dX0_least_36 (by decide) ?_
      exact k2 c1 c2
    · refine xe_aload_n 0 dX0_least_26 rfl rfl ?_
      refine xe_iload_n 3 dX0_least_27 rfl rfl ?_
      refine xe_iload_n 1 dX0_least_28 rfl rfl ?_
      refine xe_callV (As := [.int (nI (i)), .int (nI (k))]) (rest := []) dX0_least_29 wX0_at lX0_45 iX0_at sX0_at ⟨by decide, by decide⟩ (shA hA).1 rfl (xin_mm (by omega)) rfl rfl (by simp [Value.category]) (xC.pure (v := .int (v)) (hat) ?_)
      refine xe_istore_n (L2 := [(0, .ref A), (1, .int (nI (k))), (2, .int (v)), (3, .int (nI (i)))]) dX0_least_32 rfl (by decide) rfl ?_
      refine xn_iinc (c := 1) (L2 := [(0, .ref A), (1, .int (nI (k))), (2, .int (v)), (3, .int (nI (i + 1)))]) 3 dX0_least_33 rfl (by decide) rfl ?_
      refine xe_goto 5 dX0_least_36 (by decide) ?_
      exact k3 c1 c2

theorem gX0_least_e (u : xU) (A k m i : Nat) (g : Int32) {Q : Option Value → xM → Prop} (hA : A = 47 ∨ A = 59) (hm : m ≤ 500) (hi : i = m) (v1 : u.1 A 1 = nI (m))
    (k1 : m ≤ i → Q (some (.long (g.toInt64))) (xmm u))
    (k2 : ¬ m ≤ i → xE mX0_least 13 [(0, .ref A), (1, .int (nI (k))), (2, .int (g)), (3, .int (nI (i)))] [] (xmm u) Q) : xE mX0_least 5 [(0, .ref A), (1, .int (nI (k))), (2, .int (g)), (3, .int (nI (i)))] [] (xmm u) Q := by
  refine xe_iload_n 3 dX0_least_5 rfl rfl ?_
  refine xe_aload_n 0 dX0_least_6 rfl rfl ?_
  refine xr_getI (v := nI (m)) dX0_least_7 fX0_9 (shA hA).1 (by omega) v1 ?_
  refine xn_icmp_ge 39 dX0_least_10 (by decide) (by omega) (by omega) (fun c1 => ?_) (fun c1 => ?_)
  · refine xe_iload_n 2 dX0_least_39 rfl rfl ?_
    refine xe_i2l dX0_least_40 ?_
    exact xe_ret (r := (some (.long (g.toInt64)))) dX0_least_41 trivial (k1 c1)
  · exact k2 c1

theorem gX0_totalWith_0 (u : xU) (A k j : Nat) (w : Int32) {Q : Option Value → xM → Prop}  
    (k1 : xE mX0_totalWith 6 [(0, .ref A), (1, .int (nI (k))), (2, .int (w)), (3, .int (nI (j))), (4, .long (0)), (6, .int (nI (0)))] [] (xmm u) Q) : xE mX0_totalWith 0 [(0, .ref A), (1, .int (nI (k))), (2, .int (w)), (3, .int (nI (j)))] [] (xmm u) Q := by
  refine xe_lconst (v := 0) dX0_totalWith_0 (by decide) ?_
  refine xe_lstore (L2 := [(0, .ref A), (1, .int (nI (k))), (2, .int (w)), (3, .int (nI (j))), (4, .long (0))]) dX0_totalWith_1 (by decide) rfl ?_
  refine xe_iconst (v := nI (0)) dX0_totalWith_3 xc0 ?_
  refine xe_istore (L2 := [(0, .ref A), (1, .int (nI (k))), (2, .int (w)), (3, .int (nI (j))), (4, .long (0)), (6, .int (nI (0)))]) dX0_totalWith_4 (by decide) rfl ?_
  exact k1

theorem gX0_totalWith_6 (u : xU) (A k j m i : Nat) (w v x : Int32) (t : Int64) {Q : Option Value → xM → Prop} (hA : A = 47 ∨ A = 59) (hm : m ≤ 500) (hi : i < m) (hat : xC mX0_at [.ref A, .int (nI i), .int (nI k)] (xmm u) (fun r μ' => r = some (.int v) ∧ μ' = xmm u)) (hnz : xC mX0_numberOrZero [.ref A, .int (nI i), .int (nI j)] (xmm u) (fun r μ' => r = some (.int x) ∧ μ' = xmm u)) (v1 : u.1 A 1 = nI (m))
    (k1 : m ≤ i → Q (some (.long (t))) (xmm u))
    (k2 : ¬ m ≤ i → ¬ v = w → xE mX0_totalWith 6 [(0, .ref A), (1, .int (nI (k))), (2, .int (w)), (3, .int (nI (j))), (4, .long (t)), (6, .int (nI (i + 1)))] [] (xmm u) Q)
    (k3 : ¬ m ≤ i → v = w → xE mX0_totalWith 6 [(0, .ref A), (1, .int (nI (k))), (2, .int (w)), (3, .int (nI (j))), (4, .long (t + x.toInt64)), (6, .int (nI (i + 1)))] [] (xmm u) Q) : xE mX0_totalWith 6 [(0, .ref A), (1, .int (nI (k))), (2, .int (w)), (3, .int (nI (j))), (4, .long (t)), (6, .int (nI (i)))] [] (xmm u) Q := by
  refine xe_iload 5 dX0_totalWith_6 rfl ?_
  refine xe_aload_n 0 dX0_totalWith_8 rfl rfl ?_
  refine xr_getI (v := nI (m)) dX0_totalWith_9 fX0_9 (shA hA).1 (by omega) v1 ?_
  refine xn_icmp_ge 45 dX0_totalWith_12 (by decide) (by omega) (by omega) (fun c1 => ?_) (fun c1 => ?_)
  · refine xe_lload 4 dX0_totalWith_45 rfl ?_
    exact xe_ret (r := (some (.long (t)))) dX0_totalWith_47 trivial (k1 c1)
  · refine xe_aload_n 0 dX0_totalWith_15 rfl rfl ?_
    refine xe_iload 5 dX0_totalWith_16 rfl ?_
    refine xe_iload_n 1 dX0_totalWith_18 rfl rfl ?_
    refine xe_callV (As := [.int (nI (i)), .int (nI (k))]) (rest := []) dX0_totalWith_19 wX0_at lX0_45 iX0_at sX0_at ⟨by decide, by decide⟩ (shA hA).1 rfl (xin_mm (by omega)) rfl rfl (by simp [Value.category]) (xC.pure (v := .int (v)) (hat) ?_)
    refine xe_iload_n 2 dX0_totalWith_22 rfl rfl ?_
    refine xe_icmp_ne 39 dX0_totalWith_23 (by decide) (fun c2 => ?_) (fun c2 => ?_)
    · refine xn_iinc (c := 1) (L2 := [(0, .ref A), (1, .int (nI (k))), (2, .int (w)), (3, .int (nI (j))), (4, .long (t)), (6, .int (nI (i + 1)))]) 5 dX0_totalWith_39 rfl (by decide) rfl ?_
      refine xe_goto 6 dX0_totalWith_42 (by decide) ?_
      exact k2 c1 c2
    · refine xe_lload 4 dX0_totalWith_26 rfl ?_
      refine xe_aload_n 0 dX0_totalWith_28 rfl rfl ?_
      refine xe_iload 5 dX0_totalWith_29 rfl ?_
      refine xe_iload_n 3 dX0_totalWith_31 rfl rfl ?_
      refine xe_callV (As := [.int (nI (i)), .int (nI (j))]) (rest := [.long (t)]) dX0_totalWith_32 wX0_numberOrZero lX0_52 iX0_numberOrZero sX0_numberOrZero ⟨by decide, by decide⟩ (shA hA).1 rfl (xin_mm (by omega)) rfl rfl (by simp [Value.category]) (xC.pure (v := .int (x)) (hnz) ?_)
      refine xe_i2l dX0_totalWith_35 ?_
      refine xe_ladd dX0_totalWith_36 ?_
      refine xe_lstore (L2 := [(0, .ref A), (1, .int (nI (k))), (2, .int (w)), (3, .int (nI (j))), (4, .long (t + x.toInt64)), (6, .int (nI (i)))]) dX0_totalWith_37 (by decide) rfl ?_
      refine xn_iinc (c := 1) (L2 := [(0, .ref A), (1, .int (nI (k))), (2, .int (w)), (3, .int (nI (j))), (4, .long (t + x.toInt64)), (6, .int (nI (i + 1)))]) 5 dX0_totalWith_39 rfl (by decide) rfl ?_
      refine xe_goto 6 dX0_totalWith_42 (by decide) ?_
      exact k3 c1 c2

theorem gX0_totalWith_e (u : xU) (A k j m i : Nat) (w : Int32) (t : Int64) {Q : Option Value → xM → Prop} (hA : A = 47 ∨ A = 59) (hm : m ≤ 500) (hi : i = m) (v1 : u.1 A 1 = nI (m))
    (k1 : m ≤ i → Q (some (.long (t))) (xmm u))
    (k2 : ¬ m ≤ i → xE mX0_totalWith 15 [(0, .ref A), (1, .int (nI (k))), (2, .int (w)), (3, .int (nI (j))), (4, .long (t)), (6, .int (nI (i)))] [] (xmm u) Q) : xE mX0_totalWith 6 [(0, .ref A), (1, .int (nI (k))), (2, .int (w)), (3, .int (nI (j))), (4, .long (t)), (6, .int (nI (i)))] [] (xmm u) Q := by
  refine xe_iload 5 dX0_totalWith_6 rfl ?_
  refine xe_aload_n 0 dX0_totalWith_8 rfl rfl ?_
  refine xr_getI (v := nI (m)) dX0_totalWith_9 fX0_9 (shA hA).1 (by omega) v1 ?_
  refine xn_icmp_ge 45 dX0_totalWith_12 (by decide) (by omega) (by omega) (fun c1 => ?_) (fun c1 => ?_)
  · refine xe_lload 4 dX0_totalWith_45 rfl ?_
    exact xe_ret (r := (some (.long (t)))) dX0_totalWith_47 trivial (k1 c1)
  · exact k2 c1

theorem gX0_differentValues_0 (u : xU) (A k : Nat) {Q : Option Value → xM → Prop}  
    (k1 : xE mX0_differentValues 5 [(0, .ref A), (1, .int (nI (k))), (2, .long (0)), (4, .int (nI (0)))] [] (xmm u) Q) : xE mX0_differentValues 0 [(0, .ref A), (1, .int (nI (k)))] [] (xmm u) Q := by
  refine xe_lconst (v := 0) dX0_differentValues_0 (by decide) ?_
  refine xe_lstore_n (L2 := [(0, .ref A), (1, .int (nI (k))), (2, .long (0))]) dX0_differentValues_1 rfl (by decide) rfl ?_
  refine xe_iconst (v := nI (0)) dX0_differentValues_2 xc0 ?_
  refine xe_istore (L2 := [(0, .ref A), (1, .int (nI (k))), (2, .long (0)), (4, .int (nI (0)))]) dX0_differentValues_3 (by decide) rfl ?_
  exact k1

theorem gX0_differentValues_5 (u : xU) (A k m i s : Nat) (t x : Int64) {Q : Option Value → xM → Prop} (hA : A = 47 ∨ A = 59) (hm : m ≤ 500) (hi : i < m) (hsp : xC mX9_spotIn [.long x, .int (nI k)] (xmm u) (fun r μ' => r = some (.int (nI s)) ∧ μ' = xmm u)) (v1 : u.1 A 1 = nI (m)) (v2 : u.2.1 (A + 8) i = x)
    (k1 : m ≤ i → xC mJ13_bitCount_95d88 [.long (t)] (xmm u) (fun r μ1 => xE mX0_differentValues 40 [] (r.toList ++ []) μ1 Q))
    (k2 : ¬ m ≤ i → xE mX0_differentValues 5 [(0, .ref A), (1, .int (nI (k))), (2, .long (t ||| (1 <<< ((nI (s)).toInt64 &&& 63)))), (4, .int (nI (i + 1)))] [] (xmm u) Q) : xE mX0_differentValues 5 [(0, .ref A), (1, .int (nI (k))), (2, .long (t)), (4, .int (nI (i)))] [] (xmm u) Q := by
  refine xe_iload 3 dX0_differentValues_5 rfl ?_
  refine xe_aload_n 0 dX0_differentValues_7 rfl rfl ?_
  refine xr_getI (v := nI (m)) dX0_differentValues_8 fX0_9 (shA hA).1 (by omega) v1 ?_
  refine xn_icmp_ge 36 dX0_differentValues_11 (by decide) (by omega) (by omega) (fun c1 => ?_) (fun c1 => ?_)
  · refine xe_lload_n 2 dX0_differentValues_36 rfl rfl ?_
    refine xE.sub [] rfl ?_
    refine xe_callS (As := [.long (t)]) (rest := []) dX0_differentValues_37 wJ13_bitCount_95d88 lX0_69 tJ13_bitCount_95d88 ⟨by decide, by decide⟩ rfl rfl (by simp [Value.category]) ?_
    exact k1 c1
  · refine xe_lload_n 2 dX0_differentValues_14 rfl rfl ?_
    refine xe_lconst (v := 1) dX0_differentValues_15 (by decide) ?_
    refine xe_aload_n 0 dX0_differentValues_16 rfl rfl ?_
    refine xr_getR (b := (A + 8)) dX0_differentValues_17 fX0_20 rfl (shA hA).1 (by omega) (rA hA).2 ?_
    refine xe_iload 3 dX0_differentValues_20 rfl ?_
    refine xr_lald (k := i) (v := x) dX0_differentValues_22 (shA hA).2.2 (by omega) (by omega) (by decide) v2 ?_
    refine xe_iload_n 1 dX0_differentValues_23 rfl rfl ?_
    refine xe_callSN (As := [.long (x), .int (nI (k))]) (rest := [.long (1), .long (t)]) dX0_differentValues_24 wX9_spotIn lX0_41 tX9_spotIn ⟨by decide, by decide⟩ rfl rfl (by simp [Value.category]) (xC.pure (v := .int (nI (s))) (hsp) ?_)
    refine xe_lshl dX0_differentValues_27 ?_
    refine xe_lor dX0_differentValues_28 ?_
    refine xe_lstore_n (L2 := [(0, .ref A), (1, .int (nI (k))), (2, .long (t ||| (1 <<< ((nI (s)).toInt64 &&& 63)))), (4, .int (nI (i)))]) dX0_differentValues_29 rfl (by decide) rfl ?_
    refine xn_iinc (c := 1) (L2 := [(0, .ref A), (1, .int (nI (k))), (2, .long (t ||| (1 <<< ((nI (s)).toInt64 &&& 63)))), (4, .int (nI (i + 1)))]) 3 dX0_differentValues_30 rfl (by decide) rfl ?_
    refine xe_goto 5 dX0_differentValues_33 (by decide) ?_
    exact k2 c1

theorem gX0_differentValues_e (u : xU) (A k m i bc : Nat) (t : Int64) {Q : Option Value → xM → Prop} (hA : A = 47 ∨ A = 59) (hm : m ≤ 500) (hi : i = m) (hbc : xC mJ13_bitCount_95d88 [.long t] (xmm u) (fun r μ' => r = some (.int (nI bc)) ∧ μ' = xmm u)) (v1 : u.1 A 1 = nI (m))
    (k1 : m ≤ i → Q (some (.long ((nI (bc)).toInt64))) (xmm u))
    (k2 : ¬ m ≤ i → xE mX0_differentValues 14 [(0, .ref A), (1, .int (nI (k))), (2, .long (t)), (4, .int (nI (i)))] [] (xmm u) Q) : xE mX0_differentValues 5 [(0, .ref A), (1, .int (nI (k))), (2, .long (t)), (4, .int (nI (i)))] [] (xmm u) Q := by
  refine xe_iload 3 dX0_differentValues_5 rfl ?_
  refine xe_aload_n 0 dX0_differentValues_7 rfl rfl ?_
  refine xr_getI (v := nI (m)) dX0_differentValues_8 fX0_9 (shA hA).1 (by omega) v1 ?_
  refine xn_icmp_ge 36 dX0_differentValues_11 (by decide) (by omega) (by omega) (fun c1 => ?_) (fun c1 => ?_)
  · refine xe_lload_n 2 dX0_differentValues_36 rfl rfl ?_
    refine xe_callS (As := [.long (t)]) (rest := []) dX0_differentValues_37 wJ13_bitCount_95d88 lX0_69 tJ13_bitCount_95d88 ⟨by decide, by decide⟩ rfl rfl (by simp [Value.category]) (xC.pure (v := .int (nI (bc))) (hbc) ?_)
    refine xe_i2l dX0_differentValues_40 ?_
    exact xe_ret (r := (some (.long ((nI (bc)).toInt64)))) dX0_differentValues_41 trivial (k1 c1)
  · exact k2 c1

theorem gX8_metAt_I (u : xU) (i : Int32) (b : Bool) {Q : Option Value → xM → Prop} (hca : xC mX0_carries [.ref 47, .int i] (xmm u) (fun r μ' => r = some (.int (xb (b = true))) ∧ μ' = xmm u)) 
    (k1 : ¬ (b = true) → Q (some (.int (-1))) (xmm u))
    (k2 : b = true → False) : xE mX8_metAt 0 [(0, .ref 46), (1, .int (i))] [] (xmm u) Q := by
  refine xe_aload_n 0 dX8_metAt_0 rfl rfl ?_
  refine xr_getR (b := 47) dX8_metAt_1 fX8_12 rfl sh46 (by decide) rfl ?_
  refine xe_iload_n 1 dX8_metAt_4 rfl rfl ?_
  refine xe_callV (As := [.int (i)]) (rest := []) dX8_metAt_5 wX0_carries lX8_45 iX0_carries sX0_carries ⟨by decide, by decide⟩ sh47 rfl (xin_mm (by decide)) rfl rfl (by simp [Value.category]) (xC.pure (v := .int (xb (b = true))) (hca) ?_)
  refine xb_if_eq 20 dX8_metAt_8 (by decide) (fun c1 => ?_) (fun c1 => ?_)
  · refine xe_iconst (v := -1) dX8_metAt_20 xcm1 ?_
    exact xe_ret (r := (some (.int (-1)))) dX8_metAt_21 trivial (k1 c1)
  · refine xe_aload_n 0 dX8_metAt_11 rfl rfl ?_
    refine xr_getR (b := 57) dX8_metAt_12 fX8_22 rfl sh46 (by decide) rfl ?_
    refine xe_iload_n 1 dX8_metAt_15 rfl rfl ?_
    exact (k2 c1).elim

theorem gX8_metAt_N (u : xU) (i : Nat) (v : Int32) (b : Bool) {Q : Option Value → xM → Prop} (hi : i < 6) (hca : xC mX0_carries [.ref 47, .int (nI i)] (xmm u) (fun r μ' => r = some (.int (xb (b = true))) ∧ μ' = xmm u)) (v1 : u.1 57 i = v)
    (k1 : ¬ (b = true) → Q (some (.int (-1))) (xmm u))
    (k2 : b = true → Q (some (.int (v))) (xmm u)) : xE mX8_metAt 0 [(0, .ref 46), (1, .int (nI (i)))] [] (xmm u) Q := by
  refine xe_aload_n 0 dX8_metAt_0 rfl rfl ?_
  refine xr_getR (b := 47) dX8_metAt_1 fX8_12 rfl sh46 (by decide) rfl ?_
  refine xe_iload_n 1 dX8_metAt_4 rfl rfl ?_
  refine xe_callV (As := [.int (nI (i))]) (rest := []) dX8_metAt_5 wX0_carries lX8_45 iX0_carries sX0_carries ⟨by decide, by decide⟩ sh47 rfl (xin_mm (by decide)) rfl rfl (by simp [Value.category]) (xC.pure (v := .int (xb (b = true))) (hca) ?_)
  refine xb_if_eq 20 dX8_metAt_8 (by decide) (fun c1 => ?_) (fun c1 => ?_)
  · refine xe_iconst (v := -1) dX8_metAt_20 xcm1 ?_
    exact xe_ret (r := (some (.int (-1)))) dX8_metAt_21 trivial (k1 c1)
  · refine xe_aload_n 0 dX8_metAt_11 rfl rfl ?_
    refine xr_getR (b := 57) dX8_metAt_12 fX8_22 rfl sh46 (by decide) rfl ?_
    refine xe_iload_n 1 dX8_metAt_15 rfl rfl ?_
    refine xr_iald (k := i) (v := v) dX8_metAt_16 sh57 (by decide) (by omega) (by decide) v1 ?_
    refine xe_goto 21 dX8_metAt_17 (by decide) ?_
    exact xe_ret (r := (some (.int (v)))) dX8_metAt_21 trivial (k2 c1)

theorem gX8_witnessOf_I (u : xU) (i p z P : Int32) {Q : Option Value → xM → Prop}  (v1 : u.1 47 1 = z) (v2 : u.1 46 1 = P)
    (k1 : i < 0 → Q (some (.int (-1))) (xmm u))
    (k2 : ¬ i < 0 → z ≤ i → Q (some (.int (-1))) (xmm u))
    (k3 : ¬ i < 0 → ¬ z ≤ i → p < 0 → Q (some (.int (-1))) (xmm u))
    (k4 : ¬ i < 0 → ¬ z ≤ i → ¬ p < 0 → P ≤ p → Q (some (.int (-1))) (xmm u))
    (k5 : ¬ i < 0 → ¬ z ≤ i → ¬ p < 0 → ¬ P ≤ p → False) : xE mX8_witnessOf 0 [(0, .ref 46), (1, .int (i)), (2, .int (p))] [] (xmm u) Q := by
  refine xe_iload_n 1 dX8_witnessOf_0 rfl rfl ?_
  refine xe_if_lt 37 dX8_witnessOf_1 (by decide) (fun c1 => ?_) (fun c1 => ?_)
  · refine xe_iconst (v := -1) dX8_witnessOf_37 xcm1 ?_
    exact xe_ret (r := (some (.int (-1)))) dX8_witnessOf_38 trivial (k1 c1)
  · refine xe_iload_n 1 dX8_witnessOf_4 rfl rfl ?_
    refine xe_aload_n 0 dX8_witnessOf_5 rfl rfl ?_
    refine xr_getR (b := 47) dX8_witnessOf_6 fX8_12 rfl sh46 (by decide) rfl ?_
    refine xr_getI (v := z) dX8_witnessOf_9 fX8_49 sh47 (by decide) v1 ?_
    refine xe_icmp_ge 37 dX8_witnessOf_12 (by decide) (fun c2 => ?_) (fun c2 => ?_)
    · refine xe_iconst (v := -1) dX8_witnessOf_37 xcm1 ?_
      exact xe_ret (r := (some (.int (-1)))) dX8_witnessOf_38 trivial (k2 c1 c2)
    · refine xe_iload_n 2 dX8_witnessOf_15 rfl rfl ?_
      refine xe_if_lt 37 dX8_witnessOf_16 (by decide) (fun c3 => ?_) (fun c3 => ?_)
      · refine xe_iconst (v := -1) dX8_witnessOf_37 xcm1 ?_
        exact xe_ret (r := (some (.int (-1)))) dX8_witnessOf_38 trivial (k3 c1 c2 c3)
      · refine xe_iload_n 2 dX8_witnessOf_19 rfl rfl ?_
        refine xe_aload_n 0 dX8_witnessOf_20 rfl rfl ?_
        refine xr_getI (v := P) dX8_witnessOf_21 fX8_34 sh46 (by decide) v2 ?_
        refine xe_icmp_ge 37 dX8_witnessOf_24 (by decide) (fun c4 => ?_) (fun c4 => ?_)
        · refine xe_iconst (v := -1) dX8_witnessOf_37 xcm1 ?_
          exact xe_ret (r := (some (.int (-1)))) dX8_witnessOf_38 trivial (k4 c1 c2 c3 c4)
        · refine xe_aload_n 0 dX8_witnessOf_27 rfl rfl ?_
          refine xr_getR (b := 56) dX8_witnessOf_28 fX8_18 rfl sh46 (by decide) rfl ?_
          refine xe_iload_n 2 dX8_witnessOf_31 rfl rfl ?_
          exact (k5 c1 c2 c3 c4).elim

theorem gX8_witnessOf_n (u : xU) (i p m P : Nat) {Q : Option Value → xM → Prop} (hi : i < m) (hm : m ≤ 500) (hp : p < P) (hP : P ≤ 10) (v1 : u.1 47 1 = nI (m)) (v2 : u.1 46 1 = nI (P)) (v3 : u.1 56 p = (-1))
    (k1 : m ≤ i → Q (some (.int (-1))) (xmm u))
    (k2 : ¬ m ≤ i → P ≤ p → Q (some (.int (-1))) (xmm u))
    (k3 : ¬ m ≤ i → ¬ P ≤ p → Q (some (.int (-1))) (xmm u)) : xE mX8_witnessOf 0 [(0, .ref 46), (1, .int (nI (i))), (2, .int (nI (p)))] [] (xmm u) Q := by
  refine xe_iload_n 1 dX8_witnessOf_0 rfl rfl ?_
  refine xn_if_lt 37 dX8_witnessOf_1 (by decide) (by omega) (fun q => absurd q (by omega)) (fun _ => ?_)
  refine xe_iload_n 1 dX8_witnessOf_4 rfl rfl ?_
  refine xe_aload_n 0 dX8_witnessOf_5 rfl rfl ?_
  refine xr_getR (b := 47) dX8_witnessOf_6 fX8_12 rfl sh46 (by decide) rfl ?_
  refine xr_getI (v := nI (m)) dX8_witnessOf_9 fX8_49 sh47 (by decide) v1 ?_
  refine xn_icmp_ge 37 dX8_witnessOf_12 (by decide) (by omega) (by omega) (fun c1 => ?_) (fun c1 => ?_)
  · refine xe_iconst (v := -1) dX8_witnessOf_37 xcm1 ?_
    exact xe_ret (r := (some (.int (-1)))) dX8_witnessOf_38 trivial (k1 c1)
  · refine xe_iload_n 2 dX8_witnessOf_15 rfl rfl ?_
    refine xn_if_lt 37 dX8_witnessOf_16 (by decide) (by omega) (fun q => absurd q (by omega)) (fun _ => ?_)
    refine xe_iload_n 2 dX8_witnessOf_19 rfl rfl ?_
    refine xe_aload_n 0 dX8_witnessOf_20 rfl rfl ?_
    refine xr_getI (v := nI (P)) dX8_witnessOf_21 fX8_34 sh46 (by decide) v2 ?_
    refine xn_icmp_ge 37 dX8_witnessOf_24 (by decide) (by omega) (by omega) (fun c2 => ?_) (fun c2 => ?_)
    · refine xe_iconst (v := -1) dX8_witnessOf_37 xcm1 ?_
      exact xe_ret (r := (some (.int (-1)))) dX8_witnessOf_38 trivial (k2 c1 c2)
    · refine xe_aload_n 0 dX8_witnessOf_27 rfl rfl ?_
      refine xr_getR (b := 56) dX8_witnessOf_28 fX8_18 rfl sh46 (by decide) rfl ?_
      refine xe_iload_n 2 dX8_witnessOf_31 rfl rfl ?_
      refine xr_iald (k := p) (v := (-1)) dX8_witnessOf_32 sh56 (by decide) (by omega) (by decide) v3 ?_
      refine xe_iconst (v := -1) dX8_witnessOf_33 xcm1 ?_
      refine xe_icmp_ne 39 dX8_witnessOf_34 (by decide) (fun q => absurd rfl q) (fun _ => ?_)
      refine xe_iconst (v := -1) dX8_witnessOf_37 xcm1 ?_
      exact xe_ret (r := (some (.int (-1)))) dX8_witnessOf_38 trivial (k3 c1 c2)

theorem gX8_witnessOf_h (u : xU) (i p m P q : Nat) (w : Int32) {Q : Option Value → xM → Prop} (hi : i < m) (hm : m ≤ 500) (hp : p < P) (hP : P ≤ 10) (hq : q < 5) (v1 : u.1 47 1 = nI (m)) (v2 : u.1 46 1 = nI (P)) (v3 : u.1 56 p = nI (q)) (v4 : u.1 58 i = w)
    (k1 : m ≤ i → Q (some (.int (-1))) (xmm u))
    (k2 : ¬ m ≤ i → P ≤ p → Q (some (.int (-1))) (xmm u))
    (k3 : ¬ m ≤ i → ¬ P ≤ p → ¬ (nI (q)) = (-1) → Q (some (.int ((w >>> ((nI (q * 6)) &&& 31)) &&& 63))) (xmm u))
    (k4 : ¬ m ≤ i → ¬ P ≤ p → (nI (q)) = (-1) → Q (some (.int (-1))) (xmm u)) : xE mX8_witnessOf 0 [(0, .ref 46), (1, .int (nI (i))), (2, .int (nI (p)))] [] (xmm u) Q := by
  refine xe_iload_n 1 dX8_witnessOf_0 rfl rfl ?_
  refine xn_if_lt 37 dX8_witnessOf_1 (by decide) (by omega) (fun q => absurd q (by omega)) (fun _ => ?_)
  refine xe_iload_n 1 dX8_witnessOf_4 rfl rfl ?_
  refine xe_aload_n 0 dX8_witnessOf_5 rfl rfl ?_
  refine xr_getR (b := 47) dX8_witnessOf_6 fX8_12 rfl sh46 (by decide) rfl ?_
  refine xr_getI (v := nI (m)) dX8_witnessOf_9 fX8_49 sh47 (by decide) v1 ?_
  refine xn_icmp_ge 37 dX8_witnessOf_12 (by decide) (by omega) (by omega) (fun c1 => ?_) (fun c1 => ?_)
  · refine xe_iconst (v := -1) dX8_witnessOf_37 xcm1 ?_
    exact xe_ret (r := (some (.int (-1)))) dX8_witnessOf_38 trivial (k1 c1)
  · refine xe_iload_n 2 dX8_witnessOf_15 rfl rfl ?_
    refine xn_if_lt 37 dX8_witnessOf_16 (by decide) (by omega) (fun q => absurd q (by omega)) (fun _ => ?_)
    refine xe_iload_n 2 dX8_witnessOf_19 rfl rfl ?_
    refine xe_aload_n 0 dX8_witnessOf_20 rfl rfl ?_
    refine xr_getI (v := nI (P)) dX8_witnessOf_21 fX8_34 sh46 (by decide) v2 ?_
    refine xn_icmp_ge 37 dX8_witnessOf_24 (by decide) (by omega) (by omega) (fun c2 => ?_) (fun c2 => ?_)
    · refine xe_iconst (v := -1) dX8_witnessOf_37 xcm1 ?_
      exact xe_ret (r := (some (.int (-1)))) dX8_witnessOf_38 trivial (k2 c1 c2)
    · refine xe_aload_n 0 dX8_witnessOf_27 rfl rfl ?_
      refine xr_getR (b := 56) dX8_witnessOf_28 fX8_18 rfl sh46 (by decide) rfl ?_
      refine xe_iload_n 2 dX8_witnessOf_31 rfl rfl ?_
      refine xr_iald (k := p) (v := nI (q)) dX8_witnessOf_32 sh56 (by decide) (by omega) (by decide) v3 ?_
      refine xe_iconst (v := -1) dX8_witnessOf_33 xcm1 ?_
      refine xe_icmp_ne 39 dX8_witnessOf_34 (by decide) (fun c3 => ?_) (fun c3 => ?_)
      · refine xe_aload_n 0 dX8_witnessOf_39 rfl rfl ?_
        refine xr_getR (b := 58) dX8_witnessOf_40 fX8_25 rfl sh46 (by decide) rfl ?_
        refine xe_iload_n 1 dX8_witnessOf_43 rfl rfl ?_
        refine xr_iald (k := i) (v := w) dX8_witnessOf_44 sh58 (by decide) (by omega) (by decide) v4 ?_
        refine xe_aload_n 0 dX8_witnessOf_45 rfl rfl ?_
        refine xr_getR (b := 56) dX8_witnessOf_46 fX8_18 rfl sh46 (by decide) rfl ?_
        refine xe_iload_n 2 dX8_witnessOf_49 rfl rfl ?_
        refine xr_iald (k := p) (v := nI (q)) dX8_witnessOf_50 sh56 (by decide) (by omega) (by decide) v3 ?_
        refine xe_bipush (v := nI (6)) dX8_witnessOf_51 xcb6 ?_
        refine xn_imul dX8_witnessOf_53 ?_
        refine xe_ishr dX8_witnessOf_54 ?_
        refine xe_bipush (v := nI (63)) dX8_witnessOf_55 xcb63 ?_
        refine xe_iand dX8_witnessOf_57 ?_
        exact xe_ret (r := (some (.int ((w >>> ((nI (q * 6)) &&& 31)) &&& 63)))) dX8_witnessOf_58 trivial (k3 c1 c2 c3)
      · refine xe_iconst (v := -1) dX8_witnessOf_37 xcm1 ?_
        exact xe_ret (r := (some (.int (-1)))) dX8_witnessOf_38 trivial (k4 c1 c2 c3)

theorem gX9_answer_0 (u : xU) (i k v : Int32) {Q : Option Value → xM → Prop} (hat : xC mX0_at [.ref 47, .int i, .int k] (xmm u) (fun r μ' => r = some (.int v) ∧ μ' = xmm u)) 
    (k1 : Q (some (.int (v))) (xmm u)) : xE mX9_answer 0 [(0, .ref 1), (1, .int (i)), (2, .int (k))] [] (xmm u) Q := by
  refine xe_aload_n 0 dX9_answer_0 rfl rfl ?_
  refine xr_getR (b := 46) dX9_answer_1 fX9_25 rfl sh1 (by decide) rfl ?_
  refine xr_getR (b := 47) dX9_answer_4 fX9_139 rfl sh46 (by decide) rfl ?_
  refine xe_iload_n 1 dX9_answer_7 rfl rfl ?_
  refine xe_iload_n 2 dX9_answer_8 rfl rfl ?_
  refine xe_callV (As := [.int (i), .int (k)]) (rest := []) dX9_answer_9 wX0_at lX9_143 iX0_at sX0_at ⟨by decide, by decide⟩ sh47 rfl (xin_mm (by decide)) rfl rfl (by simp [Value.category]) (xC.pure (v := .int (v)) (hat) ?_)
  exact xe_ret (r := (some (.int (v)))) dX9_answer_12 trivial (k1)

theorem gX9_meetings_0 (u : xU) (i v : Int32) {Q : Option Value → xM → Prop} (hme : xC mX8_metAt [.ref 46, .int i] (xmm u) (fun r μ' => r = some (.int v) ∧ μ' = xmm u)) 
    (k1 : Q (some (.int (v))) (xmm u)) : xE mX9_meetings 0 [(0, .ref 1), (1, .int (i))] [] (xmm u) Q := by
  refine xe_aload_n 0 dX9_meetings_0 rfl rfl ?_
  refine xr_getR (b := 46) dX9_meetings_1 fX9_25 rfl sh1 (by decide) rfl ?_
  refine xe_iload_n 1 dX9_meetings_4 rfl rfl ?_
  refine xe_callV (As := [.int (i)]) (rest := []) dX9_meetings_5 wX8_metAt lX9_146 iX8_metAt sX8_metAt ⟨by decide, by decide⟩ sh46 rfl (xin_mm (by decide)) rfl rfl (by simp [Value.category]) (xC.pure (v := .int (v)) (hme) ?_)
  exact xe_ret (r := (some (.int (v)))) dX9_meetings_8 trivial (k1)

theorem gX9_witness_0 (u : xU) (i p v : Int32) {Q : Option Value → xM → Prop} (hwi : xC mX8_witnessOf [.ref 46, .int i, .int p] (xmm u) (fun r μ' => r = some (.int v) ∧ μ' = xmm u)) 
    (k1 : Q (some (.int (v))) (xmm u)) : xE mX9_witness 0 [(0, .ref 1), (1, .int (i)), (2, .int (p))] [] (xmm u) Q := by
  refine xe_aload_n 0 dX9_witness_0 rfl rfl ?_
  refine xr_getR (b := 46) dX9_witness_1 fX9_25 rfl sh1 (by decide) rfl ?_
  refine xe_iload_n 1 dX9_witness_4 rfl rfl ?_
  refine xe_iload_n 2 dX9_witness_5 rfl rfl ?_
  refine xe_callV (As := [.int (i), .int (p)]) (rest := []) dX9_witness_6 wX8_witnessOf lX9_149 iX8_witnessOf sX8_witnessOf ⟨by decide, by decide⟩ sh46 rfl (xin_mm (by decide)) rfl rfl (by simp [Value.category]) (xC.pure (v := .int (v)) (hwi) ?_)
  exact xe_ret (r := (some (.int (v)))) dX9_witness_9 trivial (k1)

theorem gX9_sum_I (u : xU) (k w : Int32) {Q : Option Value → xM → Prop} (hca : xC mX0_carries [.ref 47, .int k] (xmm u) (fun r μ' => r = some (.int (xb False)) ∧ μ' = xmm u)) 
    (k1 : False → xE mX9_sum 18 [(0, .ref 1), (1, .int (k)), (2, .int (w)), (3, .ref 47)] [] (xmm u) Q)
    (k2 : ¬ False → Q (some (.long (0))) (xmm u)) : xE mX9_sum 0 [(0, .ref 1), (1, .int (k)), (2, .int (w))] [] (xmm u) Q := by
  refine xe_aload_n 0 dX9_sum_0 rfl rfl ?_
  refine xr_getR (b := 46) dX9_sum_1 fX9_25 rfl sh1 (by decide) rfl ?_
  refine xr_getR (b := 47) dX9_sum_4 fX9_139 rfl sh46 (by decide) rfl ?_
  refine xe_astore_n (L2 := [(0, .ref 1), (1, .int (k)), (2, .int (w)), (3, .ref 47)]) dX9_sum_7 rfl (by decide) rfl ?_
  refine xe_aload_n 3 dX9_sum_8 rfl rfl ?_
  refine xe_iload_n 1 dX9_sum_9 rfl rfl ?_
  refine xe_callV (As := [.int (k)]) (rest := []) dX9_sum_10 wX0_carries lX9_152 iX0_carries sX0_carries ⟨by decide, by decide⟩ sh47 rfl (xin_mm (by decide)) rfl rfl (by simp [Value.category]) (xC.pure (v := .int (xb (False))) (hca) ?_)
  refine xb_if_ne 18 dX9_sum_13 (by decide) (fun c1 => ?_) (fun c1 => ?_)
  · exact k1 c1
  · refine xe_lconst (v := 0) dX9_sum_16 (by decide) ?_
    exact xe_ret (r := (some (.long (0)))) dX9_sum_17 trivial (k2 c1)

theorem gX9_sum_N (u : xU) (k : Nat) (w : Int32) (ytotal ynumbers ygreatest yleast ydifferentValues : Int64) {Q : Option Value → xM → Prop} (hca : xC mX0_carries [.ref 47, .int (nI k)] (xmm u) (fun r μ' => r = some (.int (xb True)) ∧ μ' = xmm u)) (htotal : xC mX0_total [.ref 47, .int (nI k)] (xmm u) (fun r μ' => r = some (.long ytotal) ∧ μ' = xmm u)) (hnumbers : xC mX0_numbers [.ref 47, .int (nI k)] (xmm u) (fun r μ' => r = some (.long ynumbers) ∧ μ' = xmm u)) (hgreatest : xC mX0_greatest [.ref 47, .int (nI k)] (xmm u) (fun r μ' => r = some (.long ygreatest) ∧ μ' = xmm u)) (hleast : xC mX0_least [.ref 47, .int (nI k)] (xmm u) (fun r μ' => r = some (.long yleast) ∧ μ' = xmm u)) (hdifferentValues : xC mX0_differentValues [.ref 47, .int (nI k)] (xmm u) (fun r μ' => r = some (.long ydifferentValues) ∧ μ' = xmm u)) 
    (k1 : True → w = nI 0 → Q (some (.long (ytotal))) (xmm u))
    (k2 : True → ¬ w = nI 0 → w = nI 1 → Q (some (.long (ynumbers))) (xmm u))
    (k3 : True → ¬ w = nI 0 → ¬ w = nI 1 → w = nI 2 → Q (some (.long (ygreatest))) (xmm u))
    (k4 : True → ¬ w = nI 0 → ¬ w = nI 1 → ¬ w = nI 2 → w = nI 3 → Q (some (.long (yleast))) (xmm u))
    (k5 : True → ¬ w = nI 0 → ¬ w = nI 1 → ¬ w = nI 2 → ¬ w = nI 3 → w = nI 4 → Q (some (.long (ydifferentValues))) (xmm u))
    (k6 : True → ¬ w = nI 0 → ¬ w = nI 1 → ¬ w = nI 2 → ¬ w = nI 3 → ¬ w = nI 4 → Q (some (.long (0))) (xmm u))
    (k7 : ¬ True → Q (some (.long (0))) (xmm u)) : xE mX9_sum 0 [(0, .ref 1), (1, .int (nI (k))), (2, .int (w))] [] (xmm u) Q := by
  refine xe_aload_n 0 dX9_sum_0 rfl rfl ?_
  refine xr_getR (b := 46) dX9_sum_1 fX9_25 rfl sh1 (by decide) rfl ?_
  refine xr_getR (b := 47) dX9_sum_4 fX9_139 rfl sh46 (by decide) rfl ?_
  refine xe_astore_n (L2 := [(0, .ref 1), (1, .int (nI (k))), (2, .int (w)), (3, .ref 47)]) dX9_sum_7 rfl (by decide) rfl ?_
  refine xe_aload_n 3 dX9_sum_8 rfl rfl ?_
  refine xe_iload_n 1 dX9_sum_9 rfl rfl ?_
  refine xe_callV (As := [.int (nI (k))]) (rest := []) dX9_sum_10 wX0_carries lX9_152 iX0_carries sX0_carries ⟨by decide, by decide⟩ sh47 rfl (xin_mm (by decide)) rfl rfl (by simp [Value.category]) (xC.pure (v := .int (xb (True))) (hca) ?_)
  refine xb_if_ne 18 dX9_sum_13 (by decide) (fun c1 => ?_) (fun c1 => ?_)
  · refine xe_iload_n 2 dX9_sum_18 rfl rfl ?_
    by_cases c2 : w = nI 0
    · refine xe_tableIn (off := 33) 52 dX9_sum_19 (by rw [c2]; decide) (by rw [c2]; decide) (by rw [c2]; decide) (by decide) ?_
      refine xe_aload_n 3 dX9_sum_52 rfl rfl ?_
      refine xe_iload_n 1 dX9_sum_53 rfl rfl ?_
      refine xe_callV (As := [.int (nI (k))]) (rest := []) dX9_sum_54 wX0_total lX9_155 iX0_total sX0_total ⟨by decide, by decide⟩ sh47 rfl (xin_mm (by decide)) rfl rfl (by simp [Value.category]) (xC.pure (v := .long (ytotal)) (htotal) ?_)
      exact xe_ret (r := (some (.long (ytotal)))) dX9_sum_57 trivial (k1 c1 c2)
    · by_cases c3 : w = nI 1
      · refine xe_tableIn (off := 39) 58 dX9_sum_19 (by rw [c3]; decide) (by rw [c3]; decide) (by rw [c3]; decide) (by decide) ?_
        refine xe_aload_n 3 dX9_sum_58 rfl rfl ?_
        refine xe_iload_n 1 dX9_sum_59 rfl rfl ?_
        refine xe_callV (As := [.int (nI (k))]) (rest := []) dX9_sum_60 wX0_numbers lX9_159 iX0_numbers sX0_numbers ⟨by decide, by decide⟩ sh47 rfl (xin_mm (by decide)) rfl rfl (by simp [Value.category]) (xC.pure (v := .long (ynumbers)) (hnumbers) ?_)
        exact xe_ret (r := (some (.long (ynumbers)))) dX9_sum_63 trivial (k2 c1 c2 c3)
      · by_cases c4 : w = nI 2
        · refine xe_tableIn (off := 45) 64 dX9_sum_19 (by rw [c4]; decide) (by rw [c4]; decide) (by rw [c4]; decide) (by decide) ?_
          refine xe_aload_n 3 dX9_sum_64 rfl rfl ?_
          refine xe_iload_n 1 dX9_sum_65 rfl rfl ?_
          refine xe_callV (As := [.int (nI (k))]) (rest := []) dX9_sum_66 wX0_greatest lX9_162 iX0_greatest sX0_greatest ⟨by decide, by decide⟩ sh47 rfl (xin_mm (by decide)) rfl rfl (by simp [Value.category]) (xC.pure (v := .long (ygreatest)) (hgreatest) ?_)
          exact xe_ret (r := (some (.long (ygreatest)))) dX9_sum_69 trivial (k3 c1 c2 c3 c4)
        · by_cases c5 : w = nI 3
          · refine xe_tableIn (off := 51) 70 dX9_sum_19 (by rw [c5]; decide) (by rw [c5]; decide) (by rw [c5]; decide) (by decide) ?_
            refine xe_aload_n 3 dX9_sum_70 rfl rfl ?_
            refine xe_iload_n 1 dX9_sum_71 rfl rfl ?_
            refine xe_callV (As := [.int (nI (k))]) (rest := []) dX9_sum_72 wX0_least lX9_165 iX0_least sX0_least ⟨by decide, by decide⟩ sh47 rfl (xin_mm (by decide)) rfl rfl (by simp [Value.category]) (xC.pure (v := .long (yleast)) (hleast) ?_)
            exact xe_ret (r := (some (.long (yleast)))) dX9_sum_75 trivial (k4 c1 c2 c3 c4 c5)
          · by_cases c6 : w = nI 4
            · refine xe_tableIn (off := 57) 76 dX9_sum_19 (by rw [c6]; decide) (by rw [c6]; decide) (by rw [c6]; decide) (by decide) ?_
              refine xe_aload_n 3 dX9_sum_76 rfl rfl ?_
              refine xe_iload_n 1 dX9_sum_77 rfl rfl ?_
              refine xe_callV (As := [.int (nI (k))]) (rest := []) dX9_sum_78 wX0_differentValues lX9_168 iX0_differentValues sX0_differentValues ⟨by decide, by decide⟩ sh47 rfl (xin_mm (by decide)) rfl rfl (by simp [Value.category]) (xC.pure (v := .long (ydifferentValues)) (hdifferentValues) ?_)
              exact xe_ret (r := (some (.long (ydifferentValues)))) dX9_sum_81 trivial (k5 c1 c2 c3 c4 c5 c6)
            · refine xe_tableOut 82 dX9_sum_19 (by have z0 := lv_neT c2 (show (nI 0).toInt = 0 from by decide); have z1 := lv_neT c3 (show (nI 1).toInt = 1 from by decide); have z2 := lv_neT c4 (show (nI 2).toInt = 2 from by decide); have z3 := lv_neT c5 (show (nI 3).toInt = 3 from by decide); have z4 := lv_neT c6 (show (nI 4).toInt = 4 from by decide); omega) (by decide) ?_
              refine xe_lconst (v := 0) dX9_sum_82 (by decide) ?_
              exact xe_ret (r := (some (.long (0)))) dX9_sum_83 trivial (k6 c1 c2 c3 c4 c5 c6)
  · refine xe_lconst (v := 0) dX9_sum_16 (by decide) ?_
    exact xe_ret (r := (some (.long (0)))) dX9_sum_17 trivial (k7 c1)

theorem gX9_group_I (u : xU) (k v w j : Int32) {Q : Option Value → xM → Prop} (hca : xC mX0_carries [.ref 47, .int k] (xmm u) (fun r μ' => r = some (.int (xb False)) ∧ μ' = xmm u)) 
    (k1 : False → xE mX9_group 20 [(0, .ref 1), (1, .int (k)), (2, .int (v)), (3, .int (w)), (4, .int (j)), (5, .ref 47)] [] (xmm u) Q)
    (k2 : ¬ False → Q (some (.long (0))) (xmm u)) : xE mX9_group 0 [(0, .ref 1), (1, .int (k)), (2, .int (v)), (3, .int (w)), (4, .int (j))] [] (xmm u) Q := by
  refine xe_aload_n 0 dX9_group_0 rfl rfl ?_
  refine xr_getR (b := 46) dX9_group_1 fX9_25 rfl sh1 (by decide) rfl ?_
  refine xr_getR (b := 47) dX9_group_4 fX9_139 rfl sh46 (by decide) rfl ?_
  refine xe_astore (L2 := [(0, .ref 1), (1, .int (k)), (2, .int (v)), (3, .int (w)), (4, .int (j)), (5, .ref 47)]) dX9_group_7 (by decide) rfl ?_
  refine xe_aload 5 dX9_group_9 rfl ?_
  refine xe_iload_n 1 dX9_group_11 rfl rfl ?_
  refine xe_callV (As := [.int (k)]) (rest := []) dX9_group_12 wX0_carries lX9_152 iX0_carries sX0_carries ⟨by decide, by decide⟩ sh47 rfl (xin_mm (by decide)) rfl rfl (by simp [Value.category]) (xC.pure (v := .int (xb (False))) (hca) ?_)
  refine xb_if_ne 20 dX9_group_15 (by decide) (fun c1 => ?_) (fun c1 => ?_)
  · exact k1 c1
  · refine xe_lconst (v := 0) dX9_group_18 (by decide) ?_
    exact xe_ret (r := (some (.long (0)))) dX9_group_19 trivial (k2 c1)

theorem gX9_group_J (u : xU) (k : Nat) (v w j : Int32) (y : Int64) {Q : Option Value → xM → Prop} (hca : xC mX0_carries [.ref 47, .int (nI k)] (xmm u) (fun r μ' => r = some (.int (xb True)) ∧ μ' = xmm u)) (hcj : xC mX0_carries [.ref 47, .int j] (xmm u) (fun r μ' => r = some (.int (xb False)) ∧ μ' = xmm u)) (hhw : xC mX0_howManyWith [.ref 47, .int (nI k), .int v] (xmm u) (fun r μ' => r = some (.long y) ∧ μ' = xmm u)) 
    (k1 : True → ¬ w = 0 → ¬ w = 1 → Q (some (.long (0))) (xmm u))
    (k2 : True → ¬ w = 0 → w = 1 → ¬ False → Q (some (.long (0))) (xmm u))
    (k3 : True → ¬ w = 0 → w = 1 → False → xC mX0_totalWith [.ref 47, .int (nI (k)), .int (v), .int (j)] (xmm u) (fun r μ1 => xE mX9_group 56 [] (r.toList ++ []) μ1 Q))
    (k4 : True → w = 0 → Q (some (.long (y))) (xmm u))
    (k5 : ¬ True → Q (some (.long (0))) (xmm u)) : xE mX9_group 0 [(0, .ref 1), (1, .int (nI (k))), (2, .int (v)), (3, .int (w)), (4, .int (j))] [] (xmm u) Q := by
  refine xe_aload_n 0 dX9_group_0 rfl rfl ?_
  refine xr_getR (b := 46) dX9_group_1 fX9_25 rfl sh1 (by decide) rfl ?_
  refine xr_getR (b := 47) dX9_group_4 fX9_139 rfl sh46 (by decide) rfl ?_
  refine xe_astore (L2 := [(0, .ref 1), (1, .int (nI (k))), (2, .int (v)), (3, .int (w)), (4, .int (j)), (5, .ref 47)]) dX9_group_7 (by decide) rfl ?_
  refine xe_aload 5 dX9_group_9 rfl ?_
  refine xe_iload_n 1 dX9_group_11 rfl rfl ?_
  refine xe_callV (As := [.int (nI (k))]) (rest := []) dX9_group_12 wX0_carries lX9_152 iX0_carries sX0_carries ⟨by decide, by decide⟩ sh47 rfl (xin_mm (by decide)) rfl rfl (by simp [Value.category]) (xC.pure (v := .int (xb (True))) (hca) ?_)
  refine xb_if_ne 20 dX9_group_15 (by decide) (fun c1 => ?_) (fun c1 => ?_)
  · refine xe_iload_n 3 dX9_group_20 rfl rfl ?_
    refine xe_if_ne 32 dX9_group_21 (by decide) (fun c2 => ?_) (fun c2 => ?_)
    · refine xe_iload_n 3 dX9_group_32 rfl rfl ?_
      refine xe_iconst (v := nI (1)) dX9_group_33 xc1 ?_
      refine xe_icmp_ne 59 dX9_group_34 (by decide) (fun c3 => ?_) (fun c3 => ?_)
      · refine xe_lconst (v := 0) dX9_group_59 (by decide) ?_
        exact xe_ret (r := (some (.long (0)))) dX9_group_60 trivial (k1 c1 c2 c3)
      · refine xe_aload 5 dX9_group_37 rfl ?_
        refine xe_iload 4 dX9_group_39 rfl ?_
        refine xe_callV (As := [.int (j)]) (rest := []) dX9_group_41 wX0_carries lX9_152 iX0_carries sX0_carries ⟨by decide, by decide⟩ sh47 rfl (xin_mm (by decide)) rfl rfl (by simp [Value.category]) (xC.pure (v := .int (xb (False))) (hcj) ?_)
        refine xb_if_eq 59 dX9_group_44 (by decide) (fun c4 => ?_) (fun c4 => ?_)
        · refine xe_lconst (v := 0) dX9_group_59 (by decide) ?_
          exact xe_ret (r := (some (.long (0)))) dX9_group_60 trivial (k2 c1 c2 c3 c4)
        · refine xe_aload 5 dX9_group_47 rfl ?_
          refine xe_iload_n 1 dX9_group_49 rfl rfl ?_
          refine xe_iload_n 2 dX9_group_50 rfl rfl ?_
          refine xe_iload 4 dX9_group_51 rfl ?_
          refine xE.sub [] rfl ?_
          refine xe_callV (As := [.int (nI (k)), .int (v), .int (j)]) (rest := []) dX9_group_53 wX0_totalWith lX9_175 iX0_totalWith sX0_totalWith ⟨by decide, by decide⟩ sh47 rfl (xin_mm (by decide)) rfl rfl (by simp [Value.category]) ?_
          exact k3 c1 c2 c3 c4
    · refine xe_aload 5 dX9_group_24 rfl ?_
      refine xe_iload_n 1 dX9_group_26 rfl rfl ?_
      refine xe_iload_n 2 dX9_group_27 rfl rfl ?_
      refine xe_callV (As := [.int (nI (k)), .int (v)]) (rest := []) dX9_group_28 wX0_howManyWith lX9_171 iX0_howManyWith sX0_howManyWith ⟨by decide, by decide⟩ sh47 rfl (xin_mm (by decide)) rfl rfl (by simp [Value.category]) (xC.pure (v := .long (y)) (hhw) ?_)
      exact xe_ret (r := (some (.long (y)))) dX9_group_31 trivial (k4 c1 c2)
  · refine xe_lconst (v := 0) dX9_group_18 (by decide) ?_
    exact xe_ret (r := (some (.long (0)))) dX9_group_19 trivial (k5 c1)

theorem gX9_group_N (u : xU) (k j : Nat) (v w : Int32) (y x : Int64) {Q : Option Value → xM → Prop} (hca : xC mX0_carries [.ref 47, .int (nI k)] (xmm u) (fun r μ' => r = some (.int (xb True)) ∧ μ' = xmm u)) (hcj : xC mX0_carries [.ref 47, .int (nI j)] (xmm u) (fun r μ' => r = some (.int (xb True)) ∧ μ' = xmm u)) (hhw : xC mX0_howManyWith [.ref 47, .int (nI k), .int v] (xmm u) (fun r μ' => r = some (.long y) ∧ μ' = xmm u)) (htw : xC mX0_totalWith [.ref 47, .int (nI k), .int v, .int (nI j)] (xmm u) (fun r μ' => r = some (.long x) ∧ μ' = xmm u)) 
    (k1 : True → ¬ w = 0 → ¬ w = 1 → Q (some (.long (0))) (xmm u))
    (k2 : True → ¬ w = 0 → w = 1 → ¬ True → Q (some (.long (0))) (xmm u))
    (k3 : True → ¬ w = 0 → w = 1 → True → Q (some (.long (x))) (xmm u))
    (k4 : True → w = 0 → Q (some (.long (y))) (xmm u))
    (k5 : ¬ True → Q (some (.long (0))) (xmm u)) : xE mX9_group 0 [(0, .ref 1), (1, .int (nI (k))), (2, .int (v)), (3, .int (w)), (4, .int (nI (j)))] [] (xmm u) Q := by
  refine xe_aload_n 0 dX9_group_0 rfl rfl ?_
  refine xr_getR (b := 46) dX9_group_1 fX9_25 rfl sh1 (by decide) rfl ?_
  refine xr_getR (b := 47) dX9_group_4 fX9_139 rfl sh46 (by decide) rfl ?_
  refine xe_astore (L2 := [(0, .ref 1), (1, .int (nI (k))), (2, .int (v)), (3, .int (w)), (4, .int (nI (j))), (5, .ref 47)]) dX9_group_7 (by decide) rfl ?_
  refine xe_aload 5 dX9_group_9 rfl ?_
  refine xe_iload_n 1 dX9_group_11 rfl rfl ?_
  refine xe_callV (As := [.int (nI (k))]) (rest := []) dX9_group_12 wX0_carries lX9_152 iX0_carries sX0_carries ⟨by decide, by decide⟩ sh47 rfl (xin_mm (by decide)) rfl rfl (by simp [Value.category]) (xC.pure (v := .int (xb (True))) (hca) ?_)
  refine xb_if_ne 20 dX9_group_15 (by decide) (fun c1 => ?_) (fun c1 => ?_)
  · refine xe_iload_n 3 dX9_group_20 rfl rfl ?_
    refine xe_if_ne 32 dX9_group_21 (by decide) (fun c2 => ?_) (fun c2 => ?_)
    · refine xe_iload_n 3 dX9_group_32 rfl rfl ?_
      refine xe_iconst (v := nI (1)) dX9_group_33 xc1 ?_
      refine xe_icmp_ne 59 dX9_group_34 (by decide) (fun c3 => ?_) (fun c3 => ?_)
      · refine xe_lconst (v := 0) dX9_group_59 (by decide) ?_
        exact xe_ret (r := (some (.long (0)))) dX9_group_60 trivial (k1 c1 c2 c3)
      · refine xe_aload 5 dX9_group_37 rfl ?_
        refine xe_iload 4 dX9_group_39 rfl ?_
        refine xe_callV (As := [.int (nI (j))]) (rest := []) dX9_group_41 wX0_carries lX9_152 iX0_carries sX0_carries ⟨by decide, by decide⟩ sh47 rfl (xin_mm (by decide)) rfl rfl (by simp [Value.category]) (xC.pure (v := .int (xb (True))) (hcj) ?_)
        refine xb_if_eq 59 dX9_group_44 (by decide) (fun c4 => ?_) (fun c4 => ?_)
        · refine xe_lconst (v := 0) dX9_group_59 (by decide) ?_
          exact xe_ret (r := (some (.long (0)))) dX9_group_60 trivial (k2 c1 c2 c3 c4)
        · refine xe_aload 5 dX9_group_47 rfl ?_
          refine xe_iload_n 1 dX9_group_49 rfl rfl ?_
          refine xe_iload_n 2 dX9_group_50 rfl rfl ?_
          refine xe_iload 4 dX9_group_51 rfl ?_
          refine xe_callV (As := [.int (nI (k)), .int (v), .int (nI (j))]) (rest := []) dX9_group_53 wX0_totalWith lX9_175 iX0_totalWith sX0_totalWith ⟨by decide, by decide⟩ sh47 rfl (xin_mm (by decide)) rfl rfl (by simp [Value.category]) (xC.pure (v := .long (x)) (htw) ?_)
          refine xe_goto 60 dX9_group_56 (by decide) ?_
          exact xe_ret (r := (some (.long (x)))) dX9_group_60 trivial (k3 c1 c2 c3 c4)
    · refine xe_aload 5 dX9_group_24 rfl ?_
      refine xe_iload_n 1 dX9_group_26 rfl rfl ?_
      refine xe_iload_n 2 dX9_group_27 rfl rfl ?_
      refine xe_callV (As := [.int (nI (k)), .int (v)]) (rest := []) dX9_group_28 wX0_howManyWith lX9_171 iX0_howManyWith sX0_howManyWith ⟨by decide, by decide⟩ sh47 rfl (xin_mm (by decide)) rfl rfl (by simp [Value.category]) (xC.pure (v := .long (y)) (hhw) ?_)
      exact xe_ret (r := (some (.long (y)))) dX9_group_31 trivial (k4 c1 c2)
  · refine xe_lconst (v := 0) dX9_group_18 (by decide) ?_
    exact xe_ret (r := (some (.long (0)))) dX9_group_19 trivial (k5 c1)

theorem gX0_copyFrom_0 (u : xU) (A B n m : Nat) {Q : Option Value → xM → Prop} (hA : A = 47 ∨ A = 59) (hB : B = 47 ∨ B = 59) (v1 : u.1 B 0 = nI (n)) (v2 : u.1 B 1 = nI (m))
    (k1 : xC mX0_take [.ref A, .int (nI (n)), .int (nI (m)), .ref (B + 1), .ref (B + 8)] (xmm u) (fun r μ1 => xE mX0_copyFrom 20 [] (r.toList ++ []) μ1 Q)) : xE mX0_copyFrom 0 [(0, .ref A), (1, .ref B)] [] (xmm u) Q := by
  refine xe_aload_n 0 dX0_copyFrom_0 rfl rfl ?_
  refine xe_aload_n 1 dX0_copyFrom_1 rfl rfl ?_
  refine xr_getI (v := nI (n)) dX0_copyFrom_2 fX0_24 (shA hB).1 (by omega) v1 ?_
  refine xe_aload_n 1 dX0_copyFrom_5 rfl rfl ?_
  refine xr_getI (v := nI (m)) dX0_copyFrom_6 fX0_9 (shA hB).1 (by omega) v2 ?_
  refine xe_aload_n 1 dX0_copyFrom_9 rfl rfl ?_
  refine xr_getR (b := (B + 1)) dX0_copyFrom_10 fX0_17 rfl (shA hB).1 (by omega) (rA hB).1 ?_
  refine xe_aload_n 1 dX0_copyFrom_13 rfl rfl ?_
  refine xr_getR (b := (B + 8)) dX0_copyFrom_14 fX0_20 rfl (shA hB).1 (by omega) (rA hB).2 ?_
  refine xE.sub [] rfl ?_
  refine xe_callV (As := [.int (nI (n)), .int (nI (m)), .ref (B + 1), .ref (B + 8)]) (rest := []) dX0_copyFrom_17 wX0_take lX0_33 iX0_take sX0_take ⟨by decide, by decide⟩ (shA hA).1 rfl (xin_mm (by omega)) rfl rfl (by simp [Value.category]) ?_
  exact k1

theorem gX0_copyFrom_20 (u : xU) {Q : Option Value → xM → Prop}  
    (k1 : Q none (xmm u)) : xE mX0_copyFrom 20 [] [] (xmm u) Q := by
  exact xe_ret (r := none) dX0_copyFrom_20 trivial (k1)

theorem gX9_keep_n (u : xU) {Q : Option Value → xM → Prop}  (v1 : u.1 47 1 = (-1))
    (k1 : Q (some (.int (-1))) (xmm u)) : xE mX9_keep 0 [(0, .ref 1)] [] (xmm u) Q := by
  refine xe_aload_n 0 dX9_keep_0 rfl rfl ?_
  refine xr_getR (b := 46) dX9_keep_1 fX9_25 rfl sh1 (by decide) rfl ?_
  refine xr_getR (b := 47) dX9_keep_4 fX9_139 rfl sh46 (by decide) rfl ?_
  refine xr_getI (v := (-1)) dX9_keep_7 fX9_142 sh47 (by decide) v1 ?_
  refine xe_iconst (v := -1) dX9_keep_10 xcm1 ?_
  refine xe_icmp_ne 16 dX9_keep_11 (by decide) (fun q => absurd rfl q) (fun _ => ?_)
  refine xe_iconst (v := -1) dX9_keep_14 xcm1 ?_
  exact xe_ret (r := (some (.int (-1)))) dX9_keep_15 trivial (k1)

theorem gX9_keep_s (u : xU) (m : Nat) {Q : Option Value → xM → Prop}  (v1 : u.1 47 1 = nI (m))
    (k1 : ¬ (nI (m)) = (-1) → xC mX0_copyFrom [.ref 59, .ref 47] (xmm u) (fun r μ1 => xE mX9_keep 30 [(0, .ref 1)] (r.toList ++ []) μ1 Q))
    (k2 : (nI (m)) = (-1) → Q (some (.int (-1))) (xmm u)) : xE mX9_keep 0 [(0, .ref 1)] [] (xmm u) Q := by
  refine xe_aload_n 0 dX9_keep_0 rfl rfl ?_
  refine xr_getR (b := 46) dX9_keep_1 fX9_25 rfl sh1 (by decide) rfl ?_
  refine xr_getR (b := 47) dX9_keep_4 fX9_139 rfl sh46 (by decide) rfl ?_
  refine xr_getI (v := nI (m)) dX9_keep_7 fX9_142 sh47 (by decide) v1 ?_
  refine xe_iconst (v := -1) dX9_keep_10 xcm1 ?_
  refine xe_icmp_ne 16 dX9_keep_11 (by decide) (fun c1 => ?_) (fun c1 => ?_)
  · refine xe_aload_n 0 dX9_keep_16 rfl rfl ?_
    refine xr_getR (b := 59) dX9_keep_17 fX9_32 rfl sh1 (by decide) rfl ?_
    refine xe_aload_n 0 dX9_keep_20 rfl rfl ?_
    refine xr_getR (b := 46) dX9_keep_21 fX9_25 rfl sh1 (by decide) rfl ?_
    refine xr_getR (b := 47) dX9_keep_24 fX9_139 rfl sh46 (by decide) rfl ?_
    refine xe_callV (As := [.ref 47]) (rest := []) dX9_keep_27 wX0_copyFrom lX9_179 iX0_copyFrom sX0_copyFrom ⟨by decide, by decide⟩ sh59 rfl (xin_mm (by decide)) rfl rfl (by simp [Value.category]) ?_
    exact k1 c1
  · refine xe_iconst (v := -1) dX9_keep_14 xcm1 ?_
    exact xe_ret (r := (some (.int (-1)))) dX9_keep_15 trivial (k2 c1)

theorem gX9_keep_30 (u : xU) (v : Int32) {Q : Option Value → xM → Prop}  (v1 : u.1 59 1 = v)
    (k1 : Q (some (.int (v))) (xmm u)) : xE mX9_keep 30 [(0, .ref 1)] [] (xmm u) Q := by
  refine xe_aload_n 0 dX9_keep_30 rfl rfl ?_
  refine xr_getR (b := 59) dX9_keep_31 fX9_32 rfl sh1 (by decide) rfl ?_
  refine xr_getI (v := v) dX9_keep_34 fX9_142 sh59 (by decide) v1 ?_
  exact xe_ret (r := (some (.int (v)))) dX9_keep_37 trivial (k1)

