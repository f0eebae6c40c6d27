theorem qX10_cellV (u : xU) (t i c : Nat) (x : Int32) (ht : t < 8) (hi : i < 40) (hc : c < 3) (e : u.1 175 (120 * t + 3 * i + c) = x) : xC mX10_cell [.ref 172, .int (nI t), .int (nI i), .int (nI c)] (xmm u) (fun r μ' => r = some (.int x) ∧ μ' = xmm u) := by
  rw [← e]
  exact qX10_cell u t i c ht hi hc

theorem gX10_begins_0 (u : xU) (t : Nat) (a b : Int32) {Q : Option Value → xM → Prop}  
    (k1 : xE mX10_begins 3 [(0, .ref 172), (1, .int (nI (t))), (2, .int (a)), (3, .int (b)), (4, .int (nI (0)))] [] (xmm u) Q) : xE mX10_begins 0 [(0, .ref 172), (1, .int (nI (t))), (2, .int (a)), (3, .int (b))] [] (xmm u) Q := by
  refine xe_iconst (v := nI (0)) dX10_begins_0 xc0 ?_
  refine xe_istore (L2 := [(0, .ref 172), (1, .int (nI (t))), (2, .int (a)), (3, .int (b)), (4, .int (nI (0)))]) dX10_begins_1 (by decide) rfl ?_
  exact k1

theorem gX10_begins_3 (u : xU) (t n cols : Nat) (ro : Nat) (a b x y : Int32) {Q : Option Value → xM → Prop} (ht : t < 8) (hcols : cols ≤ 3) (hn : n ≤ 40) (hr : ro < n) (v1 : u.1 174 t = nI (n)) (v2 : u.1 175 (120 * t + 3 * ro + 0) = x) (v3 : u.1 175 (120 * t + 3 * ro + 1) = y)
    (k1 : n ≤ ro → Q (some (.int (nI (0)))) (xmm u))
    (k2 : ¬ n ≤ ro → ¬ x = a → xE mX10_begins 3 [(0, .ref 172), (1, .int (nI (t))), (2, .int (a)), (3, .int (b)), (4, .int (nI (ro + 1)))] [] (xmm u) Q)
    (k3 : ¬ n ≤ ro → x = a → ¬ y = b → xE mX10_begins 3 [(0, .ref 172), (1, .int (nI (t))), (2, .int (a)), (3, .int (b)), (4, .int (nI (ro + 1)))] [] (xmm u) Q)
    (k4 : ¬ n ≤ ro → x = a → y = b → Q (some (.int (nI (1)))) (xmm u)) : xE mX10_begins 3 [(0, .ref 172), (1, .int (nI (t))), (2, .int (a)), (3, .int (b)), (4, .int (nI (ro)))] [] (xmm u) Q := by
  refine xe_iload 4 dX10_begins_3 rfl ?_
  refine xe_aload_n 0 dX10_begins_5 rfl rfl ?_
  refine xr_getR (b := 174) dX10_begins_6 fX10_13 rfl sh172 (by decide) rfl ?_
  refine xe_iload_n 1 dX10_begins_9 rfl rfl ?_
  refine xr_iald (k := t) (v := nI (n)) dX10_begins_10 sh174 (by decide) (by omega) (by decide) v1 ?_
  refine xn_icmp_ge 46 dX10_begins_11 (by decide) (by omega) (by omega) (fun c1 => ?_) (fun c1 => ?_)
  · refine xe_iconst (v := nI (0)) dX10_begins_46 xc0 ?_
    exact xe_ret (r := (some (.int (nI (0))))) dX10_begins_47 (Or.inl rfl) (k1 c1)
  · refine xe_aload_n 0 dX10_begins_14 rfl rfl ?_
    refine xe_iload_n 1 dX10_begins_15 rfl rfl ?_
    refine xe_iload 4 dX10_begins_16 rfl ?_
    refine xe_iconst (v := nI (0)) dX10_begins_18 xc0 ?_
    refine xe_callV (As := [.int (nI (t)), .int (nI (ro)), .int (nI (0))]) (rest := []) dX10_begins_19 wX10_cell lX10_95 iX10_cell sX10_cell ⟨by decide, by decide⟩ sh172 rfl (xin_mm (by decide)) rfl rfl (by simp [Value.category]) (xC.pure (v := .int (x)) (qX10_cellV u t ro 0 x (by omega) (by omega) (by omega) v2) ?_)
    refine xe_iload_n 2 dX10_begins_22 rfl rfl ?_
    refine xe_icmp_ne 40 dX10_begins_23 (by decide) (fun c2 => ?_) (fun c2 => ?_)
    · refine xn_iinc (c := 1) (L2 := [(0, .ref 172), (1, .int (nI (t))), (2, .int (a)), (3, .int (b)), (4, .int (nI (ro + 1)))]) 4 dX10_begins_40 rfl (by decide) rfl ?_
      refine xe_goto 3 dX10_begins_43 (by decide) ?_
      exact k2 c1 c2
    · refine xe_aload_n 0 dX10_begins_26 rfl rfl ?_
      refine xe_iload_n 1 dX10_begins_27 rfl rfl ?_
      refine xe_iload 4 dX10_begins_28 rfl ?_
      refine xe_iconst (v := nI (1)) dX10_begins_30 xc1 ?_
      refine xe_callV (As := [.int (nI (t)), .int (nI (ro)), .int (nI (1))]) (rest := []) dX10_begins_31 wX10_cell lX10_95 iX10_cell sX10_cell ⟨by decide, by decide⟩ sh172 rfl (xin_mm (by decide)) rfl rfl (by simp [Value.category]) (xC.pure (v := .int (y)) (qX10_cellV u t ro 1 y (by omega) (by omega) (by omega) v3) ?_)
      refine xe_iload_n 3 dX10_begins_34 rfl rfl ?_
      refine xe_icmp_ne 40 dX10_begins_35 (by decide) (fun c3 => ?_) (fun c3 => ?_)
      · refine xn_iinc (c := 1) (L2 := [(0, .ref 172), (1, .int (nI (t))), (2, .int (a)), (3, .int (b)), (4, .int (nI (ro + 1)))]) 4 dX10_begins_40 rfl (by decide) rfl ?_
        refine xe_goto 3 dX10_begins_43 (by decide) ?_
        exact k3 c1 c2 c3
      · refine xe_iconst (v := nI (1)) dX10_begins_38 xc1 ?_
        exact xe_ret (r := (some (.int (nI (1))))) dX10_begins_39 (Or.inr rfl) (k4 c1 c2 c3)

theorem gX10_begins_e (u : xU) (t n cols : Nat) (ro : Nat) (a b : Int32) {Q : Option Value → xM → Prop} (ht : t < 8) (hcols : cols ≤ 3) (hn : n ≤ 40) (hr : ro = n) (v1 : u.1 174 t = nI (n))
    (k1 : n ≤ ro → Q (some (.int (nI (0)))) (xmm u))
    (k2 : ¬ n ≤ ro → ¬ (u.1 175 (120 * t + 3 * ro + 0)) = a → xE mX10_begins 3 [(0, .ref 172), (1, .int (nI (t))), (2, .int (a)), (3, .int (b)), (4, .int (nI (ro + 1)))] [] (xmm u) Q)
    (k3 : ¬ n ≤ ro → (u.1 175 (120 * t + 3 * ro + 0)) = a → ¬ (u.1 175 (120 * t + 3 * ro + 1)) = b → xE mX10_begins 3 [(0, .ref 172), (1, .int (nI (t))), (2, .int (a)), (3, .int (b)), (4, .int (nI (ro + 1)))] [] (xmm u) Q)
    (k4 : ¬ n ≤ ro → (u.1 175 (120 * t + 3 * ro + 0)) = a → (u.1 175 (120 * t + 3 * ro + 1)) = b → Q (some (.int (nI (1)))) (xmm u)) : xE mX10_begins 3 [(0, .ref 172), (1, .int (nI (t))), (2, .int (a)), (3, .int (b)), (4, .int (nI (ro)))] [] (xmm u) Q := by
  refine xe_iload 4 dX10_begins_3 rfl ?_
  refine xe_aload_n 0 dX10_begins_5 rfl rfl ?_
  refine xr_getR (b := 174) dX10_begins_6 fX10_13 rfl sh172 (by decide) rfl ?_
  refine xe_iload_n 1 dX10_begins_9 rfl rfl ?_
  refine xr_iald (k := t) (v := nI (n)) dX10_begins_10 sh174 (by decide) (by omega) (by decide) v1 ?_
  refine xn_icmp_ge 46 dX10_begins_11 (by decide) (by omega) (by omega) (fun c1 => ?_) (fun c1 => ?_)
  · refine xe_iconst (v := nI (0)) dX10_begins_46 xc0 ?_
    exact xe_ret (r := (some (.int (nI (0))))) dX10_begins_47 (Or.inl rfl) (k1 c1)
  · refine xe_aload_n 0 dX10_begins_14 rfl rfl ?_
    refine xe_iload_n 1 dX10_begins_15 rfl rfl ?_
    refine xe_iload 4 dX10_begins_16 rfl ?_
    refine xe_iconst (v := nI (0)) dX10_begins_18 xc0 ?_
    refine xe_callV (As := [.int (nI (t)), .int (nI (ro)), .int (nI (0))]) (rest := []) dX10_begins_19 wX10_cell lX10_95 iX10_cell sX10_cell ⟨by decide, by decide⟩ sh172 rfl (xin_mm (by decide)) rfl rfl (by simp [Value.category]) (xC.pure (v := .int (u.1 175 (120 * t + 3 * ro + 0))) (qX10_cellV u t ro 0 (u.1 175 (120 * t + 3 * ro + 0)) (by omega) (by omega) (by omega) rfl) ?_)
    refine xe_iload_n 2 dX10_begins_22 rfl rfl ?_
    refine xe_icmp_ne 40 dX10_begins_23 (by decide) (fun c2 => ?_) (fun c2 => ?_)
    · refine xn_iinc (c := 1) (L2 := [(0, .ref 172), (1, .int (nI (t))), (2, .int (a)), (3, .int (b)), (4, .int (nI (ro + 1)))]) 4 dX10_begins_40 rfl (by decide) rfl ?_
      refine xe_goto 3 dX10_begins_43 (by decide) ?_
      exact k2 c1 c2
    · refine xe_aload_n 0 dX10_begins_26 rfl rfl ?_
      refine xe_iload_n 1 dX10_begins_27 rfl rfl ?_
      refine xe_iload 4 dX10_begins_28 rfl ?_
      refine xe_iconst (v := nI (1)) dX10_begins_30 xc1 ?_
      refine xe_callV (As := [.int (nI (t)), .int (nI (ro)), .int (nI (1))]) (rest := []) dX10_begins_31 wX10_cell lX10_95 iX10_cell sX10_cell ⟨by decide, by decide⟩ sh172 rfl (xin_mm (by decide)) rfl rfl (by simp [Value.category]) (xC.pure (v := .int (u.1 175 (120 * t + 3 * ro + 1))) (qX10_cellV u t ro 1 (u.1 175 (120 * t + 3 * ro + 1)) (by omega) (by omega) (by omega) rfl) ?_)
      refine xe_iload_n 3 dX10_begins_34 rfl rfl ?_
      refine xe_icmp_ne 40 dX10_begins_35 (by decide) (fun c3 => ?_) (fun c3 => ?_)
      · refine xn_iinc (c := 1) (L2 := [(0, .ref 172), (1, .int (nI (t))), (2, .int (a)), (3, .int (b)), (4, .int (nI (ro + 1)))]) 4 dX10_begins_40 rfl (by decide) rfl ?_
        refine xe_goto 3 dX10_begins_43 (by decide) ?_
        exact k3 c1 c2 c3
      · refine xe_iconst (v := nI (1)) dX10_begins_38 xc1 ?_
        exact xe_ret (r := (some (.int (nI (1))))) dX10_begins_39 (Or.inr rfl) (k4 c1 c2 c3)

theorem gX10_isRinged_0 (u : xU) (t : Int32) (et : Bool) {Q : Option Value → xM → Prop} (hit : xC mX10_isTable [.ref 172, .int t] (xmm u) (fun r μ' => r = some (.int (xb (et = true))) ∧ μ' = xmm u)) 
    (k1 : ¬ (et = true) → Q (some (.int (nI (0)))) (xmm u))
    (k2 : et = true → False) : xE mX10_isRinged 0 [(0, .ref 172), (1, .int (t))] [] (xmm u) Q := by
  refine xe_aload_n 0 dX10_isRinged_0 rfl rfl ?_
  refine xe_iload_n 1 dX10_isRinged_1 rfl rfl ?_
  refine xe_callV (As := [.int (t)]) (rest := []) dX10_isRinged_2 wX10_isTable lX10_107 iX10_isTable sX10_isTable ⟨by decide, by decide⟩ sh172 rfl (xin_mm (by decide)) rfl rfl (by simp [Value.category]) (xC.pure (v := .int (xb (et = true))) (hit) ?_)
  refine xb_if_eq 22 dX10_isRinged_5 (by decide) (fun c1 => ?_) (fun c1 => ?_)
  · refine xe_iconst (v := nI (0)) dX10_isRinged_22 xc0 ?_
    exact xe_ret (r := (some (.int (nI (0))))) dX10_isRinged_23 (Or.inl rfl) (k1 c1)
  · refine xe_aload_n 0 dX10_isRinged_8 rfl rfl ?_
    refine xr_getR (b := 173) dX10_isRinged_9 fX10_7 rfl sh172 (by decide) rfl ?_
    refine xe_iload_n 1 dX10_isRinged_12 rfl rfl ?_
    exact (k2 c1).elim

theorem gX10_isRinged_N (u : xU) (t cols : Nat) (et : Bool) {Q : Option Value → xM → Prop} (ht : t < 8) (hc : cols ≤ 3) (hit : xC mX10_isTable [.ref 172, .int (nI t)] (xmm u) (fun r μ' => r = some (.int (xb (et = true))) ∧ μ' = xmm u)) (v1 : u.1 173 t = nI (cols))
    (k1 : ¬ (et = true) → Q (some (.int (nI (0)))) (xmm u))
    (k2 : et = true → cols ≤ 1 → Q (some (.int (nI (0)))) (xmm u))
    (k3 : et = true → ¬ cols ≤ 1 → Q (some (.int (nI (1)))) (xmm u)) : xE mX10_isRinged 0 [(0, .ref 172), (1, .int (nI (t)))] [] (xmm u) Q := by
  refine xe_aload_n 0 dX10_isRinged_0 rfl rfl ?_
  refine xe_iload_n 1 dX10_isRinged_1 rfl rfl ?_
  refine xe_callV (As := [.int (nI (t))]) (rest := []) dX10_isRinged_2 wX10_isTable lX10_107 iX10_isTable sX10_isTable ⟨by decide, by decide⟩ sh172 rfl (xin_mm (by decide)) rfl rfl (by simp [Value.category]) (xC.pure (v := .int (xb (et = true))) (hit) ?_)
  refine xb_if_eq 22 dX10_isRinged_5 (by decide) (fun c1 => ?_) (fun c1 => ?_)
  · refine xe_iconst (v := nI (0)) dX10_isRinged_22 xc0 ?_
    exact xe_ret (r := (some (.int (nI (0))))) dX10_isRinged_23 (Or.inl rfl) (k1 c1)
  · refine xe_aload_n 0 dX10_isRinged_8 rfl rfl ?_
    refine xr_getR (b := 173) dX10_isRinged_9 fX10_7 rfl sh172 (by decide) rfl ?_
    refine xe_iload_n 1 dX10_isRinged_12 rfl rfl ?_
    refine xr_iald (k := t) (v := nI (cols)) dX10_isRinged_13 sh173 (by decide) (by omega) (by decide) v1 ?_
    refine xe_iconst (v := nI (1)) dX10_isRinged_14 xc1 ?_
    refine xn_icmp_le 22 dX10_isRinged_15 (by decide) (by omega) (by omega) (fun c2 => ?_) (fun c2 => ?_)
    · refine xe_iconst (v := nI (0)) dX10_isRinged_22 xc0 ?_
      exact xe_ret (r := (some (.int (nI (0))))) dX10_isRinged_23 (Or.inl rfl) (k2 c1 c2)
    · refine xe_iconst (v := nI (1)) dX10_isRinged_18 xc1 ?_
      refine xe_goto 23 dX10_isRinged_19 (by decide) ?_
      exact xe_ret (r := (some (.int (nI (1))))) dX10_isRinged_23 (Or.inr rfl) (k3 c1 c2)

theorem gX10_ringsOf_0 (u : xU) (t : Nat) (w : Int32) {Q : Option Value → xM → Prop}  
    (k1 : xE mX10_ringsOf 5 [(0, .ref 172), (1, .int (nI (t))), (2, .int (w)), (3, .int (nI (0))), (4, .int (nI (0)))] [] (xmm u) Q) : xE mX10_ringsOf 0 [(0, .ref 172), (1, .int (nI (t))), (2, .int (w))] [] (xmm u) Q := by
  refine xe_iconst (v := nI (0)) dX10_ringsOf_0 xc0 ?_
  refine xe_istore_n (L2 := [(0, .ref 172), (1, .int (nI (t))), (2, .int (w)), (3, .int (nI (0)))]) dX10_ringsOf_1 rfl (by decide) rfl ?_
  refine xe_iconst (v := nI (0)) dX10_ringsOf_2 xc0 ?_
  refine xe_istore (L2 := [(0, .ref 172), (1, .int (nI (t))), (2, .int (w)), (3, .int (nI (0))), (4, .int (nI (0)))]) dX10_ringsOf_3 (by decide) rfl ?_
  exact k1

theorem gX10_ringsOf_5 (u : xU) (t n cols : Nat) (ro m : Nat) (w a b c d : Int32) {Q : Option Value → xM → Prop} (ht : t < 8) (hcols : cols ≤ 3) (hn : n ≤ 40) (hm : m ≤ 1600) (hr : ro < n) (v1 : u.1 174 t = nI (n)) (v2 : u.1 175 (120 * t + 3 * ro + 0) = a) (v3 : u.1 175 (120 * t + 3 * ro + 1) = b) (v4 : u.1 175 (120 * t + 3 * (ro - 1) + 0) = c) (v5 : u.1 175 (120 * t + 3 * (ro - 1) + 1) = d)
    (k1 : n ≤ ro → ¬ w = (-1) → Q (some (.int (-1))) (xmm u))
    (k2 : n ≤ ro → w = (-1) → Q (some (.int (nI (m)))) (xmm u))
    (k3 : ¬ n ≤ ro → 0 ≤ (cmpK a b) → xE mX10_ringsOf 5 [(0, .ref 172), (1, .int (nI (t))), (2, .int (w)), (3, .int (nI (m))), (4, .int (nI (ro + 1)))] [] (xmm u) Q)
    (k4 : ¬ n ≤ ro → ¬ 0 ≤ (cmpK a b) → ro ≤ 0 → xE mX10_ringsOf 87 [(0, .ref 172), (1, .int (nI (t))), (2, .int (w)), (3, .int (nI (m))), (4, .int (nI (ro))), (5, .int (a)), (6, .int (b)), (7, .int (nI (0)))] [] (xmm u) Q)
    (k5 : ¬ n ≤ ro → ¬ 0 ≤ (cmpK a b) → ¬ ro ≤ 0 → ¬ c = a → xE mX10_ringsOf 87 [(0, .ref 172), (1, .int (nI (t))), (2, .int (w)), (3, .int (nI (m))), (4, .int (nI (ro))), (5, .int (a)), (6, .int (b)), (7, .int (nI (0)))] [] (xmm u) Q)
    (k6 : ¬ n ≤ ro → ¬ 0 ≤ (cmpK a b) → ¬ ro ≤ 0 → c = a → ¬ d = b → xE mX10_ringsOf 87 [(0, .ref 172), (1, .int (nI (t))), (2, .int (w)), (3, .int (nI (m))), (4, .int (nI (ro))), (5, .int (a)), (6, .int (b)), (7, .int (nI (0)))] [] (xmm u) Q)
    (k7 : ¬ n ≤ ro → ¬ 0 ≤ (cmpK a b) → ¬ ro ≤ 0 → c = a → d = b → xE mX10_ringsOf 5 [(0, .ref 172), (1, .int (nI (t))), (2, .int (w)), (3, .int (nI (m))), (4, .int (nI (ro + 1)))] [] (xmm u) Q) : xE mX10_ringsOf 5 [(0, .ref 172), (1, .int (nI (t))), (2, .int (w)), (3, .int (nI (m))), (4, .int (nI (ro)))] [] (xmm u) Q := by
  refine xe_iload 4 dX10_ringsOf_5 rfl ?_
  refine xe_aload_n 0 dX10_ringsOf_7 rfl rfl ?_
  refine xr_getR (b := 174) dX10_ringsOf_8 fX10_13 rfl sh172 (by decide) rfl ?_
  refine xe_iload_n 1 dX10_ringsOf_11 rfl rfl ?_
  refine xr_iald (k := t) (v := nI (n)) dX10_ringsOf_12 sh174 (by decide) (by omega) (by decide) v1 ?_
  refine xn_icmp_ge 237 dX10_ringsOf_13 (by decide) (by omega) (by omega) (fun c1 => ?_) (fun c1 => ?_)
  · refine xe_iload_n 2 dX10_ringsOf_237 rfl rfl ?_
    refine xe_iconst (v := -1) dX10_ringsOf_238 xcm1 ?_
    refine xe_icmp_ne 246 dX10_ringsOf_239 (by decide) (fun c2 => ?_) (fun c2 => ?_)
    · refine xe_iconst (v := -1) dX10_ringsOf_246 xcm1 ?_
      exact xe_ret (r := (some (.int (-1)))) dX10_ringsOf_247 trivial (k1 c1 c2)
    · refine xe_iload_n 3 dX10_ringsOf_242 rfl rfl ?_
      refine xe_goto 247 dX10_ringsOf_243 (by decide) ?_
      exact xe_ret (r := (some (.int (nI (m))))) dX10_ringsOf_247 trivial (k2 c1 c2)
  · refine xe_aload_n 0 dX10_ringsOf_16 rfl rfl ?_
    refine xe_iload_n 1 dX10_ringsOf_17 rfl rfl ?_
    refine xe_iload 4 dX10_ringsOf_18 rfl ?_
    refine xe_iconst (v := nI (0)) dX10_ringsOf_20 xc0 ?_
    refine xe_callV (As := [.int (nI (t)), .int (nI (ro)), .int (nI (0))]) (rest := []) dX10_ringsOf_21 wX10_cell lX10_95 iX10_cell sX10_cell ⟨by decide, by decide⟩ sh172 rfl (xin_mm (by decide)) rfl rfl (by simp [Value.category]) (xC.pure (v := .int (a)) (qX10_cellV u t ro 0 a (by omega) (by omega) (by omega) v2) ?_)
    refine xe_istore (L2 := [(0, .ref 172), (1, .int (nI (t))), (2, .int (w)), (3, .int (nI (m))), (4, .int (nI (ro))), (5, .int (a))]) dX10_ringsOf_24 (by decide) rfl ?_
    refine xe_aload_n 0 dX10_ringsOf_26 rfl rfl ?_
    refine xe_iload_n 1 dX10_ringsOf_27 rfl rfl ?_
    refine xe_iload 4 dX10_ringsOf_28 rfl ?_
    refine xe_iconst (v := nI (1)) dX10_ringsOf_30 xc1 ?_
    refine xe_callV (As := [.int (nI (t)), .int (nI (ro)), .int (nI (1))]) (rest := []) dX10_ringsOf_31 wX10_cell lX10_95 iX10_cell sX10_cell ⟨by decide, by decide⟩ sh172 rfl (xin_mm (by decide)) rfl rfl (by simp [Value.category]) (xC.pure (v := .int (b)) (qX10_cellV u t ro 1 b (by omega) (by omega) (by omega) v3) ?_)
    refine xe_istore (L2 := [(0, .ref 172), (1, .int (nI (t))), (2, .int (w)), (3, .int (nI (m))), (4, .int (nI (ro))), (5, .int (a)), (6, .int (b))]) dX10_ringsOf_34 (by decide) rfl ?_
    refine xe_iload 5 dX10_ringsOf_36 rfl ?_
    refine xe_iload 6 dX10_ringsOf_38 rfl ?_
    refine xe_callS (As := [.int (a), .int (b)]) (rest := []) dX10_ringsOf_40 wX10_rank lX10_99 tX10_rank ⟨by decide, by decide⟩ rfl rfl (by simp [Value.category]) (xC.pure (v := .int (cmpK a b)) (qX10_rank u a b) ?_)
    refine xe_if_ge 231 dX10_ringsOf_43 (by decide) (fun c3 => ?_) (fun c3 => ?_)
    · refine xn_iinc (c := 1) (L2 := [(0, .ref 172), (1, .int (nI (t))), (2, .int (w)), (3, .int (nI (m))), (4, .int (nI (ro + 1))), (5, .int (a)), (6, .int (b))]) 4 dX10_ringsOf_231 rfl (by decide) rfl ?_
      refine xe_goto 5 dX10_ringsOf_234 (by decide) ?_
      refine xE.sub [0, 1, 2, 3, 4] rfl ?_
      exact k3 c1 c3
    · refine xe_iload 4 dX10_ringsOf_46 rfl ?_
      refine xn_if_le 84 dX10_ringsOf_48 (by decide) (by omega) (fun c4 => ?_) (fun c4 => ?_)
      · refine xe_iconst (v := nI (0)) dX10_ringsOf_84 xc0 ?_
        refine xe_istore (L2 := [(0, .ref 172), (1, .int (nI (t))), (2, .int (w)), (3, .int (nI (m))), (4, .int (nI (ro))), (5, .int (a)), (6, .int (b)), (7, .int (nI (0)))]) dX10_ringsOf_85 (by decide) rfl ?_
        exact k4 c1 c3 c4
      · refine xe_aload_n 0 dX10_ringsOf_51 rfl rfl ?_
        refine xe_iload_n 1 dX10_ringsOf_52 rfl rfl ?_
        refine xe_iload 4 dX10_ringsOf_53 rfl ?_
        refine xe_iconst (v := nI (1)) dX10_ringsOf_55 xc1 ?_
        refine xn_isub dX10_ringsOf_56 (by omega) ?_
        refine xe_iconst (v := nI (0)) dX10_ringsOf_57 xc0 ?_
        refine xe_callV (As := [.int (nI (t)), .int (nI (ro - 1)), .int (nI (0))]) (rest := []) dX10_ringsOf_58 wX10_cell lX10_95 iX10_cell sX10_cell ⟨by decide, by decide⟩ sh172 rfl (xin_mm (by decide)) rfl rfl (by simp [Value.category]) (xC.pure (v := .int (c)) (qX10_cellV u t (ro - 1) 0 c (by omega) (by omega) (by omega) v4) ?_)
        refine xe_iload 5 dX10_ringsOf_61 rfl ?_
        refine xe_icmp_ne 84 dX10_ringsOf_63 (by decide) (fun c5 => ?_) (fun c5 => ?_)
        · refine xe_iconst (v := nI (0)) dX10_ringsOf_84 xc0 ?_
          refine xe_istore (L2 := [(0, .ref 172), (1, .int (nI (t))), (2, .int (w)), (3, .int (nI (m))), (4, .int (nI (ro))), (5, .int (a)), (6, .int (b)), (7, .int (nI (0)))]) dX10_ringsOf_85 (by decide) rfl ?_
          exact k5 c1 c3 c4 c5
        · refine xe_aload_n 0 dX10_ringsOf_66 rfl rfl ?_
          refine xe_iload_n 1 dX10_ringsOf_67 rfl rfl ?_
          refine xe_iload 4 dX10_ringsOf_68 rfl ?_
          refine xe_iconst (v := nI (1)) dX10_ringsOf_70 xc1 ?_
          refine xn_isub dX10_ringsOf_71 (by omega) ?_
          refine xe_iconst (v := nI (1)) dX10_ringsOf_72 xc1 ?_
          refine xe_callV (As := [.int (nI (t)), .int (nI (ro - 1)), .int (nI (1))]) (rest := []) dX10_ringsOf_73 wX10_cell lX10_95 iX10_cell sX10_cell ⟨by decide, by decide⟩ sh172 rfl (xin_mm (by decide)) rfl rfl (by simp [Value.category]) (xC.pure (v := .int (d)) (qX10_cellV u t (ro - 1) 1 d (by omega) (by omega) (by omega) v5) ?_)
          refine xe_iload 6 dX10_ringsOf_76 rfl ?_
          refine xe_icmp_ne 84 dX10_ringsOf_78 (by decide) (fun c6 => ?_) (fun c6 => ?_)
          · refine xe_iconst (v := nI (0)) dX10_ringsOf_84 xc0 ?_
            refine xe_istore (L2 := [(0, .ref 172), (1, .int (nI (t))), (2, .int (w)), (3, .int (nI (m))), (4, .int (nI (ro))), (5, .int (a)), (6, .int (b)), (7, .int (nI (0)))]) dX10_ringsOf_85 (by decide) rfl ?_
            exact k6 c1 c3 c4 c5 c6
          · refine xe_goto 231 dX10_ringsOf_81 (by decide) ?_
            refine xn_iinc (c := 1) (L2 := [(0, .ref 172), (1, .int (nI (t))), (2, .int (w)), (3, .int (nI (m))), (4, .int (nI (ro + 1))), (5, .int (a)), (6, .int (b))]) 4 dX10_ringsOf_231 rfl (by decide) rfl ?_
            refine xe_goto 5 dX10_ringsOf_234 (by decide) ?_
            refine xE.sub [0, 1, 2, 3, 4] rfl ?_
            exact k7 c1 c3 c4 c5 c6

theorem gX10_ringsOf_e (u : xU) (t n cols : Nat) (ro m : Nat) (w : Int32) {Q : Option Value → xM → Prop} (ht : t < 8) (hcols : cols ≤ 3) (hn : n ≤ 40) (hm : m ≤ 1600) (hr : ro = n) (v1 : u.1 174 t = nI (n))
    (k1 : n ≤ ro → ¬ w = (-1) → Q (some (.int (-1))) (xmm u))
    (k2 : n ≤ ro → w = (-1) → Q (some (.int (nI (m)))) (xmm u))
    (k3 : ¬ n ≤ ro → 0 ≤ (cmpK (u.1 175 (120 * t + 3 * ro + 0)) (u.1 175 (120 * t + 3 * ro + 1))) → xE mX10_ringsOf 5 [(0, .ref 172), (1, .int (nI (t))), (2, .int (w)), (3, .int (nI (m))), (4, .int (nI (ro + 1)))] [] (xmm u) Q)
    (k4 : ¬ n ≤ ro → ¬ 0 ≤ (cmpK (u.1 175 (120 * t + 3 * ro + 0)) (u.1 175 (120 * t + 3 * ro + 1))) → ro ≤ 0 → xE mX10_ringsOf 87 [(0, .ref 172), (1, .int (nI (t))), (2, .int (w)), (3, .int (nI (m))), (4, .int (nI (ro))), (5, .int (u.1 175 (120 * t + 3 * ro + 0))), (6, .int (u.1 175 (120 * t + 3 * ro + 1))), (7, .int (nI (0)))] [] (xmm u) Q)
    (k5 : ¬ n ≤ ro → ¬ 0 ≤ (cmpK (u.1 175 (120 * t + 3 * ro + 0)) (u.1 175 (120 * t + 3 * ro + 1))) → ¬ ro ≤ 0 → ¬ (u.1 175 (120 * t + 3 * (ro - 1) + 0)) = (u.1 175 (120 * t + 3 * ro + 0)) → xE mX10_ringsOf 87 [(0, .ref 172), (1, .int (nI (t))), (2, .int (w)), (3, .int (nI (m))), (4, .int (nI (ro))), (5, .int (u.1 175 (120 * t + 3 * ro + 0))), (6, .int (u.1 175 (120 * t + 3 * ro + 1))), (7, .int (nI (0)))] [] (xmm u) Q)
    (k6 : ¬ n ≤ ro → ¬ 0 ≤ (cmpK (u.1 175 (120 * t + 3 * ro + 0)) (u.1 175 (120 * t + 3 * ro + 1))) → ¬ ro ≤ 0 → (u.1 175 (120 * t + 3 * (ro - 1) + 0)) = (u.1 175 (120 * t + 3 * ro + 0)) → ¬ (u.1 175 (120 * t + 3 * (ro - 1) + 1)) = (u.1 175 (120 * t + 3 * ro + 1)) → xE mX10_ringsOf 87 [(0, .ref 172), (1, .int (nI (t))), (2, .int (w)), (3, .int (nI (m))), (4, .int (nI (ro))), (5, .int (u.1 175 (120 * t + 3 * ro + 0))), (6, .int (u.1 175 (120 * t + 3 * ro + 1))), (7, .int (nI (0)))] [] (xmm u) Q)
    (k7 : ¬ n ≤ ro → ¬ 0 ≤ (cmpK (u.1 175 (120 * t + 3 * ro + 0)) (u.1 175 (120 * t + 3 * ro + 1))) → ¬ ro ≤ 0 → (u.1 175 (120 * t + 3 * (ro - 1) + 0)) = (u.1 175 (120 * t + 3 * ro + 0)) → (u.1 175 (120 * t + 3 * (ro - 1) + 1)) = (u.1 175 (120 * t + 3 * ro + 1)) → xE mX10_ringsOf 5 [(0, .ref 172), (1, .int (nI (t))), (2, .int (w)), (3, .int (nI (m))), (4, .int (nI (ro + 1)))] [] (xmm u) Q) : xE mX10_ringsOf 5 [(0, .ref 172), (1, .int (nI (t))), (2, .int (w)), (3, .int (nI (m))), (4, .int (nI (ro)))] [] (xmm u) Q := by
  refine xe_iload 4 dX10_ringsOf_5 rfl ?_
  refine xe_aload_n 0 dX10_ringsOf_7 rfl rfl ?_
  refine xr_getR (b := 174) dX10_ringsOf_8 fX10_13 rfl sh172 (by decide) rfl ?_
  refine xe_iload_n 1 dX10_ringsOf_11 rfl rfl ?_
  refine xr_iald (k := t) (v := nI (n)) dX10_ringsOf_12 sh174 (by decide) (by omega) (by decide) v1 ?_
  refine xn_icmp_ge 237 dX10_ringsOf_13 (by decide) (by omega) (by omega) (fun c1 => ?_) (fun c1 => ?_)
  · refine xe_iload_n 2 dX10_ringsOf_237 rfl rfl ?_
    refine xe_iconst (v := -1) dX10_ringsOf_238 xcm1 ?_
    refine xe_icmp_ne 246 dX10_ringsOf_239 (by decide) (fun c2 => ?_) (fun c2 => ?_)
    · refine xe_iconst (v := -1) dX10_ringsOf_246 xcm1 ?_
      exact xe_ret (r := (some (.int (-1)))) dX10_ringsOf_247 trivial (k1 c1 c2)
    · refine xe_iload_n 3 dX10_ringsOf_242 rfl rfl ?_
      refine xe_goto 247 dX10_ringsOf_243 (by decide) ?_
      exact xe_ret (r := (some (.int (nI (m))))) dX10_ringsOf_247 trivial (k2 c1 c2)
  · refine xe_aload_n 0 dX10_ringsOf_16 rfl rfl ?_
    refine xe_iload_n 1 dX10_ringsOf_17 rfl rfl ?_
    refine xe_iload 4 dX10_ringsOf_18 rfl ?_
    refine xe_iconst (v := nI (0)) dX10_ringsOf_20 xc0 ?_
    refine xe_callV (As := [.int (nI (t)), .int (nI (ro)), .int (nI (0))]) (rest := []) dX10_ringsOf_21 wX10_cell lX10_95 iX10_cell sX10_cell ⟨by decide, by decide⟩ sh172 rfl (xin_mm (by decide)) rfl rfl (by simp [Value.category]) (xC.pure (v := .int (u.1 175 (120 * t + 3 * ro + 0))) (qX10_cellV u t ro 0 (u.1 175 (120 * t + 3 * ro + 0)) (by omega) (by omega) (by omega) rfl) ?_)
    refine xe_istore (L2 := [(0, .ref 172), (1, .int (nI (t))), (2, .int (w)), (3, .int (nI (m))), (4, .int (nI (ro))), (5, .int (u.1 175 (120 * t + 3 * ro + 0)))]) dX10_ringsOf_24 (by decide) rfl ?_
    refine xe_aload_n 0 dX10_ringsOf_26 rfl rfl ?_
    refine xe_iload_n 1 dX10_ringsOf_27 rfl rfl ?_
    refine xe_iload 4 dX10_ringsOf_28 rfl ?_
    refine xe_iconst (v := nI (1)) dX10_ringsOf_30 xc1 ?_
    refine xe_callV (As := [.int (nI (t)), .int (nI (ro)), .int (nI (1))]) (rest := []) dX10_ringsOf_31 wX10_cell lX10_95 iX10_cell sX10_cell ⟨by decide, by decide⟩ sh172 rfl (xin_mm (by decide)) rfl rfl (by simp [Value.category]) (xC.pure (v := .int (u.1 175 (120 * t + 3 * ro + 1))) (qX10_cellV u t ro 1 (u.1 175 (120 * t + 3 * ro + 1)) (by omega) (by omega) (by omega) rfl) ?_)
    refine xe_istore (L2 := [(0, .ref 172), (1, .int (nI (t))), (2, .int (w)), (3, .int (nI (m))), (4, .int (nI (ro))), (5, .int (u.1 175 (120 * t + 3 * ro + 0))), (6, .int (u.1 175 (120 * t + 3 * ro + 1)))]) dX10_ringsOf_34 (by decide) rfl ?_
    refine xe_iload 5 dX10_ringsOf_36 rfl ?_
    refine xe_iload 6 dX10_ringsOf_38 rfl ?_
    refine xe_callS (As := [.int (u.1 175 (120 * t + 3 * ro + 0)), .int (u.1 175 (120 * t + 3 * ro + 1))]) (rest := []) dX10_ringsOf_40 wX10_rank lX10_99 tX10_rank ⟨by decide, by decide⟩ rfl rfl (by simp [Value.category]) (xC.pure (v := .int (cmpK (u.1 175 (120 * t + 3 * ro + 0)) (u.1 175 (120 * t + 3 * ro + 1)))) (qX10_rank u (u.1 175 (120 * t + 3 * ro + 0)) (u.1 175 (120 * t + 3 * ro + 1))) ?_)
    refine xe_if_ge 231 dX10_ringsOf_43 (by decide) (fun c3 => ?_) (fun c3 => ?_)
    · refine xn_iinc (c := 1) (L2 := [(0, .ref 172), (1, .int (nI (t))), (2, .int (w)), (3, .int (nI (m))), (4, .int (nI (ro + 1))), (5, .int (u.1 175 (120 * t + 3 * ro + 0))), (6, .int (u.1 175 (120 * t + 3 * ro + 1)))]) 4 dX10_ringsOf_231 rfl (by decide) rfl ?_
      refine xe_goto 5 dX10_ringsOf_234 (by decide) ?_
      refine xE.sub [0, 1, 2, 3, 4] rfl ?_
      exact k3 c1 c3
    · refine xe_iload 4 dX10_ringsOf_46 rfl ?_
      refine xn_if_le 84 dX10_ringsOf_48 (by decide) (by omega) (fun c4 => ?_) (fun c4 => ?_)
      · refine xe_iconst (v := nI (0)) dX10_ringsOf_84 xc0 ?_
        refine xe_istore (L2 := [(0, .ref 172), (1, .int (nI (t))), (2, .int (w)), (3, .int (nI (m))), (4, .int (nI (ro))), (5, .int (u.1 175 (120 * t + 3 * ro + 0))), (6, .int (u.1 175 (120 * t + 3 * ro + 1))), (7, .int (nI (0)))]) dX10_ringsOf_85 (by decide) rfl ?_
        exact k4 c1 c3 c4
      · refine xe_aload_n 0 dX10_ringsOf_51 rfl rfl ?_
        refine xe_iload_n 1 dX10_ringsOf_52 rfl rfl ?_
        refine xe_iload 4 dX10_ringsOf_53 rfl ?_
        refine xe_iconst (v := nI (1)) dX10_ringsOf_55 xc1 ?_
        refine xn_isub dX10_ringsOf_56 (by omega) ?_
        refine xe_iconst (v := nI (0)) dX10_ringsOf_57 xc0 ?_
        refine xe_callV (As := [.int (nI (t)), .int (nI (ro - 1)), .int (nI (0))]) (rest := []) dX10_ringsOf_58 wX10_cell lX10_95 iX10_cell sX10_cell ⟨by decide, by decide⟩ sh172 rfl (xin_mm (by decide)) rfl rfl (by simp [Value.category]) (xC.pure (v := .int (u.1 175 (120 * t + 3 * (ro - 1) + 0))) (qX10_cellV u t (ro - 1) 0 (u.1 175 (120 * t + 3 * (ro - 1) + 0)) (by omega) (by omega) (by omega) rfl) ?_)
        refine xe_iload 5 dX10_ringsOf_61 rfl ?_
        refine xe_icmp_ne 84 dX10_ringsOf_63 (by decide) (fun c5 => ?_) (fun c5 => ?_)
        · refine xe_iconst (v := nI (0)) dX10_ringsOf_84 xc0 ?_
          refine xe_istore (L2 := [(0, .ref 172), (1, .int (nI (t))), (2, .int (w)), (3, .int (nI (m))), (4, .int (nI (ro))), (5, .int (u.1 175 (120 * t + 3 * ro + 0))), (6, .int (u.1 175 (120 * t + 3 * ro + 1))), (7, .int (nI (0)))]) dX10_ringsOf_85 (by decide) rfl ?_
          exact k5 c1 c3 c4 c5
        · refine xe_aload_n 0 dX10_ringsOf_66 rfl rfl ?_
          refine xe_iload_n 1 dX10_ringsOf_67 rfl rfl ?_
          refine xe_iload 4 dX10_ringsOf_68 rfl ?_
          refine xe_iconst (v := nI (1)) dX10_ringsOf_70 xc1 ?_
          refine xn_isub dX10_ringsOf_71 (by omega) ?_
          refine xe_iconst (v := nI (1)) dX10_ringsOf_72 xc1 ?_
          refine xe_callV (As := [.int (nI (t)), .int (nI (ro - 1)), .int (nI (1))]) (rest := []) dX10_ringsOf_73 wX10_cell lX10_95 iX10_cell sX10_cell ⟨by decide, by decide⟩ sh172 rfl (xin_mm (by decide)) rfl rfl (by simp [Value.category]) (xC.pure (v := .int (u.1 175 (120 * t + 3 * (ro - 1) + 1))) (qX10_cellV u t (ro - 1) 1 (u.1 175 (120 * t + 3 * (ro - 1) + 1)) (by omega) (by omega) (by omega) rfl) ?_)
          refine xe_iload 6 dX10_ringsOf_76 rfl ?_
          refine xe_icmp_ne 84 dX10_ringsOf_78 (by decide) (fun c6 => ?_) (fun c6 => ?_)
          · refine xe_iconst (v := nI (0)) dX10_ringsOf_84 xc0 ?_
            refine xe_istore (L2 := [(0, .ref 172), (1, .int (nI (t))), (2, .int (w)), (3, .int (nI (m))), (4, .int (nI (ro))), (5, .int (u.1 175 (120 * t + 3 * ro + 0))), (6, .int (u.1 175 (120 * t + 3 * ro + 1))), (7, .int (nI (0)))]) dX10_ringsOf_85 (by decide) rfl ?_
            exact k6 c1 c3 c4 c5 c6
          · refine xe_goto 231 dX10_ringsOf_81 (by decide) ?_
            refine xn_iinc (c := 1) (L2 := [(0, .ref 172), (1, .int (nI (t))), (2, .int (w)), (3, .int (nI (m))), (4, .int (nI (ro + 1))), (5, .int (u.1 175 (120 * t + 3 * ro + 0))), (6, .int (u.1 175 (120 * t + 3 * ro + 1)))]) 4 dX10_ringsOf_231 rfl (by decide) rfl ?_
            refine xe_goto 5 dX10_ringsOf_234 (by decide) ?_
            refine xE.sub [0, 1, 2, 3, 4] rfl ?_
            exact k7 c1 c3 c4 c5 c6

theorem gX10_ringsOf_87 (u : xU) (t n cols : Nat) (ro m q : Nat) (w a b x y x1 y1 : Int32) (eh : Bool) {Q : Option Value → xM → Prop} (ht : t < 8) (hcols : cols ≤ 3) (hn : n ≤ 40) (hm : m ≤ 1600) (hq : q < n) (hbg : xC mX10_begins [.ref 172, .int (nI t), .int y, .int a] (xmm u) (fun r μ' => r = some (.int (xb (eh = true))) ∧ μ' = xmm u)) (v1 : u.1 174 t = nI (n)) (v2 : u.1 175 (120 * t + 3 * q + 0) = x) (v3 : u.1 175 (120 * t + 3 * q + 1) = y) (v4 : u.1 175 (120 * t + 3 * (q - 1) + 0) = x1) (v5 : u.1 175 (120 * t + 3 * (q - 1) + 1) = y1)
    (k1 : n ≤ q → xE mX10_ringsOf 5 [(0, .ref 172), (1, .int (nI (t))), (2, .int (w)), (3, .int (nI (m))), (4, .int (nI (ro + 1)))] [] (xmm u) Q)
    (k2 : ¬ n ≤ q → ¬ x = b → xE mX10_ringsOf 87 [(0, .ref 172), (1, .int (nI (t))), (2, .int (w)), (3, .int (nI (m))), (4, .int (nI (ro))), (5, .int (a)), (6, .int (b)), (7, .int (nI (q + 1)))] [] (xmm u) Q)
    (k3 : ¬ n ≤ q → x = b → q ≤ 0 → 0 ≤ (cmpK a y) → xE mX10_ringsOf 87 [(0, .ref 172), (1, .int (nI (t))), (2, .int (w)), (3, .int (nI (m))), (4, .int (nI (ro))), (5, .int (a)), (6, .int (b)), (7, .int (nI (q + 1)))] [] (xmm u) Q)
    (k4 : ¬ n ≤ q → x = b → q ≤ 0 → ¬ 0 ≤ (cmpK a y) → y = b → xE mX10_ringsOf 87 [(0, .ref 172), (1, .int (nI (t))), (2, .int (w)), (3, .int (nI (m))), (4, .int (nI (ro))), (5, .int (a)), (6, .int (b)), (7, .int (nI (q + 1)))] [] (xmm u) Q)
    (k5 : ¬ n ≤ q → x = b → q ≤ 0 → ¬ 0 ≤ (cmpK a y) → ¬ y = b → eh = true → ¬ (nI (m)) = w → xE mX10_ringsOf 87 [(0, .ref 172), (1, .int (nI (t))), (2, .int (w)), (3, .int (nI (m + 1))), (4, .int (nI (ro))), (5, .int (a)), (6, .int (b)), (7, .int (nI (q + 1)))] [] (xmm u) Q)
    (k6 : ¬ n ≤ q → x = b → q ≤ 0 → ¬ 0 ≤ (cmpK a y) → ¬ y = b → eh = true → (nI (m)) = w → Q (some (.int (nI (m)))) (xmm (wi (wi (wi u 195 0 (a)) 195 1 (b)) 195 2 (y))))
    (k7 : ¬ n ≤ q → x = b → q ≤ 0 → ¬ 0 ≤ (cmpK a y) → ¬ y = b → ¬ (eh = true) → xE mX10_ringsOf 87 [(0, .ref 172), (1, .int (nI (t))), (2, .int (w)), (3, .int (nI (m))), (4, .int (nI (ro))), (5, .int (a)), (6, .int (b)), (7, .int (nI (q + 1)))] [] (xmm u) Q)
    (k8 : ¬ n ≤ q → x = b → ¬ q ≤ 0 → ¬ x1 = b → 0 ≤ (cmpK a y) → xE mX10_ringsOf 87 [(0, .ref 172), (1, .int (nI (t))), (2, .int (w)), (3, .int (nI (m))), (4, .int (nI (ro))), (5, .int (a)), (6, .int (b)), (7, .int (nI (q + 1)))] [] (xmm u) Q)
    (k9 : ¬ n ≤ q → x = b → ¬ q ≤ 0 → ¬ x1 = b → ¬ 0 ≤ (cmpK a y) → y = b → xE mX10_ringsOf 87 [(0, .ref 172), (1, .int (nI (t))), (2, .int (w)), (3, .int (nI (m))), (4, .int (nI (ro))), (5, .int (a)), (6, .int (b)), (7, .int (nI (q + 1)))] [] (xmm u) Q)
    (k10 : ¬ n ≤ q → x = b → ¬ q ≤ 0 → ¬ x1 = b → ¬ 0 ≤ (cmpK a y) → ¬ y = b → eh = true → ¬ (nI (m)) = w → xE mX10_ringsOf 87 [(0, .ref 172), (1, .int (nI (t))), (2, .int (w)), (3, .int (nI (m + 1))), (4, .int (nI (ro))), (5, .int (a)), (6, .int (b)), (7, .int (nI (q + 1)))] [] (xmm u) Q)
    (k11 : ¬ n ≤ q → x = b → ¬ q ≤ 0 → ¬ x1 = b → ¬ 0 ≤ (cmpK a y) → ¬ y = b → eh = true → (nI (m)) = w → Q (some (.int (nI (m)))) (xmm (wi (wi (wi u 195 0 (a)) 195 1 (b)) 195 2 (y))))
    (k12 : ¬ n ≤ q → x = b → ¬ q ≤ 0 → ¬ x1 = b → ¬ 0 ≤ (cmpK a y) → ¬ y = b → ¬ (eh = true) → xE mX10_ringsOf 87 [(0, .ref 172), (1, .int (nI (t))), (2, .int (w)), (3, .int (nI (m))), (4, .int (nI (ro))), (5, .int (a)), (6, .int (b)), (7, .int (nI (q + 1)))] [] (xmm u) Q)
    (k13 : ¬ n ≤ q → x = b → ¬ q ≤ 0 → x1 = b → ¬ y1 = y → 0 ≤ (cmpK a y) → xE mX10_ringsOf 87 [(0, .ref 172), (1, .int (nI (t))), (2, .int (w)), (3, .int (nI (m))), (4, .int (nI (ro))), (5, .int (a)), (6, .int (b)), (7, .int (nI (q + 1)))] [] (xmm u) Q)
    (k14 : ¬ n ≤ q → x = b → ¬ q ≤ 0 → x1 = b → ¬ y1 = y → ¬ 0 ≤ (cmpK a y) → y = b → xE mX10_ringsOf 87 [(0, .ref 172), (1, .int (nI (t))), (2, .int (w)), (3, .int (nI (m))), (4, .int (nI (ro))), (5, .int (a)), (6, .int (b)), (7, .int (nI (q + 1)))] [] (xmm u) Q)
    (k15 : ¬ n ≤ q → x = b → ¬ q ≤ 0 → x1 = b → ¬ y1 = y → ¬ 0 ≤ (cmpK a y) → ¬ y = b → eh = true → ¬ (nI (m)) = w → xE mX10_ringsOf 87 [(0, .ref 172), (1, .int (nI (t))), (2, .int (w)), (3, .int (nI (m + 1))), (4, .int (nI (ro))), (5, .int (a)), (6, .int (b)), (7, .int (nI (q + 1)))] [] (xmm u) Q)
    (k16 : ¬ n ≤ q → x = b → ¬ q ≤ 0 → x1 = b → ¬ y1 = y → ¬ 0 ≤ (cmpK a y) → ¬ y = b → eh = true → (nI (m)) = w → Q (some (.int (nI (m)))) (xmm (wi (wi (wi u 195 0 (a)) 195 1 (b)) 195 2 (y))))
    (k17 : ¬ n ≤ q → x = b → ¬ q ≤ 0 → x1 = b → ¬ y1 = y → ¬ 0 ≤ (cmpK a y) → ¬ y = b → ¬ (eh = true) → xE mX10_ringsOf 87 [(0, .ref 172), (1, .int (nI (t))), (2, .int (w)), (3, .int (nI (m))), (4, .int (nI (ro))), (5, .int (a)), (6, .int (b)), (7, .int (nI (q + 1)))] [] (xmm u) Q)
    (k18 : ¬ n ≤ q → x = b → ¬ q ≤ 0 → x1 = b → y1 = y → xE mX10_ringsOf 87 [(0, .ref 172), (1, .int (nI (t))), (2, .int (w)), (3, .int (nI (m))), (4, .int (nI (ro))), (5, .int (a)), (6, .int (b)), (7, .int (nI (q + 1)))] [] (xmm u) Q) : xE mX10_ringsOf 87 [(0, .ref 172), (1, .int (nI (t))), (2, .int (w)), (3, .int (nI (m))), (4, .int (nI (ro))), (5, .int (a)), (6, .int (b)), (7, .int (nI (q)))] [] (xmm u) Q := by
  refine xe_iload 7 dX10_ringsOf_87 rfl ?_
  refine xe_aload_n 0 dX10_ringsOf_89 rfl rfl ?_
  refine xr_getR (b := 174) dX10_ringsOf_90 fX10_13 rfl sh172 (by decide) rfl ?_
  refine xe_iload_n 1 dX10_ringsOf_93 rfl rfl ?_
  refine xr_iald (k := t) (v := nI (n)) dX10_ringsOf_94 sh174 (by decide) (by omega) (by decide) v1 ?_
  refine xn_icmp_ge 231 dX10_ringsOf_95 (by decide) (by omega) (by omega) (fun c1 => ?_) (fun c1 => ?_)
  · refine xn_iinc (c := 1) (L2 := [(0, .ref 172), (1, .int (nI (t))), (2, .int (w)), (3, .int (nI (m))), (4, .int (nI (ro + 1))), (5, .int (a)), (6, .int (b)), (7, .int (nI (q)))]) 4 dX10_ringsOf_231 rfl (by decide) rfl ?_
    refine xe_goto 5 dX10_ringsOf_234 (by decide) ?_
    refine xE.sub [0, 1, 2, 3, 4] rfl ?_
    exact k1 c1
  · refine xe_aload_n 0 dX10_ringsOf_98 rfl rfl ?_
    refine xe_iload_n 1 dX10_ringsOf_99 rfl rfl ?_
    refine xe_iload 7 dX10_ringsOf_100 rfl ?_
    refine xe_iconst (v := nI (1)) dX10_ringsOf_102 xc1 ?_
    refine xe_callV (As := [.int (nI (t)), .int (nI (q)), .int (nI (1))]) (rest := []) dX10_ringsOf_103 wX10_cell lX10_95 iX10_cell sX10_cell ⟨by decide, by decide⟩ sh172 rfl (xin_mm (by decide)) rfl rfl (by simp [Value.category]) (xC.pure (v := .int (y)) (qX10_cellV u t q 1 y (by omega) (by omega) (by omega) v3) ?_)
    refine xe_istore (L2 := [(0, .ref 172), (1, .int (nI (t))), (2, .int (w)), (3, .int (nI (m))), (4, .int (nI (ro))), (5, .int (a)), (6, .int (b)), (7, .int (nI (q))), (8, .int (y))]) dX10_ringsOf_106 (by decide) rfl ?_
    refine xe_aload_n 0 dX10_ringsOf_108 rfl rfl ?_
    refine xe_iload_n 1 dX10_ringsOf_109 rfl rfl ?_
    refine xe_iload 7 dX10_ringsOf_110 rfl ?_
    refine xe_iconst (v := nI (0)) dX10_ringsOf_112 xc0 ?_
    refine xe_callV (As := [.int (nI (t)), .int (nI (q)), .int (nI (0))]) (rest := []) dX10_ringsOf_113 wX10_cell lX10_95 iX10_cell sX10_cell ⟨by decide, by decide⟩ sh172 rfl (xin_mm (by decide)) rfl rfl (by simp [Value.category]) (xC.pure (v := .int (x)) (qX10_cellV u t q 0 x (by omega) (by omega) (by omega) v2) ?_)
    refine xe_iload 6 dX10_ringsOf_116 rfl ?_
    refine xe_icmp_ne 225 dX10_ringsOf_118 (by decide) (fun c2 => ?_) (fun c2 => ?_)
    · refine xn_iinc (c := 1) (L2 := [(0, .ref 172), (1, .int (nI (t))), (2, .int (w)), (3, .int (nI (m))), (4, .int (nI (ro))), (5, .int (a)), (6, .int (b)), (7, .int (nI (q + 1))), (8, .int (y))]) 7 dX10_ringsOf_225 rfl (by decide) rfl ?_
      refine xe_goto 87 dX10_ringsOf_228 (by decide) ?_
      refine xE.sub [0, 1, 2, 3, 4, 5, 6, 7] rfl ?_
      exact k2 c1 c2
    · refine xe_iload 7 dX10_ringsOf_121 rfl ?_
      refine xn_if_le 159 dX10_ringsOf_123 (by decide) (by omega) (fun c3 => ?_) (fun c3 => ?_)
      · refine xe_iload 5 dX10_ringsOf_159 rfl ?_
        refine xe_iload 8 dX10_ringsOf_161 rfl ?_
        refine xe_callS (As := [.int (a), .int (y)]) (rest := []) dX10_ringsOf_163 wX10_rank lX10_99 tX10_rank ⟨by decide, by decide⟩ rfl rfl (by simp [Value.category]) (xC.pure (v := .int (cmpK a y)) (qX10_rank u a y) ?_)
        refine xe_if_ge 225 dX10_ringsOf_166 (by decide) (fun c4 => ?_) (fun c4 => ?_)
        · refine xn_iinc (c := 1) (L2 := [(0, .ref 172), (1, .int (nI (t))), (2, .int (w)), (3, .int (nI (m))), (4, .int (nI (ro))), (5, .int (a)), (6, .int (b)), (7, .int (nI (q + 1))), (8, .int (y))]) 7 dX10_ringsOf_225 rfl (by decide) rfl ?_
          refine xe_goto 87 dX10_ringsOf_228 (by decide) ?_
          refine xE.sub [0, 1, 2, 3, 4, 5, 6, 7] rfl ?_
          exact k3 c1 c2 c3 c4
        · refine xe_iload 8 dX10_ringsOf_169 rfl ?_
          refine xe_iload 6 dX10_ringsOf_171 rfl ?_
          refine xe_icmp_eq 225 dX10_ringsOf_173 (by decide) (fun c5 => ?_) (fun c5 => ?_)
          · refine xn_iinc (c := 1) (L2 := [(0, .ref 172), (1, .int (nI (t))), (2, .int (w)), (3, .int (nI (m))), (4, .int (nI (ro))), (5, .int (a)), (6, .int (b)), (7, .int (nI (q + 1))), (8, .int (y))]) 7 dX10_ringsOf_225 rfl (by decide) rfl ?_
            refine xe_goto 87 dX10_ringsOf_228 (by decide) ?_
            refine xE.sub [0, 1, 2, 3, 4, 5, 6, 7] rfl ?_
            exact k4 c1 c2 c3 c4 c5
          · refine xe_aload_n 0 dX10_ringsOf_176 rfl rfl ?_
            refine xe_iload_n 1 dX10_ringsOf_177 rfl rfl ?_
            refine xe_iload 8 dX10_ringsOf_178 rfl ?_
            refine xe_iload 5 dX10_ringsOf_180 rfl ?_
            refine xe_callV (As := [.int (nI (t)), .int (y), .int (a)]) (rest := []) dX10_ringsOf_182 wX10_begins lX10_216 iX10_begins sX10_begins ⟨by decide, by decide⟩ sh172 rfl (xin_mm (by decide)) rfl rfl (by simp [Value.category]) (xC.pure (v := .int (xb (eh = true))) (hbg) ?_)
            refine xb_if_ne 191 dX10_ringsOf_185 (by decide) (fun c6 => ?_) (fun c6 => ?_)
            · refine xe_iload_n 3 dX10_ringsOf_191 rfl rfl ?_
              refine xe_iload_n 2 dX10_ringsOf_192 rfl rfl ?_
              refine xe_icmp_ne 222 dX10_ringsOf_193 (by decide) (fun c7 => ?_) (fun c7 => ?_)
              · refine xn_iinc (c := 1) (L2 := [(0, .ref 172), (1, .int (nI (t))), (2, .int (w)), (3, .int (nI (m + 1))), (4, .int (nI (ro))), (5, .int (a)), (6, .int (b)), (7, .int (nI (q))), (8, .int (y))]) 3 dX10_ringsOf_222 rfl (by decide) rfl ?_
                refine xn_iinc (c := 1) (L2 := [(0, .ref 172), (1, .int (nI (t))), (2, .int (w)), (3, .int (nI (m + 1))), (4, .int (nI (ro))), (5, .int (a)), (6, .int (b)), (7, .int (nI (q + 1))), (8, .int (y))]) 7 dX10_ringsOf_225 rfl (by decide) rfl ?_
                refine xe_goto 87 dX10_ringsOf_228 (by decide) ?_
                refine xE.sub [0, 1, 2, 3, 4, 5, 6, 7] rfl ?_
                exact k5 c1 c2 c3 c4 c5 c6 c7
              · refine xe_aload_n 0 dX10_ringsOf_196 rfl rfl ?_
                refine xr_getR (b := 195) dX10_ringsOf_197 fX10_84 rfl sh172 (by decide) rfl ?_
                refine xe_iconst (v := nI (0)) dX10_ringsOf_200 xc0 ?_
                refine xe_iload 5 dX10_ringsOf_201 rfl ?_
                refine xr_iast (k := 0) dX10_ringsOf_203 sh195 (by decide) (by omega) (by decide) ?_
                refine xe_aload_n 0 dX10_ringsOf_204 rfl rfl ?_
                refine xr_getR (b := 195) dX10_ringsOf_205 fX10_84 rfl sh172 (by decide) rfl ?_
                refine xe_iconst (v := nI (1)) dX10_ringsOf_208 xc1 ?_
                refine xe_iload 6 dX10_ringsOf_209 rfl ?_
                refine xr_iast (k := 1) dX10_ringsOf_211 sh195 (by decide) (by omega) (by decide) ?_
                refine xe_aload_n 0 dX10_ringsOf_212 rfl rfl ?_
                refine xr_getR (b := 195) dX10_ringsOf_213 fX10_84 rfl sh172 (by decide) rfl ?_
                refine xe_iconst (v := nI (2)) dX10_ringsOf_216 xc2 ?_
                refine xe_iload 8 dX10_ringsOf_217 rfl ?_
                refine xr_iast (k := 2) dX10_ringsOf_219 sh195 (by decide) (by omega) (by decide) ?_
                refine xe_iload_n 3 dX10_ringsOf_220 rfl rfl ?_
                exact xe_ret (r := (some (.int (nI (m))))) dX10_ringsOf_221 trivial (k6 c1 c2 c3 c4 c5 c6 c7)
            · refine xe_goto 225 dX10_ringsOf_188 (by decide) ?_
              refine xn_iinc (c := 1) (L2 := [(0, .ref 172), (1, .int (nI (t))), (2, .int (w)), (3, .int (nI (m))), (4, .int (nI (ro))), (5, .int (a)), (6, .int (b)), (7, .int (nI (q + 1))), (8, .int (y))]) 7 dX10_ringsOf_225 rfl (by decide) rfl ?_
              refine xe_goto 87 dX10_ringsOf_228 (by decide) ?_
              refine xE.sub [0, 1, 2, 3, 4, 5, 6, 7] rfl ?_
              exact k7 c1 c2 c3 c4 c5 c6
      · refine xe_aload_n 0 dX10_ringsOf_126 rfl rfl ?_
        refine xe_iload_n 1 dX10_ringsOf_127 rfl rfl ?_
        refine xe_iload 7 dX10_ringsOf_128 rfl ?_
        refine xe_iconst (v := nI (1)) dX10_ringsOf_130 xc1 ?_
        refine xn_isub dX10_ringsOf_131 (by omega) ?_
        refine xe_iconst (v := nI (0)) dX10_ringsOf_132 xc0 ?_
        refine xe_callV (As := [.int (nI (t)), .int (nI (q - 1)), .int (nI (0))]) (rest := []) dX10_ringsOf_133 wX10_cell lX10_95 iX10_cell sX10_cell ⟨by decide, by decide⟩ sh172 rfl (xin_mm (by decide)) rfl rfl (by simp [Value.category]) (xC.pure (v := .int (x1)) (qX10_cellV u t (q - 1) 0 x1 (by omega) (by omega) (by omega) v4) ?_)
        refine xe_iload 6 dX10_ringsOf_136 rfl ?_
        refine xe_icmp_ne 159 dX10_ringsOf_138 (by decide) (fun c8 => ?_) (fun c8 => ?_)
        · refine xe_iload 5 dX10_ringsOf_159 rfl ?_
          refine xe_iload 8 dX10_ringsOf_161 rfl ?_
          refine xe_callS (As := [.int (a), .int (y)]) (rest := []) dX10_ringsOf_163 wX10_rank lX10_99 tX10_rank ⟨by decide, by decide⟩ rfl rfl (by simp [Value.category]) (xC.pure (v := .int (cmpK a y)) (qX10_rank u a y) ?_)
          refine xe_if_ge 225 dX10_ringsOf_166 (by decide) (fun c9 => ?_) (fun c9 => ?_)
          · refine xn_iinc (c := 1) (L2 := [(0, .ref 172), (1, .int (nI (t))), (2, .int (w)), (3, .int (nI (m))), (4, .int (nI (ro))), (5, .int (a)), (6, .int (b)), (7, .int (nI (q + 1))), (8, .int (y))]) 7 dX10_ringsOf_225 rfl (by decide) rfl ?_
            refine xe_goto 87 dX10_ringsOf_228 (by decide) ?_
            refine xE.sub [0, 1, 2, 3, 4, 5, 6, 7] rfl ?_
            exact k8 c1 c2 c3 c8 c9
          · refine xe_iload 8 dX10_ringsOf_169 rfl ?_
            refine xe_iload 6 dX10_ringsOf_171 rfl ?_
            refine xe_icmp_eq 225 dX10_ringsOf_173 (by decide) (fun c10 => ?_) (fun c10 => ?_)
            · refine xn_iinc (c := 1) (L2 := [(0, .ref 172), (1, .int (nI (t))), (2, .int (w)), (3, .int (nI (m))), (4, .int (nI (ro))), (5, .int (a)), (6, .int (b)), (7, .int (nI (q + 1))), (8, .int (y))]) 7 dX10_ringsOf_225 rfl (by decide) rfl ?_
              refine xe_goto 87 dX10_ringsOf_228 (by decide) ?_
              refine xE.sub [0, 1, 2, 3, 4, 5, 6, 7] rfl ?_
              exact k9 c1 c2 c3 c8 c9 c10
            · refine xe_aload_n 0 dX10_ringsOf_176 rfl rfl ?_
              refine xe_iload_n 1 dX10_ringsOf_177 rfl rfl ?_
              refine xe_iload 8 dX10_ringsOf_178 rfl ?_
              refine xe_iload 5 dX10_ringsOf_180 rfl ?_
              refine xe_callV (As := [.int (nI (t)), .int (y), .int (a)]) (rest := []) dX10_ringsOf_182 wX10_begins lX10_216 iX10_begins sX10_begins ⟨by decide, by decide⟩ sh172 rfl (xin_mm (by decide)) rfl rfl (by simp [Value.category]) (xC.pure (v := .int (xb (eh = true))) (hbg) ?_)
              refine xb_if_ne 191 dX10_ringsOf_185 (by decide) (fun c11 => ?_) (fun c11 => ?_)
              · refine xe_iload_n 3 dX10_ringsOf_191 rfl rfl ?_
                refine xe_iload_n 2 dX10_ringsOf_192 rfl rfl ?_
                refine xe_icmp_ne 222 dX10_ringsOf_193 (by decide) (fun c12 => ?_) (fun c12 => ?_)
                · refine xn_iinc (c := 1) (L2 := [(0, .ref 172), (1, .int (nI (t))), (2, .int (w)), (3, .int (nI (m + 1))), (4, .int (nI (ro))), (5, .int (a)), (6, .int (b)), (7, .int (nI (q))), (8, .int (y))]) 3 dX10_ringsOf_222 rfl (by decide) rfl ?_
                  refine xn_iinc (c := 1) (L2 := [(0, .ref 172), (1, .int (nI (t))), (2, .int (w)), (3, .int (nI (m + 1))), (4, .int (nI (ro))), (5, .int (a)), (6, .int (b)), (7, .int (nI (q + 1))), (8, .int (y))]) 7 dX10_ringsOf_225 rfl (by decide) rfl ?_
                  refine xe_goto 87 dX10_ringsOf_228 (by decide) ?_
                  refine xE.sub [0, 1, 2, 3, 4, 5, 6, 7] rfl ?_
                  exact k10 c1 c2 c3 c8 c9 c10 c11 c12
                · refine xe_aload_n 0 dX10_ringsOf_196 rfl rfl ?_
                  refine xr_getR (b := 195) dX10_ringsOf_197 fX10_84 rfl sh172 (by decide) rfl ?_
                  refine xe_iconst (v := nI (0)) dX10_ringsOf_200 xc0 ?_
                  refine xe_iload 5 dX10_ringsOf_201 rfl ?_
                  refine xr_iast (k := 0) dX10_ringsOf_203 sh195 (by decide) (by omega) (by decide) ?_
                  refine xe_aload_n 0 dX10_ringsOf_204 rfl rfl ?_
                  refine xr_getR (b := 195) dX10_ringsOf_205 fX10_84 rfl sh172 (by decide) rfl ?_
                  refine xe_iconst (v := nI (1)) dX10_ringsOf_208 xc1 ?_
                  refine xe_iload 6 dX10_ringsOf_209 rfl ?_
                  refine xr_iast (k := 1) dX10_ringsOf_211 sh195 (by decide) (by omega) (by decide) ?_
                  refine xe_aload_n 0 dX10_ringsOf_212 rfl rfl ?_
                  refine xr_getR (b := 195) dX10_ringsOf_213 fX10_84 rfl sh172 (by decide) rfl ?_
                  refine xe_iconst (v := nI (2)) dX10_ringsOf_216 xc2 ?_
                  refine xe_iload 8 dX10_ringsOf_217 rfl ?_
                  refine xr_iast (k := 2) dX10_ringsOf_219 sh195 (by decide) (by omega) (by decide) ?_
                  refine xe_iload_n 3 dX10_ringsOf_220 rfl rfl ?_
                  exact xe_ret (r := (some (.int (nI (m))))) dX10_ringsOf_221 trivial (k11 c1 c2 c3 c8 c9 c10 c11 c12)
              · refine xe_goto 225 dX10_ringsOf_188 (by decide) ?_
                refine xn_iinc (c := 1) (L2 := [(0, .ref 172), (1, .int (nI (t))), (2, .int (w)), (3, .int (nI (m))), (4, .int (nI (ro))), (5, .int (a)), (6, .int (b)), (7, .int (nI (q + 1))), (8, .int (y))]) 7 dX10_ringsOf_225 rfl (by decide) rfl ?_
                refine xe_goto 87 dX10_ringsOf_228 (by decide) ?_
                refine xE.sub [0, 1, 2, 3, 4, 5, 6, 7] rfl ?_
                exact k12 c1 c2 c3 c8 c9 c10 c11
        · refine xe_aload_n 0 dX10_ringsOf_141 rfl rfl ?_
          refine xe_iload_n 1 dX10_ringsOf_142 rfl rfl ?_
          refine xe_iload 7 dX10_ringsOf_143 rfl ?_
          refine xe_iconst (v := nI (1)) dX10_ringsOf_145 xc1 ?_
          refine xn_isub dX10_ringsOf_146 (by omega) ?_
          refine xe_iconst (v := nI (1)) dX10_ringsOf_147 xc1 ?_
          refine xe_callV (As := [.int (nI (t)), .int (nI (q - 1)), .int (nI (1))]) (rest := []) dX10_ringsOf_148 wX10_cell lX10_95 iX10_cell sX10_cell ⟨by decide, by decide⟩ sh172 rfl (xin_mm (by decide)) rfl rfl (by simp [Value.category]) (xC.pure (v := .int (y1)) (qX10_cellV u t (q - 1) 1 y1 (by omega) (by omega) (by omega) v5) ?_)
          refine xe_iload 8 dX10_ringsOf_151 rfl ?_
          refine xe_icmp_ne 159 dX10_ringsOf_153 (by decide) (fun c13 => ?_) (fun c13 => ?_)
          · refine xe_iload 5 dX10_ringsOf_159 rfl ?_
            refine xe_iload 8 dX10_ringsOf_161 rfl ?_
            refine xe_callS (As := [.int (a), .int (y)]) (rest := []) dX10_ringsOf_163 wX10_rank lX10_99 tX10_rank ⟨by decide, by decide⟩ rfl rfl (by simp [Value.category]) (xC.pure (v := .int (cmpK a y)) (qX10_rank u a y) ?_)
            refine xe_if_ge 225 dX10_ringsOf_166 (by decide) (fun c14 => ?_) (fun c14 => ?_)
            · refine xn_iinc (c := 1) (L2 := [(0, .ref 172), (1, .int (nI (t))), (2, .int (w)), (3, .int (nI (m))), (4, .int (nI (ro))), (5, .int (a)), (6, .int (b)), (7, .int (nI (q + 1))), (8, .int (y))]) 7 dX10_ringsOf_225 rfl (by decide) rfl ?_
              refine xe_goto 87 dX10_ringsOf_228 (by decide) ?_
              refine xE.sub [0, 1, 2, 3, 4, 5, 6, 7] rfl ?_
              exact k13 c1 c2 c3 c8 c13 c14
            · refine xe_iload 8 dX10_ringsOf_169 rfl ?_
              refine xe_iload 6 dX10_ringsOf_171 rfl ?_
              refine xe_icmp_eq 225 dX10_ringsOf_173 (by decide) (fun c15 => ?_) (fun c15 => ?_)
              · refine xn_iinc (c := 1) (L2 := [(0, .ref 172), (1, .int (nI (t))), (2, .int (w)), (3, .int (nI (m))), (4, .int (nI (ro))), (5, .int (a)), (6, .int (b)), (7, .int (nI (q + 1))), (8, .int (y))]) 7 dX10_ringsOf_225 rfl (by decide) rfl ?_
                refine xe_goto 87 dX10_ringsOf_228 (by decide) ?_
                refine xE.sub [0, 1, 2, 3, 4, 5, 6, 7] rfl ?_
                exact k14 c1 c2 c3 c8 c13 c14 c15
              · refine xe_aload_n 0 dX10_ringsOf_176 rfl rfl ?_
                refine xe_iload_n 1 dX10_ringsOf_177 rfl rfl ?_
                refine xe_iload 8 dX10_ringsOf_178 rfl ?_
                refine xe_iload 5 dX10_ringsOf_180 rfl ?_
                refine xe_callV (As := [.int (nI (t)), .int (y), .int (a)]) (rest := []) dX10_ringsOf_182 wX10_begins lX10_216 iX10_begins sX10_begins ⟨by decide, by decide⟩ sh172 rfl (xin_mm (by decide)) rfl rfl (by simp [Value.category]) (xC.pure (v := .int (xb (eh = true))) (hbg) ?_)
                refine xb_if_ne 191 dX10_ringsOf_185 (by decide) (fun c16 => ?_) (fun c16 => ?_)
                · refine xe_iload_n 3 dX10_ringsOf_191 rfl rfl ?_
                  refine xe_iload_n 2 dX10_ringsOf_192 rfl rfl ?_
                  refine xe_icmp_ne 222 dX10_ringsOf_193 (by decide) (fun c17 => ?_) (fun c17 => ?_)
                  · refine xn_iinc (c := 1) (L2 := [(0, .ref 172), (1, .int (nI (t))), (2, .int (w)), (3, .int (nI (m + 1))), (4, .int (nI (ro))), (5, .int (a)), (6, .int (b)), (7, .int (nI (q))), (8, .int (y))]) 3 dX10_ringsOf_222 rfl (by decide) rfl ?_
                    refine xn_iinc (c := 1) (L2 := [(0, .ref 172), (1, .int (nI (t))), (2, .int (w)), (3, .int (nI (m + 1))), (4, .int (nI (ro))), (5, .int (a)), (6, .int (b)), (7, .int (nI (q + 1))), (8, .int (y))]) 7 dX10_ringsOf_225 rfl (by decide) rfl ?_
                    refine xe_goto 87 dX10_ringsOf_228 (by decide) ?_
                    refine xE.sub [0, 1, 2, 3, 4, 5, 6, 7] rfl ?_
                    exact k15 c1 c2 c3 c8 c13 c14 c15 c16 c17
                  · refine xe_aload_n 0 dX10_ringsOf_196 rfl rfl ?_
                    refine xr_getR (b := 195) dX10_ringsOf_197 fX10_84 rfl sh172 (by decide) rfl ?_
                    refine xe_iconst (v := nI (0)) dX10_ringsOf_200 xc0 ?_
                    refine xe_iload 5 dX10_ringsOf_201 rfl ?_
                    refine xr_iast (k := 0) dX10_ringsOf_203 sh195 (by decide) (by omega) (by decide) ?_
                    refine xe_aload_n 0 dX10_ringsOf_204 rfl rfl ?_
                    refine xr_getR (b := 195) dX10_ringsOf_205 fX10_84 rfl sh172 (by decide) rfl ?_
                    refine xe_iconst (v := nI (1)) dX10_ringsOf_208 xc1 ?_
                    refine xe_iload 6 dX10_ringsOf_209 rfl ?_
                    refine xr_iast (k := 1) dX10_ringsOf_211 sh195 (by decide) (by omega) (by decide) ?_
                    refine xe_aload_n 0 dX10_ringsOf_212 rfl rfl ?_
                    refine xr_getR (b := 195) dX10_ringsOf_213 fX10_84 rfl sh172 (by decide) rfl ?_
                    refine xe_iconst (v := nI (2)) dX10_ringsOf_216 xc2 ?_
                    refine xe_iload 8 dX10_ringsOf_217 rfl ?_
                    refine xr_iast (k := 2) dX10_ringsOf_219 sh195 (by decide) (by omega) (by decide) ?_
                    refine xe_iload_n 3 dX10_ringsOf_220 rfl rfl ?_
                    exact xe_ret (r := (some (.int (nI (m))))) dX10_ringsOf_221 trivial (k16 c1 c2 c3 c8 c13 c14 c15 c16 c17)
                · refine xe_goto 225 dX10_ringsOf_188 (by decide) ?_
                  refine xn_iinc (c := 1) (L2 := [(0, .ref 172), (1, .int (nI (t))), (2, .int (w)), (3, .int (nI (m))), (4, .int (nI (ro))), (5, .int (a)), (6, .int (b)), (7, .int (nI (q + 1))), (8, .int (y))]) 7 dX10_ringsOf_225 rfl (by decide) rfl ?_
                  refine xe_goto 87 dX10_ringsOf_228 (by decide) ?_
                  refine xE.sub [0, 1, 2, 3, 4, 5, 6, 7] rfl ?_
                  exact k17 c1 c2 c3 c8 c13 c14 c15 c16
          · refine xe_goto 225 dX10_ringsOf_156 (by decide) ?_
            refine xn_iinc (c := 1) (L2 := [(0, .ref 172), (1, .int (nI (t))), (2, .int (w)), (3, .int (nI (m))), (4, .int (nI (ro))), (5, .int (a)), (6, .int (b)), (7, .int (nI (q + 1))), (8, .int (y))]) 7 dX10_ringsOf_225 rfl (by decide) rfl ?_
            refine xe_goto 87 dX10_ringsOf_228 (by decide) ?_
            refine xE.sub [0, 1, 2, 3, 4, 5, 6, 7] rfl ?_
            exact k18 c1 c2 c3 c8 c13

theorem gX10_ringsOf_f (u : xU) (t n cols : Nat) (ro m q : Nat) (w a b : Int32) {Q : Option Value → xM → Prop} (ht : t < 8) (hcols : cols ≤ 3) (hn : n ≤ 40) (hm : m ≤ 1600) (hq : q = n) (v1 : u.1 174 t = nI (n))
    (k1 : n ≤ q → xE mX10_ringsOf 5 [(0, .ref 172), (1, .int (nI (t))), (2, .int (w)), (3, .int (nI (m))), (4, .int (nI (ro + 1)))] [] (xmm u) Q)
    (k2 : ¬ n ≤ q → ¬ (u.1 175 (120 * t + 3 * q + 0)) = b → xE mX10_ringsOf 87 [(0, .ref 172), (1, .int (nI (t))), (2, .int (w)), (3, .int (nI (m))), (4, .int (nI (ro))), (5, .int (a)), (6, .int (b)), (7, .int (nI (q + 1)))] [] (xmm u) Q)
    (k3 : ¬ n ≤ q → (u.1 175 (120 * t + 3 * q + 0)) = b → q ≤ 0 → 0 ≤ (cmpK a (u.1 175 (120 * t + 3 * q + 1))) → xE mX10_ringsOf 87 [(0, .ref 172), (1, .int (nI (t))), (2, .int (w)), (3, .int (nI (m))), (4, .int (nI (ro))), (5, .int (a)), (6, .int (b)), (7, .int (nI (q + 1)))] [] (xmm u) Q)
    (k4 : ¬ n ≤ q → (u.1 175 (120 * t + 3 * q + 0)) = b → q ≤ 0 → ¬ 0 ≤ (cmpK a (u.1 175 (120 * t + 3 * q + 1))) → (u.1 175 (120 * t + 3 * q + 1)) = b → xE mX10_ringsOf 87 [(0, .ref 172), (1, .int (nI (t))), (2, .int (w)), (3, .int (nI (m))), (4, .int (nI (ro))), (5, .int (a)), (6, .int (b)), (7, .int (nI (q + 1)))] [] (xmm u) Q)
    (k5 : ¬ n ≤ q → (u.1 175 (120 * t + 3 * q + 0)) = b → q ≤ 0 → ¬ 0 ≤ (cmpK a (u.1 175 (120 * t + 3 * q + 1))) → ¬ (u.1 175 (120 * t + 3 * q + 1)) = b → xC mX10_begins [.ref 172, .int (nI (t)), .int (u.1 175 (120 * t + 3 * q + 1)), .int (a)] (xmm u) (fun r μ1 => xE mX10_ringsOf 185 [(0, .ref 172), (1, .int (nI (t))), (2, .int (w)), (3, .int (nI (m))), (4, .int (nI (ro))), (5, .int (a)), (6, .int (b)), (7, .int (nI (q))), (8, .int (u.1 175 (120 * t + 3 * q + 1)))] (r.toList ++ []) μ1 Q))
    (k6 : ¬ n ≤ q → (u.1 175 (120 * t + 3 * q + 0)) = b → ¬ q ≤ 0 → ¬ (u.1 175 (120 * t + 3 * (q - 1) + 0)) = b → 0 ≤ (cmpK a (u.1 175 (120 * t + 3 * q + 1))) → xE mX10_ringsOf 87 [(0, .ref 172), (1, .int (nI (t))), (2, .int (w)), (3, .int (nI (m))), (4, .int (nI (ro))), (5, .int (a)), (6, .int (b)), (7, .int (nI (q + 1)))] [] (xmm u) Q)
    (k7 : ¬ n ≤ q → (u.1 175 (120 * t + 3 * q + 0)) = b → ¬ q ≤ 0 → ¬ (u.1 175 (120 * t + 3 * (q - 1) + 0)) = b → ¬ 0 ≤ (cmpK a (u.1 175 (120 * t + 3 * q + 1))) → (u.1 175 (120 * t + 3 * q + 1)) = b → xE mX10_ringsOf 87 [(0, .ref 172), (1, .int (nI (t))), (2, .int (w)), (3, .int (nI (m))), (4, .int (nI (ro))), (5, .int (a)), (6, .int (b)), (7, .int (nI (q + 1)))] [] (xmm u) Q)
    (k8 : ¬ n ≤ q → (u.1 175 (120 * t + 3 * q + 0)) = b → ¬ q ≤ 0 → ¬ (u.1 175 (120 * t + 3 * (q - 1) + 0)) = b → ¬ 0 ≤ (cmpK a (u.1 175 (120 * t + 3 * q + 1))) → ¬ (u.1 175 (120 * t + 3 * q + 1)) = b → xC mX10_begins [.ref 172, .int (nI (t)), .int (u.1 175 (120 * t + 3 * q + 1)), .int (a)] (xmm u) (fun r μ1 => xE mX10_ringsOf 185 [(0, .ref 172), (1, .int (nI (t))), (2, .int (w)), (3, .int (nI (m))), (4, .int (nI (ro))), (5, .int (a)), (6, .int (b)), (7, .int (nI (q))), (8, .int (u.1 175 (120 * t + 3 * q + 1)))] (r.toList ++ []) μ1 Q))
    (k9 : ¬ n ≤ q → (u.1 175 (120 * t + 3 * q + 0)) = b → ¬ q ≤ 0 → (u.1 175 (120 * t + 3 * (q - 1) + 0)) = b → ¬ (u.1 175 (120 * t + 3 * (q - 1) + 1)) = (u.1 175 (120 * t + 3 * q + 1)) → 0 ≤ (cmpK a (u.1 175 (120 * t + 3 * q + 1))) → xE mX10_ringsOf 87 [(0, .ref 172), (1, .int (nI (t))), (2, .int (w)), (3, .int (nI (m))), (4, .int (nI (ro))), (5, .int (a)), (6, .int (b)), (7, .int (nI (q + 1)))] [] (xmm u) Q)
    (k10 : ¬ n ≤ q → (u.1 175 (120 * t + 3 * q + 0)) = b → ¬ q ≤ 0 → (u.1 175 (120 * t + 3 * (q - 1) + 0)) = b → ¬ (u.1 175 (120 * t + 3 * (q - 1) + 1)) = (u.1 175 (120 * t + 3 * q + 1)) → ¬ 0 ≤ (cmpK a (u.1 175 (120 * t + 3 * q + 1))) → (u.1 175 (120 * t + 3 * q + 1)) = b → xE mX10_ringsOf 87 [(0, .ref 172), (1, .int (nI (t))), (2, .int (w)), (3, .int (nI (m))), (4, .int (nI (ro))), (5, .int (a)), (6, .int (b)), (7, .int (nI (q + 1)))] [] (xmm u) Q)
    (k11 : ¬ n ≤ q → (u.1 175 (120 * t + 3 * q + 0)) = b → ¬ q ≤ 0 → (u.1 175 (120 * t + 3 * (q - 1) + 0)) = b → ¬ (u.1 175 (120 * t + 3 * (q - 1) + 1)) = (u.1 175 (120 * t + 3 * q + 1)) → ¬ 0 ≤ (cmpK a (u.1 175 (120 * t + 3 * q + 1))) → ¬ (u.1 175 (120 * t + 3 * q + 1)) = b → xC mX10_begins [.ref 172, .int (nI (t)), .int (u.1 175 (120 * t + 3 * q + 1)), .int (a)] (xmm u) (fun r μ1 => xE mX10_ringsOf 185 [(0, .ref 172), (1, .int (nI (t))), (2, .int (w)), (3, .int (nI (m))), (4, .int (nI (ro))), (5, .int (a)), (6, .int (b)), (7, .int (nI (q))), (8, .int (u.1 175 (120 * t + 3 * q + 1)))] (r.toList ++ []) μ1 Q))
    (k12 : ¬ n ≤ q → (u.1 175 (120 * t + 3 * q + 0)) = b → ¬ q ≤ 0 → (u.1 175 (120 * t + 3 * (q - 1) + 0)) = b → (u.1 175 (120 * t + 3 * (q - 1) + 1)) = (u.1 175 (120 * t + 3 * q + 1)) → xE mX10_ringsOf 87 [(0, .ref 172), (1, .int (nI (t))), (2, .int (w)), (3, .int (nI (m))), (4, .int (nI (ro))), (5, .int (a)), (6, .int (b)), (7, .int (nI (q + 1)))] [] (xmm u) Q) : xE mX10_ringsOf 87 [(0, .ref 172), (1, .int (nI (t))), (2, .int (w)), (3, .int (nI (m))), (4, .int (nI (ro))), (5, .int (a)), (6, .int (b)), (7, .int (nI (q)))] [] (xmm u) Q := by
  refine xe_iload 7 dX10_ringsOf_87 rfl ?_
  refine xe_aload_n 0 dX10_ringsOf_89 rfl rfl ?_
  refine xr_getR (b := 174) dX10_ringsOf_90 fX10_13 rfl sh172 (by decide) rfl ?_
  refine xe_iload_n 1 dX10_ringsOf_93 rfl rfl ?_
  refine xr_iald (k := t) (v := nI (n)) dX10_ringsOf_94 sh174 (by decide) (by omega) (by decide) v1 ?_
  refine xn_icmp_ge 231 dX10_ringsOf_95 (by decide) (by omega) (by omega) (fun c1 => ?_) (fun c1 => ?_)
  · refine xn_iinc (c := 1) (L2 := [(0, .ref 172), (1, .int (nI (t))), (2, .int (w)), (3, .int (nI (m))), (4, .int (nI (ro + 1))), (5, .int (a)), (6, .int (b)), (7, .int (nI (q)))]) 4 dX10_ringsOf_231 rfl (by decide) rfl ?_
    refine xe_goto 5 dX10_ringsOf_234 (by decide) ?_
    refine xE.sub [0, 1, 2, 3, 4] rfl ?_
    exact k1 c1
  · refine xe_aload_n 0 dX10_ringsOf_98 rfl rfl ?_
    refine xe_iload_n 1 dX10_ringsOf_99 rfl rfl ?_
    refine xe_iload 7 dX10_ringsOf_100 rfl ?_
    refine xe_iconst (v := nI (1)) dX10_ringsOf_102 xc1 ?_
    refine xe_callV (As := [.int (nI (t)), .int (nI (q)), .int (nI (1))]) (rest := []) dX10_ringsOf_103 wX10_cell lX10_95 iX10_cell sX10_cell ⟨by decide, by decide⟩ sh172 rfl (xin_mm (by decide)) rfl rfl (by simp [Value.category]) (xC.pure (v := .int (u.1 175 (120 * t + 3 * q + 1))) (qX10_cellV u t q 1 (u.1 175 (120 * t + 3 * q + 1)) (by omega) (by omega) (by omega) rfl) ?_)
    refine xe_istore (L2 := [(0, .ref 172), (1, .int (nI (t))), (2, .int (w)), (3, .int (nI (m))), (4, .int (nI (ro))), (5, .int (a)), (6, .int (b)), (7, .int (nI (q))), (8, .int (u.1 175 (120 * t + 3 * q + 1)))]) dX10_ringsOf_106 (by decide) rfl ?_
    refine xe_aload_n 0 dX10_ringsOf_108 rfl rfl ?_
    refine xe_iload_n 1 dX10_ringsOf_109 rfl rfl ?_
    refine xe_iload 7 dX10_ringsOf_110 rfl ?_
    refine xe_iconst (v := nI (0)) dX10_ringsOf_112 xc0 ?_
    refine xe_callV (As := [.int (nI (t)), .int (nI (q)), .int (nI (0))]) (rest := []) dX10_ringsOf_113 wX10_cell lX10_95 iX10_cell sX10_cell ⟨by decide, by decide⟩ sh172 rfl (xin_mm (by decide)) rfl rfl (by simp [Value.category]) (xC.pure (v := .int (u.1 175 (120 * t + 3 * q + 0))) (qX10_cellV u t q 0 (u.1 175 (120 * t + 3 * q + 0)) (by omega) (by omega) (by omega) rfl) ?_)
    refine xe_iload 6 dX10_ringsOf_116 rfl ?_
    refine xe_icmp_ne 225 dX10_ringsOf_118 (by decide) (fun c2 => ?_) (fun c2 => ?_)
    · refine xn_iinc (c := 1) (L2 := [(0, .ref 172), (1, .int (nI (t))), (2, .int (w)), (3, .int (nI (m))), (4, .int (nI (ro))), (5, .int (a)), (6, .int (b)), (7, .int (nI (q + 1))), (8, .int (u.1 175 (120 * t + 3 * q + 1)))]) 7 dX10_ringsOf_225 rfl (by decide) rfl ?_
      refine xe_goto 87 dX10_ringsOf_228 (by decide) ?_
      refine xE.sub [0, 1, 2, 3, 4, 5, 6, 7] rfl ?_
      exact k2 c1 c2
    · refine xe_iload 7 dX10_ringsOf_121 rfl ?_
      refine xn_if_le 159 dX10_ringsOf_123 (by decide) (by omega) (fun c3 => ?_) (fun c3 => ?_)
      · refine xe_iload 5 dX10_ringsOf_159 rfl ?_
        refine xe_iload 8 dX10_ringsOf_161 rfl ?_
        refine xe_callS (As := [.int (a), .int (u.1 175 (120 * t + 3 * q + 1))]) (rest := []) dX10_ringsOf_163 wX10_rank lX10_99 tX10_rank ⟨by decide, by decide⟩ rfl rfl (by simp [Value.category]) (xC.pure (v := .int (cmpK a (u.1 175 (120 * t + 3 * q + 1)))) (qX10_rank u a (u.1 175 (120 * t + 3 * q + 1))) ?_)
        refine xe_if_ge 225 dX10_ringsOf_166 (by decide) (fun c4 => ?_) (fun c4 => ?_)
        · refine xn_iinc (c := 1) (L2 := [(0, .ref 172), (1, .int (nI (t))), (2, .int (w)), (3, .int (nI (m))), (4, .int (nI (ro))), (5, .int (a)), (6, .int (b)), (7, .int (nI (q + 1))), (8, .int (u.1 175 (120 * t + 3 * q + 1)))]) 7 dX10_ringsOf_225 rfl (by decide) rfl ?_
          refine xe_goto 87 dX10_ringsOf_228 (by decide) ?_
          refine xE.sub [0, 1, 2, 3, 4, 5, 6, 7] rfl ?_
          exact k3 c1 c2 c3 c4
        · refine xe_iload 8 dX10_ringsOf_169 rfl ?_
          refine xe_iload 6 dX10_ringsOf_171 rfl ?_
          refine xe_icmp_eq 225 dX10_ringsOf_173 (by decide) (fun c5 => ?_) (fun c5 => ?_)
          · refine xn_iinc (c := 1) (L2 := [(0, .ref 172), (1, .int (nI (t))), (2, .int (w)), (3, .int (nI (m))), (4, .int (nI (ro))), (5, .int (a)), (6, .int (b)), (7, .int (nI (q + 1))), (8, .int (u.1 175 (120 * t + 3 * q + 1)))]) 7 dX10_ringsOf_225 rfl (by decide) rfl ?_
            refine xe_goto 87 dX10_ringsOf_228 (by decide) ?_
            refine xE.sub [0, 1, 2, 3, 4, 5, 6, 7] rfl ?_
            exact k4 c1 c2 c3 c4 c5
          · refine xe_aload_n 0 dX10_ringsOf_176 rfl rfl ?_
            refine xe_iload_n 1 dX10_ringsOf_177 rfl rfl ?_
            refine xe_iload 8 dX10_ringsOf_178 rfl ?_
            refine xe_iload 5 dX10_ringsOf_180 rfl ?_
            refine xe_callV (As := [.int (nI (t)), .int (u.1 175 (120 * t + 3 * q + 1)), .int (a)]) (rest := []) dX10_ringsOf_182 wX10_begins lX10_216 iX10_begins sX10_begins ⟨by decide, by decide⟩ sh172 rfl (xin_mm (by decide)) rfl rfl (by simp [Value.category]) ?_
            exact k5 c1 c2 c3 c4 c5
      · refine xe_aload_n 0 dX10_ringsOf_126 rfl rfl ?_
        refine xe_iload_n 1 dX10_ringsOf_127 rfl rfl ?_
        refine xe_iload 7 dX10_ringsOf_128 rfl ?_
        refine xe_iconst (v := nI (1)) dX10_ringsOf_130 xc1 ?_
        refine xn_isub dX10_ringsOf_131 (by omega) ?_
        refine xe_iconst (v := nI (0)) dX10_ringsOf_132 xc0 ?_
        refine xe_callV (As := [.int (nI (t)), .int (nI (q - 1)), .int (nI (0))]) (rest := []) dX10_ringsOf_133 wX10_cell lX10_95 iX10_cell sX10_cell ⟨by decide, by decide⟩ sh172 rfl (xin_mm (by decide)) rfl rfl (by simp [Value.category]) (xC.pure (v := .int (u.1 175 (120 * t + 3 * (q - 1) + 0))) (qX10_cellV u t (q - 1) 0 (u.1 175 (120 * t + 3 * (q - 1) + 0)) (by omega) (by omega) (by omega) rfl) ?_)
        refine xe_iload 6 dX10_ringsOf_136 rfl ?_
        refine xe_icmp_ne 159 dX10_ringsOf_138 (by decide) (fun c6 => ?_) (fun c6 => ?_)
        · refine xe_iload 5 dX10_ringsOf_159 rfl ?_
          refine xe_iload 8 dX10_ringsOf_161 rfl ?_
          refine xe_callS (As := [.int (a), .int (u.1 175 (120 * t + 3 * q + 1))]) (rest := []) dX10_ringsOf_163 wX10_rank lX10_99 tX10_rank ⟨by decide, by decide⟩ rfl rfl (by simp [Value.category]) (xC.pure (v := .int (cmpK a (u.1 175 (120 * t + 3 * q + 1)))) (qX10_rank u a (u.1 175 (120 * t + 3 * q + 1))) ?_)
          refine xe_if_ge 225 dX10_ringsOf_166 (by decide) (fun c7 => ?_) (fun c7 => ?_)
          · refine xn_iinc (c := 1) (L2 := [(0, .ref 172), (1, .int (nI (t))), (2, .int (w)), (3, .int (nI (m))), (4, .int (nI (ro))), (5, .int (a)), (6, .int (b)), (7, .int (nI (q + 1))), (8, .int (u.1 175 (120 * t + 3 * q + 1)))]) 7 dX10_ringsOf_225 rfl (by decide) rfl ?_
            refine xe_goto 87 dX10_ringsOf_228 (by decide) ?_
            refine xE.sub [0, 1, 2, 3, 4, 5, 6, 7] rfl ?_
            exact k6 c1 c2 c3 c6 c7
          · refine xe_iload 8 dX10_ringsOf_169 rfl ?_
            refine xe_iload 6 dX10_ringsOf_171 rfl ?_
            refine xe_icmp_eq 225 dX10_ringsOf_173 (by decide) (fun c8 => ?_) (fun c8 => ?_)
            · refine xn_iinc (c := 1) (L2 := [(0, .ref 172), (1, .int (nI (t))), (2, .int (w)), (3, .int (nI (m))), (4, .int (nI (ro))), (5, .int (a)), (6, .int (b)), (7, .int (nI (q + 1))), (8, .int (u.1 175 (120 * t + 3 * q + 1)))]) 7 dX10_ringsOf_225 rfl (by decide) rfl ?_
              refine xe_goto 87 dX10_ringsOf_228 (by decide) ?_
              refine xE.sub [0, 1, 2, 3, 4, 5, 6, 7] rfl ?_
              exact k7 c1 c2 c3 c6 c7 c8
            · refine xe_aload_n 0 dX10_ringsOf_176 rfl rfl ?_
              refine xe_iload_n 1 dX10_ringsOf_177 rfl rfl ?_
              refine xe_iload 8 dX10_ringsOf_178 rfl ?_
              refine xe_iload 5 dX10_ringsOf_180 rfl ?_
              refine xe_callV (As := [.int (nI (t)), .int (u.1 175 (120 * t + 3 * q + 1)), .int (a)]) (rest := []) dX10_ringsOf_182 wX10_begins lX10_216 iX10_begins sX10_begins ⟨by decide, by decide⟩ sh172 rfl (xin_mm (by decide)) rfl rfl (by simp [Value.category]) ?_
              exact k8 c1 c2 c3 c6 c7 c8
        · refine xe_aload_n 0 dX10_ringsOf_141 rfl rfl ?_
          refine xe_iload_n 1 dX10_ringsOf_142 rfl rfl ?_
          refine xe_iload 7 dX10_ringsOf_143 rfl ?_
          refine xe_iconst (v := nI (1)) dX10_ringsOf_145 xc1 ?_
          refine xn_isub dX10_ringsOf_146 (by omega) ?_
          refine xe_iconst (v := nI (1)) dX10_ringsOf_147 xc1 ?_
          refine xe_callV (As := [.int (nI (t)), .int (nI (q - 1)), .int (nI (1))]) (rest := []) dX10_ringsOf_148 wX10_cell lX10_95 iX10_cell sX10_cell ⟨by decide, by decide⟩ sh172 rfl (xin_mm (by decide)) rfl rfl (by simp [Value.category]) (xC.pure (v := .int (u.1 175 (120 * t + 3 * (q - 1) + 1))) (qX10_cellV u t (q - 1) 1 (u.1 175 (120 * t + 3 * (q - 1) + 1)) (by omega) (by omega) (by omega) rfl) ?_)
          refine xe_iload 8 dX10_ringsOf_151 rfl ?_
          refine xe_icmp_ne 159 dX10_ringsOf_153 (by decide) (fun c9 => ?_) (fun c9 => ?_)
          · refine xe_iload 5 dX10_ringsOf_159 rfl ?_
            refine xe_iload 8 dX10_ringsOf_161 rfl ?_
            refine xe_callS (As := [.int (a), .int (u.1 175 (120 * t + 3 * q + 1))]) (rest := []) dX10_ringsOf_163 wX10_rank lX10_99 tX10_rank ⟨by decide, by decide⟩ rfl rfl (by simp [Value.category]) (xC.pure (v := .int (cmpK a (u.1 175 (120 * t + 3 * q + 1)))) (qX10_rank u a (u.1 175 (120 * t + 3 * q + 1))) ?_)
            refine xe_if_ge 225 dX10_ringsOf_166 (by decide) (fun c10 => ?_) (fun c10 => ?_)
            · refine xn_iinc (c := 1) (L2 := [(0, .ref 172), (1, .int (nI (t))), (2, .int (w)), (3, .int (nI (m))), (4, .int (nI (ro))), (5, .int (a)), (6, .int (b)), (7, .int (nI (q + 1))), (8, .int (u.1 175 (120 * t + 3 * q + 1)))]) 7 dX10_ringsOf_225 rfl (by decide) rfl ?_
              refine xe_goto 87 dX10_ringsOf_228 (by decide) ?_
              refine xE.sub [0, 1, 2, 3, 4, 5, 6, 7] rfl ?_
              exact k9 c1 c2 c3 c6 c9 c10
            · refine xe_iload 8 dX10_ringsOf_169 rfl ?_
              refine xe_iload 6 dX10_ringsOf_171 rfl ?_
              refine xe_icmp_eq 225 dX10_ringsOf_173 (by decide) (fun c11 => ?_) (fun c11 => ?_)
              · refine xn_iinc (c := 1) (L2 := [(0, .ref 172), (1, .int (nI (t))), (2, .int (w)), (3, .int (nI (m))), (4, .int (nI (ro))), (5, .int (a)), (6, .int (b)), (7, .int (nI (q + 1))), (8, .int (u.1 175 (120 * t + 3 * q + 1)))]) 7 dX10_ringsOf_225 rfl (by decide) rfl ?_
                refine xe_goto 87 dX10_ringsOf_228 (by decide) ?_
                refine xE.sub [0, 1, 2, 3, 4, 5, 6, 7] rfl ?_
                exact k10 c1 c2 c3 c6 c9 c10 c11
              · refine xe_aload_n 0 dX10_ringsOf_176 rfl rfl ?_
                refine xe_iload_n 1 dX10_ringsOf_177 rfl rfl ?_
                refine xe_iload 8 dX10_ringsOf_178 rfl ?_
                refine xe_iload 5 dX10_ringsOf_180 rfl ?_
                refine xe_callV (As := [.int (nI (t)), .int (u.1 175 (120 * t + 3 * q + 1)), .int (a)]) (rest := []) dX10_ringsOf_182 wX10_begins lX10_216 iX10_begins sX10_begins ⟨by decide, by decide⟩ sh172 rfl (xin_mm (by decide)) rfl rfl (by simp [Value.category]) ?_
                exact k11 c1 c2 c3 c6 c9 c10 c11
          · refine xe_goto 225 dX10_ringsOf_156 (by decide) ?_
            refine xn_iinc (c := 1) (L2 := [(0, .ref 172), (1, .int (nI (t))), (2, .int (w)), (3, .int (nI (m))), (4, .int (nI (ro))), (5, .int (a)), (6, .int (b)), (7, .int (nI (q + 1))), (8, .int (u.1 175 (120 * t + 3 * q + 1)))]) 7 dX10_ringsOf_225 rfl (by decide) rfl ?_
            refine xe_goto 87 dX10_ringsOf_228 (by decide) ?_
            refine xE.sub [0, 1, 2, 3, 4, 5, 6, 7] rfl ?_
            exact k12 c1 c2 c3 c6 c9

theorem gX10_rings_0 (u : xU) (t : Int32) (er : Bool) {Q : Option Value → xM → Prop} (hrg : xC mX10_isRinged [.ref 172, .int t] (xmm u) (fun r μ' => r = some (.int (xb (er = true))) ∧ μ' = xmm u)) 
    (k1 : ¬ (er = true) → Q (some (.int (-1))) (xmm u))
    (k2 : er = true → xC mX10_ringsOf [.ref 172, .int (t), .int (-1)] (xmm u) (fun r μ1 => xE mX10_rings 14 [] (r.toList ++ []) μ1 Q)) : xE mX10_rings 0 [(0, .ref 172), (1, .int (t))] [] (xmm u) Q := by
  refine xe_aload_n 0 dX10_rings_0 rfl rfl ?_
  refine xe_iload_n 1 dX10_rings_1 rfl rfl ?_
  refine xe_callV (As := [.int (t)]) (rest := []) dX10_rings_2 wX10_isRinged lX10_219 iX10_isRinged sX10_isRinged ⟨by decide, by decide⟩ sh172 rfl (xin_mm (by decide)) rfl rfl (by simp [Value.category]) (xC.pure (v := .int (xb (er = true))) (hrg) ?_)
  refine xb_if_eq 17 dX10_rings_5 (by decide) (fun c1 => ?_) (fun c1 => ?_)
  · refine xe_iconst (v := -1) dX10_rings_17 xcm1 ?_
    exact xe_ret (r := (some (.int (-1)))) dX10_rings_18 trivial (k1 c1)
  · refine xe_aload_n 0 dX10_rings_8 rfl rfl ?_
    refine xe_iload_n 1 dX10_rings_9 rfl rfl ?_
    refine xe_iconst (v := -1) dX10_rings_10 xcm1 ?_
    refine xE.sub [] rfl ?_
    refine xe_callV (As := [.int (t), .int (-1)]) (rest := []) dX10_rings_11 wX10_ringsOf lX10_222 iX10_ringsOf sX10_ringsOf ⟨by decide, by decide⟩ sh172 rfl (xin_mm (by decide)) rfl rfl (by simp [Value.category]) ?_
    exact k2 c1

theorem gX10_ring_0 (u : xU) (t i k : Int32) (er : Bool) {Q : Option Value → xM → Prop} (hrg : xC mX10_isRinged [.ref 172, .int t] (xmm u) (fun r μ' => r = some (.int (xb (er = true))) ∧ μ' = xmm u)) 
    (k1 : ¬ (er = true) → Q (some (.int (nI (0)))) (xmm u))
    (k2 : er = true → i < 0 → Q (some (.int (nI (0)))) (xmm u))
    (k3 : er = true → ¬ i < 0 → ¬ (0 ≤ k ∧ k ≤ 2) → Q (some (.int (nI (0)))) (xmm u))
    (k4 : er = true → ¬ i < 0 → 0 ≤ k ∧ k ≤ 2 → xC mX10_ringsOf [.ref 172, .int (t), .int (i)] (xmm u) (fun r μ1 => xE mX10_ring 27 [(0, .ref 172), (3, .int (k))] (r.toList ++ []) μ1 Q)) : xE mX10_ring 0 [(0, .ref 172), (1, .int (t)), (2, .int (i)), (3, .int (k))] [] (xmm u) Q := by
  refine xe_aload_n 0 dX10_ring_0 rfl rfl ?_
  refine xe_iload_n 1 dX10_ring_1 rfl rfl ?_
  refine xe_callV (As := [.int (t)]) (rest := []) dX10_ring_2 wX10_isRinged lX10_219 iX10_isRinged sX10_isRinged ⟨by decide, by decide⟩ sh172 rfl (xin_mm (by decide)) rfl rfl (by simp [Value.category]) (xC.pure (v := .int (xb (er = true))) (hrg) ?_)
  refine xb_if_eq 40 dX10_ring_5 (by decide) (fun c1 => ?_) (fun c1 => ?_)
  · refine xe_iconst (v := nI (0)) dX10_ring_40 xc0 ?_
    exact xe_ret (r := (some (.int (nI (0))))) dX10_ring_41 trivial (k1 c1)
  · refine xe_iload_n 2 dX10_ring_8 rfl rfl ?_
    refine xe_if_lt 40 dX10_ring_9 (by decide) (fun c2 => ?_) (fun c2 => ?_)
    · refine xe_iconst (v := nI (0)) dX10_ring_40 xc0 ?_
      exact xe_ret (r := (some (.int (nI (0))))) dX10_ring_41 trivial (k2 c1 c2)
    · refine xe_iload_n 3 dX10_ring_12 rfl rfl ?_
      refine xe_iconst (v := nI (0)) dX10_ring_13 xc0 ?_
      refine xe_iconst (v := nI (2)) dX10_ring_14 xc2 ?_
      refine xe_callS (As := [.int (k), .int (nI (0)), .int (nI (2))]) (rest := []) dX10_ring_15 wX10_lies lX10_88 tX10_lies ⟨by decide, by decide⟩ rfl rfl (by simp [Value.category]) (xC.pure (v := .int (xb (0 ≤ k ∧ k ≤ 2))) (qX10_lies u k (nI (0)) (nI (2))) ?_)
      refine xb_if_eq 40 dX10_ring_18 (by decide) (fun c3 => ?_) (fun c3 => ?_)
      · refine xe_iconst (v := nI (0)) dX10_ring_40 xc0 ?_
        exact xe_ret (r := (some (.int (nI (0))))) dX10_ring_41 trivial (k3 c1 c2 c3)
      · refine xe_aload_n 0 dX10_ring_21 rfl rfl ?_
        refine xe_iload_n 1 dX10_ring_22 rfl rfl ?_
        refine xe_iload_n 2 dX10_ring_23 rfl rfl ?_
        refine xE.sub [0, 3] rfl ?_
        refine xe_callV (As := [.int (t), .int (i)]) (rest := []) dX10_ring_24 wX10_ringsOf lX10_222 iX10_ringsOf sX10_ringsOf ⟨by decide, by decide⟩ sh172 rfl (xin_mm (by decide)) rfl rfl (by simp [Value.category]) ?_
        exact k4 c1 c2 c3

