theorem gX10_table_0 (u : xU) (t c : Int32) {Q : Option Value → xM → Prop}  
    (k1 : ¬ (0 ≤ t ∧ t ≤ 7) → Q (some (.int (nI (0)))) (xmm u))
    (k2 : 0 ≤ t ∧ t ≤ 7 → 1 ≤ c ∧ c ≤ 3 → xE mX10_table 23 [(0, .ref 172), (1, .int (t)), (2, .int (c)), (3, .int (nI (0)))] [] (xmm u) Q)
    (k3 : 0 ≤ t ∧ t ≤ 7 → ¬ (1 ≤ c ∧ c ≤ 3) → Q (some (.int (nI (0)))) (xmm u)) : xE mX10_table 0 [(0, .ref 172), (1, .int (t)), (2, .int (c))] [] (xmm u) Q := by
  refine xe_iload_n 1 dX10_table_0 rfl rfl ?_
  refine xe_iconst (v := nI (0)) dX10_table_1 xc0 ?_
  refine xe_bipush (v := nI (7)) dX10_table_2 xcb7 ?_
  refine xe_callS (As := [.int (t), .int (nI (0)), .int (nI (7))]) (rest := []) dX10_table_4 wX10_lies lX10_88 tX10_lies ⟨by decide, by decide⟩ rfl rfl (by simp [Value.category]) (xC.pure (v := .int (xb (0 ≤ t ∧ t ≤ 7))) (qX10_lies u t (nI (0)) (nI (7))) ?_)
  refine xb_if_eq 19 dX10_table_7 (by decide) (fun c1 => ?_) (fun c1 => ?_)
  · refine xe_iconst (v := nI (0)) dX10_table_19 xc0 ?_
    exact xe_ret (r := (some (.int (nI (0))))) dX10_table_20 (Or.inl rfl) (k1 c1)
  · refine xe_iload_n 2 dX10_table_10 rfl rfl ?_
    refine xe_iconst (v := nI (1)) dX10_table_11 xc1 ?_
    refine xe_iconst (v := nI (3)) dX10_table_12 xc3 ?_
    refine xe_callS (As := [.int (c), .int (nI (1)), .int (nI (3))]) (rest := []) dX10_table_13 wX10_lies lX10_88 tX10_lies ⟨by decide, by decide⟩ rfl rfl (by simp [Value.category]) (xC.pure (v := .int (xb (1 ≤ c ∧ c ≤ 3))) (qX10_lies u c (nI (1)) (nI (3))) ?_)
    refine xb_if_ne 21 dX10_table_16 (by decide) (fun c2 => ?_) (fun c2 => ?_)
    · refine xe_iconst (v := nI (0)) dX10_table_21 xc0 ?_
      refine xe_istore_n (L2 := [(0, .ref 172), (1, .int (t)), (2, .int (c)), (3, .int (nI (0)))]) dX10_table_22 rfl (by decide) rfl ?_
      exact k2 c1 c2
    · refine xe_iconst (v := nI (0)) dX10_table_19 xc0 ?_
      exact xe_ret (r := (some (.int (nI (0))))) dX10_table_20 (Or.inl rfl) (k3 c1 c2)

theorem gX10_table_23 (u : xU) (nn n : Nat) (t c : Int32) (p kd of : Nat) {Q : Option Value → xM → Prop} (hnn : nn ≤ 6) (hn : n ≤ 10) (hp : p < n) (hkd : kd ≤ 3) (hof : of < 8) (v1 : u.1 172 3 = nI (nn)) (v2 : u.1 172 4 = nI (n)) (v3 : u.1 176 p = nI (kd)) (v4 : u.1 177 p = nI (of))
    (k1 : n ≤ p → False)
    (k2 : ¬ n ≤ p → 1 < kd → xE mX10_table 23 [(0, .ref 172), (1, .int (t)), (2, .int (c)), (3, .int (nI (p + 1)))] [] (xmm u) Q)
    (k3 : ¬ n ≤ p → ¬ 1 < kd → ¬ (nI (of)) = t → xE mX10_table 23 [(0, .ref 172), (1, .int (t)), (2, .int (c)), (3, .int (nI (p + 1)))] [] (xmm u) Q)
    (k4 : ¬ n ≤ p → ¬ 1 < kd → (nI (of)) = t → Q (some (.int (nI (0)))) (xmm u)) : xE mX10_table 23 [(0, .ref 172), (1, .int (t)), (2, .int (c)), (3, .int (nI (p)))] [] (xmm u) Q := by
  refine xe_iload_n 3 dX10_table_23 rfl rfl ?_
  refine xe_aload_n 0 dX10_table_24 rfl rfl ?_
  refine xr_getI (v := nI (n)) dX10_table_25 fX10_92 sh172 (by decide) v2 ?_
  refine xn_icmp_ge 59 dX10_table_28 (by decide) (by omega) (by omega) (fun c1 => ?_) (fun c1 => ?_)
  · refine xe_aload_n 0 dX10_table_59 rfl rfl ?_
    refine xr_getR (b := 173) dX10_table_60 fX10_7 rfl sh172 (by decide) rfl ?_
    refine xe_iload_n 1 dX10_table_63 rfl rfl ?_
    refine xe_iload_n 2 dX10_table_64 rfl rfl ?_
    exact (k1 c1).elim
  · refine xe_aload_n 0 dX10_table_31 rfl rfl ?_
    refine xr_getR (b := 176) dX10_table_32 fX10_19 rfl sh172 (by decide) rfl ?_
    refine xe_iload_n 3 dX10_table_35 rfl rfl ?_
    refine xr_iald (k := p) (v := nI (kd)) dX10_table_36 sh176 (by decide) (by omega) (by decide) v3 ?_
    refine xe_iconst (v := nI (1)) dX10_table_37 xc1 ?_
    refine xn_icmp_gt 53 dX10_table_38 (by decide) (by omega) (by omega) (fun c2 => ?_) (fun c2 => ?_)
    · refine xn_iinc (c := 1) (L2 := [(0, .ref 172), (1, .int (t)), (2, .int (c)), (3, .int (nI (p + 1)))]) 3 dX10_table_53 rfl (by decide) rfl ?_
      refine xe_goto 23 dX10_table_56 (by decide) ?_
      exact k2 c1 c2
    · refine xe_aload_n 0 dX10_table_41 rfl rfl ?_
      refine xr_getR (b := 177) dX10_table_42 fX10_22 rfl sh172 (by decide) rfl ?_
      refine xe_iload_n 3 dX10_table_45 rfl rfl ?_
      refine xr_iald (k := p) (v := nI (of)) dX10_table_46 sh177 (by decide) (by omega) (by decide) v4 ?_
      refine xe_iload_n 1 dX10_table_47 rfl rfl ?_
      refine xe_icmp_ne 53 dX10_table_48 (by decide) (fun c3 => ?_) (fun c3 => ?_)
      · refine xn_iinc (c := 1) (L2 := [(0, .ref 172), (1, .int (t)), (2, .int (c)), (3, .int (nI (p + 1)))]) 3 dX10_table_53 rfl (by decide) rfl ?_
        refine xe_goto 23 dX10_table_56 (by decide) ?_
        exact k3 c1 c2 c3
      · refine xe_iconst (v := nI (0)) dX10_table_51 xc0 ?_
        exact xe_ret (r := (some (.int (nI (0))))) dX10_table_52 (Or.inl rfl) (k4 c1 c2 c3)

theorem gX10_table_c (u : xU) (nn n : Nat) (t c : Int32) (p kd : Nat) {Q : Option Value → xM → Prop} (hnn : nn ≤ 6) (hn : n ≤ 10) (hp : p < n) (hkd : kd ≤ 3) (v1 : u.1 172 3 = nI (nn)) (v2 : u.1 172 4 = nI (n)) (v3 : u.1 176 p = nI (kd))
    (k1 : n ≤ p → False)
    (k2 : ¬ n ≤ p → 1 < kd → xE mX10_table 23 [(0, .ref 172), (1, .int (t)), (2, .int (c)), (3, .int (nI (p + 1)))] [] (xmm u) Q)
    (k3 : ¬ n ≤ p → ¬ 1 < kd → ¬ (u.1 177 p) = t → xE mX10_table 23 [(0, .ref 172), (1, .int (t)), (2, .int (c)), (3, .int (nI (p + 1)))] [] (xmm u) Q)
    (k4 : ¬ n ≤ p → ¬ 1 < kd → (u.1 177 p) = t → Q (some (.int (nI (0)))) (xmm u)) : xE mX10_table 23 [(0, .ref 172), (1, .int (t)), (2, .int (c)), (3, .int (nI (p)))] [] (xmm u) Q := by
  refine xe_iload_n 3 dX10_table_23 rfl rfl ?_
  refine xe_aload_n 0 dX10_table_24 rfl rfl ?_
  refine xr_getI (v := nI (n)) dX10_table_25 fX10_92 sh172 (by decide) v2 ?_
  refine xn_icmp_ge 59 dX10_table_28 (by decide) (by omega) (by omega) (fun c1 => ?_) (fun c1 => ?_)
  · refine xe_aload_n 0 dX10_table_59 rfl rfl ?_
    refine xr_getR (b := 173) dX10_table_60 fX10_7 rfl sh172 (by decide) rfl ?_
    refine xe_iload_n 1 dX10_table_63 rfl rfl ?_
    refine xe_iload_n 2 dX10_table_64 rfl rfl ?_
    exact (k1 c1).elim
  · refine xe_aload_n 0 dX10_table_31 rfl rfl ?_
    refine xr_getR (b := 176) dX10_table_32 fX10_19 rfl sh172 (by decide) rfl ?_
    refine xe_iload_n 3 dX10_table_35 rfl rfl ?_
    refine xr_iald (k := p) (v := nI (kd)) dX10_table_36 sh176 (by decide) (by omega) (by decide) v3 ?_
    refine xe_iconst (v := nI (1)) dX10_table_37 xc1 ?_
    refine xn_icmp_gt 53 dX10_table_38 (by decide) (by omega) (by omega) (fun c2 => ?_) (fun c2 => ?_)
    · refine xn_iinc (c := 1) (L2 := [(0, .ref 172), (1, .int (t)), (2, .int (c)), (3, .int (nI (p + 1)))]) 3 dX10_table_53 rfl (by decide) rfl ?_
      refine xe_goto 23 dX10_table_56 (by decide) ?_
      exact k2 c1 c2
    · refine xe_aload_n 0 dX10_table_41 rfl rfl ?_
      refine xr_getR (b := 177) dX10_table_42 fX10_22 rfl sh172 (by decide) rfl ?_
      refine xe_iload_n 3 dX10_table_45 rfl rfl ?_
      refine xr_iald (k := p) (v := u.1 177 p) dX10_table_46 sh177 (by decide) (by omega) (by decide) rfl ?_
      refine xe_iload_n 1 dX10_table_47 rfl rfl ?_
      refine xe_icmp_ne 53 dX10_table_48 (by decide) (fun c3 => ?_) (fun c3 => ?_)
      · refine xn_iinc (c := 1) (L2 := [(0, .ref 172), (1, .int (t)), (2, .int (c)), (3, .int (nI (p + 1)))]) 3 dX10_table_53 rfl (by decide) rfl ?_
        refine xe_goto 23 dX10_table_56 (by decide) ?_
        exact k3 c1 c2 c3
      · refine xe_iconst (v := nI (0)) dX10_table_51 xc0 ?_
        exact xe_ret (r := (some (.int (nI (0))))) dX10_table_52 (Or.inl rfl) (k4 c1 c2 c3)

theorem gX10_table_e (u : xU) (nn n : Nat) (t : Nat) (c : Int32) (p : Nat) {Q : Option Value → xM → Prop} (hnn : nn ≤ 6) (hn : n ≤ 10) (hp : p = n) (ht : t < 8) (v1 : u.1 172 3 = nI (nn)) (v2 : u.1 172 4 = nI (n))
    (k1 : n ≤ p → Q (some (.int (nI (1)))) (xmm (wi (wi u 173 t (c)) 174 t (nI (0)))))
    (k2 : ¬ n ≤ p → 1 < (u.1 176 p) → xE mX10_table 23 [(0, .ref 172), (1, .int (nI (t))), (2, .int (c)), (3, .int (nI (p + 1)))] [] (xmm u) Q)
    (k3 : ¬ n ≤ p → ¬ 1 < (u.1 176 p) → ¬ (u.1 177 p) = (nI (t)) → xE mX10_table 23 [(0, .ref 172), (1, .int (nI (t))), (2, .int (c)), (3, .int (nI (p + 1)))] [] (xmm u) Q)
    (k4 : ¬ n ≤ p → ¬ 1 < (u.1 176 p) → (u.1 177 p) = (nI (t)) → Q (some (.int (nI (0)))) (xmm u)) : xE mX10_table 23 [(0, .ref 172), (1, .int (nI (t))), (2, .int (c)), (3, .int (nI (p)))] [] (xmm u) Q := by
  refine xe_iload_n 3 dX10_table_23 rfl rfl ?_
  refine xe_aload_n 0 dX10_table_24 rfl rfl ?_
  refine xr_getI (v := nI (n)) dX10_table_25 fX10_92 sh172 (by decide) v2 ?_
  refine xn_icmp_ge 59 dX10_table_28 (by decide) (by omega) (by omega) (fun c1 => ?_) (fun c1 => ?_)
  · refine xe_aload_n 0 dX10_table_59 rfl rfl ?_
    refine xr_getR (b := 173) dX10_table_60 fX10_7 rfl sh172 (by decide) rfl ?_
    refine xe_iload_n 1 dX10_table_63 rfl rfl ?_
    refine xe_iload_n 2 dX10_table_64 rfl rfl ?_
    refine xr_iast (k := t) dX10_table_65 sh173 (by decide) (by omega) (by decide) ?_
    refine xe_aload_n 0 dX10_table_66 rfl rfl ?_
    refine xr_getR (b := 174) dX10_table_67 fX10_13 rfl sh172 (by decide) rfl ?_
    refine xe_iload_n 1 dX10_table_70 rfl rfl ?_
    refine xe_iconst (v := nI (0)) dX10_table_71 xc0 ?_
    refine xr_iast (k := t) dX10_table_72 sh174 (by decide) (by omega) (by decide) ?_
    refine xe_iconst (v := nI (1)) dX10_table_73 xc1 ?_
    exact xe_ret (r := (some (.int (nI (1))))) dX10_table_74 (Or.inr rfl) (k1 c1)
  · refine xe_aload_n 0 dX10_table_31 rfl rfl ?_
    refine xr_getR (b := 176) dX10_table_32 fX10_19 rfl sh172 (by decide) rfl ?_
    refine xe_iload_n 3 dX10_table_35 rfl rfl ?_
    refine xr_iald (k := p) (v := u.1 176 p) dX10_table_36 sh176 (by decide) (by omega) (by decide) rfl ?_
    refine xe_iconst (v := nI (1)) dX10_table_37 xc1 ?_
    refine xe_icmp_gt 53 dX10_table_38 (by decide) (fun c2 => ?_) (fun c2 => ?_)
    · refine xn_iinc (c := 1) (L2 := [(0, .ref 172), (1, .int (nI (t))), (2, .int (c)), (3, .int (nI (p + 1)))]) 3 dX10_table_53 rfl (by decide) rfl ?_
      refine xe_goto 23 dX10_table_56 (by decide) ?_
      exact k2 c1 c2
    · refine xe_aload_n 0 dX10_table_41 rfl rfl ?_
      refine xr_getR (b := 177) dX10_table_42 fX10_22 rfl sh172 (by decide) rfl ?_
      refine xe_iload_n 3 dX10_table_45 rfl rfl ?_
      refine xr_iald (k := p) (v := u.1 177 p) dX10_table_46 sh177 (by decide) (by omega) (by decide) rfl ?_
      refine xe_iload_n 1 dX10_table_47 rfl rfl ?_
      refine xe_icmp_ne 53 dX10_table_48 (by decide) (fun c3 => ?_) (fun c3 => ?_)
      · refine xn_iinc (c := 1) (L2 := [(0, .ref 172), (1, .int (nI (t))), (2, .int (c)), (3, .int (nI (p + 1)))]) 3 dX10_table_53 rfl (by decide) rfl ?_
        refine xe_goto 23 dX10_table_56 (by decide) ?_
        exact k3 c1 c2 c3
      · refine xe_iconst (v := nI (0)) dX10_table_51 xc0 ?_
        exact xe_ret (r := (some (.int (nI (0))))) dX10_table_52 (Or.inl rfl) (k4 c1 c2 c3)

theorem gX10_ask_0 (u : xU) (n : Int32) {Q : Option Value → xM → Prop}  
    (k1 : 1 ≤ n ∧ n ≤ 6 → xE mX10_ask 24 [(0, .ref 172), (2, .int (nI (0)))] [] (xmm (wi (wi u 172 3 (n)) 172 4 (nI (0)))) Q)
    (k2 : ¬ (1 ≤ n ∧ n ≤ 6) → Q (some (.int (nI (0)))) (xmm u)) : xE mX10_ask 0 [(0, .ref 172), (1, .int (n))] [] (xmm u) Q := by
  refine xe_iload_n 1 dX10_ask_0 rfl rfl ?_
  refine xe_iconst (v := nI (1)) dX10_ask_1 xc1 ?_
  refine xe_bipush (v := nI (6)) dX10_ask_2 xcb6 ?_
  refine xe_callS (As := [.int (n), .int (nI (1)), .int (nI (6))]) (rest := []) dX10_ask_4 wX10_lies lX10_88 tX10_lies ⟨by decide, by decide⟩ rfl rfl (by simp [Value.category]) (xC.pure (v := .int (xb (1 ≤ n ∧ n ≤ 6))) (qX10_lies u n (nI (1)) (nI (6))) ?_)
  refine xb_if_ne 12 dX10_ask_7 (by decide) (fun c1 => ?_) (fun c1 => ?_)
  · refine xe_aload_n 0 dX10_ask_12 rfl rfl ?_
    refine xe_iload_n 1 dX10_ask_13 rfl rfl ?_
    refine xr_putI dX10_ask_14 fX10_119 sh172 (by decide) ?_
    refine xe_aload_n 0 dX10_ask_17 rfl rfl ?_
    refine xe_iconst (v := nI (0)) dX10_ask_18 xc0 ?_
    refine xr_putI dX10_ask_19 fX10_92 sh172 (by decide) ?_
    refine xe_iconst (v := nI (0)) dX10_ask_22 xc0 ?_
    refine xe_istore_n (L2 := [(0, .ref 172), (1, .int (n)), (2, .int (nI (0)))]) dX10_ask_23 rfl (by decide) rfl ?_
    refine xE.sub [0, 2] rfl ?_
    exact k1 c1
  · refine xe_iconst (v := nI (0)) dX10_ask_10 xc0 ?_
    exact xe_ret (r := (some (.int (nI (0))))) dX10_ask_11 (Or.inl rfl) (k2 c1)

theorem gX10_ask_24 (u : xU) (k : Nat) {Q : Option Value → xM → Prop} (hk : k ≤ 6) 
    (k1 : 6 ≤ k → Q (some (.int (nI (1)))) (xmm u))
    (k2 : ¬ 6 ≤ k → xE mX10_ask 24 [(0, .ref 172), (2, .int (nI (k + 1)))] [] (xmm (wi u 181 k (nI (k)))) Q) : xE mX10_ask 24 [(0, .ref 172), (2, .int (nI (k)))] [] (xmm u) Q := by
  refine xe_iload_n 1 dX10_ask_24 rfl rfl ?_
  refine xe_bipush (v := nI (6)) dX10_ask_25 xcb6 ?_
  refine xn_icmp_ge 43 dX10_ask_27 (by decide) (by omega) (by omega) (fun c1 => ?_) (fun c1 => ?_)
  · refine xe_iconst (v := nI (1)) dX10_ask_43 xc1 ?_
    exact xe_ret (r := (some (.int (nI (1))))) dX10_ask_44 (Or.inr rfl) (k1 c1)
  · refine xe_aload_n 0 dX10_ask_30 rfl rfl ?_
    refine xr_getR (b := 181) dX10_ask_31 fX10_34 rfl sh172 (by decide) rfl ?_
    refine xe_iload_n 1 dX10_ask_34 rfl rfl ?_
    refine xe_iload_n 1 dX10_ask_35 rfl rfl ?_
    refine xr_iast (k := k) dX10_ask_36 sh181 (by decide) (by omega) (by decide) ?_
    refine xn_iinc (c := 1) (L2 := [(0, .ref 172), (2, .int (nI (k + 1)))]) 1 dX10_ask_37 rfl (by decide) rfl ?_
    refine xe_goto 24 dX10_ask_40 (by decide) ?_
    exact k2 c1

theorem gX10_part_0 (u : xU) (nn n : Nat) (k t : Int32) (et : Bool) {Q : Option Value → xM → Prop} (hnn : nn ≤ 6) (hn : n ≤ 10) (hit : xC mX10_isTable [.ref 172, .int t] (xmm u) (fun r μ' => r = some (.int (xb (et = true))) ∧ μ' = xmm u)) (v1 : u.1 172 3 = nI (nn)) (v2 : u.1 172 4 = nI (n))
    (k1 : nn = 0 → Q (some (.int (-1))) (xmm u))
    (k2 : ¬ nn = 0 → ¬ (0 ≤ k ∧ k ≤ 1) → Q (some (.int (-1))) (xmm u))
    (k3 : ¬ nn = 0 → 0 ≤ k ∧ k ≤ 1 → ¬ (et = true) → Q (some (.int (-1))) (xmm u))
    (k4 : ¬ nn = 0 → 0 ≤ k ∧ k ≤ 1 → et = true → ¬ n = 10 → xE mX10_part 40 [(0, .ref 172), (1, .int (k)), (2, .int (t)), (3, .int (nI (0))), (4, .int (nI (0)))] [] (xmm u) Q)
    (k5 : ¬ nn = 0 → 0 ≤ k ∧ k ≤ 1 → et = true → n = 10 → Q (some (.int (-1))) (xmm u)) : xE mX10_part 0 [(0, .ref 172), (1, .int (k)), (2, .int (t))] [] (xmm u) Q := by
  refine xe_aload_n 0 dX10_part_0 rfl rfl ?_
  refine xr_getI (v := nI (nn)) dX10_part_1 fX10_119 sh172 (by decide) v1 ?_
  refine xn_if_eq 33 dX10_part_4 (by decide) (by omega) (fun c1 => ?_) (fun c1 => ?_)
  · refine xe_iconst (v := -1) dX10_part_33 xcm1 ?_
    exact xe_ret (r := (some (.int (-1)))) dX10_part_34 trivial (k1 c1)
  · refine xe_iload_n 1 dX10_part_7 rfl rfl ?_
    refine xe_iconst (v := nI (0)) dX10_part_8 xc0 ?_
    refine xe_iconst (v := nI (1)) dX10_part_9 xc1 ?_
    refine xe_callS (As := [.int (k), .int (nI (0)), .int (nI (1))]) (rest := []) dX10_part_10 wX10_lies lX10_88 tX10_lies ⟨by decide, by decide⟩ rfl rfl (by simp [Value.category]) (xC.pure (v := .int (xb (0 ≤ k ∧ k ≤ 1))) (qX10_lies u k (nI (0)) (nI (1))) ?_)
    refine xb_if_eq 33 dX10_part_13 (by decide) (fun c2 => ?_) (fun c2 => ?_)
    · refine xe_iconst (v := -1) dX10_part_33 xcm1 ?_
      exact xe_ret (r := (some (.int (-1)))) dX10_part_34 trivial (k2 c1 c2)
    · refine xe_aload_n 0 dX10_part_16 rfl rfl ?_
      refine xe_iload_n 2 dX10_part_17 rfl rfl ?_
      refine xe_callV (As := [.int (t)]) (rest := []) dX10_part_18 wX10_isTable lX10_107 iX10_isTable sX10_isTable ⟨by decide, by decide⟩ sh172 rfl (xin_mm (by decide)) rfl rfl (by simp [Value.category]) (xC.pure (v := .int (xb (et = true))) (hit) ?_)
      refine xb_if_eq 33 dX10_part_21 (by decide) (fun c3 => ?_) (fun c3 => ?_)
      · refine xe_iconst (v := -1) dX10_part_33 xcm1 ?_
        exact xe_ret (r := (some (.int (-1)))) dX10_part_34 trivial (k3 c1 c2 c3)
      · refine xe_aload_n 0 dX10_part_24 rfl rfl ?_
        refine xr_getI (v := nI (n)) dX10_part_25 fX10_92 sh172 (by decide) v2 ?_
        refine xe_bipush (v := nI (10)) dX10_part_28 xcb10 ?_
        refine xn_icmp_ne 35 dX10_part_30 (by decide) (by omega) (by omega) (fun c4 => ?_) (fun c4 => ?_)
        · refine xe_iconst (v := nI (0)) dX10_part_35 xc0 ?_
          refine xe_istore_n (L2 := [(0, .ref 172), (1, .int (k)), (2, .int (t)), (3, .int (nI (0)))]) dX10_part_36 rfl (by decide) rfl ?_
          refine xe_iconst (v := nI (0)) dX10_part_37 xc0 ?_
          refine xe_istore (L2 := [(0, .ref 172), (1, .int (k)), (2, .int (t)), (3, .int (nI (0))), (4, .int (nI (0)))]) dX10_part_38 (by decide) rfl ?_
          exact k4 c1 c2 c3 c4
        · refine xe_iconst (v := -1) dX10_part_33 xcm1 ?_
          exact xe_ret (r := (some (.int (-1)))) dX10_part_34 trivial (k5 c1 c2 c3 c4)

theorem gX10_part_40 (u : xU) (nn n : Nat) (k t : Int32) (has p kd : Nat) {Q : Option Value → xM → Prop} (hnn : nn ≤ 6) (hn : n ≤ 10) (hp : p < n) (hkd : kd ≤ 3) (hh : has ≤ 10) (v1 : u.1 172 3 = nI (nn)) (v2 : u.1 172 4 = nI (n)) (v3 : u.1 176 p = nI (kd))
    (k1 : n ≤ p → ¬ k = 0 → Q (some (.int (nI ((n + 1) - 1)))) (xmm (wi (wi (wi (wi u 176 n (k)) 177 n (t)) 178 n (nI (0))) 172 4 (nI (n + 1)))))
    (k2 : n ≤ p → k = 0 → ¬ has = 5 → Q (some (.int (nI ((n + 1) - 1)))) (xmm (wi (wi (wi (wi u 176 n (k)) 177 n (t)) 178 n (nI (0))) 172 4 (nI (n + 1)))))
    (k3 : n ≤ p → k = 0 → has = 5 → Q (some (.int (-1))) (xmm u))
    (k4 : ¬ n ≤ p → ¬ kd = 0 → xE mX10_part 40 [(0, .ref 172), (1, .int (k)), (2, .int (t)), (3, .int (nI (has + 0))), (4, .int (nI (p + 1)))] [] (xmm u) Q)
    (k5 : ¬ n ≤ p → kd = 0 → xE mX10_part 40 [(0, .ref 172), (1, .int (k)), (2, .int (t)), (3, .int (nI (has + 1))), (4, .int (nI (p + 1)))] [] (xmm u) Q) : xE mX10_part 40 [(0, .ref 172), (1, .int (k)), (2, .int (t)), (3, .int (nI (has))), (4, .int (nI (p)))] [] (xmm u) Q := by
  refine xe_iload 4 dX10_part_40 rfl ?_
  refine xe_aload_n 0 dX10_part_42 rfl rfl ?_
  refine xr_getI (v := nI (n)) dX10_part_43 fX10_92 sh172 (by decide) v2 ?_
  refine xn_icmp_ge 73 dX10_part_46 (by decide) (by omega) (by omega) (fun c1 => ?_) (fun c1 => ?_)
  · refine xe_iload_n 1 dX10_part_73 rfl rfl ?_
    refine xe_if_ne 84 dX10_part_74 (by decide) (fun c2 => ?_) (fun c2 => ?_)
    · refine xe_aload_n 0 dX10_part_84 rfl rfl ?_
      refine xr_getR (b := 176) dX10_part_85 fX10_19 rfl sh172 (by decide) rfl ?_
      refine xe_aload_n 0 dX10_part_88 rfl rfl ?_
      refine xr_getI (v := nI (n)) dX10_part_89 fX10_92 sh172 (by decide) v2 ?_
      refine xe_iload_n 1 dX10_part_92 rfl rfl ?_
      refine xr_iast (k := n) dX10_part_93 sh176 (by decide) (by omega) (by decide) ?_
      refine xe_aload_n 0 dX10_part_94 rfl rfl ?_
      refine xr_getR (b := 177) dX10_part_95 fX10_22 rfl sh172 (by decide) rfl ?_
      refine xe_aload_n 0 dX10_part_98 rfl rfl ?_
      refine xr_getI (v := nI (n)) dX10_part_99 fX10_92 sh172 (by decide) ((wi_ne (by omega)).trans v2) ?_
      refine xe_iload_n 2 dX10_part_102 rfl rfl ?_
      refine xr_iast (k := n) dX10_part_103 sh177 (by decide) (by omega) (by decide) ?_
      refine xe_aload_n 0 dX10_part_104 rfl rfl ?_
      refine xr_getR (b := 178) dX10_part_105 fX10_25 rfl sh172 (by decide) rfl ?_
      refine xe_aload_n 0 dX10_part_108 rfl rfl ?_
      refine xr_getI (v := nI (n)) dX10_part_109 fX10_92 sh172 (by decide) ((wi_ne (by omega)).trans ((wi_ne (by omega)).trans v2)) ?_
      refine xe_iconst (v := nI (0)) dX10_part_112 xc0 ?_
      refine xr_iast (k := n) dX10_part_113 sh178 (by decide) (by omega) (by decide) ?_
      refine xe_aload_n 0 dX10_part_114 rfl rfl ?_
      refine xe_dup dX10_part_115 rfl ?_
      refine xr_getI (v := nI (n)) dX10_part_116 fX10_92 sh172 (by decide) ((wi_ne (by omega)).trans ((wi_ne (by omega)).trans ((wi_ne (by omega)).trans v2))) ?_
      refine xe_iconst (v := nI (1)) dX10_part_119 xc1 ?_
      refine xn_iadd dX10_part_120 ?_
      refine xr_putI dX10_part_121 fX10_92 sh172 (by decide) ?_
      refine xe_aload_n 0 dX10_part_124 rfl rfl ?_
      refine xr_getI (v := nI (n + 1)) dX10_part_125 fX10_92 sh172 (by decide) wi_self ?_
      refine xe_iconst (v := nI (1)) dX10_part_128 xc1 ?_
      refine xn_isub dX10_part_129 (by omega) ?_
      exact xe_ret (r := (some (.int (nI ((n + 1) - 1))))) dX10_part_130 trivial (k1 c1 c2)
    · refine xe_iload_n 3 dX10_part_77 rfl rfl ?_
      refine xe_iconst (v := nI (5)) dX10_part_78 xc5 ?_
      refine xn_icmp_ne 84 dX10_part_79 (by decide) (by omega) (by omega) (fun c3 => ?_) (fun c3 => ?_)
      · refine xe_aload_n 0 dX10_part_84 rfl rfl ?_
        refine xr_getR (b := 176) dX10_part_85 fX10_19 rfl sh172 (by decide) rfl ?_
        refine xe_aload_n 0 dX10_part_88 rfl rfl ?_
        refine xr_getI (v := nI (n)) dX10_part_89 fX10_92 sh172 (by decide) v2 ?_
        refine xe_iload_n 1 dX10_part_92 rfl rfl ?_
        refine xr_iast (k := n) dX10_part_93 sh176 (by decide) (by omega) (by decide) ?_
        refine xe_aload_n 0 dX10_part_94 rfl rfl ?_
        refine xr_getR (b := 177) dX10_part_95 fX10_22 rfl sh172 (by decide) rfl ?_
        refine xe_aload_n 0 dX10_part_98 rfl rfl ?_
        refine xr_getI (v := nI (n)) dX10_part_99 fX10_92 sh172 (by decide) ((wi_ne (by omega)).trans v2) ?_
        refine xe_iload_n 2 dX10_part_102 rfl rfl ?_
        refine xr_iast (k := n) dX10_part_103 sh177 (by decide) (by omega) (by decide) ?_
        refine xe_aload_n 0 dX10_part_104 rfl rfl ?_
        refine xr_getR (b := 178) dX10_part_105 fX10_25 rfl sh172 (by decide) rfl ?_
        refine xe_aload_n 0 dX10_part_108 rfl rfl ?_
        refine xr_getI (v := nI (n)) dX10_part_109 fX10_92 sh172 (by decide) ((wi_ne (by omega)).trans ((wi_ne (by omega)).trans v2)) ?_
        refine xe_iconst (v := nI (0)) dX10_part_112 xc0 ?_
        refine xr_iast (k := n) dX10_part_113 sh178 (by decide) (by omega) (by decide) ?_
        refine xe_aload_n 0 dX10_part_114 rfl rfl ?_
        refine xe_dup dX10_part_115 rfl ?_
        refine xr_getI (v := nI (n)) dX10_part_116 fX10_92 sh172 (by decide) ((wi_ne (by omega)).trans ((wi_ne (by omega)).trans ((wi_ne (by omega)).trans v2))) ?_
        refine xe_iconst (v := nI (1)) dX10_part_119 xc1 ?_
        refine xn_iadd dX10_part_120 ?_
        refine xr_putI dX10_part_121 fX10_92 sh172 (by decide) ?_
        refine xe_aload_n 0 dX10_part_124 rfl rfl ?_
        refine xr_getI (v := nI (n + 1)) dX10_part_125 fX10_92 sh172 (by decide) wi_self ?_
        refine xe_iconst (v := nI (1)) dX10_part_128 xc1 ?_
        refine xn_isub dX10_part_129 (by omega) ?_
        exact xe_ret (r := (some (.int (nI ((n + 1) - 1))))) dX10_part_130 trivial (k2 c1 c2 c3)
      · refine xe_iconst (v := -1) dX10_part_82 xcm1 ?_
        exact xe_ret (r := (some (.int (-1)))) dX10_part_83 trivial (k3 c1 c2 c3)
  · refine xe_iload_n 3 dX10_part_49 rfl rfl ?_
    refine xe_aload_n 0 dX10_part_50 rfl rfl ?_
    refine xr_getR (b := 176) dX10_part_51 fX10_19 rfl sh172 (by decide) rfl ?_
    refine xe_iload 4 dX10_part_54 rfl ?_
    refine xr_iald (k := p) (v := nI (kd)) dX10_part_56 sh176 (by decide) (by omega) (by decide) v3 ?_
    refine xn_if_ne 64 dX10_part_57 (by decide) (by omega) (fun c4 => ?_) (fun c4 => ?_)
    · refine xe_iconst (v := nI (0)) dX10_part_64 xc0 ?_
      refine xn_iadd dX10_part_65 ?_
      refine xe_istore_n (L2 := [(0, .ref 172), (1, .int (k)), (2, .int (t)), (3, .int (nI (has + 0))), (4, .int (nI (p)))]) dX10_part_66 rfl (by decide) rfl ?_
      refine xn_iinc (c := 1) (L2 := [(0, .ref 172), (1, .int (k)), (2, .int (t)), (3, .int (nI (has + 0))), (4, .int (nI (p + 1)))]) 4 dX10_part_67 rfl (by decide) rfl ?_
      refine xe_goto 40 dX10_part_70 (by decide) ?_
      exact k4 c1 c4
    · refine xe_iconst (v := nI (1)) dX10_part_60 xc1 ?_
      refine xe_goto 65 dX10_part_61 (by decide) ?_
      refine xn_iadd dX10_part_65 ?_
      refine xe_istore_n (L2 := [(0, .ref 172), (1, .int (k)), (2, .int (t)), (3, .int (nI (has + 1))), (4, .int (nI (p)))]) dX10_part_66 rfl (by decide) rfl ?_
      refine xn_iinc (c := 1) (L2 := [(0, .ref 172), (1, .int (k)), (2, .int (t)), (3, .int (nI (has + 1))), (4, .int (nI (p + 1)))]) 4 dX10_part_67 rfl (by decide) rfl ?_
      refine xe_goto 40 dX10_part_70 (by decide) ?_
      exact k5 c1 c4

theorem gX10_part_e (u : xU) (nn n : Nat) (k t : Int32) (has p : Nat) {Q : Option Value → xM → Prop} (hnn : nn ≤ 6) (hn : n < 10) (hp : p = n) (hh : has ≤ 10) (v1 : u.1 172 3 = nI (nn)) (v2 : u.1 172 4 = nI (n))
    (k1 : n ≤ p → ¬ k = 0 → Q (some (.int (nI ((n + 1) - 1)))) (xmm (wi (wi (wi (wi u 176 n (k)) 177 n (t)) 178 n (nI (0))) 172 4 (nI (n + 1)))))
    (k2 : n ≤ p → k = 0 → ¬ has = 5 → Q (some (.int (nI ((n + 1) - 1)))) (xmm (wi (wi (wi (wi u 176 n (k)) 177 n (t)) 178 n (nI (0))) 172 4 (nI (n + 1)))))
    (k3 : n ≤ p → k = 0 → has = 5 → Q (some (.int (-1))) (xmm u))
    (k4 : ¬ n ≤ p → ¬ (u.1 176 p) = 0 → xE mX10_part 40 [(0, .ref 172), (1, .int (k)), (2, .int (t)), (3, .int (nI (has + 0))), (4, .int (nI (p + 1)))] [] (xmm u) Q)
    (k5 : ¬ n ≤ p → (u.1 176 p) = 0 → xE mX10_part 40 [(0, .ref 172), (1, .int (k)), (2, .int (t)), (3, .int (nI (has + 1))), (4, .int (nI (p + 1)))] [] (xmm u) Q) : xE mX10_part 40 [(0, .ref 172), (1, .int (k)), (2, .int (t)), (3, .int (nI (has))), (4, .int (nI (p)))] [] (xmm u) Q := by
  refine xe_iload 4 dX10_part_40 rfl ?_
  refine xe_aload_n 0 dX10_part_42 rfl rfl ?_
  refine xr_getI (v := nI (n)) dX10_part_43 fX10_92 sh172 (by decide) v2 ?_
  refine xn_icmp_ge 73 dX10_part_46 (by decide) (by omega) (by omega) (fun c1 => ?_) (fun c1 => ?_)
  · refine xe_iload_n 1 dX10_part_73 rfl rfl ?_
    refine xe_if_ne 84 dX10_part_74 (by decide) (fun c2 => ?_) (fun c2 => ?_)
    · refine xe_aload_n 0 dX10_part_84 rfl rfl ?_
      refine xr_getR (b := 176) dX10_part_85 fX10_19 rfl sh172 (by decide) rfl ?_
      refine xe_aload_n 0 dX10_part_88 rfl rfl ?_
      refine xr_getI (v := nI (n)) dX10_part_89 fX10_92 sh172 (by decide) v2 ?_
      refine xe_iload_n 1 dX10_part_92 rfl rfl ?_
      refine xr_iast (k := n) dX10_part_93 sh176 (by decide) (by omega) (by decide) ?_
      refine xe_aload_n 0 dX10_part_94 rfl rfl ?_
      refine xr_getR (b := 177) dX10_part_95 fX10_22 rfl sh172 (by decide) rfl ?_
      refine xe_aload_n 0 dX10_part_98 rfl rfl ?_
      refine xr_getI (v := nI (n)) dX10_part_99 fX10_92 sh172 (by decide) ((wi_ne (by omega)).trans v2) ?_
      refine xe_iload_n 2 dX10_part_102 rfl rfl ?_
      refine xr_iast (k := n) dX10_part_103 sh177 (by decide) (by omega) (by decide) ?_
      refine xe_aload_n 0 dX10_part_104 rfl rfl ?_
      refine xr_getR (b := 178) dX10_part_105 fX10_25 rfl sh172 (by decide) rfl ?_
      refine xe_aload_n 0 dX10_part_108 rfl rfl ?_
      refine xr_getI (v := nI (n)) dX10_part_109 fX10_92 sh172 (by decide) ((wi_ne (by omega)).trans ((wi_ne (by omega)).trans v2)) ?_
      refine xe_iconst (v := nI (0)) dX10_part_112 xc0 ?_
      refine xr_iast (k := n) dX10_part_113 sh178 (by decide) (by omega) (by decide) ?_
      refine xe_aload_n 0 dX10_part_114 rfl rfl ?_
      refine xe_dup dX10_part_115 rfl ?_
      refine xr_getI (v := nI (n)) dX10_part_116 fX10_92 sh172 (by decide) ((wi_ne (by omega)).trans ((wi_ne (by omega)).trans ((wi_ne (by omega)).trans v2))) ?_
      refine xe_iconst (v := nI (1)) dX10_part_119 xc1 ?_
      refine xn_iadd dX10_part_120 ?_
      refine xr_putI dX10_part_121 fX10_92 sh172 (by decide) ?_
      refine xe_aload_n 0 dX10_part_124 rfl rfl ?_
      refine xr_getI (v := nI (n + 1)) dX10_part_125 fX10_92 sh172 (by decide) wi_self ?_
      refine xe_iconst (v := nI (1)) dX10_part_128 xc1 ?_
      refine xn_isub dX10_part_129 (by omega) ?_
      exact xe_ret (r := (some (.int (nI ((n + 1) - 1))))) dX10_part_130 trivial (k1 c1 c2)
    · refine xe_iload_n 3 dX10_part_77 rfl rfl ?_
      refine xe_iconst (v := nI (5)) dX10_part_78 xc5 ?_
      refine xn_icmp_ne 84 dX10_part_79 (by decide) (by omega) (by omega) (fun c3 => ?_) (fun c3 => ?_)
      · refine xe_aload_n 0 dX10_part_84 rfl rfl ?_
        refine xr_getR (b := 176) dX10_part_85 fX10_19 rfl sh172 (by decide) rfl ?_
        refine xe_aload_n 0 dX10_part_88 rfl rfl ?_
        refine xr_getI (v := nI (n)) dX10_part_89 fX10_92 sh172 (by decide) v2 ?_
        refine xe_iload_n 1 dX10_part_92 rfl rfl ?_
        refine xr_iast (k := n) dX10_part_93 sh176 (by decide) (by omega) (by decide) ?_
        refine xe_aload_n 0 dX10_part_94 rfl rfl ?_
        refine xr_getR (b := 177) dX10_part_95 fX10_22 rfl sh172 (by decide) rfl ?_
        refine xe_aload_n 0 dX10_part_98 rfl rfl ?_
        refine xr_getI (v := nI (n)) dX10_part_99 fX10_92 sh172 (by decide) ((wi_ne (by omega)).trans v2) ?_
        refine xe_iload_n 2 dX10_part_102 rfl rfl ?_
        refine xr_iast (k := n) dX10_part_103 sh177 (by decide) (by omega) (by decide) ?_
        refine xe_aload_n 0 dX10_part_104 rfl rfl ?_
        refine xr_getR (b := 178) dX10_part_105 fX10_25 rfl sh172 (by decide) rfl ?_
        refine xe_aload_n 0 dX10_part_108 rfl rfl ?_
        refine xr_getI (v := nI (n)) dX10_part_109 fX10_92 sh172 (by decide) ((wi_ne (by omega)).trans ((wi_ne (by omega)).trans v2)) ?_
        refine xe_iconst (v := nI (0)) dX10_part_112 xc0 ?_
        refine xr_iast (k := n) dX10_part_113 sh178 (by decide) (by omega) (by decide) ?_
        refine xe_aload_n 0 dX10_part_114 rfl rfl ?_
        refine xe_dup dX10_part_115 rfl ?_
        refine xr_getI (v := nI (n)) dX10_part_116 fX10_92 sh172 (by decide) ((wi_ne (by omega)).trans ((wi_ne (by omega)).trans ((wi_ne (by omega)).trans v2))) ?_
        refine xe_iconst (v := nI (1)) dX10_part_119 xc1 ?_
        refine xn_iadd dX10_part_120 ?_
        refine xr_putI dX10_part_121 fX10_92 sh172 (by decide) ?_
        refine xe_aload_n 0 dX10_part_124 rfl rfl ?_
        refine xr_getI (v := nI (n + 1)) dX10_part_125 fX10_92 sh172 (by decide) wi_self ?_
        refine xe_iconst (v := nI (1)) dX10_part_128 xc1 ?_
        refine xn_isub dX10_part_129 (by omega) ?_
        exact xe_ret (r := (some (.int (nI ((n + 1) - 1))))) dX10_part_130 trivial (k2 c1 c2 c3)
      · refine xe_iconst (v := -1) dX10_part_82 xcm1 ?_
        exact xe_ret (r := (some (.int (-1)))) dX10_part_83 trivial (k3 c1 c2 c3)
  · refine xe_iload_n 3 dX10_part_49 rfl rfl ?_
    refine xe_aload_n 0 dX10_part_50 rfl rfl ?_
    refine xr_getR (b := 176) dX10_part_51 fX10_19 rfl sh172 (by decide) rfl ?_
    refine xe_iload 4 dX10_part_54 rfl ?_
    refine xr_iald (k := p) (v := u.1 176 p) dX10_part_56 sh176 (by decide) (by omega) (by decide) rfl ?_
    refine xe_if_ne 64 dX10_part_57 (by decide) (fun c4 => ?_) (fun c4 => ?_)
    · refine xe_iconst (v := nI (0)) dX10_part_64 xc0 ?_
      refine xn_iadd dX10_part_65 ?_
      refine xe_istore_n (L2 := [(0, .ref 172), (1, .int (k)), (2, .int (t)), (3, .int (nI (has + 0))), (4, .int (nI (p)))]) dX10_part_66 rfl (by decide) rfl ?_
      refine xn_iinc (c := 1) (L2 := [(0, .ref 172), (1, .int (k)), (2, .int (t)), (3, .int (nI (has + 0))), (4, .int (nI (p + 1)))]) 4 dX10_part_67 rfl (by decide) rfl ?_
      refine xe_goto 40 dX10_part_70 (by decide) ?_
      exact k4 c1 c4
    · refine xe_iconst (v := nI (1)) dX10_part_60 xc1 ?_
      refine xe_goto 65 dX10_part_61 (by decide) ?_
      refine xn_iadd dX10_part_65 ?_
      refine xe_istore_n (L2 := [(0, .ref 172), (1, .int (k)), (2, .int (t)), (3, .int (nI (has + 1))), (4, .int (nI (p)))]) dX10_part_66 rfl (by decide) rfl ?_
      refine xn_iinc (c := 1) (L2 := [(0, .ref 172), (1, .int (k)), (2, .int (t)), (3, .int (nI (has + 1))), (4, .int (nI (p + 1)))]) 4 dX10_part_67 rfl (by decide) rfl ?_
      refine xe_goto 40 dX10_part_70 (by decide) ?_
      exact k5 c1 c4

theorem gX10_place_0 (u : xU) (nn n : Nat) (k v : Int32) (kd of l cols : Nat) {Q : Option Value → xM → Prop} (hnn : nn ≤ 6) (hn : n ≤ 10) (h0 : n ≠ 0) (hkd : kd ≤ 3) (hof : of < 8) (hl : l ≤ cols) (hcols : cols ≤ 3) (v1 : u.1 172 3 = nI (nn)) (v2 : u.1 172 4 = nI (n)) (v3 : u.1 176 (n - 1) = nI (kd)) (v4 : u.1 177 (n - 1) = nI (of)) (v5 : u.1 178 (n - 1) = nI (l)) (v6 : u.1 173 of = nI (cols))
    (k1 : 1 < kd → Q (some (.int (-1))) (xmm u))
    (k2 : ¬ 1 < kd → ¬ l = cols → Q (some (.int (nI (l + 1)))) (xmm (wi (wi (wi u 179 ((3 * (n - 1)) + l) (k)) 180 ((3 * (n - 1)) + l) (v)) 178 (n - 1) (nI (l + 1)))))
    (k3 : ¬ 1 < kd → l = cols → Q (some (.int (-1))) (xmm u)) : xE mX10_place 0 [(0, .ref 172), (1, .int (k)), (2, .int (v))] [] (xmm u) Q := by
  refine xe_aload_n 0 dX10_place_0 rfl rfl ?_
  refine xr_getI (v := nI (n)) dX10_place_1 fX10_92 sh172 (by decide) v2 ?_
  refine xe_iconst (v := nI (1)) dX10_place_4 xc1 ?_
  refine xn_isub dX10_place_5 (by omega) ?_
  refine xe_istore_n (L2 := [(0, .ref 172), (1, .int (k)), (2, .int (v)), (3, .int (nI (n - 1)))]) dX10_place_6 rfl (by decide) rfl ?_
  refine xe_iload_n 3 dX10_place_7 rfl rfl ?_
  refine xn_if_lt 41 dX10_place_8 (by decide) (by omega) (fun q => absurd q (by omega)) (fun _ => ?_)
  refine xe_aload_n 0 dX10_place_11 rfl rfl ?_
  refine xr_getR (b := 176) dX10_place_12 fX10_19 rfl sh172 (by decide) rfl ?_
  refine xe_iload_n 3 dX10_place_15 rfl rfl ?_
  refine xr_iald (k := n - 1) (v := nI (kd)) dX10_place_16 sh176 (by decide) (by omega) (by decide) v3 ?_
  refine xe_iconst (v := nI (1)) dX10_place_17 xc1 ?_
  refine xn_icmp_gt 41 dX10_place_18 (by decide) (by omega) (by omega) (fun c1 => ?_) (fun c1 => ?_)
  · refine xe_iconst (v := -1) dX10_place_41 xcm1 ?_
    exact xe_ret (r := (some (.int (-1)))) dX10_place_42 trivial (k1 c1)
  · refine xe_aload_n 0 dX10_place_21 rfl rfl ?_
    refine xr_getR (b := 178) dX10_place_22 fX10_25 rfl sh172 (by decide) rfl ?_
    refine xe_iload_n 3 dX10_place_25 rfl rfl ?_
    refine xr_iald (k := n - 1) (v := nI (l)) dX10_place_26 sh178 (by decide) (by omega) (by decide) v5 ?_
    refine xe_aload_n 0 dX10_place_27 rfl rfl ?_
    refine xr_getR (b := 173) dX10_place_28 fX10_7 rfl sh172 (by decide) rfl ?_
    refine xe_aload_n 0 dX10_place_31 rfl rfl ?_
    refine xr_getR (b := 177) dX10_place_32 fX10_22 rfl sh172 (by decide) rfl ?_
    refine xe_iload_n 3 dX10_place_35 rfl rfl ?_
    refine xr_iald (k := n - 1) (v := nI (of)) dX10_place_36 sh177 (by decide) (by omega) (by decide) v4 ?_
    refine xr_iald (k := of) (v := nI (cols)) dX10_place_37 sh173 (by decide) (by omega) (by decide) v6 ?_
    refine xn_icmp_ne 43 dX10_place_38 (by decide) (by omega) (by omega) (fun c2 => ?_) (fun c2 => ?_)
    · refine xe_aload_n 0 dX10_place_43 rfl rfl ?_
      refine xr_getR (b := 179) dX10_place_44 fX10_28 rfl sh172 (by decide) rfl ?_
      refine xe_iconst (v := nI (3)) dX10_place_47 xc3 ?_
      refine xe_iload_n 3 dX10_place_48 rfl rfl ?_
      refine xn_imul dX10_place_49 ?_
      refine xe_aload_n 0 dX10_place_50 rfl rfl ?_
      refine xr_getR (b := 178) dX10_place_51 fX10_25 rfl sh172 (by decide) rfl ?_
      refine xe_iload_n 3 dX10_place_54 rfl rfl ?_
      refine xr_iald (k := n - 1) (v := nI (l)) dX10_place_55 sh178 (by decide) (by omega) (by decide) v5 ?_
      refine xn_iadd dX10_place_56 ?_
      refine xe_iload_n 1 dX10_place_57 rfl rfl ?_
      refine xr_iast (k := (3 * (n - 1)) + l) dX10_place_58 sh179 (by decide) (by omega) (by decide) ?_
      refine xe_aload_n 0 dX10_place_59 rfl rfl ?_
      refine xr_getR (b := 180) dX10_place_60 fX10_31 rfl sh172 (by decide) rfl ?_
      refine xe_iconst (v := nI (3)) dX10_place_63 xc3 ?_
      refine xe_iload_n 3 dX10_place_64 rfl rfl ?_
      refine xn_imul dX10_place_65 ?_
      refine xe_aload_n 0 dX10_place_66 rfl rfl ?_
      refine xr_getR (b := 178) dX10_place_67 fX10_25 rfl sh172 (by decide) rfl ?_
      refine xe_iload_n 3 dX10_place_70 rfl rfl ?_
      refine xr_iald (k := n - 1) (v := nI (l)) dX10_place_71 sh178 (by decide) (by omega) (by decide) ((wi_ne (by omega)).trans v5) ?_
      refine xn_iadd dX10_place_72 ?_
      refine xe_iload_n 2 dX10_place_73 rfl rfl ?_
      refine xr_iast (k := (3 * (n - 1)) + l) dX10_place_74 sh180 (by decide) (by omega) (by decide) ?_
      refine xe_aload_n 0 dX10_place_75 rfl rfl ?_
      refine xr_getR (b := 178) dX10_place_76 fX10_25 rfl sh172 (by decide) rfl ?_
      refine xe_iload_n 3 dX10_place_79 rfl rfl ?_
      refine xe_dup2 dX10_place_80 rfl rfl ?_
      refine xr_iald (k := n - 1) (v := nI (l)) dX10_place_81 sh178 (by decide) (by omega) (by decide) ((wi_ne (by omega)).trans ((wi_ne (by omega)).trans v5)) ?_
      refine xe_iconst (v := nI (1)) dX10_place_82 xc1 ?_
      refine xn_iadd dX10_place_83 ?_
      refine xr_iast (k := n - 1) dX10_place_84 sh178 (by decide) (by omega) (by decide) ?_
      refine xe_aload_n 0 dX10_place_85 rfl rfl ?_
      refine xr_getR (b := 178) dX10_place_86 fX10_25 rfl sh172 (by decide) rfl ?_
      refine xe_iload_n 3 dX10_place_89 rfl rfl ?_
      refine xr_iald (k := n - 1) (v := nI (l + 1)) dX10_place_90 sh178 (by decide) (by omega) (by decide) wi_self ?_
      exact xe_ret (r := (some (.int (nI (l + 1))))) dX10_place_91 trivial (k2 c1 c2)
    · refine xe_iconst (v := -1) dX10_place_41 xcm1 ?_
      exact xe_ret (r := (some (.int (-1)))) dX10_place_42 trivial (k3 c1 c2)

theorem gX10_place_c (u : xU) (nn n : Nat) (k v : Int32) (kd : Nat) {Q : Option Value → xM → Prop} (hnn : nn ≤ 6) (hn : n ≤ 10) (h0 : n ≠ 0) (hkd : kd ≤ 3) (v1 : u.1 172 3 = nI (nn)) (v2 : u.1 172 4 = nI (n)) (v3 : u.1 176 (n - 1) = nI (kd))
    (k1 : 1 < kd → Q (some (.int (-1))) (xmm u))
    (k2 : ¬ 1 < kd → False) : xE mX10_place 0 [(0, .ref 172), (1, .int (k)), (2, .int (v))] [] (xmm u) Q := by
  refine xe_aload_n 0 dX10_place_0 rfl rfl ?_
  refine xr_getI (v := nI (n)) dX10_place_1 fX10_92 sh172 (by decide) v2 ?_
  refine xe_iconst (v := nI (1)) dX10_place_4 xc1 ?_
  refine xn_isub dX10_place_5 (by omega) ?_
  refine xe_istore_n (L2 := [(0, .ref 172), (1, .int (k)), (2, .int (v)), (3, .int (nI (n - 1)))]) dX10_place_6 rfl (by decide) rfl ?_
  refine xe_iload_n 3 dX10_place_7 rfl rfl ?_
  refine xn_if_lt 41 dX10_place_8 (by decide) (by omega) (fun q => absurd q (by omega)) (fun _ => ?_)
  refine xe_aload_n 0 dX10_place_11 rfl rfl ?_
  refine xr_getR (b := 176) dX10_place_12 fX10_19 rfl sh172 (by decide) rfl ?_
  refine xe_iload_n 3 dX10_place_15 rfl rfl ?_
  refine xr_iald (k := n - 1) (v := nI (kd)) dX10_place_16 sh176 (by decide) (by omega) (by decide) v3 ?_
  refine xe_iconst (v := nI (1)) dX10_place_17 xc1 ?_
  refine xn_icmp_gt 41 dX10_place_18 (by decide) (by omega) (by omega) (fun c1 => ?_) (fun c1 => ?_)
  · refine xe_iconst (v := -1) dX10_place_41 xcm1 ?_
    exact xe_ret (r := (some (.int (-1)))) dX10_place_42 trivial (k1 c1)
  · refine xe_aload_n 0 dX10_place_21 rfl rfl ?_
    refine xr_getR (b := 178) dX10_place_22 fX10_25 rfl sh172 (by decide) rfl ?_
    refine xe_iload_n 3 dX10_place_25 rfl rfl ?_
    refine xr_iald (k := n - 1) (v := u.1 178 (n - 1)) dX10_place_26 sh178 (by decide) (by omega) (by decide) rfl ?_
    refine xe_aload_n 0 dX10_place_27 rfl rfl ?_
    refine xr_getR (b := 173) dX10_place_28 fX10_7 rfl sh172 (by decide) rfl ?_
    refine xe_aload_n 0 dX10_place_31 rfl rfl ?_
    refine xr_getR (b := 177) dX10_place_32 fX10_22 rfl sh172 (by decide) rfl ?_
    refine xe_iload_n 3 dX10_place_35 rfl rfl ?_
    refine xr_iald (k := n - 1) (v := u.1 177 (n - 1)) dX10_place_36 sh177 (by decide) (by omega) (by decide) rfl ?_
    exact (k2 c1).elim

theorem gX10_place_z (u : xU) (k v : Int32) {Q : Option Value → xM → Prop}  (v1 : u.1 172 4 = (0 : Int32))
    (k1 : (((0 : Int32)) - 1) < 0 → Q (some (.int (-1))) (xmm u))
    (k2 : ¬ (((0 : Int32)) - 1) < 0 → False) : xE mX10_place 0 [(0, .ref 172), (1, .int (k)), (2, .int (v))] [] (xmm u) Q := by
  refine xe_aload_n 0 dX10_place_0 rfl rfl ?_
  refine xr_getI (v := (0 : Int32)) dX10_place_1 fX10_92 sh172 (by decide) v1 ?_
  refine xe_iconst (v := nI (1)) dX10_place_4 xc1 ?_
  refine xe_isub dX10_place_5 ?_
  refine xe_istore_n (L2 := [(0, .ref 172), (1, .int (k)), (2, .int (v)), (3, .int (((0 : Int32)) - 1))]) dX10_place_6 rfl (by decide) rfl ?_
  refine xe_iload_n 3 dX10_place_7 rfl rfl ?_
  refine xe_if_lt 41 dX10_place_8 (by decide) (fun c1 => ?_) (fun c1 => ?_)
  · refine xe_iconst (v := -1) dX10_place_41 xcm1 ?_
    exact xe_ret (r := (some (.int (-1)))) dX10_place_42 trivial (k1 c1)
  · refine xe_aload_n 0 dX10_place_11 rfl rfl ?_
    refine xr_getR (b := 176) dX10_place_12 fX10_19 rfl sh172 (by decide) rfl ?_
    refine xe_iload_n 3 dX10_place_15 rfl rfl ?_
    exact (k2 c1).elim

theorem gX10_name_0 (u : xU) (nn n : Nat) (k : Int32) {Q : Option Value → xM → Prop} (hnn : nn ≤ 6) (hn : n ≤ 10) (h1 : 1 ≤ nn) (v1 : u.1 172 3 = nI (nn)) (v2 : u.1 172 4 = nI (n))
    (k1 : ¬ (0 ≤ k ∧ k ≤ (nI (nn - 1))) → Q (some (.int (-1))) (xmm u))
    (k2 : 0 ≤ k ∧ k ≤ (nI (nn - 1)) → xC mX10_place [.ref 172, .int (k), .int (nI (0))] (xmm u) (fun r μ1 => xE mX10_name 20 [] (r.toList ++ []) μ1 Q)) : xE mX10_name 0 [(0, .ref 172), (1, .int (k))] [] (xmm u) Q := by
  refine xe_iload_n 1 dX10_name_0 rfl rfl ?_
  refine xe_iconst (v := nI (0)) dX10_name_1 xc0 ?_
  refine xe_aload_n 0 dX10_name_2 rfl rfl ?_
  refine xr_getI (v := nI (nn)) dX10_name_3 fX10_119 sh172 (by decide) v1 ?_
  refine xe_iconst (v := nI (1)) dX10_name_6 xc1 ?_
  refine xn_isub dX10_name_7 (by omega) ?_
  refine xe_callS (As := [.int (k), .int (nI (0)), .int (nI (nn - 1))]) (rest := []) dX10_name_8 wX10_lies lX10_88 tX10_lies ⟨by decide, by decide⟩ rfl rfl (by simp [Value.category]) (xC.pure (v := .int (xb (0 ≤ k ∧ k ≤ (nI (nn - 1))))) (qX10_lies u k (nI (0)) (nI (nn - 1))) ?_)
  refine xb_if_eq 23 dX10_name_11 (by decide) (fun c1 => ?_) (fun c1 => ?_)
  · refine xe_iconst (v := -1) dX10_name_23 xcm1 ?_
    exact xe_ret (r := (some (.int (-1)))) dX10_name_24 trivial (k1 c1)
  · refine xe_aload_n 0 dX10_name_14 rfl rfl ?_
    refine xe_iload_n 1 dX10_name_15 rfl rfl ?_
    refine xe_iconst (v := nI (0)) dX10_name_16 xc0 ?_
    refine xE.sub [] rfl ?_
    refine xe_callV (As := [.int (k), .int (nI (0))]) (rest := []) dX10_name_17 wX10_place lX10_122 iX10_place sX10_place ⟨by decide, by decide⟩ sh172 rfl (xin_mm (by decide)) rfl rfl (by simp [Value.category]) ?_
    exact k2 c1

theorem gX10_name_z (u : xU) (k : Int32) {Q : Option Value → xM → Prop}  (v1 : u.1 172 3 = 0)
    (k1 : ¬ (0 ≤ k ∧ k ≤ (0 - 1)) → Q (some (.int (-1))) (xmm u))
    (k2 : 0 ≤ k ∧ k ≤ (0 - 1) → xC mX10_place [.ref 172, .int (k), .int (nI (0))] (xmm u) (fun r μ1 => xE mX10_name 20 [] (r.toList ++ []) μ1 Q)) : xE mX10_name 0 [(0, .ref 172), (1, .int (k))] [] (xmm u) Q := by
  refine xe_iload_n 1 dX10_name_0 rfl rfl ?_
  refine xe_iconst (v := nI (0)) dX10_name_1 xc0 ?_
  refine xe_aload_n 0 dX10_name_2 rfl rfl ?_
  refine xr_getI (v := 0) dX10_name_3 fX10_119 sh172 (by decide) v1 ?_
  refine xe_iconst (v := nI (1)) dX10_name_6 xc1 ?_
  refine xe_isub dX10_name_7 ?_
  refine xe_callS (As := [.int (k), .int (nI (0)), .int (0 - 1)]) (rest := []) dX10_name_8 wX10_lies lX10_88 tX10_lies ⟨by decide, by decide⟩ rfl rfl (by simp [Value.category]) (xC.pure (v := .int (xb (0 ≤ k ∧ k ≤ (0 - 1)))) (qX10_lies u k (nI (0)) (0 - 1)) ?_)
  refine xb_if_eq 23 dX10_name_11 (by decide) (fun c1 => ?_) (fun c1 => ?_)
  · refine xe_iconst (v := -1) dX10_name_23 xcm1 ?_
    exact xe_ret (r := (some (.int (-1)))) dX10_name_24 trivial (k1 c1)
  · refine xe_aload_n 0 dX10_name_14 rfl rfl ?_
    refine xe_iload_n 1 dX10_name_15 rfl rfl ?_
    refine xe_iconst (v := nI (0)) dX10_name_16 xc0 ?_
    refine xE.sub [] rfl ?_
    refine xe_callV (As := [.int (k), .int (nI (0))]) (rest := []) dX10_name_17 wX10_place lX10_122 iX10_place sX10_place ⟨by decide, by decide⟩ sh172 rfl (xin_mm (by decide)) rfl rfl (by simp [Value.category]) ?_
    exact k2 c1

theorem gX10_value_0 (u : xU) (nn n : Nat) (v : Int32) {Q : Option Value → xM → Prop} (hnn : nn ≤ 6) (hn : n ≤ 10) (v1 : u.1 172 3 = nI (nn)) (v2 : u.1 172 4 = nI (n))
    (k1 : xC mX10_place [.ref 172, .int (-1), .int (v)] (xmm u) (fun r μ1 => xE mX10_value 6 [] (r.toList ++ []) μ1 Q)) : xE mX10_value 0 [(0, .ref 172), (1, .int (v))] [] (xmm u) Q := by
  refine xe_aload_n 0 dX10_value_0 rfl rfl ?_
  refine xe_iconst (v := -1) dX10_value_1 xcm1 ?_
  refine xe_iload_n 1 dX10_value_2 rfl rfl ?_
  refine xE.sub [] rfl ?_
  refine xe_callV (As := [.int (-1), .int (v)]) (rest := []) dX10_value_3 wX10_place lX10_122 iX10_place sX10_place ⟨by decide, by decide⟩ sh172 rfl (xin_mm (by decide)) rfl rfl (by simp [Value.category]) ?_
  exact k1

theorem gX10_compare_0 (u : xU) (nn n : Nat) (k a b v : Int32) {Q : Option Value → xM → Prop} (hnn : nn ≤ 6) (hn : n ≤ 10) (v1 : u.1 172 3 = nI (nn)) (v2 : u.1 172 4 = nI (n))
    (k1 : nn = 0 → Q (some (.int (-1))) (xmm u))
    (k2 : ¬ nn = 0 → ¬ (2 ≤ k ∧ k ≤ 3) → Q (some (.int (-1))) (xmm u))
    (k3 : ¬ nn = 0 → 2 ≤ k ∧ k ≤ 3 → ¬ (0 ≤ a ∧ a ≤ (nI (nn - 1))) → Q (some (.int (-1))) (xmm u))
    (k4 : ¬ nn = 0 → 2 ≤ k ∧ k ≤ 3 → 0 ≤ a ∧ a ≤ (nI (nn - 1)) → b = 0 → ¬ n = 10 → b = 0 → Q (some (.int (nI ((n + 1) - 1)))) (xmm (wi (wi (wi (wi (wi (wi u 176 n (k)) 178 n (nI (2))) 179 (3 * n) (a)) 179 ((3 * n) + 1) (-1)) 180 ((3 * n) + 1) (v)) 172 4 (nI (n + 1)))))
    (k5 : ¬ nn = 0 → 2 ≤ k ∧ k ≤ 3 → 0 ≤ a ∧ a ≤ (nI (nn - 1)) → b = 0 → ¬ n = 10 → ¬ b = 0 → Q (some (.int (nI ((n + 1) - 1)))) (xmm (wi (wi (wi (wi (wi (wi u 176 n (k)) 178 n (nI (2))) 179 (3 * n) (a)) 179 ((3 * n) + 1) (v)) 180 ((3 * n) + 1) (v)) 172 4 (nI (n + 1)))))
    (k6 : ¬ nn = 0 → 2 ≤ k ∧ k ≤ 3 → 0 ≤ a ∧ a ≤ (nI (nn - 1)) → b = 0 → n = 10 → Q (some (.int (-1))) (xmm u))
    (k7 : ¬ nn = 0 → 2 ≤ k ∧ k ≤ 3 → 0 ≤ a ∧ a ≤ (nI (nn - 1)) → ¬ b = 0 → ¬ (0 ≤ v ∧ v ≤ (nI (nn - 1))) → Q (some (.int (-1))) (xmm u))
    (k8 : ¬ nn = 0 → 2 ≤ k ∧ k ≤ 3 → 0 ≤ a ∧ a ≤ (nI (nn - 1)) → ¬ b = 0 → 0 ≤ v ∧ v ≤ (nI (nn - 1)) → ¬ n = 10 → b = 0 → Q (some (.int (nI ((n + 1) - 1)))) (xmm (wi (wi (wi (wi (wi (wi u 176 n (k)) 178 n (nI (2))) 179 (3 * n) (a)) 179 ((3 * n) + 1) (-1)) 180 ((3 * n) + 1) (v)) 172 4 (nI (n + 1)))))
    (k9 : ¬ nn = 0 → 2 ≤ k ∧ k ≤ 3 → 0 ≤ a ∧ a ≤ (nI (nn - 1)) → ¬ b = 0 → 0 ≤ v ∧ v ≤ (nI (nn - 1)) → ¬ n = 10 → ¬ b = 0 → Q (some (.int (nI ((n + 1) - 1)))) (xmm (wi (wi (wi (wi (wi (wi u 176 n (k)) 178 n (nI (2))) 179 (3 * n) (a)) 179 ((3 * n) + 1) (v)) 180 ((3 * n) + 1) (v)) 172 4 (nI (n + 1)))))
    (k10 : ¬ nn = 0 → 2 ≤ k ∧ k ≤ 3 → 0 ≤ a ∧ a ≤ (nI (nn - 1)) → ¬ b = 0 → 0 ≤ v ∧ v ≤ (nI (nn - 1)) → n = 10 → Q (some (.int (-1))) (xmm u)) : xE mX10_compare 0 [(0, .ref 172), (1, .int (k)), (2, .int (a)), (3, .int (b)), (4, .int (v))] [] (xmm u) Q := by
  refine xe_aload_n 0 dX10_compare_0 rfl rfl ?_
  refine xr_getI (v := nI (nn)) dX10_compare_1 fX10_119 sh172 (by decide) v1 ?_
  refine xn_if_eq 58 dX10_compare_4 (by decide) (by omega) (fun c1 => ?_) (fun c1 => ?_)
  · refine xe_iconst (v := -1) dX10_compare_58 xcm1 ?_
    exact xe_ret (r := (some (.int (-1)))) dX10_compare_59 trivial (k1 c1)
  · refine xe_iload_n 1 dX10_compare_7 rfl rfl ?_
    refine xe_iconst (v := nI (2)) dX10_compare_8 xc2 ?_
    refine xe_iconst (v := nI (3)) dX10_compare_9 xc3 ?_
    refine xe_callS (As := [.int (k), .int (nI (2)), .int (nI (3))]) (rest := []) dX10_compare_10 wX10_lies lX10_88 tX10_lies ⟨by decide, by decide⟩ rfl rfl (by simp [Value.category]) (xC.pure (v := .int (xb (2 ≤ k ∧ k ≤ 3))) (qX10_lies u k (nI (2)) (nI (3))) ?_)
    refine xb_if_eq 58 dX10_compare_13 (by decide) (fun c2 => ?_) (fun c2 => ?_)
    · refine xe_iconst (v := -1) dX10_compare_58 xcm1 ?_
      exact xe_ret (r := (some (.int (-1)))) dX10_compare_59 trivial (k2 c1 c2)
    · refine xe_iload_n 2 dX10_compare_16 rfl rfl ?_
      refine xe_iconst (v := nI (0)) dX10_compare_17 xc0 ?_
      refine xe_aload_n 0 dX10_compare_18 rfl rfl ?_
      refine xr_getI (v := nI (nn)) dX10_compare_19 fX10_119 sh172 (by decide) v1 ?_
      refine xe_iconst (v := nI (1)) dX10_compare_22 xc1 ?_
      refine xn_isub dX10_compare_23 (by omega) ?_
      refine xe_callS (As := [.int (a), .int (nI (0)), .int (nI (nn - 1))]) (rest := []) dX10_compare_24 wX10_lies lX10_88 tX10_lies ⟨by decide, by decide⟩ rfl rfl (by simp [Value.category]) (xC.pure (v := .int (xb (0 ≤ a ∧ a ≤ (nI (nn - 1))))) (qX10_lies u a (nI (0)) (nI (nn - 1))) ?_)
      refine xb_if_eq 58 dX10_compare_27 (by decide) (fun c3 => ?_) (fun c3 => ?_)
      · refine xe_iconst (v := -1) dX10_compare_58 xcm1 ?_
        exact xe_ret (r := (some (.int (-1)))) dX10_compare_59 trivial (k3 c1 c2 c3)
      · refine xe_iload_n 3 dX10_compare_30 rfl rfl ?_
        refine xe_if_eq 49 dX10_compare_31 (by decide) (fun c4 => ?_) (fun c4 => ?_)
        · refine xe_aload_n 0 dX10_compare_49 rfl rfl ?_
          refine xr_getI (v := nI (n)) dX10_compare_50 fX10_92 sh172 (by decide) v2 ?_
          refine xe_bipush (v := nI (10)) dX10_compare_53 xcb10 ?_
          refine xn_icmp_ne 60 dX10_compare_55 (by decide) (by omega) (by omega) (fun c5 => ?_) (fun c5 => ?_)
          · refine xe_aload_n 0 dX10_compare_60 rfl rfl ?_
            refine xr_getR (b := 176) dX10_compare_61 fX10_19 rfl sh172 (by decide) rfl ?_
            refine xe_aload_n 0 dX10_compare_64 rfl rfl ?_
            refine xr_getI (v := nI (n)) dX10_compare_65 fX10_92 sh172 (by decide) v2 ?_
            refine xe_iload_n 1 dX10_compare_68 rfl rfl ?_
            refine xr_iast (k := n) dX10_compare_69 sh176 (by decide) (by omega) (by decide) ?_
            refine xe_aload_n 0 dX10_compare_70 rfl rfl ?_
            refine xr_getR (b := 178) dX10_compare_71 fX10_25 rfl sh172 (by decide) rfl ?_
            refine xe_aload_n 0 dX10_compare_74 rfl rfl ?_
            refine xr_getI (v := nI (n)) dX10_compare_75 fX10_92 sh172 (by decide) ((wi_ne (by omega)).trans v2) ?_
            refine xe_iconst (v := nI (2)) dX10_compare_78 xc2 ?_
            refine xr_iast (k := n) dX10_compare_79 sh178 (by decide) (by omega) (by decide) ?_
            refine xe_aload_n 0 dX10_compare_80 rfl rfl ?_
            refine xr_getR (b := 179) dX10_compare_81 fX10_28 rfl sh172 (by decide) rfl ?_
            refine xe_iconst (v := nI (3)) dX10_compare_84 xc3 ?_
            refine xe_aload_n 0 dX10_compare_85 rfl rfl ?_
            refine xr_getI (v := nI (n)) dX10_compare_86 fX10_92 sh172 (by decide) ((wi_ne (by omega)).trans ((wi_ne (by omega)).trans v2)) ?_
            refine xn_imul dX10_compare_89 ?_
            refine xe_iload_n 2 dX10_compare_90 rfl rfl ?_
            refine xr_iast (k := 3 * n) dX10_compare_91 sh179 (by decide) (by omega) (by decide) ?_
            refine xe_aload_n 0 dX10_compare_92 rfl rfl ?_
            refine xr_getR (b := 179) dX10_compare_93 fX10_28 rfl sh172 (by decide) rfl ?_
            refine xe_iconst (v := nI (3)) dX10_compare_96 xc3 ?_
            refine xe_aload_n 0 dX10_compare_97 rfl rfl ?_
            refine xr_getI (v := nI (n)) dX10_compare_98 fX10_92 sh172 (by decide) ((wi_ne (by omega)).trans ((wi_ne (by omega)).trans ((wi_ne (by omega)).trans v2))) ?_
            refine xn_imul dX10_compare_101 ?_
            refine xe_iconst (v := nI (1)) dX10_compare_102 xc1 ?_
            refine xn_iadd dX10_compare_103 ?_
            refine xe_iload_n 3 dX10_compare_104 rfl rfl ?_
            refine xe_if_eq 113 dX10_compare_105 (by decide) (fun c6 => ?_) (fun c6 => ?_)
            · refine xe_iconst (v := -1) dX10_compare_113 xcm1 ?_
              refine xr_iast (k := (3 * n) + 1) dX10_compare_114 sh179 (by decide) (by omega) (by decide) ?_
              refine xe_aload_n 0 dX10_compare_115 rfl rfl ?_
              refine xr_getR (b := 180) dX10_compare_116 fX10_31 rfl sh172 (by decide) rfl ?_
              refine xe_iconst (v := nI (3)) dX10_compare_119 xc3 ?_
              refine xe_aload_n 0 dX10_compare_120 rfl rfl ?_
              refine xr_getI (v := nI (n)) dX10_compare_121 fX10_92 sh172 (by decide) ((wi_ne (by omega)).trans ((wi_ne (by omega)).trans ((wi_ne (by omega)).trans ((wi_ne (by omega)).trans v2)))) ?_
              refine xn_imul dX10_compare_124 ?_
              refine xe_iconst (v := nI (1)) dX10_compare_125 xc1 ?_
              refine xn_iadd dX10_compare_126 ?_
              refine xe_iload 4 dX10_compare_127 rfl ?_
              refine xr_iast (k := (3 * n) + 1) dX10_compare_129 sh180 (by decide) (by omega) (by decide) ?_
              refine xe_aload_n 0 dX10_compare_130 rfl rfl ?_
              refine xe_dup dX10_compare_131 rfl ?_
              refine xr_getI (v := nI (n)) dX10_compare_132 fX10_92 sh172 (by decide) ((wi_ne (by omega)).trans ((wi_ne (by omega)).trans ((wi_ne (by omega)).trans ((wi_ne (by omega)).trans ((wi_ne (by omega)).trans v2))))) ?_
              refine xe_iconst (v := nI (1)) dX10_compare_135 xc1 ?_
              refine xn_iadd dX10_compare_136 ?_
              refine xr_putI dX10_compare_137 fX10_92 sh172 (by decide) ?_
              refine xe_aload_n 0 dX10_compare_140 rfl rfl ?_
              refine xr_getI (v := nI (n + 1)) dX10_compare_141 fX10_92 sh172 (by decide) wi_self ?_
              refine xe_iconst (v := nI (1)) dX10_compare_144 xc1 ?_
              refine xn_isub dX10_compare_145 (by omega) ?_
              exact xe_ret (r := (some (.int (nI ((n + 1) - 1))))) dX10_compare_146 trivial (k4 c1 c2 c3 c4 c5 c6)
            · refine xe_iload 4 dX10_compare_108 rfl ?_
              refine xe_goto 114 dX10_compare_110 (by decide) ?_
              refine xr_iast (k := (3 * n) + 1) dX10_compare_114 sh179 (by decide) (by omega) (by decide) ?_
              refine xe_aload_n 0 dX10_compare_115 rfl rfl ?_
              refine xr_getR (b := 180) dX10_compare_116 fX10_31 rfl sh172 (by decide) rfl ?_
              refine xe_iconst (v := nI (3)) dX10_compare_119 xc3 ?_
              refine xe_aload_n 0 dX10_compare_120 rfl rfl ?_
              refine xr_getI (v := nI (n)) dX10_compare_121 fX10_92 sh172 (by decide) ((wi_ne (by omega)).trans ((wi_ne (by omega)).trans ((wi_ne (by omega)).trans ((wi_ne (by omega)).trans v2)))) ?_
              refine xn_imul dX10_compare_124 ?_
              refine xe_iconst (v := nI (1)) dX10_compare_125 xc1 ?_
              refine xn_iadd dX10_compare_126 ?_
              refine xe_iload 4 dX10_compare_127 rfl ?_
              refine xr_iast (k := (3 * n) + 1) dX10_compare_129 sh180 (by decide) (by omega) (by decide) ?_
              refine xe_aload_n 0 dX10_compare_130 rfl rfl ?_
              refine xe_dup dX10_compare_131 rfl ?_
              refine xr_getI (v := nI (n)) dX10_compare_132 fX10_92 sh172 (by decide) ((wi_ne (by omega)).trans ((wi_ne (by omega)).trans ((wi_ne (by omega)).trans ((wi_ne (by omega)).trans ((wi_ne (by omega)).trans v2))))) ?_
              refine xe_iconst (v := nI (1)) dX10_compare_135 xc1 ?_
              refine xn_iadd dX10_compare_136 ?_
              refine xr_putI dX10_compare_137 fX10_92 sh172 (by decide) ?_
              refine xe_aload_n 0 dX10_compare_140 rfl rfl ?_
              refine xr_getI (v := nI (n + 1)) dX10_compare_141 fX10_92 sh172 (by decide) wi_self ?_
              refine xe_iconst (v := nI (1)) dX10_compare_144 xc1 ?_
              refine xn_isub dX10_compare_145 (by omega) ?_
              exact xe_ret (r := (some (.int (nI ((n + 1) - 1))))) dX10_compare_146 trivial (k5 c1 c2 c3 c4 c5 c6)
          · refine xe_iconst (v := -1) dX10_compare_58 xcm1 ?_
            exact xe_ret (r := (some (.int (-1)))) dX10_compare_59 trivial (k6 c1 c2 c3 c4 c5)
        · refine xe_iload 4 dX10_compare_34 rfl ?_
          refine xe_iconst (v := nI (0)) dX10_compare_36 xc0 ?_
          refine xe_aload_n 0 dX10_compare_37 rfl rfl ?_
          refine xr_getI (v := nI (nn)) dX10_compare_38 fX10_119 sh172 (by decide) v1 ?_
          refine xe_iconst (v := nI (1)) dX10_compare_41 xc1 ?_
          refine xn_isub dX10_compare_42 (by omega) ?_
          refine xe_callS (As := [.int (v), .int (nI (0)), .int (nI (nn - 1))]) (rest := []) dX10_compare_43 wX10_lies lX10_88 tX10_lies ⟨by decide, by decide⟩ rfl rfl (by simp [Value.category]) (xC.pure (v := .int (xb (0 ≤ v ∧ v ≤ (nI (nn - 1))))) (qX10_lies u v (nI (0)) (nI (nn - 1))) ?_)
          refine xb_if_eq 58 dX10_compare_46 (by decide) (fun c7 => ?_) (fun c7 => ?_)
          · refine xe_iconst (v := -1) dX10_compare_58 xcm1 ?_
            exact xe_ret (r := (some (.int (-1)))) dX10_compare_59 trivial (k7 c1 c2 c3 c4 c7)
          · refine xe_aload_n 0 dX10_compare_49 rfl rfl ?_
            refine xr_getI (v := nI (n)) dX10_compare_50 fX10_92 sh172 (by decide) v2 ?_
            refine xe_bipush (v := nI (10)) dX10_compare_53 xcb10 ?_
            refine xn_icmp_ne 60 dX10_compare_55 (by decide) (by omega) (by omega) (fun c8 => ?_) (fun c8 => ?_)
            · refine xe_aload_n 0 dX10_compare_60 rfl rfl ?_
              refine xr_getR (b := 176) dX10_compare_61 fX10_19 rfl sh172 (by decide) rfl ?_
              refine xe_aload_n 0 dX10_compare_64 rfl rfl ?_
              refine xr_getI (v := nI (n)) dX10_compare_65 fX10_92 sh172 (by decide) v2 ?_
              refine xe_iload_n 1 dX10_compare_68 rfl rfl ?_
              refine xr_iast (k := n) dX10_compare_69 sh176 (by decide) (by omega) (by decide) ?_
              refine xe_aload_n 0 dX10_compare_70 rfl rfl ?_
              refine xr_getR (b := 178) dX10_compare_71 fX10_25 rfl sh172 (by decide) rfl ?_
              refine xe_aload_n 0 dX10_compare_74 rfl rfl ?_
              refine xr_getI (v := nI (n)) dX10_compare_75 fX10_92 sh172 (by decide) ((wi_ne (by omega)).trans v2) ?_
              refine xe_iconst (v := nI (2)) dX10_compare_78 xc2 ?_
              refine xr_iast (k := n) dX10_compare_79 sh178 (by decide) (by omega) (by decide) ?_
              refine xe_aload_n 0 dX10_compare_80 rfl rfl ?_
              refine xr_getR (b := 179) dX10_compare_81 fX10_28 rfl sh172 (by decide) rfl ?_
              refine xe_iconst (v := nI (3)) dX10_compare_84 xc3 ?_
              refine xe_aload_n 0 dX10_compare_85 rfl rfl ?_
              refine xr_getI (v := nI (n)) dX10_compare_86 fX10_92 sh172 (by decide) ((wi_ne (by omega)).trans ((wi_ne (by omega)).trans v2)) ?_
              refine xn_imul dX10_compare_89 ?_
              refine xe_iload_n 2 dX10_compare_90 rfl rfl ?_
              refine xr_iast (k := 3 * n) dX10_compare_91 sh179 (by decide) (by omega) (by decide) ?_
              refine xe_aload_n 0 dX10_compare_92 rfl rfl ?_
              refine xr_getR (b := 179) dX10_compare_93 fX10_28 rfl sh172 (by decide) rfl ?_
              refine xe_iconst (v := nI (3)) dX10_compare_96 xc3 ?_
              refine xe_aload_n 0 dX10_compare_97 rfl rfl ?_
              refine xr_getI (v := nI (n)) dX10_compare_98 fX10_92 sh172 (by decide) ((wi_ne (by omega)).trans ((wi_ne (by omega)).trans ((wi_ne (by omega)).trans v2))) ?_
              refine xn_imul dX10_compare_101 ?_
              refine xe_iconst (v := nI (1)) dX10_compare_102 xc1 ?_
              refine xn_iadd dX10_compare_103 ?_
              refine xe_iload_n 3 dX10_compare_104 rfl rfl ?_
              refine xe_if_eq 113 dX10_compare_105 (by decide) (fun c9 => ?_) (fun c9 => ?_)
              · refine xe_iconst (v := -1) dX10_compare_113 xcm1 ?_
                refine xr_iast (k := (3 * n) + 1) dX10_compare_114 sh179 (by decide) (by omega) (by decide) ?_
                refine xe_aload_n 0 dX10_compare_115 rfl rfl ?_
                refine xr_getR (b := 180) dX10_compare_116 fX10_31 rfl sh172 (by decide) rfl ?_
                refine xe_iconst (v := nI (3)) dX10_compare_119 xc3 ?_
                refine xe_aload_n 0 dX10_compare_120 rfl rfl ?_
                refine xr_getI (v := nI (n)) dX10_compare_121 fX10_92 sh172 (by decide) ((wi_ne (by omega)).trans ((wi_ne (by omega)).trans ((wi_ne (by omega)).trans ((wi_ne (by omega)).trans v2)))) ?_
                refine xn_imul dX10_compare_124 ?_
                refine xe_iconst (v := nI (1)) dX10_compare_125 xc1 ?_
                refine xn_iadd dX10_compare_126 ?_
                refine xe_iload 4 dX10_compare_127 rfl ?_
                refine xr_iast (k := (3 * n) + 1) dX10_compare_129 sh180 (by decide) (by omega) (by decide) ?_
                refine xe_aload_n 0 dX10_compare_130 rfl rfl ?_
                refine xe_dup dX10_compare_131 rfl ?_
                refine xr_getI (v := nI (n)) dX10_compare_132 fX10_92 sh172 (by decide) ((wi_ne (by omega)).trans ((wi_ne (by omega)).trans ((wi_ne (by omega)).trans ((wi_ne (by omega)).trans ((wi_ne (by omega)).trans v2))))) ?_
                refine xe_iconst (v := nI (1)) dX10_compare_135 xc1 ?_
                refine xn_iadd dX10_compare_136 ?_
                refine xr_putI dX10_compare_137 fX10_92 sh172 (by decide) ?_
                refine xe_aload_n 0 dX10_compare_140 rfl rfl ?_
                refine xr_getI (v := nI (n + 1)) dX10_compare_141 fX10_92 sh172 (by decide) wi_self ?_
                refine xe_iconst (v := nI (1)) dX10_compare_144 xc1 ?_
                refine xn_isub dX10_compare_145 (by omega) ?_
                exact xe_ret (r := (some (.int (nI ((n + 1) - 1))))) dX10_compare_146 trivial (k8 c1 c2 c3 c4 c7 c8 c9)
              · refine xe_iload 4 dX10_compare_108 rfl ?_
                refine xe_goto 114 dX10_compare_110 (by decide) ?_
                refine xr_iast (k := (3 * n) + 1) dX10_compare_114 sh179 (by decide) (by omega) (by decide) ?_
                refine xe_aload_n 0 dX10_compare_115 rfl rfl ?_
                refine xr_getR (b := 180) dX10_compare_116 fX10_31 rfl sh172 (by decide) rfl ?_
                refine xe_iconst (v := nI (3)) dX10_compare_119 xc3 ?_
                refine xe_aload_n 0 dX10_compare_120 rfl rfl ?_
                refine xr_getI (v := nI (n)) dX10_compare_121 fX10_92 sh172 (by decide) ((wi_ne (by omega)).trans ((wi_ne (by omega)).trans ((wi_ne (by omega)).trans ((wi_ne (by omega)).trans v2)))) ?_
                refine xn_imul dX10_compare_124 ?_
                refine xe_iconst (v := nI (1)) dX10_compare_125 xc1 ?_
                refine xn_iadd dX10_compare_126 ?_
                refine xe_iload 4 dX10_compare_127 rfl ?_
                refine xr_iast (k := (3 * n) + 1) dX10_compare_129 sh180 (by decide) (by omega) (by decide) ?_
                refine xe_aload_n 0 dX10_compare_130 rfl rfl ?_
                refine xe_dup dX10_compare_131 rfl ?_
                refine xr_getI (v := nI (n)) dX10_compare_132 fX10_92 sh172 (by decide) ((wi_ne (by omega)).trans ((wi_ne (by omega)).trans ((wi_ne (by omega)).trans ((wi_ne (by omega)).trans ((wi_ne (by omega)).trans v2))))) ?_
                refine xe_iconst (v := nI (1)) dX10_compare_135 xc1 ?_
                refine xn_iadd dX10_compare_136 ?_
                refine xr_putI dX10_compare_137 fX10_92 sh172 (by decide) ?_
                refine xe_aload_n 0 dX10_compare_140 rfl rfl ?_
                refine xr_getI (v := nI (n + 1)) dX10_compare_141 fX10_92 sh172 (by decide) wi_self ?_
                refine xe_iconst (v := nI (1)) dX10_compare_144 xc1 ?_
                refine xn_isub dX10_compare_145 (by omega) ?_
                exact xe_ret (r := (some (.int (nI ((n + 1) - 1))))) dX10_compare_146 trivial (k9 c1 c2 c3 c4 c7 c8 c9)
            · refine xe_iconst (v := -1) dX10_compare_58 xcm1 ?_
              exact xe_ret (r := (some (.int (-1)))) dX10_compare_59 trivial (k10 c1 c2 c3 c4 c7 c8)

theorem gX10_order_0 (u : xU) (nn n : Nat) (i k : Int32) {Q : Option Value → xM → Prop} (hnn : nn ≤ 6) (hn : n ≤ 10) (h1 : 1 ≤ nn) (v1 : u.1 172 3 = nI (nn)) (v2 : u.1 172 4 = nI (n))
    (k1 : ¬ (0 ≤ i ∧ i ≤ (nI (nn - 1))) → Q (some (.int (nI (0)))) (xmm u))
    (k2 : 0 ≤ i ∧ i ≤ (nI (nn - 1)) → 0 ≤ k ∧ k ≤ (nI (nn - 1)) → xE mX10_order 32 [(0, .ref 172), (1, .int (i)), (2, .int (k)), (3, .int (nI (0)))] [] (xmm u) Q)
    (k3 : 0 ≤ i ∧ i ≤ (nI (nn - 1)) → ¬ (0 ≤ k ∧ k ≤ (nI (nn - 1))) → Q (some (.int (nI (0)))) (xmm u)) : xE mX10_order 0 [(0, .ref 172), (1, .int (i)), (2, .int (k))] [] (xmm u) Q := by
  refine xe_iload_n 1 dX10_order_0 rfl rfl ?_
  refine xe_iconst (v := nI (0)) dX10_order_1 xc0 ?_
  refine xe_aload_n 0 dX10_order_2 rfl rfl ?_
  refine xr_getI (v := nI (nn)) dX10_order_3 fX10_119 sh172 (by decide) v1 ?_
  refine xe_iconst (v := nI (1)) dX10_order_6 xc1 ?_
  refine xn_isub dX10_order_7 (by omega) ?_
  refine xe_callS (As := [.int (i), .int (nI (0)), .int (nI (nn - 1))]) (rest := []) dX10_order_8 wX10_lies lX10_88 tX10_lies ⟨by decide, by decide⟩ rfl rfl (by simp [Value.category]) (xC.pure (v := .int (xb (0 ≤ i ∧ i ≤ (nI (nn - 1))))) (qX10_lies u i (nI (0)) (nI (nn - 1))) ?_)
  refine xb_if_eq 28 dX10_order_11 (by decide) (fun c1 => ?_) (fun c1 => ?_)
  · refine xe_iconst (v := nI (0)) dX10_order_28 xc0 ?_
    exact xe_ret (r := (some (.int (nI (0))))) dX10_order_29 (Or.inl rfl) (k1 c1)
  · refine xe_iload_n 2 dX10_order_14 rfl rfl ?_
    refine xe_iconst (v := nI (0)) dX10_order_15 xc0 ?_
    refine xe_aload_n 0 dX10_order_16 rfl rfl ?_
    refine xr_getI (v := nI (nn)) dX10_order_17 fX10_119 sh172 (by decide) v1 ?_
    refine xe_iconst (v := nI (1)) dX10_order_20 xc1 ?_
    refine xn_isub dX10_order_21 (by omega) ?_
    refine xe_callS (As := [.int (k), .int (nI (0)), .int (nI (nn - 1))]) (rest := []) dX10_order_22 wX10_lies lX10_88 tX10_lies ⟨by decide, by decide⟩ rfl rfl (by simp [Value.category]) (xC.pure (v := .int (xb (0 ≤ k ∧ k ≤ (nI (nn - 1))))) (qX10_lies u k (nI (0)) (nI (nn - 1))) ?_)
    refine xb_if_ne 30 dX10_order_25 (by decide) (fun c2 => ?_) (fun c2 => ?_)
    · refine xe_iconst (v := nI (0)) dX10_order_30 xc0 ?_
      refine xe_istore_n (L2 := [(0, .ref 172), (1, .int (i)), (2, .int (k)), (3, .int (nI (0)))]) dX10_order_31 rfl (by decide) rfl ?_
      exact k2 c1 c2
    · refine xe_iconst (v := nI (0)) dX10_order_28 xc0 ?_
      exact xe_ret (r := (some (.int (nI (0))))) dX10_order_29 (Or.inl rfl) (k3 c1 c2)

theorem gX10_order_z (u : xU) (i k : Int32) {Q : Option Value → xM → Prop}  (v1 : u.1 172 3 = 0)
    (k1 : ¬ (0 ≤ i ∧ i ≤ (0 - 1)) → Q (some (.int (nI (0)))) (xmm u))
    (k2 : 0 ≤ i ∧ i ≤ (0 - 1) → 0 ≤ k ∧ k ≤ (0 - 1) → xE mX10_order 32 [(0, .ref 172), (1, .int (i)), (2, .int (k)), (3, .int (nI (0)))] [] (xmm u) Q)
    (k3 : 0 ≤ i ∧ i ≤ (0 - 1) → ¬ (0 ≤ k ∧ k ≤ (0 - 1)) → Q (some (.int (nI (0)))) (xmm u)) : xE mX10_order 0 [(0, .ref 172), (1, .int (i)), (2, .int (k))] [] (xmm u) Q := by
  refine xe_iload_n 1 dX10_order_0 rfl rfl ?_
  refine xe_iconst (v := nI (0)) dX10_order_1 xc0 ?_
  refine xe_aload_n 0 dX10_order_2 rfl rfl ?_
  refine xr_getI (v := 0) dX10_order_3 fX10_119 sh172 (by decide) v1 ?_
  refine xe_iconst (v := nI (1)) dX10_order_6 xc1 ?_
  refine xe_isub dX10_order_7 ?_
  refine xe_callS (As := [.int (i), .int (nI (0)), .int (0 - 1)]) (rest := []) dX10_order_8 wX10_lies lX10_88 tX10_lies ⟨by decide, by decide⟩ rfl rfl (by simp [Value.category]) (xC.pure (v := .int (xb (0 ≤ i ∧ i ≤ (0 - 1)))) (qX10_lies u i (nI (0)) (0 - 1)) ?_)
  refine xb_if_eq 28 dX10_order_11 (by decide) (fun c1 => ?_) (fun c1 => ?_)
  · refine xe_iconst (v := nI (0)) dX10_order_28 xc0 ?_
    exact xe_ret (r := (some (.int (nI (0))))) dX10_order_29 (Or.inl rfl) (k1 c1)
  · refine xe_iload_n 2 dX10_order_14 rfl rfl ?_
    refine xe_iconst (v := nI (0)) dX10_order_15 xc0 ?_
    refine xe_aload_n 0 dX10_order_16 rfl rfl ?_
    refine xr_getI (v := 0) dX10_order_17 fX10_119 sh172 (by decide) v1 ?_
    refine xe_iconst (v := nI (1)) dX10_order_20 xc1 ?_
    refine xe_isub dX10_order_21 ?_
    refine xe_callS (As := [.int (k), .int (nI (0)), .int (0 - 1)]) (rest := []) dX10_order_22 wX10_lies lX10_88 tX10_lies ⟨by decide, by decide⟩ rfl rfl (by simp [Value.category]) (xC.pure (v := .int (xb (0 ≤ k ∧ k ≤ (0 - 1)))) (qX10_lies u k (nI (0)) (0 - 1)) ?_)
    refine xb_if_ne 30 dX10_order_25 (by decide) (fun c2 => ?_) (fun c2 => ?_)
    · refine xe_iconst (v := nI (0)) dX10_order_30 xc0 ?_
      refine xe_istore_n (L2 := [(0, .ref 172), (1, .int (i)), (2, .int (k)), (3, .int (nI (0)))]) dX10_order_31 rfl (by decide) rfl ?_
      exact k2 c1 c2
    · refine xe_iconst (v := nI (0)) dX10_order_28 xc0 ?_
      exact xe_ret (r := (some (.int (nI (0))))) dX10_order_29 (Or.inl rfl) (k3 c1 c2)

theorem gX10_order_32 (u : xU) (nn n : Nat) (i k j oj oi : Nat) {Q : Option Value → xM → Prop} (hnn : nn ≤ 6) (hn : n ≤ 10) (hi : i < nn) (hk : k < nn) (hj : j < nn) (hoi : oi < nn) (hoj : oj < nn) (v1 : u.1 172 3 = nI (nn)) (v2 : u.1 172 4 = nI (n)) (v3 : u.1 181 j = nI (oj)) (v4 : u.1 181 i = nI (oi))
    (k1 : oj = k → Q (some (.int (nI (1)))) (xmm (wi (wi u 181 j (nI (oi))) 181 i (nI (k)))))
    (k2 : ¬ oj = k → xE mX10_order 32 [(0, .ref 172), (1, .int (nI (i))), (2, .int (nI (k))), (3, .int (nI (j + 1)))] [] (xmm u) Q) : xE mX10_order 32 [(0, .ref 172), (1, .int (nI (i))), (2, .int (nI (k))), (3, .int (nI (j)))] [] (xmm u) Q := by
  refine xe_aload_n 0 dX10_order_32 rfl rfl ?_
  refine xr_getR (b := 181) dX10_order_33 fX10_34 rfl sh172 (by decide) rfl ?_
  refine xe_iload_n 3 dX10_order_36 rfl rfl ?_
  refine xr_iald (k := j) (v := nI (oj)) dX10_order_37 sh181 (by decide) (by omega) (by decide) v3 ?_
  refine xe_iload_n 2 dX10_order_38 rfl rfl ?_
  refine xn_icmp_eq 48 dX10_order_39 (by decide) (by omega) (by omega) (fun c1 => ?_) (fun c1 => ?_)
  · refine xe_aload_n 0 dX10_order_48 rfl rfl ?_
    refine xr_getR (b := 181) dX10_order_49 fX10_34 rfl sh172 (by decide) rfl ?_
    refine xe_iload_n 3 dX10_order_52 rfl rfl ?_
    refine xe_aload_n 0 dX10_order_53 rfl rfl ?_
    refine xr_getR (b := 181) dX10_order_54 fX10_34 rfl sh172 (by decide) rfl ?_
    refine xe_iload_n 1 dX10_order_57 rfl rfl ?_
    refine xr_iald (k := i) (v := nI (oi)) dX10_order_58 sh181 (by decide) (by omega) (by decide) v4 ?_
    refine xr_iast (k := j) dX10_order_59 sh181 (by decide) (by omega) (by decide) ?_
    refine xe_aload_n 0 dX10_order_60 rfl rfl ?_
    refine xr_getR (b := 181) dX10_order_61 fX10_34 rfl sh172 (by decide) rfl ?_
    refine xe_iload_n 1 dX10_order_64 rfl rfl ?_
    refine xe_iload_n 2 dX10_order_65 rfl rfl ?_
    refine xr_iast (k := i) dX10_order_66 sh181 (by decide) (by omega) (by decide) ?_
    refine xe_iconst (v := nI (1)) dX10_order_67 xc1 ?_
    exact xe_ret (r := (some (.int (nI (1))))) dX10_order_68 (Or.inr rfl) (k1 c1)
  · refine xn_iinc (c := 1) (L2 := [(0, .ref 172), (1, .int (nI (i))), (2, .int (nI (k))), (3, .int (nI (j + 1)))]) 3 dX10_order_42 rfl (by decide) rfl ?_
    refine xe_goto 32 dX10_order_45 (by decide) ?_
    exact k2 c1

theorem gX10_count_0 (u : xU) (nn n : Nat) (w c d : Int32) {Q : Option Value → xM → Prop} (hnn : nn ≤ 6) (hn : n ≤ 10) (h1 : 1 ≤ nn) (v1 : u.1 172 3 = nI (nn)) (v2 : u.1 172 4 = nI (n)) (v3 : u.1 172 16 = c) (v4 : u.1 172 23 = d)
    (k1 : ¬ (0 ≤ (w - 10) ∧ (w - 10) ≤ (nI (nn - 1))) → w = nI 0 → Q (some (.int (nI (nn)))) (xmm u))
    (k2 : ¬ (0 ≤ (w - 10) ∧ (w - 10) ≤ (nI (nn - 1))) → ¬ w = nI 0 → w = nI 1 → Q (some (.int (nI (n)))) (xmm u))
    (k3 : ¬ (0 ≤ (w - 10) ∧ (w - 10) ≤ (nI (nn - 1))) → ¬ w = nI 0 → ¬ w = nI 1 → w = nI 2 → Q (some (.int (c))) (xmm u))
    (k4 : ¬ (0 ≤ (w - 10) ∧ (w - 10) ≤ (nI (nn - 1))) → ¬ w = nI 0 → ¬ w = nI 1 → ¬ w = nI 2 → w = nI 3 → Q (some (.int (d))) (xmm u))
    (k5 : ¬ (0 ≤ (w - 10) ∧ (w - 10) ≤ (nI (nn - 1))) → ¬ w = nI 0 → ¬ w = nI 1 → ¬ w = nI 2 → ¬ w = nI 3 → w = nI 4 → xC mX10_holds [.ref 172] (xmm u) (fun r μ1 => xE mX10_count 88 [] (r.toList ++ []) μ1 Q))
    (k6 : ¬ (0 ≤ (w - 10) ∧ (w - 10) ≤ (nI (nn - 1))) → ¬ w = nI 0 → ¬ w = nI 1 → ¬ w = nI 2 → ¬ w = nI 3 → ¬ w = nI 4 → Q (some (.int (-1))) (xmm u))
    (k7 : 0 ≤ (w - 10) ∧ (w - 10) ≤ (nI (nn - 1)) → False) : xE mX10_count 0 [(0, .ref 172), (1, .int (w))] [] (xmm u) Q := by
  refine xe_iload_n 1 dX10_count_0 rfl rfl ?_
  refine xe_bipush (v := nI (10)) dX10_count_1 xcb10 ?_
  refine xe_isub dX10_count_3 ?_
  refine xe_iconst (v := nI (0)) dX10_count_4 xc0 ?_
  refine xe_aload_n 0 dX10_count_5 rfl rfl ?_
  refine xr_getI (v := nI (nn)) dX10_count_6 fX10_119 sh172 (by decide) v1 ?_
  refine xe_iconst (v := nI (1)) dX10_count_9 xc1 ?_
  refine xn_isub dX10_count_10 (by omega) ?_
  refine xe_callS (As := [.int (w - 10), .int (nI (0)), .int (nI (nn - 1))]) (rest := []) dX10_count_11 wX10_lies lX10_88 tX10_lies ⟨by decide, by decide⟩ rfl rfl (by simp [Value.category]) (xC.pure (v := .int (xb (0 ≤ (w - 10) ∧ (w - 10) ≤ (nI (nn - 1))))) (qX10_lies u (w - 10) (nI (0)) (nI (nn - 1))) ?_)
  refine xb_if_eq 27 dX10_count_14 (by decide) (fun c1 => ?_) (fun c1 => ?_)
  · refine xe_iload_n 1 dX10_count_27 rfl rfl ?_
    by_cases c2 : w = nI 0
    · refine xe_tableIn (off := 36) 64 dX10_count_28 (by rw [c2]; decide) (by rw [c2]; decide) (by rw [c2]; decide) (by decide) ?_
      refine xe_aload_n 0 dX10_count_64 rfl rfl ?_
      refine xr_getI (v := nI (nn)) dX10_count_65 fX10_119 sh172 (by decide) v1 ?_
      exact xe_ret (r := (some (.int (nI (nn))))) dX10_count_68 trivial (k1 c1 c2)
    · by_cases c3 : w = nI 1
      · refine xe_tableIn (off := 41) 69 dX10_count_28 (by rw [c3]; decide) (by rw [c3]; decide) (by rw [c3]; decide) (by decide) ?_
        refine xe_aload_n 0 dX10_count_69 rfl rfl ?_
        refine xr_getI (v := nI (n)) dX10_count_70 fX10_92 sh172 (by decide) v2 ?_
        exact xe_ret (r := (some (.int (nI (n))))) dX10_count_73 trivial (k2 c1 c2 c3)
      · by_cases c4 : w = nI 2
        · refine xe_tableIn (off := 46) 74 dX10_count_28 (by rw [c4]; decide) (by rw [c4]; decide) (by rw [c4]; decide) (by decide) ?_
          refine xe_aload_n 0 dX10_count_74 rfl rfl ?_
          refine xr_getI (v := c) dX10_count_75 fX10_46 sh172 (by decide) v3 ?_
          exact xe_ret (r := (some (.int (c)))) dX10_count_78 trivial (k3 c1 c2 c3 c4)
        · by_cases c5 : w = nI 3
          · refine xe_tableIn (off := 51) 79 dX10_count_28 (by rw [c5]; decide) (by rw [c5]; decide) (by rw [c5]; decide) (by decide) ?_
            refine xe_aload_n 0 dX10_count_79 rfl rfl ?_
            refine xr_getI (v := d) dX10_count_80 fX10_63 sh172 (by decide) v4 ?_
            exact xe_ret (r := (some (.int (d)))) dX10_count_83 trivial (k4 c1 c2 c3 c4 c5)
          · by_cases c6 : w = nI 4
            · refine xe_tableIn (off := 56) 84 dX10_count_28 (by rw [c6]; decide) (by rw [c6]; decide) (by rw [c6]; decide) (by decide) ?_
              refine xe_aload_n 0 dX10_count_84 rfl rfl ?_
              refine xE.sub [] rfl ?_
              refine xe_callV (As := []) (rest := []) dX10_count_85 wX10_holds lX10_166 iX10_holds sX10_holds ⟨by decide, by decide⟩ sh172 rfl (xin_mm (by decide)) rfl rfl (by simp [Value.category]) ?_
              exact k5 c1 c2 c3 c4 c5 c6
            · refine xe_tableOut 97 dX10_count_28 (by have z0 := lv_neT c2 (show (nI 0).toInt = 0 from by decide); have z1 := lv_neT c3 (show (nI 1).toInt = 1 from by decide); have z2 := lv_neT c4 (show (nI 2).toInt = 2 from by decide); have z3 := lv_neT c5 (show (nI 3).toInt = 3 from by decide); have z4 := lv_neT c6 (show (nI 4).toInt = 4 from by decide); omega) (by decide) ?_
              refine xe_iconst (v := -1) dX10_count_97 xcm1 ?_
              exact xe_ret (r := (some (.int (-1)))) dX10_count_98 trivial (k6 c1 c2 c3 c4 c5 c6)
  · refine xe_aload_n 0 dX10_count_17 rfl rfl ?_
    refine xr_getR (b := 181) dX10_count_18 fX10_34 rfl sh172 (by decide) rfl ?_
    refine xe_iload_n 1 dX10_count_21 rfl rfl ?_
    refine xe_bipush (v := nI (10)) dX10_count_22 xcb10 ?_
    refine xe_isub dX10_count_24 ?_
    exact (k7 c1).elim

theorem gX10_count_z (u : xU) (n : Nat) (w c d : Int32) {Q : Option Value → xM → Prop}  (v1 : u.1 172 3 = 0) (v2 : u.1 172 4 = nI (n)) (v3 : u.1 172 16 = c) (v4 : u.1 172 23 = d)
    (k1 : ¬ (0 ≤ (w - 10) ∧ (w - 10) ≤ (0 - 1)) → w = nI 0 → Q (some (.int (0))) (xmm u))
    (k2 : ¬ (0 ≤ (w - 10) ∧ (w - 10) ≤ (0 - 1)) → ¬ w = nI 0 → w = nI 1 → Q (some (.int (nI (n)))) (xmm u))
    (k3 : ¬ (0 ≤ (w - 10) ∧ (w - 10) ≤ (0 - 1)) → ¬ w = nI 0 → ¬ w = nI 1 → w = nI 2 → Q (some (.int (c))) (xmm u))
    (k4 : ¬ (0 ≤ (w - 10) ∧ (w - 10) ≤ (0 - 1)) → ¬ w = nI 0 → ¬ w = nI 1 → ¬ w = nI 2 → w = nI 3 → Q (some (.int (d))) (xmm u))
    (k5 : ¬ (0 ≤ (w - 10) ∧ (w - 10) ≤ (0 - 1)) → ¬ w = nI 0 → ¬ w = nI 1 → ¬ w = nI 2 → ¬ w = nI 3 → w = nI 4 → xC mX10_holds [.ref 172] (xmm u) (fun r μ1 => xE mX10_count 88 [] (r.toList ++ []) μ1 Q))
    (k6 : ¬ (0 ≤ (w - 10) ∧ (w - 10) ≤ (0 - 1)) → ¬ w = nI 0 → ¬ w = nI 1 → ¬ w = nI 2 → ¬ w = nI 3 → ¬ w = nI 4 → Q (some (.int (-1))) (xmm u))
    (k7 : 0 ≤ (w - 10) ∧ (w - 10) ≤ (0 - 1) → False) : xE mX10_count 0 [(0, .ref 172), (1, .int (w))] [] (xmm u) Q := by
  refine xe_iload_n 1 dX10_count_0 rfl rfl ?_
  refine xe_bipush (v := nI (10)) dX10_count_1 xcb10 ?_
  refine xe_isub dX10_count_3 ?_
  refine xe_iconst (v := nI (0)) dX10_count_4 xc0 ?_
  refine xe_aload_n 0 dX10_count_5 rfl rfl ?_
  refine xr_getI (v := 0) dX10_count_6 fX10_119 sh172 (by decide) v1 ?_
  refine xe_iconst (v := nI (1)) dX10_count_9 xc1 ?_
  refine xe_isub dX10_count_10 ?_
  refine xe_callS (As := [.int (w - 10), .int (nI (0)), .int (0 - 1)]) (rest := []) dX10_count_11 wX10_lies lX10_88 tX10_lies ⟨by decide, by decide⟩ rfl rfl (by simp [Value.category]) (xC.pure (v := .int (xb (0 ≤ (w - 10) ∧ (w - 10) ≤ (0 - 1)))) (qX10_lies u (w - 10) (nI (0)) (0 - 1)) ?_)
  refine xb_if_eq 27 dX10_count_14 (by decide) (fun c1 => ?_) (fun c1 => ?_)
  · refine xe_iload_n 1 dX10_count_27 rfl rfl ?_
    by_cases c2 : w = nI 0
    · refine xe_tableIn (off := 36) 64 dX10_count_28 (by rw [c2]; decide) (by rw [c2]; decide) (by rw [c2]; decide) (by decide) ?_
      refine xe_aload_n 0 dX10_count_64 rfl rfl ?_
      refine xr_getI (v := 0) dX10_count_65 fX10_119 sh172 (by decide) v1 ?_
      exact xe_ret (r := (some (.int (0)))) dX10_count_68 trivial (k1 c1 c2)
    · by_cases c3 : w = nI 1
      · refine xe_tableIn (off := 41) 69 dX10_count_28 (by rw [c3]; decide) (by rw [c3]; decide) (by rw [c3]; decide) (by decide) ?_
        refine xe_aload_n 0 dX10_count_69 rfl rfl ?_
        refine xr_getI (v := nI (n)) dX10_count_70 fX10_92 sh172 (by decide) v2 ?_
        exact xe_ret (r := (some (.int (nI (n))))) dX10_count_73 trivial (k2 c1 c2 c3)
      · by_cases c4 : w = nI 2
        · refine xe_tableIn (off := 46) 74 dX10_count_28 (by rw [c4]; decide) (by rw [c4]; decide) (by rw [c4]; decide) (by decide) ?_
          refine xe_aload_n 0 dX10_count_74 rfl rfl ?_
          refine xr_getI (v := c) dX10_count_75 fX10_46 sh172 (by decide) v3 ?_
          exact xe_ret (r := (some (.int (c)))) dX10_count_78 trivial (k3 c1 c2 c3 c4)
        · by_cases c5 : w = nI 3
          · refine xe_tableIn (off := 51) 79 dX10_count_28 (by rw [c5]; decide) (by rw [c5]; decide) (by rw [c5]; decide) (by decide) ?_
            refine xe_aload_n 0 dX10_count_79 rfl rfl ?_
            refine xr_getI (v := d) dX10_count_80 fX10_63 sh172 (by decide) v4 ?_
            exact xe_ret (r := (some (.int (d)))) dX10_count_83 trivial (k4 c1 c2 c3 c4 c5)
          · by_cases c6 : w = nI 4
            · refine xe_tableIn (off := 56) 84 dX10_count_28 (by rw [c6]; decide) (by rw [c6]; decide) (by rw [c6]; decide) (by decide) ?_
              refine xe_aload_n 0 dX10_count_84 rfl rfl ?_
              refine xE.sub [] rfl ?_
              refine xe_callV (As := []) (rest := []) dX10_count_85 wX10_holds lX10_166 iX10_holds sX10_holds ⟨by decide, by decide⟩ sh172 rfl (xin_mm (by decide)) rfl rfl (by simp [Value.category]) ?_
              exact k5 c1 c2 c3 c4 c5 c6
            · refine xe_tableOut 97 dX10_count_28 (by have z0 := lv_neT c2 (show (nI 0).toInt = 0 from by decide); have z1 := lv_neT c3 (show (nI 1).toInt = 1 from by decide); have z2 := lv_neT c4 (show (nI 2).toInt = 2 from by decide); have z3 := lv_neT c5 (show (nI 3).toInt = 3 from by decide); have z4 := lv_neT c6 (show (nI 4).toInt = 4 from by decide); omega) (by decide) ?_
              refine xe_iconst (v := -1) dX10_count_97 xcm1 ?_
              exact xe_ret (r := (some (.int (-1)))) dX10_count_98 trivial (k6 c1 c2 c3 c4 c5 c6)
  · refine xe_aload_n 0 dX10_count_17 rfl rfl ?_
    refine xr_getR (b := 181) dX10_count_18 fX10_34 rfl sh172 (by decide) rfl ?_
    refine xe_iload_n 1 dX10_count_21 rfl rfl ?_
    refine xe_bipush (v := nI (10)) dX10_count_22 xcb10 ?_
    refine xe_isub dX10_count_24 ?_
    exact (k7 c1).elim

theorem gX10_count_N (u : xU) (nn n : Nat) (w : Nat) (c d : Int32) {Q : Option Value → xM → Prop} (hnn : nn ≤ 6) (hn : n ≤ 10) (h1 : 1 ≤ nn) (hw : w < 2147483648) (h10 : 10 ≤ w) (v1 : u.1 172 3 = nI (nn)) (v2 : u.1 172 4 = nI (n)) (v3 : u.1 172 16 = c) (v4 : u.1 172 23 = d)
    (k1 : ¬ (0 ≤ (w - 10) ∧ (w - 10) ≤ (nn - 1)) → (nI (w)) = nI 0 → Q (some (.int (nI (nn)))) (xmm u))
    (k2 : ¬ (0 ≤ (w - 10) ∧ (w - 10) ≤ (nn - 1)) → ¬ (nI (w)) = nI 0 → (nI (w)) = nI 1 → Q (some (.int (nI (n)))) (xmm u))
    (k3 : ¬ (0 ≤ (w - 10) ∧ (w - 10) ≤ (nn - 1)) → ¬ (nI (w)) = nI 0 → ¬ (nI (w)) = nI 1 → (nI (w)) = nI 2 → Q (some (.int (c))) (xmm u))
    (k4 : ¬ (0 ≤ (w - 10) ∧ (w - 10) ≤ (nn - 1)) → ¬ (nI (w)) = nI 0 → ¬ (nI (w)) = nI 1 → ¬ (nI (w)) = nI 2 → (nI (w)) = nI 3 → Q (some (.int (d))) (xmm u))
    (k5 : ¬ (0 ≤ (w - 10) ∧ (w - 10) ≤ (nn - 1)) → ¬ (nI (w)) = nI 0 → ¬ (nI (w)) = nI 1 → ¬ (nI (w)) = nI 2 → ¬ (nI (w)) = nI 3 → (nI (w)) = nI 4 → xC mX10_holds [.ref 172] (xmm u) (fun r μ1 => xE mX10_count 88 [] (r.toList ++ []) μ1 Q))
    (k6 : ¬ (0 ≤ (w - 10) ∧ (w - 10) ≤ (nn - 1)) → ¬ (nI (w)) = nI 0 → ¬ (nI (w)) = nI 1 → ¬ (nI (w)) = nI 2 → ¬ (nI (w)) = nI 3 → ¬ (nI (w)) = nI 4 → Q (some (.int (-1))) (xmm u))
    (k7 : 0 ≤ (w - 10) ∧ (w - 10) ≤ (nn - 1) → Q (some (.int (u.1 181 (w - 10)))) (xmm u)) : xE mX10_count 0 [(0, .ref 172), (1, .int (nI (w)))] [] (xmm u) Q := by
  refine xe_iload_n 1 dX10_count_0 rfl rfl ?_
  refine xe_bipush (v := nI (10)) dX10_count_1 xcb10 ?_
  refine xn_isub dX10_count_3 (by omega) ?_
  refine xe_iconst (v := nI (0)) dX10_count_4 xc0 ?_
  refine xe_aload_n 0 dX10_count_5 rfl rfl ?_
  refine xr_getI (v := nI (nn)) dX10_count_6 fX10_119 sh172 (by decide) v1 ?_
  refine xe_iconst (v := nI (1)) dX10_count_9 xc1 ?_
  refine xn_isub dX10_count_10 (by omega) ?_
  refine xe_callS (As := [.int (nI (w - 10)), .int (nI (0)), .int (nI (nn - 1))]) (rest := []) dX10_count_11 wX10_lies lX10_88 tX10_lies ⟨by decide, by decide⟩ rfl rfl (by simp [Value.category]) (xC.pure (v := .int (xb (0 ≤ (w - 10) ∧ (w - 10) ≤ (nn - 1)))) (qX10_liesN u (w - 10) 0 (nn - 1) (by omega) (by omega) (by omega)) ?_)
  refine xb_if_eq 27 dX10_count_14 (by decide) (fun c1 => ?_) (fun c1 => ?_)
  · refine xe_iload_n 1 dX10_count_27 rfl rfl ?_
    by_cases c2 : (nI (w)) = nI 0
    · refine xe_tableIn (off := 36) 64 dX10_count_28 (by rw [c2]; decide) (by rw [c2]; decide) (by rw [c2]; decide) (by decide) ?_
      refine xe_aload_n 0 dX10_count_64 rfl rfl ?_
      refine xr_getI (v := nI (nn)) dX10_count_65 fX10_119 sh172 (by decide) v1 ?_
      exact xe_ret (r := (some (.int (nI (nn))))) dX10_count_68 trivial (k1 c1 c2)
    · by_cases c3 : (nI (w)) = nI 1
      · refine xe_tableIn (off := 41) 69 dX10_count_28 (by rw [c3]; decide) (by rw [c3]; decide) (by rw [c3]; decide) (by decide) ?_
        refine xe_aload_n 0 dX10_count_69 rfl rfl ?_
        refine xr_getI (v := nI (n)) dX10_count_70 fX10_92 sh172 (by decide) v2 ?_
        exact xe_ret (r := (some (.int (nI (n))))) dX10_count_73 trivial (k2 c1 c2 c3)
      · by_cases c4 : (nI (w)) = nI 2
        · refine xe_tableIn (off := 46) 74 dX10_count_28 (by rw [c4]; decide) (by rw [c4]; decide) (by rw [c4]; decide) (by decide) ?_
          refine xe_aload_n 0 dX10_count_74 rfl rfl ?_
          refine xr_getI (v := c) dX10_count_75 fX10_46 sh172 (by decide) v3 ?_
          exact xe_ret (r := (some (.int (c)))) dX10_count_78 trivial (k3 c1 c2 c3 c4)
        · by_cases c5 : (nI (w)) = nI 3
          · refine xe_tableIn (off := 51) 79 dX10_count_28 (by rw [c5]; decide) (by rw [c5]; decide) (by rw [c5]; decide) (by decide) ?_
            refine xe_aload_n 0 dX10_count_79 rfl rfl ?_
            refine xr_getI (v := d) dX10_count_80 fX10_63 sh172 (by decide) v4 ?_
            exact xe_ret (r := (some (.int (d)))) dX10_count_83 trivial (k4 c1 c2 c3 c4 c5)
          · by_cases c6 : (nI (w)) = nI 4
            · refine xe_tableIn (off := 56) 84 dX10_count_28 (by rw [c6]; decide) (by rw [c6]; decide) (by rw [c6]; decide) (by decide) ?_
              refine xe_aload_n 0 dX10_count_84 rfl rfl ?_
              refine xE.sub [] rfl ?_
              refine xe_callV (As := []) (rest := []) dX10_count_85 wX10_holds lX10_166 iX10_holds sX10_holds ⟨by decide, by decide⟩ sh172 rfl (xin_mm (by decide)) rfl rfl (by simp [Value.category]) ?_
              exact k5 c1 c2 c3 c4 c5 c6
            · refine xe_tableOut 97 dX10_count_28 (by have z0 := lv_neT c2 (show (nI 0).toInt = 0 from by decide); have z1 := lv_neT c3 (show (nI 1).toInt = 1 from by decide); have z2 := lv_neT c4 (show (nI 2).toInt = 2 from by decide); have z3 := lv_neT c5 (show (nI 3).toInt = 3 from by decide); have z4 := lv_neT c6 (show (nI 4).toInt = 4 from by decide); omega) (by decide) ?_
              refine xe_iconst (v := -1) dX10_count_97 xcm1 ?_
              exact xe_ret (r := (some (.int (-1)))) dX10_count_98 trivial (k6 c1 c2 c3 c4 c5 c6)
  · refine xe_aload_n 0 dX10_count_17 rfl rfl ?_
    refine xr_getR (b := 181) dX10_count_18 fX10_34 rfl sh172 (by decide) rfl ?_
    refine xe_iload_n 1 dX10_count_21 rfl rfl ?_
    refine xe_bipush (v := nI (10)) dX10_count_22 xcb10 ?_
    refine xn_isub dX10_count_24 (by omega) ?_
    refine xr_iald (k := w - 10) (v := u.1 181 (w - 10)) dX10_count_25 sh181 (by decide) (by omega) (by decide) rfl ?_
    exact xe_ret (r := (some (.int (u.1 181 (w - 10))))) dX10_count_26 trivial (k7 c1)

theorem gX10_hasName_0 (u : xU) (p : Nat) (k : Int32) {Q : Option Value → xM → Prop}  
    (k1 : xE mX10_hasName 2 [(0, .ref 172), (1, .int (nI (p))), (2, .int (k)), (3, .int (nI (0)))] [] (xmm u) Q) : xE mX10_hasName 0 [(0, .ref 172), (1, .int (nI (p))), (2, .int (k))] [] (xmm u) Q := by
  refine xe_iconst (v := nI (0)) dX10_hasName_0 xc0 ?_
  refine xe_istore_n (L2 := [(0, .ref 172), (1, .int (nI (p))), (2, .int (k)), (3, .int (nI (0)))]) dX10_hasName_1 rfl (by decide) rfl ?_
  exact k1

theorem gX10_hasName_2 (u : xU) (p l i : Nat) (k x : Int32) {Q : Option Value → xM → Prop} (hp : p < 10) (hl : l ≤ 3) (hi : i < l) (v1 : u.1 178 p = nI (l)) (v2 : u.1 179 ((3 * p) + i) = x)
    (k1 : l ≤ i → Q (some (.int (nI (0)))) (xmm u))
    (k2 : ¬ l ≤ i → ¬ x = k → xE mX10_hasName 2 [(0, .ref 172), (1, .int (nI (p))), (2, .int (k)), (3, .int (nI (i + 1)))] [] (xmm u) Q)
    (k3 : ¬ l ≤ i → x = k → Q (some (.int (nI (1)))) (xmm u)) : xE mX10_hasName 2 [(0, .ref 172), (1, .int (nI (p))), (2, .int (k)), (3, .int (nI (i)))] [] (xmm u) Q := by
  refine xe_iload_n 3 dX10_hasName_2 rfl rfl ?_
  refine xe_aload_n 0 dX10_hasName_3 rfl rfl ?_
  refine xr_getR (b := 178) dX10_hasName_4 fX10_25 rfl sh172 (by decide) rfl ?_
  refine xe_iload_n 1 dX10_hasName_7 rfl rfl ?_
  refine xr_iald (k := p) (v := nI (l)) dX10_hasName_8 sh178 (by decide) (by omega) (by decide) v1 ?_
  refine xn_icmp_ge 34 dX10_hasName_9 (by decide) (by omega) (by omega) (fun c1 => ?_) (fun c1 => ?_)
  · refine xe_iconst (v := nI (0)) dX10_hasName_34 xc0 ?_
    exact xe_ret (r := (some (.int (nI (0))))) dX10_hasName_35 (Or.inl rfl) (k1 c1)
  · refine xe_aload_n 0 dX10_hasName_12 rfl rfl ?_
    refine xr_getR (b := 179) dX10_hasName_13 fX10_28 rfl sh172 (by decide) rfl ?_
    refine xe_iconst (v := nI (3)) dX10_hasName_16 xc3 ?_
    refine xe_iload_n 1 dX10_hasName_17 rfl rfl ?_
    refine xn_imul dX10_hasName_18 ?_
    refine xe_iload_n 3 dX10_hasName_19 rfl rfl ?_
    refine xn_iadd dX10_hasName_20 ?_
    refine xr_iald (k := (3 * p) + i) (v := x) dX10_hasName_21 sh179 (by decide) (by omega) (by decide) v2 ?_
    refine xe_iload_n 2 dX10_hasName_22 rfl rfl ?_
    refine xe_icmp_ne 28 dX10_hasName_23 (by decide) (fun c2 => ?_) (fun c2 => ?_)
    · refine xn_iinc (c := 1) (L2 := [(0, .ref 172), (1, .int (nI (p))), (2, .int (k)), (3, .int (nI (i + 1)))]) 3 dX10_hasName_28 rfl (by decide) rfl ?_
      refine xe_goto 2 dX10_hasName_31 (by decide) ?_
      exact k2 c1 c2
    · refine xe_iconst (v := nI (1)) dX10_hasName_26 xc1 ?_
      exact xe_ret (r := (some (.int (nI (1))))) dX10_hasName_27 (Or.inr rfl) (k3 c1 c2)

theorem gX10_hasName_e (u : xU) (p l i : Nat) (k : Int32) {Q : Option Value → xM → Prop} (hp : p < 10) (hl : l ≤ 3) (hi : i = l) (v1 : u.1 178 p = nI (l))
    (k1 : l ≤ i → Q (some (.int (nI (0)))) (xmm u))
    (k2 : ¬ l ≤ i → ¬ (u.1 179 ((3 * p) + i)) = k → xE mX10_hasName 2 [(0, .ref 172), (1, .int (nI (p))), (2, .int (k)), (3, .int (nI (i + 1)))] [] (xmm u) Q)
    (k3 : ¬ l ≤ i → (u.1 179 ((3 * p) + i)) = k → Q (some (.int (nI (1)))) (xmm u)) : xE mX10_hasName 2 [(0, .ref 172), (1, .int (nI (p))), (2, .int (k)), (3, .int (nI (i)))] [] (xmm u) Q := by
  refine xe_iload_n 3 dX10_hasName_2 rfl rfl ?_
  refine xe_aload_n 0 dX10_hasName_3 rfl rfl ?_
  refine xr_getR (b := 178) dX10_hasName_4 fX10_25 rfl sh172 (by decide) rfl ?_
  refine xe_iload_n 1 dX10_hasName_7 rfl rfl ?_
  refine xr_iald (k := p) (v := nI (l)) dX10_hasName_8 sh178 (by decide) (by omega) (by decide) v1 ?_
  refine xn_icmp_ge 34 dX10_hasName_9 (by decide) (by omega) (by omega) (fun c1 => ?_) (fun c1 => ?_)
  · refine xe_iconst (v := nI (0)) dX10_hasName_34 xc0 ?_
    exact xe_ret (r := (some (.int (nI (0))))) dX10_hasName_35 (Or.inl rfl) (k1 c1)
  · refine xe_aload_n 0 dX10_hasName_12 rfl rfl ?_
    refine xr_getR (b := 179) dX10_hasName_13 fX10_28 rfl sh172 (by decide) rfl ?_
    refine xe_iconst (v := nI (3)) dX10_hasName_16 xc3 ?_
    refine xe_iload_n 1 dX10_hasName_17 rfl rfl ?_
    refine xn_imul dX10_hasName_18 ?_
    refine xe_iload_n 3 dX10_hasName_19 rfl rfl ?_
    refine xn_iadd dX10_hasName_20 ?_
    refine xr_iald (k := (3 * p) + i) (v := u.1 179 ((3 * p) + i)) dX10_hasName_21 sh179 (by decide) (by omega) (by decide) rfl ?_
    refine xe_iload_n 2 dX10_hasName_22 rfl rfl ?_
    refine xe_icmp_ne 28 dX10_hasName_23 (by decide) (fun c2 => ?_) (fun c2 => ?_)
    · refine xn_iinc (c := 1) (L2 := [(0, .ref 172), (1, .int (nI (p))), (2, .int (k)), (3, .int (nI (i + 1)))]) 3 dX10_hasName_28 rfl (by decide) rfl ?_
      refine xe_goto 2 dX10_hasName_31 (by decide) ?_
      exact k2 c1 c2
    · refine xe_iconst (v := nI (1)) dX10_hasName_26 xc1 ?_
      exact xe_ret (r := (some (.int (nI (1))))) dX10_hasName_27 (Or.inr rfl) (k3 c1 c2)

theorem gX10_isNamed_0 (u : xU) (p : Nat) {Q : Option Value → xM → Prop}  
    (k1 : xE mX10_isNamed 2 [(0, .ref 172), (1, .int (nI (p))), (2, .int (nI (0)))] [] (xmm u) Q) : xE mX10_isNamed 0 [(0, .ref 172), (1, .int (nI (p)))] [] (xmm u) Q := by
  refine xe_iconst (v := nI (0)) dX10_isNamed_0 xc0 ?_
  refine xe_istore_n (L2 := [(0, .ref 172), (1, .int (nI (p))), (2, .int (nI (0)))]) dX10_isNamed_1 rfl (by decide) rfl ?_
  exact k1

theorem gX10_isNamed_2 (u : xU) (p l i : Nat) (x : Int32) {Q : Option Value → xM → Prop} (hp : p < 10) (hl : l ≤ 3) (hi : i < l) (v1 : u.1 178 p = nI (l)) (v2 : u.1 179 ((3 * p) + i) = x)
    (k1 : l ≤ i → Q (some (.int (nI (0)))) (xmm u))
    (k2 : ¬ l ≤ i → x = (-1) → xE mX10_isNamed 2 [(0, .ref 172), (1, .int (nI (p))), (2, .int (nI (i + 1)))] [] (xmm u) Q)
    (k3 : ¬ l ≤ i → ¬ x = (-1) → Q (some (.int (nI (1)))) (xmm u)) : xE mX10_isNamed 2 [(0, .ref 172), (1, .int (nI (p))), (2, .int (nI (i)))] [] (xmm u) Q := by
  refine xe_iload_n 2 dX10_isNamed_2 rfl rfl ?_
  refine xe_aload_n 0 dX10_isNamed_3 rfl rfl ?_
  refine xr_getR (b := 178) dX10_isNamed_4 fX10_25 rfl sh172 (by decide) rfl ?_
  refine xe_iload_n 1 dX10_isNamed_7 rfl rfl ?_
  refine xr_iald (k := p) (v := nI (l)) dX10_isNamed_8 sh178 (by decide) (by omega) (by decide) v1 ?_
  refine xn_icmp_ge 34 dX10_isNamed_9 (by decide) (by omega) (by omega) (fun c1 => ?_) (fun c1 => ?_)
  · refine xe_iconst (v := nI (0)) dX10_isNamed_34 xc0 ?_
    exact xe_ret (r := (some (.int (nI (0))))) dX10_isNamed_35 (Or.inl rfl) (k1 c1)
  · refine xe_aload_n 0 dX10_isNamed_12 rfl rfl ?_
    refine xr_getR (b := 179) dX10_isNamed_13 fX10_28 rfl sh172 (by decide) rfl ?_
    refine xe_iconst (v := nI (3)) dX10_isNamed_16 xc3 ?_
    refine xe_iload_n 1 dX10_isNamed_17 rfl rfl ?_
    refine xn_imul dX10_isNamed_18 ?_
    refine xe_iload_n 2 dX10_isNamed_19 rfl rfl ?_
    refine xn_iadd dX10_isNamed_20 ?_
    refine xr_iald (k := (3 * p) + i) (v := x) dX10_isNamed_21 sh179 (by decide) (by omega) (by decide) v2 ?_
    refine xe_iconst (v := -1) dX10_isNamed_22 xcm1 ?_
    refine xe_icmp_eq 28 dX10_isNamed_23 (by decide) (fun c2 => ?_) (fun c2 => ?_)
    · refine xn_iinc (c := 1) (L2 := [(0, .ref 172), (1, .int (nI (p))), (2, .int (nI (i + 1)))]) 2 dX10_isNamed_28 rfl (by decide) rfl ?_
      refine xe_goto 2 dX10_isNamed_31 (by decide) ?_
      exact k2 c1 c2
    · refine xe_iconst (v := nI (1)) dX10_isNamed_26 xc1 ?_
      exact xe_ret (r := (some (.int (nI (1))))) dX10_isNamed_27 (Or.inr rfl) (k3 c1 c2)

theorem gX10_isNamed_e (u : xU) (p l i : Nat) {Q : Option Value → xM → Prop} (hp : p < 10) (hl : l ≤ 3) (hi : i = l) (v1 : u.1 178 p = nI (l))
    (k1 : l ≤ i → Q (some (.int (nI (0)))) (xmm u))
    (k2 : ¬ l ≤ i → (u.1 179 ((3 * p) + i)) = (-1) → xE mX10_isNamed 2 [(0, .ref 172), (1, .int (nI (p))), (2, .int (nI (i + 1)))] [] (xmm u) Q)
    (k3 : ¬ l ≤ i → ¬ (u.1 179 ((3 * p) + i)) = (-1) → Q (some (.int (nI (1)))) (xmm u)) : xE mX10_isNamed 2 [(0, .ref 172), (1, .int (nI (p))), (2, .int (nI (i)))] [] (xmm u) Q := by
  refine xe_iload_n 2 dX10_isNamed_2 rfl rfl ?_
  refine xe_aload_n 0 dX10_isNamed_3 rfl rfl ?_
  refine xr_getR (b := 178) dX10_isNamed_4 fX10_25 rfl sh172 (by decide) rfl ?_
  refine xe_iload_n 1 dX10_isNamed_7 rfl rfl ?_
  refine xr_iald (k := p) (v := nI (l)) dX10_isNamed_8 sh178 (by decide) (by omega) (by decide) v1 ?_
  refine xn_icmp_ge 34 dX10_isNamed_9 (by decide) (by omega) (by omega) (fun c1 => ?_) (fun c1 => ?_)
  · refine xe_iconst (v := nI (0)) dX10_isNamed_34 xc0 ?_
    exact xe_ret (r := (some (.int (nI (0))))) dX10_isNamed_35 (Or.inl rfl) (k1 c1)
  · refine xe_aload_n 0 dX10_isNamed_12 rfl rfl ?_
    refine xr_getR (b := 179) dX10_isNamed_13 fX10_28 rfl sh172 (by decide) rfl ?_
    refine xe_iconst (v := nI (3)) dX10_isNamed_16 xc3 ?_
    refine xe_iload_n 1 dX10_isNamed_17 rfl rfl ?_
    refine xn_imul dX10_isNamed_18 ?_
    refine xe_iload_n 2 dX10_isNamed_19 rfl rfl ?_
    refine xn_iadd dX10_isNamed_20 ?_
    refine xr_iald (k := (3 * p) + i) (v := u.1 179 ((3 * p) + i)) dX10_isNamed_21 sh179 (by decide) (by omega) (by decide) rfl ?_
    refine xe_iconst (v := -1) dX10_isNamed_22 xcm1 ?_
    refine xe_icmp_eq 28 dX10_isNamed_23 (by decide) (fun c2 => ?_) (fun c2 => ?_)
    · refine xn_iinc (c := 1) (L2 := [(0, .ref 172), (1, .int (nI (p))), (2, .int (nI (i + 1)))]) 2 dX10_isNamed_28 rfl (by decide) rfl ?_
      refine xe_goto 2 dX10_isNamed_31 (by decide) ?_
      exact k2 c1 c2
    · refine xe_iconst (v := nI (1)) dX10_isNamed_26 xc1 ?_
      exact xe_ret (r := (some (.int (nI (1))))) dX10_isNamed_27 (Or.inr rfl) (k3 c1 c2)

theorem gX10_holds_0 (u : xU) (nn n : Nat) {Q : Option Value → xM → Prop} (hnn : nn ≤ 6) (hn : n ≤ 10) (v1 : u.1 172 3 = nI (nn)) (v2 : u.1 172 4 = nI (n))
    (k1 : ¬ nn = 0 → xE mX10_holds 11 [(0, .ref 172), (1, .int (nI (0)))] [] (xmm u) Q)
    (k2 : nn = 0 → Q (some (.int (nI (0)))) (xmm u)) : xE mX10_holds 0 [(0, .ref 172)] [] (xmm u) Q := by
  refine xe_aload_n 0 dX10_holds_0 rfl rfl ?_
  refine xr_getI (v := nI (nn)) dX10_holds_1 fX10_119 sh172 (by decide) v1 ?_
  refine xn_if_ne 9 dX10_holds_4 (by decide) (by omega) (fun c1 => ?_) (fun c1 => ?_)
  · refine xe_iconst (v := nI (0)) dX10_holds_9 xc0 ?_
    refine xe_istore_n (L2 := [(0, .ref 172), (1, .int (nI (0)))]) dX10_holds_10 rfl (by decide) rfl ?_
    exact k1 c1
  · refine xe_iconst (v := nI (0)) dX10_holds_7 xc0 ?_
    exact xe_ret (r := (some (.int (nI (0))))) dX10_holds_8 (Or.inl rfl) (k2 c1)

theorem gX10_holds_11 (u : xU) (nn n : Nat) (p kd of l cols : Nat) {Q : Option Value → xM → Prop} (hnn : nn ≤ 6) (hn : n ≤ 10) (hp : p < n) (hkd : kd ≤ 3) (hof : of < 8) (hl : l ≤ 3) (hcols : cols ≤ 3) (v1 : u.1 172 3 = nI (nn)) (v2 : u.1 172 4 = nI (n)) (v3 : u.1 176 p = nI (kd)) (v4 : u.1 177 p = nI (of)) (v5 : u.1 178 p = nI (l)) (v6 : u.1 173 of = nI (cols))
    (k1 : n ≤ p → xE mX10_holds 59 [(0, .ref 172), (1, .int (nI (0)))] [] (xmm u) Q)
    (k2 : ¬ n ≤ p → 1 < kd → xE mX10_holds 11 [(0, .ref 172), (1, .int (nI (p + 1)))] [] (xmm u) Q)
    (k3 : ¬ n ≤ p → ¬ 1 < kd → cols ≤ l → xE mX10_holds 11 [(0, .ref 172), (1, .int (nI (p + 1)))] [] (xmm u) Q)
    (k4 : ¬ n ≤ p → ¬ 1 < kd → ¬ cols ≤ l → Q (some (.int (nI (0)))) (xmm u)) : xE mX10_holds 11 [(0, .ref 172), (1, .int (nI (p)))] [] (xmm u) Q := by
  refine xe_iload_n 1 dX10_holds_11 rfl rfl ?_
  refine xe_aload_n 0 dX10_holds_12 rfl rfl ?_
  refine xr_getI (v := nI (n)) dX10_holds_13 fX10_92 sh172 (by decide) v2 ?_
  refine xn_icmp_ge 57 dX10_holds_16 (by decide) (by omega) (by omega) (fun c1 => ?_) (fun c1 => ?_)
  · refine xe_iconst (v := nI (0)) dX10_holds_57 xc0 ?_
    refine xe_istore_n (L2 := [(0, .ref 172), (1, .int (nI (0)))]) dX10_holds_58 rfl (by decide) rfl ?_
    exact k1 c1
  · refine xe_aload_n 0 dX10_holds_19 rfl rfl ?_
    refine xr_getR (b := 176) dX10_holds_20 fX10_19 rfl sh172 (by decide) rfl ?_
    refine xe_iload_n 1 dX10_holds_23 rfl rfl ?_
    refine xr_iald (k := p) (v := nI (kd)) dX10_holds_24 sh176 (by decide) (by omega) (by decide) v3 ?_
    refine xe_iconst (v := nI (1)) dX10_holds_25 xc1 ?_
    refine xn_icmp_gt 51 dX10_holds_26 (by decide) (by omega) (by omega) (fun c2 => ?_) (fun c2 => ?_)
    · refine xn_iinc (c := 1) (L2 := [(0, .ref 172), (1, .int (nI (p + 1)))]) 1 dX10_holds_51 rfl (by decide) rfl ?_
      refine xe_goto 11 dX10_holds_54 (by decide) ?_
      exact k2 c1 c2
    · refine xe_aload_n 0 dX10_holds_29 rfl rfl ?_
      refine xr_getR (b := 178) dX10_holds_30 fX10_25 rfl sh172 (by decide) rfl ?_
      refine xe_iload_n 1 dX10_holds_33 rfl rfl ?_
      refine xr_iald (k := p) (v := nI (l)) dX10_holds_34 sh178 (by decide) (by omega) (by decide) v5 ?_
      refine xe_aload_n 0 dX10_holds_35 rfl rfl ?_
      refine xr_getR (b := 173) dX10_holds_36 fX10_7 rfl sh172 (by decide) rfl ?_
      refine xe_aload_n 0 dX10_holds_39 rfl rfl ?_
      refine xr_getR (b := 177) dX10_holds_40 fX10_22 rfl sh172 (by decide) rfl ?_
      refine xe_iload_n 1 dX10_holds_43 rfl rfl ?_
      refine xr_iald (k := p) (v := nI (of)) dX10_holds_44 sh177 (by decide) (by omega) (by decide) v4 ?_
      refine xr_iald (k := of) (v := nI (cols)) dX10_holds_45 sh173 (by decide) (by omega) (by decide) v6 ?_
      refine xn_icmp_ge 51 dX10_holds_46 (by decide) (by omega) (by omega) (fun c3 => ?_) (fun c3 => ?_)
      · refine xn_iinc (c := 1) (L2 := [(0, .ref 172), (1, .int (nI (p + 1)))]) 1 dX10_holds_51 rfl (by decide) rfl ?_
        refine xe_goto 11 dX10_holds_54 (by decide) ?_
        exact k3 c1 c2 c3
      · refine xe_iconst (v := nI (0)) dX10_holds_49 xc0 ?_
        exact xe_ret (r := (some (.int (nI (0))))) dX10_holds_50 (Or.inl rfl) (k4 c1 c2 c3)

theorem gX10_holds_c (u : xU) (nn n : Nat) (p kd : Nat) {Q : Option Value → xM → Prop} (hnn : nn ≤ 6) (hn : n ≤ 10) (hp : p < n) (hkd : kd ≤ 3) (v1 : u.1 172 3 = nI (nn)) (v2 : u.1 172 4 = nI (n)) (v3 : u.1 176 p = nI (kd))
    (k1 : n ≤ p → xE mX10_holds 59 [(0, .ref 172), (1, .int (nI (0)))] [] (xmm u) Q)
    (k2 : ¬ n ≤ p → 1 < kd → xE mX10_holds 11 [(0, .ref 172), (1, .int (nI (p + 1)))] [] (xmm u) Q)
    (k3 : ¬ n ≤ p → ¬ 1 < kd → False) : xE mX10_holds 11 [(0, .ref 172), (1, .int (nI (p)))] [] (xmm u) Q := by
  refine xe_iload_n 1 dX10_holds_11 rfl rfl ?_
  refine xe_aload_n 0 dX10_holds_12 rfl rfl ?_
  refine xr_getI (v := nI (n)) dX10_holds_13 fX10_92 sh172 (by decide) v2 ?_
  refine xn_icmp_ge 57 dX10_holds_16 (by decide) (by omega) (by omega) (fun c1 => ?_) (fun c1 => ?_)
  · refine xe_iconst (v := nI (0)) dX10_holds_57 xc0 ?_
    refine xe_istore_n (L2 := [(0, .ref 172), (1, .int (nI (0)))]) dX10_holds_58 rfl (by decide) rfl ?_
    exact k1 c1
  · refine xe_aload_n 0 dX10_holds_19 rfl rfl ?_
    refine xr_getR (b := 176) dX10_holds_20 fX10_19 rfl sh172 (by decide) rfl ?_
    refine xe_iload_n 1 dX10_holds_23 rfl rfl ?_
    refine xr_iald (k := p) (v := nI (kd)) dX10_holds_24 sh176 (by decide) (by omega) (by decide) v3 ?_
    refine xe_iconst (v := nI (1)) dX10_holds_25 xc1 ?_
    refine xn_icmp_gt 51 dX10_holds_26 (by decide) (by omega) (by omega) (fun c2 => ?_) (fun c2 => ?_)
    · refine xn_iinc (c := 1) (L2 := [(0, .ref 172), (1, .int (nI (p + 1)))]) 1 dX10_holds_51 rfl (by decide) rfl ?_
      refine xe_goto 11 dX10_holds_54 (by decide) ?_
      exact k2 c1 c2
    · refine xe_aload_n 0 dX10_holds_29 rfl rfl ?_
      refine xr_getR (b := 178) dX10_holds_30 fX10_25 rfl sh172 (by decide) rfl ?_
      refine xe_iload_n 1 dX10_holds_33 rfl rfl ?_
      refine xr_iald (k := p) (v := u.1 178 p) dX10_holds_34 sh178 (by decide) (by omega) (by decide) rfl ?_
      refine xe_aload_n 0 dX10_holds_35 rfl rfl ?_
      refine xr_getR (b := 173) dX10_holds_36 fX10_7 rfl sh172 (by decide) rfl ?_
      refine xe_aload_n 0 dX10_holds_39 rfl rfl ?_
      refine xr_getR (b := 177) dX10_holds_40 fX10_22 rfl sh172 (by decide) rfl ?_
      refine xe_iload_n 1 dX10_holds_43 rfl rfl ?_
      refine xr_iald (k := p) (v := u.1 177 p) dX10_holds_44 sh177 (by decide) (by omega) (by decide) rfl ?_
      exact (k3 c1 c2).elim

theorem gX10_holds_e (u : xU) (nn n : Nat) (p : Nat) {Q : Option Value → xM → Prop} (hnn : nn ≤ 6) (hn : n ≤ 10) (hp : p = n) (v1 : u.1 172 3 = nI (nn)) (v2 : u.1 172 4 = nI (n))
    (k1 : n ≤ p → xE mX10_holds 59 [(0, .ref 172), (1, .int (nI (0)))] [] (xmm u) Q)
    (k2 : ¬ n ≤ p → 1 < (u.1 176 p) → xE mX10_holds 11 [(0, .ref 172), (1, .int (nI (p + 1)))] [] (xmm u) Q)
    (k3 : ¬ n ≤ p → ¬ 1 < (u.1 176 p) → False) : xE mX10_holds 11 [(0, .ref 172), (1, .int (nI (p)))] [] (xmm u) Q := by
  refine xe_iload_n 1 dX10_holds_11 rfl rfl ?_
  refine xe_aload_n 0 dX10_holds_12 rfl rfl ?_
  refine xr_getI (v := nI (n)) dX10_holds_13 fX10_92 sh172 (by decide) v2 ?_
  refine xn_icmp_ge 57 dX10_holds_16 (by decide) (by omega) (by omega) (fun c1 => ?_) (fun c1 => ?_)
  · refine xe_iconst (v := nI (0)) dX10_holds_57 xc0 ?_
    refine xe_istore_n (L2 := [(0, .ref 172), (1, .int (nI (0)))]) dX10_holds_58 rfl (by decide) rfl ?_
    exact k1 c1
  · refine xe_aload_n 0 dX10_holds_19 rfl rfl ?_
    refine xr_getR (b := 176) dX10_holds_20 fX10_19 rfl sh172 (by decide) rfl ?_
    refine xe_iload_n 1 dX10_holds_23 rfl rfl ?_
    refine xr_iald (k := p) (v := u.1 176 p) dX10_holds_24 sh176 (by decide) (by omega) (by decide) rfl ?_
    refine xe_iconst (v := nI (1)) dX10_holds_25 xc1 ?_
    refine xe_icmp_gt 51 dX10_holds_26 (by decide) (fun c2 => ?_) (fun c2 => ?_)
    · refine xn_iinc (c := 1) (L2 := [(0, .ref 172), (1, .int (nI (p + 1)))]) 1 dX10_holds_51 rfl (by decide) rfl ?_
      refine xe_goto 11 dX10_holds_54 (by decide) ?_
      exact k2 c1 c2
    · refine xe_aload_n 0 dX10_holds_29 rfl rfl ?_
      refine xr_getR (b := 178) dX10_holds_30 fX10_25 rfl sh172 (by decide) rfl ?_
      refine xe_iload_n 1 dX10_holds_33 rfl rfl ?_
      refine xr_iald (k := p) (v := u.1 178 p) dX10_holds_34 sh178 (by decide) (by omega) (by decide) rfl ?_
      refine xe_aload_n 0 dX10_holds_35 rfl rfl ?_
      refine xr_getR (b := 173) dX10_holds_36 fX10_7 rfl sh172 (by decide) rfl ?_
      refine xe_aload_n 0 dX10_holds_39 rfl rfl ?_
      refine xr_getR (b := 177) dX10_holds_40 fX10_22 rfl sh172 (by decide) rfl ?_
      refine xe_iload_n 1 dX10_holds_43 rfl rfl ?_
      refine xr_iald (k := p) (v := u.1 177 p) dX10_holds_44 sh177 (by decide) (by omega) (by decide) rfl ?_
      exact (k3 c1 c2).elim

theorem gX10_holds_59 (u : xU) (nn n : Nat) (k : Nat) {Q : Option Value → xM → Prop} (hnn : nn ≤ 6) (hn : n ≤ 10) (hk : k ≤ nn) (v1 : u.1 172 3 = nI (nn)) (v2 : u.1 172 4 = nI (n))
    (k1 : nn ≤ k → Q (some (.int (nI (1)))) (xmm u))
    (k2 : ¬ nn ≤ k → xE mX10_holds 71 [(0, .ref 172), (1, .int (nI (k))), (2, .int (nI (0))), (3, .int (nI (0)))] [] (xmm u) Q) : xE mX10_holds 59 [(0, .ref 172), (1, .int (nI (k)))] [] (xmm u) Q := by
  refine xe_iload_n 1 dX10_holds_59 rfl rfl ?_
  refine xe_aload_n 0 dX10_holds_60 rfl rfl ?_
  refine xr_getI (v := nI (nn)) dX10_holds_61 fX10_119 sh172 (by decide) v1 ?_
  refine xn_icmp_ge 125 dX10_holds_64 (by decide) (by omega) (by omega) (fun c1 => ?_) (fun c1 => ?_)
  · refine xe_iconst (v := nI (1)) dX10_holds_125 xc1 ?_
    exact xe_ret (r := (some (.int (nI (1))))) dX10_holds_126 (Or.inr rfl) (k1 c1)
  · refine xe_iconst (v := nI (0)) dX10_holds_67 xc0 ?_
    refine xe_istore_n (L2 := [(0, .ref 172), (1, .int (nI (k))), (2, .int (nI (0)))]) dX10_holds_68 rfl (by decide) rfl ?_
    refine xe_iconst (v := nI (0)) dX10_holds_69 xc0 ?_
    refine xe_istore_n (L2 := [(0, .ref 172), (1, .int (nI (k))), (2, .int (nI (0))), (3, .int (nI (0)))]) dX10_holds_70 rfl (by decide) rfl ?_
    exact k2 c1

theorem gX10_holds_71 (u : xU) (nn n : Nat) (k p kd : Nat) (b eh : Bool) {Q : Option Value → xM → Prop} (hnn : nn ≤ 6) (hn : n ≤ 10) (hp : p < n) (hkd : kd ≤ 3) (hk : k < nn) (hhn : xC mX10_hasName [.ref 172, .int (nI p), .int (nI k)] (xmm u) (fun r μ' => r = some (.int (xb (eh = true))) ∧ μ' = xmm u)) (v1 : u.1 172 3 = nI (nn)) (v2 : u.1 172 4 = nI (n)) (v3 : u.1 176 p = nI (kd))
    (k1 : n ≤ p → b = true → xE mX10_holds 59 [(0, .ref 172), (1, .int (nI (k + 1)))] [] (xmm u) Q)
    (k2 : n ≤ p → ¬ (b = true) → Q (some (.int (nI (0)))) (xmm u))
    (k3 : ¬ n ≤ p → b = true → xE mX10_holds 71 [(0, .ref 172), (1, .int (nI (k))), (2, .int (nI (1))), (3, .int (nI (p + 1)))] [] (xmm u) Q)
    (k4 : ¬ n ≤ p → ¬ (b = true) → ¬ kd = 0 → xE mX10_holds 71 [(0, .ref 172), (1, .int (nI (k))), (2, .int (nI (0))), (3, .int (nI (p + 1)))] [] (xmm u) Q)
    (k5 : ¬ n ≤ p → ¬ (b = true) → kd = 0 → ¬ (eh = true) → xE mX10_holds 71 [(0, .ref 172), (1, .int (nI (k))), (2, .int (nI (0))), (3, .int (nI (p + 1)))] [] (xmm u) Q)
    (k6 : ¬ n ≤ p → ¬ (b = true) → kd = 0 → eh = true → xE mX10_holds 71 [(0, .ref 172), (1, .int (nI (k))), (2, .int (nI (1))), (3, .int (nI (p + 1)))] [] (xmm u) Q) : xE mX10_holds 71 [(0, .ref 172), (1, .int (nI (k))), (2, .int (xb (b = true))), (3, .int (nI (p)))] [] (xmm u) Q := by
  refine xe_iload_n 3 dX10_holds_71 rfl rfl ?_
  refine xe_aload_n 0 dX10_holds_72 rfl rfl ?_
  refine xr_getI (v := nI (n)) dX10_holds_73 fX10_92 sh172 (by decide) v2 ?_
  refine xn_icmp_ge 113 dX10_holds_76 (by decide) (by omega) (by omega) (fun c1 => ?_) (fun c1 => ?_)
  · refine xe_iload_n 2 dX10_holds_113 rfl rfl ?_
    refine xb_if_ne 119 dX10_holds_114 (by decide) (fun c2 => ?_) (fun c2 => ?_)
    · refine xn_iinc (c := 1) (L2 := [(0, .ref 172), (1, .int (nI (k + 1))), (2, .int (xb (b = true))), (3, .int (nI (p)))]) 1 dX10_holds_119 rfl (by decide) rfl ?_
      refine xe_goto 59 dX10_holds_122 (by decide) ?_
      refine xE.sub [0, 1] rfl ?_
      exact k1 c1 c2
    · refine xe_iconst (v := nI (0)) dX10_holds_117 xc0 ?_
      exact xe_ret (r := (some (.int (nI (0))))) dX10_holds_118 (Or.inl rfl) (k2 c1 c2)
  · refine xe_iload_n 2 dX10_holds_79 rfl rfl ?_
    refine xb_if_ne 101 dX10_holds_80 (by decide) (fun c3 => ?_) (fun c3 => ?_)
    · refine xe_iconst (v := nI (1)) dX10_holds_101 xc1 ?_
      refine xe_goto 106 dX10_holds_102 (by decide) ?_
      refine xe_istore_n (L2 := [(0, .ref 172), (1, .int (nI (k))), (2, .int (nI (1))), (3, .int (nI (p)))]) dX10_holds_106 rfl (by decide) rfl ?_
      refine xn_iinc (c := 1) (L2 := [(0, .ref 172), (1, .int (nI (k))), (2, .int (nI (1))), (3, .int (nI (p + 1)))]) 3 dX10_holds_107 rfl (by decide) rfl ?_
      refine xe_goto 71 dX10_holds_110 (by decide) ?_
      exact k3 c1 c3
    · refine xe_aload_n 0 dX10_holds_83 rfl rfl ?_
      refine xr_getR (b := 176) dX10_holds_84 fX10_19 rfl sh172 (by decide) rfl ?_
      refine xe_iload_n 3 dX10_holds_87 rfl rfl ?_
      refine xr_iald (k := p) (v := nI (kd)) dX10_holds_88 sh176 (by decide) (by omega) (by decide) v3 ?_
      refine xn_if_ne 105 dX10_holds_89 (by decide) (by omega) (fun c4 => ?_) (fun c4 => ?_)
      · refine xe_iconst (v := nI (0)) dX10_holds_105 xc0 ?_
        refine xe_istore_n (L2 := [(0, .ref 172), (1, .int (nI (k))), (2, .int (nI (0))), (3, .int (nI (p)))]) dX10_holds_106 rfl (by decide) rfl ?_
        refine xn_iinc (c := 1) (L2 := [(0, .ref 172), (1, .int (nI (k))), (2, .int (nI (0))), (3, .int (nI (p + 1)))]) 3 dX10_holds_107 rfl (by decide) rfl ?_
        refine xe_goto 71 dX10_holds_110 (by decide) ?_
        exact k4 c1 c3 c4
      · refine xe_aload_n 0 dX10_holds_92 rfl rfl ?_
        refine xe_iload_n 3 dX10_holds_93 rfl rfl ?_
        refine xe_iload_n 1 dX10_holds_94 rfl rfl ?_
        refine xe_callV (As := [.int (nI (p)), .int (nI (k))]) (rest := []) dX10_holds_95 wX10_hasName lX10_125 iX10_hasName sX10_hasName ⟨by decide, by decide⟩ sh172 rfl (xin_mm (by decide)) rfl rfl (by simp [Value.category]) (xC.pure (v := .int (xb (eh = true))) (hhn) ?_)
        refine xb_if_eq 105 dX10_holds_98 (by decide) (fun c5 => ?_) (fun c5 => ?_)
        · refine xe_iconst (v := nI (0)) dX10_holds_105 xc0 ?_
          refine xe_istore_n (L2 := [(0, .ref 172), (1, .int (nI (k))), (2, .int (nI (0))), (3, .int (nI (p)))]) dX10_holds_106 rfl (by decide) rfl ?_
          refine xn_iinc (c := 1) (L2 := [(0, .ref 172), (1, .int (nI (k))), (2, .int (nI (0))), (3, .int (nI (p + 1)))]) 3 dX10_holds_107 rfl (by decide) rfl ?_
          refine xe_goto 71 dX10_holds_110 (by decide) ?_
          exact k5 c1 c3 c4 c5
        · refine xe_iconst (v := nI (1)) dX10_holds_101 xc1 ?_
          refine xe_goto 106 dX10_holds_102 (by decide) ?_
          refine xe_istore_n (L2 := [(0, .ref 172), (1, .int (nI (k))), (2, .int (nI (1))), (3, .int (nI (p)))]) dX10_holds_106 rfl (by decide) rfl ?_
          refine xn_iinc (c := 1) (L2 := [(0, .ref 172), (1, .int (nI (k))), (2, .int (nI (1))), (3, .int (nI (p + 1)))]) 3 dX10_holds_107 rfl (by decide) rfl ?_
          refine xe_goto 71 dX10_holds_110 (by decide) ?_
          exact k6 c1 c3 c4 c5

theorem gX10_holds_f (u : xU) (nn n : Nat) (k p : Nat) (b : Bool) {Q : Option Value → xM → Prop} (hnn : nn ≤ 6) (hn : n ≤ 10) (hp : p = n) (hk : k < nn) (v1 : u.1 172 3 = nI (nn)) (v2 : u.1 172 4 = nI (n))
    (k1 : n ≤ p → b = true → xE mX10_holds 59 [(0, .ref 172), (1, .int (nI (k + 1)))] [] (xmm u) Q)
    (k2 : n ≤ p → ¬ (b = true) → Q (some (.int (nI (0)))) (xmm u))
    (k3 : ¬ n ≤ p → b = true → xE mX10_holds 71 [(0, .ref 172), (1, .int (nI (k))), (2, .int (nI (1))), (3, .int (nI (p + 1)))] [] (xmm u) Q)
    (k4 : ¬ n ≤ p → ¬ (b = true) → ¬ (u.1 176 p) = 0 → xE mX10_holds 71 [(0, .ref 172), (1, .int (nI (k))), (2, .int (nI (0))), (3, .int (nI (p + 1)))] [] (xmm u) Q)
    (k5 : ¬ n ≤ p → ¬ (b = true) → (u.1 176 p) = 0 → xC mX10_hasName [.ref 172, .int (nI (p)), .int (nI (k))] (xmm u) (fun r μ1 => xE mX10_holds 98 [(0, .ref 172), (1, .int (nI (k))), (3, .int (nI (p)))] (r.toList ++ []) μ1 Q)) : xE mX10_holds 71 [(0, .ref 172), (1, .int (nI (k))), (2, .int (xb (b = true))), (3, .int (nI (p)))] [] (xmm u) Q := by
  refine xe_iload_n 3 dX10_holds_71 rfl rfl ?_
  refine xe_aload_n 0 dX10_holds_72 rfl rfl ?_
  refine xr_getI (v := nI (n)) dX10_holds_73 fX10_92 sh172 (by decide) v2 ?_
  refine xn_icmp_ge 113 dX10_holds_76 (by decide) (by omega) (by omega) (fun c1 => ?_) (fun c1 => ?_)
  · refine xe_iload_n 2 dX10_holds_113 rfl rfl ?_
    refine xb_if_ne 119 dX10_holds_114 (by decide) (fun c2 => ?_) (fun c2 => ?_)
    · refine xn_iinc (c := 1) (L2 := [(0, .ref 172), (1, .int (nI (k + 1))), (2, .int (xb (b = true))), (3, .int (nI (p)))]) 1 dX10_holds_119 rfl (by decide) rfl ?_
      refine xe_goto 59 dX10_holds_122 (by decide) ?_
      refine xE.sub [0, 1] rfl ?_
      exact k1 c1 c2
    · refine xe_iconst (v := nI (0)) dX10_holds_117 xc0 ?_
      exact xe_ret (r := (some (.int (nI (0))))) dX10_holds_118 (Or.inl rfl) (k2 c1 c2)
  · refine xe_iload_n 2 dX10_holds_79 rfl rfl ?_
    refine xb_if_ne 101 dX10_holds_80 (by decide) (fun c3 => ?_) (fun c3 => ?_)
    · refine xe_iconst (v := nI (1)) dX10_holds_101 xc1 ?_
      refine xe_goto 106 dX10_holds_102 (by decide) ?_
      refine xe_istore_n (L2 := [(0, .ref 172), (1, .int (nI (k))), (2, .int (nI (1))), (3, .int (nI (p)))]) dX10_holds_106 rfl (by decide) rfl ?_
      refine xn_iinc (c := 1) (L2 := [(0, .ref 172), (1, .int (nI (k))), (2, .int (nI (1))), (3, .int (nI (p + 1)))]) 3 dX10_holds_107 rfl (by decide) rfl ?_
      refine xe_goto 71 dX10_holds_110 (by decide) ?_
      exact k3 c1 c3
    · refine xe_aload_n 0 dX10_holds_83 rfl rfl ?_
      refine xr_getR (b := 176) dX10_holds_84 fX10_19 rfl sh172 (by decide) rfl ?_
      refine xe_iload_n 3 dX10_holds_87 rfl rfl ?_
      refine xr_iald (k := p) (v := u.1 176 p) dX10_holds_88 sh176 (by decide) (by omega) (by decide) rfl ?_
      refine xe_if_ne 105 dX10_holds_89 (by decide) (fun c4 => ?_) (fun c4 => ?_)
      · refine xe_iconst (v := nI (0)) dX10_holds_105 xc0 ?_
        refine xe_istore_n (L2 := [(0, .ref 172), (1, .int (nI (k))), (2, .int (nI (0))), (3, .int (nI (p)))]) dX10_holds_106 rfl (by decide) rfl ?_
        refine xn_iinc (c := 1) (L2 := [(0, .ref 172), (1, .int (nI (k))), (2, .int (nI (0))), (3, .int (nI (p + 1)))]) 3 dX10_holds_107 rfl (by decide) rfl ?_
        refine xe_goto 71 dX10_holds_110 (by decide) ?_
        exact k4 c1 c3 c4
      · refine xe_aload_n 0 dX10_holds_92 rfl rfl ?_
        refine xe_iload_n 3 dX10_holds_93 rfl rfl ?_
        refine xe_iload_n 1 dX10_holds_94 rfl rfl ?_
        refine xE.sub [0, 1, 3] rfl ?_
        refine xe_callV (As := [.int (nI (p)), .int (nI (k))]) (rest := []) dX10_holds_95 wX10_hasName lX10_125 iX10_hasName sX10_hasName ⟨by decide, by decide⟩ sh172 rfl (xin_mm (by decide)) rfl rfl (by simp [Value.category]) ?_
        exact k5 c1 c3 c4

/-! the question in the model's memory -/
def MPq (Q : QST) (p : Nat) (u : xU) : Prop := u.1 176 p = nI (qK Q p) ∧ (qK Q p ≤ 1 → u.1 177 p = nI (qOf Q p)) ∧ u.1 178 p = nI (qL Q p) ∧ ∀ i, i < qL Q p → u.1 179 (3 * p + i) = nmI (qM Q p i) ∧ (qM Q p i = none → u.1 180 (3 * p + i) = qV Q p i)
def KQ (Q : QST) (u : xU) : Prop := u.1 172 3 = nI (qN Q) ∧ u.1 172 4 = nI (qP Q) ∧ (∀ i, i < qN Q → u.1 181 i = nI (qO Q i)) ∧ ∀ p, p < qP Q → MPq Q p u
def frK (u u' : xU) : Prop := (∀ x, x ≠ 172 → ¬ (176 ≤ x ∧ x < 182) → u'.1 x = u.1 x) ∧ (∀ k, k ≠ 3 → k ≠ 4 → u'.1 172 k = u.1 172 k) ∧ u'.2 = u.2
theorem frK.rf {u : xU} : frK u u := ⟨fun _ _ _ => rfl, fun _ _ _ => rfl, rfl⟩
def pK (u : xU) (v : Option Value) (Q' : QST) : Option Value → xM → Prop := fun r μ' => ∃ u', μ' = xmm u' ∧ r = v ∧ KQ Q' u' ∧ frK u u'
theorem MPq.keep {Q : QST} {p : Nat} {u u' : xU} (h : MPq Q p u) (hf : ∀ x, 176 ≤ x → x < 181 → u'.1 x = u.1 x) : MPq Q p u' := by
  unfold MPq at *
  rw [hf 176 (by decide) (by decide), hf 177 (by decide) (by decide), hf 178 (by decide) (by decide), hf 179 (by decide) (by decide), hf 180 (by decide) (by decide)]
  exact h
theorem KQ.keep {Q : QST} {u u' : xU} (h : KQ Q u) (h3 : u'.1 172 3 = u.1 172 3) (h4 : u'.1 172 4 = u.1 172 4) (hf : ∀ x, 176 ≤ x → x < 182 → u'.1 x = u.1 x) : KQ Q u' := by
  obtain ⟨c1, c2, c3, c4⟩ := h
  refine ⟨h3.trans c1, h4.trans c2, fun i hi => by rw [hf 181 (by decide) (by decide)]; exact c3 i hi, fun p hp => (c4 p hp).keep (fun x a b => hf x a (by omega))⟩
theorem MPq_congr {Q Q' : QST} {p : Nat} {u : xU} (h : MPq Q p u) (eK : qK Q' p = qK Q p) (eO : qOf Q' p = qOf Q p) (eL : qL Q' p = qL Q p) (eM : qM Q' p = qM Q p) (eV : qV Q' p = qV Q p) : MPq Q' p u := by
  unfold MPq at *
  rw [eK, eO, eL, eM, eV]
  exact h
theorem nmI_none {o : Option Nat} (h : ∀ k, o = some k → k < 2147483648) : nmI o = -1 ↔ o = none := by
  cases o with
  | none => exact ⟨fun _ => rfl, fun _ => rfl⟩
  | some k =>
    refine ⟨fun z => ?_, fun z => by cases z⟩
    have hk := h k rfl
    have z' := congrArg Int32.toInt z
    change (nI k).toInt = (-1 : Int32).toInt at z'
    rw [nI_toI hk, show (-1 : Int32).toInt = -1 from by decide] at z'
    omega
theorem nmI_some {o : Option Nat} {j : Nat} (h : ∀ k, o = some k → k < 2147483648) (hj : j < 2147483648) : nmI o = nI j ↔ o = some j := by
  cases o with
  | none =>
    refine ⟨fun z => ?_, fun z => by cases z⟩
    have z' := congrArg Int32.toInt z
    change (-1 : Int32).toInt = (nI j).toInt at z'
    rw [nI_toI hj, show (-1 : Int32).toInt = -1 from by decide] at z'
    omega
  | some k =>
    have hk := h k rfl
    show nI k = nI j ↔ _
    rw [nI_inj hk hj]
    exact ⟨fun z => by rw [z], fun z => by cases z; rfl⟩
theorem qM_b {T : TBL} {Q : QST} (h : QI T Q) {p i : Nat} (hp : p < qP Q) (hi : i < qL Q p) : ∀ k, qM Q p i = some k → k < 2147483648 := fun k hk => by
  have := qM_lt h hp hi hk
  have := h.1
  omega
theorem lie_iff {T : TBL} {Q : QST} (hQ : QI T Q) (h1 : 1 ≤ qN Q) {k : Int32} : (0 ≤ k ∧ k ≤ nI (qN Q - 1)) ↔ isNm Q k = true := by
  have hn6 := hQ.1
  constructor
  · rintro ⟨a, b⟩
    rcases xspl k with z | ⟨j, hj, rfl⟩
    · exact absurd a (neg_nn z)
    · exact isNm_n hQ (by have := (nI_len hj (by omega)).mp b; omega)
  · intro a
    obtain ⟨j, hj, rfl, -⟩ := isNm_t hQ a
    exact ⟨nI_nn (by omega), (nI_len (by omega) (by omega)).mpr (by omega)⟩
theorem lie_z {x : Int32} (h : 0 ≤ x ∧ x ≤ (0 - 1)) : False := by
  obtain ⟨a, b⟩ := h
  rw [Int32.le_iff_toInt_le] at a b
  rw [show ((0 : Int32) - 1).toInt = -1 from by decide] at b
  rw [show (0 : Int32).toInt = 0 from by decide] at a
  omega
theorem isNm_z {Q : QST} (h : qN Q = 0) {k : Int32} : ¬ isNm Q k = true := by
  simp only [isNm, Bool.and_eq_true, decide_eq_true_eq]
  rintro ⟨a, b⟩
  rw [h] at b
  exact le_not_lt a b
theorem qL_3 {T : TBL} {Q : QST} (hT : TI T) (hQ : QI T Q) {p : Nat} (hp : p < qP Q) : qL Q p ≤ 3 := Nat.le_trans (qL_le hT hQ hp) (qDue_le hT hQ hp)
theorem qX10_hasName {u : xU} {T : TBL} {Q : QST} (hT : TI T) (hQ : QI T Q) (h : KQ Q u) {p : Nat} (hp : p < qP Q) {k : Nat} (hk : k < 2147483648) : xC mX10_hasName [.ref 172, .int (nI p), .int (nI k)] (xmm u) (fun r μ' => r = some (.int (xb (pHas Q p k = true))) ∧ μ' = xmm u) := by
  have hp10 := hQ.2.1
  have c := h.2.2.2 p hp
  have hl := qL_3 hT hQ hp
  refine xC.of xpl10 (Nat.le_of_ble_eq_true rfl) (gX10_hasName_0 u p (nI k) ?_)
  have loop : ∀ d i, qL Q p - i = d → i ≤ qL Q p → (∀ j, j < i → qM Q p j ≠ some k) → xE mX10_hasName 2 [(0, .ref 172), (1, .int (nI p)), (2, .int (nI k)), (3, .int (nI i))] [] (xmm u) (fun r μ' => r = some (.int (xb (pHas Q p k = true))) ∧ μ' = xmm u) := by
    intro d
    induction d with
    | zero =>
      intro i hd hi hj
      refine gX10_hasName_e u p (qL Q p) i (nI k) (by omega) hl (by omega) c.2.2.1 (fun _ => ⟨ret_f (fun z => ?_), rfl⟩) (fun z => absurd (by omega) z) (fun z => absurd (by omega) z)
      obtain ⟨j, j1, j2⟩ := anyN_iff.mp z
      exact hj j (by omega) (of_decide_eq_true j2)
    | succ d ih =>
      intro i hd hi hj
      have hil : i < qL Q p := by omega
      refine gX10_hasName_2 u p (qL Q p) i (nI k) (nmI (qM Q p i)) (by omega) hl hil c.2.2.1 (c.2.2.2 i hil).1 (fun z => by omega) (fun _ z => ih (i + 1) (by omega) (by omega) (fun j hji => ?_)) (fun _ z => ⟨ret_t (anyN_iff.mpr ⟨i, hil, decide_eq_true ?_⟩), rfl⟩)
      · by_cases e : j = i
        · subst e
          exact fun y => z ((nmI_some (qM_b hQ hp hil) hk).mpr y)
        · exact hj j (by omega)
      · exact (nmI_some (qM_b hQ hp hil) hk).mp z
  exact loop _ 0 rfl (Nat.zero_le _) (fun j hj => absurd hj (Nat.not_lt_zero j))

/-- has a part a name at all -/
def pNmd (Q : QST) (p : Nat) : Bool := anyN (qL Q p) fun i => decide (qM Q p i ≠ none)
theorem qX10_isNamed {u : xU} {T : TBL} {Q : QST} (hT : TI T) (hQ : QI T Q) (h : KQ Q u) {p : Nat} (hp : p < qP Q) : xC mX10_isNamed [.ref 172, .int (nI p)] (xmm u) (fun r μ' => r = some (.int (xb (pNmd Q p = true))) ∧ μ' = xmm u) := by
  have hp10 := hQ.2.1
  have c := h.2.2.2 p hp
  have hl := qL_3 hT hQ hp
  refine xC.of xpl10 (Nat.le_of_ble_eq_true rfl) (gX10_isNamed_0 u p ?_)
  have loop : ∀ d i, qL Q p - i = d → i ≤ qL Q p → (∀ j, j < i → qM Q p j = none) → xE mX10_isNamed 2 [(0, .ref 172), (1, .int (nI p)), (2, .int (nI i))] [] (xmm u) (fun r μ' => r = some (.int (xb (pNmd Q p = true))) ∧ μ' = xmm u) := by
    intro d
    induction d with
    | zero =>
      intro i hd hi hj
      refine gX10_isNamed_e u p (qL Q p) i (by omega) hl (by omega) c.2.2.1 (fun _ => ⟨ret_f (fun z => ?_), rfl⟩) (fun z => absurd (by omega) z) (fun z => absurd (by omega) z)
      obtain ⟨j, j1, j2⟩ := anyN_iff.mp z
      exact of_decide_eq_true j2 (hj j (by omega))
    | succ d ih =>
      intro i hd hi hj
      have hil : i < qL Q p := by omega
      refine gX10_isNamed_2 u p (qL Q p) i (nmI (qM Q p i)) (by omega) hl hil c.2.2.1 (c.2.2.2 i hil).1 (fun z => by omega) (fun _ z => ih (i + 1) (by omega) (by omega) (fun j hji => ?_)) (fun _ z => ⟨ret_t (anyN_iff.mpr ⟨i, hil, decide_eq_true (fun y => z ((nmI_none (qM_b hQ hp hil)).mpr y))⟩), rfl⟩)
      by_cases e : j = i
      · subst e
        exact (nmI_none (qM_b hQ hp hil)).mp z
      · exact hj j (by omega)
  exact loop _ 0 rfl (Nat.zero_le _) (fun j hj => absurd hj (Nat.not_lt_zero j))
theorem qX10_holds {u : xU} {T : TBL} {Q : QST} (hT : TI T) (hQ : QI T Q) (hC : MT T u) (h : KQ Q u) : xC mX10_holds [.ref 172] (xmm u) (fun r μ' => r = some (.int (xb (aStands T Q = true))) ∧ μ' = xmm u) := by
  have hn6 := hQ.1
  have hp10 := hQ.2.1
  refine xC.of xpl10 (Nat.le_of_ble_eq_true rfl) (gX10_holds_0 u (qN Q) (qP Q) hn6 hp10 h.1 h.2.1 (fun h0 => ?_) (fun z => ⟨ret_f (fun y => (aStands_iff.mp y).1 z), rfl⟩))
  -- the names
  have third : ∀ d k p (b : Bool), k < qN Q → p ≤ qP Q → (b = true ↔ ∃ j, j < p ∧ qK Q j = 0 ∧ pHas Q j k = true) → qP Q - p = d →
      ((∃ j, j < qP Q ∧ qK Q j = 0 ∧ pHas Q j k = true) → xE mX10_holds 59 [(0, .ref 172), (1, .int (nI (k + 1)))] [] (xmm u) (fun r μ' => r = some (.int (xb (aStands T Q = true))) ∧ μ' = xmm u)) →
      xE mX10_holds 71 [(0, .ref 172), (1, .int (nI k)), (2, .int (xb (b = true))), (3, .int (nI p))] [] (xmm u) (fun r μ' => r = some (.int (xb (aStands T Q = true))) ∧ μ' = xmm u) := by
    intro d
    induction d with
    | zero =>
      intro k p b hk hp hb hd next
      have hpe : p = qP Q := by omega
      refine gX10_holds_f u (qN Q) (qP Q) k p b hn6 hp10 hpe hk h.1 h.2.1 (fun _ z => next (by rw [← hpe]; exact hb.mp z)) (fun _ z => ⟨ret_f (fun y => z (hb.mpr ?_)), rfl⟩) (fun z => by omega) (fun z => by omega) (fun z => by omega)
      rw [hpe]
      exact (aStands_iff.mp y).2.2 k hk
    | succ d ih =>
      intro k p b hk hp hb hd next
      have hpl : p < qP Q := by omega
      have c := h.2.2.2 p hpl
      have hd' : qP Q - (p + 1) = d := by omega
      have tr : ∀ b' : Bool, (b' = true ↔ ∃ j, j < p + 1 ∧ qK Q j = 0 ∧ pHas Q j k = true) → xE mX10_holds 71 [(0, .ref 172), (1, .int (nI k)), (2, .int (xb (b' = true))), (3, .int (nI (p + 1)))] [] (xmm u) (fun r μ' => r = some (.int (xb (aStands T Q = true))) ∧ μ' = xmm u) := fun b' hb' => ih k (p + 1) b' hk hpl hb' hd' next
      have sp : (∃ j, j < p + 1 ∧ qK Q j = 0 ∧ pHas Q j k = true) ↔ (∃ j, j < p ∧ qK Q j = 0 ∧ pHas Q j k = true) ∨ (qK Q p = 0 ∧ pHas Q p k = true) := by
        constructor
        · rintro ⟨j, j1, j2⟩
          by_cases e : j = p
          · subst e; exact Or.inr j2
          · exact Or.inl ⟨j, by omega, j2⟩
        · rintro (⟨j, j1, j2⟩ | j2)
          · exact ⟨j, by omega, j2⟩
          · exact ⟨p, by omega, j2⟩
      refine gX10_holds_71 u (qN Q) (qP Q) k p (qK Q p) b (pHas Q p k) hn6 hp10 hpl (hQ.2.2.2.2.1 p hpl).1 hk (qX10_hasName hT hQ h hpl (by omega)) h.1 h.2.1 c.1 (fun z => by omega) (fun z => by omega) (fun _ z => ?_) (fun _ z y => ?_) (fun _ z y x => ?_) (fun _ z y x => ?_)
      · exact tr true ⟨fun _ => sp.mpr (Or.inl (hb.mp z)), fun _ => rfl⟩
      · exact tr false ⟨fun q => (by cases q), fun q => absurd (hb.mpr ((sp.mp q).resolve_right (fun w => y w.1))) z⟩
      · exact tr false ⟨fun q => (by cases q), fun q => absurd (hb.mpr ((sp.mp q).resolve_right (fun w => x w.2))) z⟩
      · exact tr true ⟨fun _ => sp.mpr (Or.inr ⟨y, x⟩), fun _ => rfl⟩
  have second : ∀ d k, qN Q - k = d → k ≤ qN Q → (∀ p, p < qP Q → 2 ≤ qK Q p ∨ T.1 (qOf Q p) ≤ qL Q p) → (∀ j, j < k → ∃ p, p < qP Q ∧ qK Q p = 0 ∧ pHas Q p j = true) → xE mX10_holds 59 [(0, .ref 172), (1, .int (nI k))] [] (xmm u) (fun r μ' => r = some (.int (xb (aStands T Q = true))) ∧ μ' = xmm u) := by
    intro d
    induction d with
    | zero =>
      intro k hd hk hf hj
      exact gX10_holds_59 u (qN Q) (qP Q) k hn6 hp10 hk h.1 h.2.1 (fun _ => ⟨ret_t (aStands_iff.mpr ⟨h0, hf, fun j hjk => hj j (by omega)⟩), rfl⟩) (fun z => by omega)
    | succ d ih =>
      intro k hd hk hf hj
      refine gX10_holds_59 u (qN Q) (qP Q) k hn6 hp10 hk h.1 h.2.1 (fun z => by omega) (fun _ => ?_)
      exact third _ k 0 false (by omega) (Nat.zero_le _) ⟨fun q => (by cases q), fun ⟨j, j1, _⟩ => absurd j1 (Nat.not_lt_zero j)⟩ rfl (fun z => ih (k + 1) (by omega) (by omega) hf (fun j hjk => by
        by_cases e : j = k
        · subst e; exact z
        · exact hj j (by omega)))
  have first : ∀ d p, qP Q - p = d → p ≤ qP Q → (∀ j, j < p → 2 ≤ qK Q j ∨ T.1 (qOf Q j) ≤ qL Q j) → xE mX10_holds 11 [(0, .ref 172), (1, .int (nI p))] [] (xmm u) (fun r μ' => r = some (.int (xb (aStands T Q = true))) ∧ μ' = xmm u) := by
    intro d
    induction d with
    | zero =>
      intro p hd hp hj
      exact gX10_holds_e u (qN Q) (qP Q) p hn6 hp10 (by omega) h.1 h.2.1 (fun _ => second _ 0 rfl (Nat.zero_le _) (fun j hjp => hj j (by omega)) (fun j hj => absurd hj (Nat.not_lt_zero j))) (fun z => by omega) (fun z => by omega)
    | succ d ih =>
      intro p hd hp hj
      have hpl : p < qP Q := by omega
      have c := h.2.2.2 p hpl
      have q5 := hQ.2.2.2.2.1 p hpl
      have nx : 2 ≤ qK Q p ∨ T.1 (qOf Q p) ≤ qL Q p → xE mX10_holds 11 [(0, .ref 172), (1, .int (nI (p + 1)))] [] (xmm u) (fun r μ' => r = some (.int (xb (aStands T Q = true))) ∧ μ' = xmm u) := fun z => ih (p + 1) (by omega) (by omega) (fun j hjp => by
        by_cases e : j = p
        · subst e; exact z
        · exact hj j (by omega))
      by_cases hk : qK Q p ≤ 1
      · obtain ⟨o1, o2, o3⟩ := q5.2.1 hk
        exact gX10_holds_11 u (qN Q) (qP Q) p (qK Q p) (qOf Q p) (qL Q p) (T.1 (qOf Q p)) hn6 hp10 hpl q5.1 o1 (qL_3 hT hQ hpl) (hT _ o1).1 h.1 h.2.1 c.1 (c.2.1 hk) c.2.2.1 (hC _ o1).1 (fun z => by omega) (fun _ z => by omega) (fun _ _ z => nx (Or.inr z)) (fun _ z y => ⟨ret_f (fun x => y (((aStands_iff.mp x).2.1 p hpl).resolve_left (by omega))), rfl⟩)
      · exact gX10_holds_c u (qN Q) (qP Q) p (qK Q p) hn6 hp10 hpl q5.1 h.1 h.2.1 c.1 (fun z => by omega) (fun _ z => nx (Or.inl (by omega))) (fun _ z => by omega)
  exact first _ 0 rfl (Nat.zero_le _) (fun j hj => absurd hj (Nat.not_lt_zero j))

