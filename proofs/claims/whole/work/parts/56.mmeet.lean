theorem gX10_isSet_0 (u : xU) (S : Nat) (k : Int32) {Q : Option Value → xM → Prop}  
    (k1 : ¬ (((nI (S)) >>> (k &&& 31)) &&& 1) = 1 → Q (some (.int (nI (0)))) (xmm u))
    (k2 : (((nI (S)) >>> (k &&& 31)) &&& 1) = 1 → Q (some (.int (nI (1)))) (xmm u)) : xE mX10_isSet 0 [(0, .ref 172), (1, .int (nI (S))), (2, .int (k))] [] (xmm u) Q := by
  refine xe_iload_n 1 dX10_isSet_0 rfl rfl ?_
  refine xe_iload_n 2 dX10_isSet_1 rfl rfl ?_
  refine xe_ishr dX10_isSet_2 ?_
  refine xe_iconst (v := nI (1)) dX10_isSet_3 xc1 ?_
  refine xe_iand dX10_isSet_4 ?_
  refine xe_iconst (v := nI (1)) dX10_isSet_5 xc1 ?_
  refine xe_icmp_ne 13 dX10_isSet_6 (by decide) (fun c1 => ?_) (fun c1 => ?_)
  · refine xe_iconst (v := nI (0)) dX10_isSet_13 xc0 ?_
    exact xe_ret (r := (some (.int (nI (0))))) dX10_isSet_14 (Or.inl rfl) (k1 c1)
  · refine xe_iconst (v := nI (1)) dX10_isSet_9 xc1 ?_
    refine xe_goto 14 dX10_isSet_10 (by decide) ?_
    exact xe_ret (r := (some (.int (nI (1))))) dX10_isSet_14 (Or.inr rfl) (k2 c1)

theorem gX10_isWhole_0 (u : xU) (p S : Nat) {Q : Option Value → xM → Prop}  
    (k1 : xE mX10_isWhole 2 [(0, .ref 172), (1, .int (nI (p))), (2, .int (nI (S))), (3, .int (nI (0)))] [] (xmm u) Q) : xE mX10_isWhole 0 [(0, .ref 172), (1, .int (nI (p))), (2, .int (nI (S)))] [] (xmm u) Q := by
  refine xe_iconst (v := nI (0)) dX10_isWhole_0 xc0 ?_
  refine xe_istore_n (L2 := [(0, .ref 172), (1, .int (nI (p))), (2, .int (nI (S))), (3, .int (nI (0)))]) dX10_isWhole_1 rfl (by decide) rfl ?_
  exact k1

theorem gX10_isWhole_2 (u : xU) (p l i S : Nat) (x : Int32) (b : Bool) {Q : Option Value → xM → Prop} (hp : p < 10) (hl : l ≤ 3) (hi : i < l) (his : xC mX10_isSet [.ref 172, .int (nI S), .int x] (xmm u) (fun r μ' => r = some (.int (xb (b = true))) ∧ μ' = xmm u)) (v1 : u.1 178 p = nI (l)) (v2 : u.1 179 ((3 * p) + i) = x)
    (k1 : l ≤ i → Q (some (.int (nI (1)))) (xmm u))
    (k2 : ¬ l ≤ i → x = (-1) → xE mX10_isWhole 2 [(0, .ref 172), (1, .int (nI (p))), (2, .int (nI (S))), (3, .int (nI (i + 1)))] [] (xmm u) Q)
    (k3 : ¬ l ≤ i → ¬ x = (-1) → b = true → xE mX10_isWhole 2 [(0, .ref 172), (1, .int (nI (p))), (2, .int (nI (S))), (3, .int (nI (i + 1)))] [] (xmm u) Q)
    (k4 : ¬ l ≤ i → ¬ x = (-1) → ¬ (b = true) → Q (some (.int (nI (0)))) (xmm u)) : xE mX10_isWhole 2 [(0, .ref 172), (1, .int (nI (p))), (2, .int (nI (S))), (3, .int (nI (i)))] [] (xmm u) Q := by
  refine xe_iload_n 3 dX10_isWhole_2 rfl rfl ?_
  refine xe_aload_n 0 dX10_isWhole_3 rfl rfl ?_
  refine xr_getR (b := 178) dX10_isWhole_4 fX10_25 rfl sh172 (by decide) rfl ?_
  refine xe_iload_n 1 dX10_isWhole_7 rfl rfl ?_
  refine xr_iald (k := p) (v := nI (l)) dX10_isWhole_8 sh178 (by decide) (by omega) (by decide) v1 ?_
  refine xn_icmp_ge 52 dX10_isWhole_9 (by decide) (by omega) (by omega) (fun c1 => ?_) (fun c1 => ?_)
  · refine xe_iconst (v := nI (1)) dX10_isWhole_52 xc1 ?_
    exact xe_ret (r := (some (.int (nI (1))))) dX10_isWhole_53 (Or.inr rfl) (k1 c1)
  · refine xe_aload_n 0 dX10_isWhole_12 rfl rfl ?_
    refine xr_getR (b := 179) dX10_isWhole_13 fX10_28 rfl sh172 (by decide) rfl ?_
    refine xe_iconst (v := nI (3)) dX10_isWhole_16 xc3 ?_
    refine xe_iload_n 1 dX10_isWhole_17 rfl rfl ?_
    refine xn_imul dX10_isWhole_18 ?_
    refine xe_iload_n 3 dX10_isWhole_19 rfl rfl ?_
    refine xn_iadd dX10_isWhole_20 ?_
    refine xr_iald (k := (3 * p) + i) (v := x) dX10_isWhole_21 sh179 (by decide) (by omega) (by decide) v2 ?_
    refine xe_iconst (v := -1) dX10_isWhole_22 xcm1 ?_
    refine xe_icmp_eq 46 dX10_isWhole_23 (by decide) (fun c2 => ?_) (fun c2 => ?_)
    · refine xn_iinc (c := 1) (L2 := [(0, .ref 172), (1, .int (nI (p))), (2, .int (nI (S))), (3, .int (nI (i + 1)))]) 3 dX10_isWhole_46 rfl (by decide) rfl ?_
      refine xe_goto 2 dX10_isWhole_49 (by decide) ?_
      exact k2 c1 c2
    · refine xe_aload_n 0 dX10_isWhole_26 rfl rfl ?_
      refine xe_iload_n 2 dX10_isWhole_27 rfl rfl ?_
      refine xe_aload_n 0 dX10_isWhole_28 rfl rfl ?_
      refine xr_getR (b := 179) dX10_isWhole_29 fX10_28 rfl sh172 (by decide) rfl ?_
      refine xe_iconst (v := nI (3)) dX10_isWhole_32 xc3 ?_
      refine xe_iload_n 1 dX10_isWhole_33 rfl rfl ?_
      refine xn_imul dX10_isWhole_34 ?_
      refine xe_iload_n 3 dX10_isWhole_35 rfl rfl ?_
      refine xn_iadd dX10_isWhole_36 ?_
      refine xr_iald (k := (3 * p) + i) (v := x) dX10_isWhole_37 sh179 (by decide) (by omega) (by decide) v2 ?_
      refine xe_callV (As := [.int (nI (S)), .int (x)]) (rest := []) dX10_isWhole_38 wX10_isSet lX10_129 iX10_isSet sX10_isSet ⟨by decide, by decide⟩ sh172 rfl (xin_mm (by decide)) rfl rfl (by simp [Value.category]) (xC.pure (v := .int (xb (b = true))) (his) ?_)
      refine xb_if_ne 46 dX10_isWhole_41 (by decide) (fun c3 => ?_) (fun c3 => ?_)
      · refine xn_iinc (c := 1) (L2 := [(0, .ref 172), (1, .int (nI (p))), (2, .int (nI (S))), (3, .int (nI (i + 1)))]) 3 dX10_isWhole_46 rfl (by decide) rfl ?_
        refine xe_goto 2 dX10_isWhole_49 (by decide) ?_
        exact k3 c1 c2 c3
      · refine xe_iconst (v := nI (0)) dX10_isWhole_44 xc0 ?_
        exact xe_ret (r := (some (.int (nI (0))))) dX10_isWhole_45 (Or.inl rfl) (k4 c1 c2 c3)

theorem gX10_isWhole_e (u : xU) (p l i S : Nat) {Q : Option Value → xM → Prop} (hp : p < 10) (hl : l ≤ 3) (hi : i = l) (v1 : u.1 178 p = nI (l))
    (k1 : l ≤ i → Q (some (.int (nI (1)))) (xmm u))
    (k2 : ¬ l ≤ i → (u.1 179 ((3 * p) + i)) = (-1) → xE mX10_isWhole 2 [(0, .ref 172), (1, .int (nI (p))), (2, .int (nI (S))), (3, .int (nI (i + 1)))] [] (xmm u) Q)
    (k3 : ¬ l ≤ i → ¬ (u.1 179 ((3 * p) + i)) = (-1) → xC mX10_isSet [.ref 172, .int (nI (S)), .int (u.1 179 ((3 * p) + i))] (xmm u) (fun r μ1 => xE mX10_isWhole 41 [(0, .ref 172), (1, .int (nI (p))), (2, .int (nI (S))), (3, .int (nI (i)))] (r.toList ++ []) μ1 Q)) : xE mX10_isWhole 2 [(0, .ref 172), (1, .int (nI (p))), (2, .int (nI (S))), (3, .int (nI (i)))] [] (xmm u) Q := by
  refine xe_iload_n 3 dX10_isWhole_2 rfl rfl ?_
  refine xe_aload_n 0 dX10_isWhole_3 rfl rfl ?_
  refine xr_getR (b := 178) dX10_isWhole_4 fX10_25 rfl sh172 (by decide) rfl ?_
  refine xe_iload_n 1 dX10_isWhole_7 rfl rfl ?_
  refine xr_iald (k := p) (v := nI (l)) dX10_isWhole_8 sh178 (by decide) (by omega) (by decide) v1 ?_
  refine xn_icmp_ge 52 dX10_isWhole_9 (by decide) (by omega) (by omega) (fun c1 => ?_) (fun c1 => ?_)
  · refine xe_iconst (v := nI (1)) dX10_isWhole_52 xc1 ?_
    exact xe_ret (r := (some (.int (nI (1))))) dX10_isWhole_53 (Or.inr rfl) (k1 c1)
  · refine xe_aload_n 0 dX10_isWhole_12 rfl rfl ?_
    refine xr_getR (b := 179) dX10_isWhole_13 fX10_28 rfl sh172 (by decide) rfl ?_
    refine xe_iconst (v := nI (3)) dX10_isWhole_16 xc3 ?_
    refine xe_iload_n 1 dX10_isWhole_17 rfl rfl ?_
    refine xn_imul dX10_isWhole_18 ?_
    refine xe_iload_n 3 dX10_isWhole_19 rfl rfl ?_
    refine xn_iadd dX10_isWhole_20 ?_
    refine xr_iald (k := (3 * p) + i) (v := u.1 179 ((3 * p) + i)) dX10_isWhole_21 sh179 (by decide) (by omega) (by decide) rfl ?_
    refine xe_iconst (v := -1) dX10_isWhole_22 xcm1 ?_
    refine xe_icmp_eq 46 dX10_isWhole_23 (by decide) (fun c2 => ?_) (fun c2 => ?_)
    · refine xn_iinc (c := 1) (L2 := [(0, .ref 172), (1, .int (nI (p))), (2, .int (nI (S))), (3, .int (nI (i + 1)))]) 3 dX10_isWhole_46 rfl (by decide) rfl ?_
      refine xe_goto 2 dX10_isWhole_49 (by decide) ?_
      exact k2 c1 c2
    · refine xe_aload_n 0 dX10_isWhole_26 rfl rfl ?_
      refine xe_iload_n 2 dX10_isWhole_27 rfl rfl ?_
      refine xe_aload_n 0 dX10_isWhole_28 rfl rfl ?_
      refine xr_getR (b := 179) dX10_isWhole_29 fX10_28 rfl sh172 (by decide) rfl ?_
      refine xe_iconst (v := nI (3)) dX10_isWhole_32 xc3 ?_
      refine xe_iload_n 1 dX10_isWhole_33 rfl rfl ?_
      refine xn_imul dX10_isWhole_34 ?_
      refine xe_iload_n 3 dX10_isWhole_35 rfl rfl ?_
      refine xn_iadd dX10_isWhole_36 ?_
      refine xr_iald (k := (3 * p) + i) (v := u.1 179 ((3 * p) + i)) dX10_isWhole_37 sh179 (by decide) (by omega) (by decide) rfl ?_
      refine xe_callV (As := [.int (nI (S)), .int (u.1 179 ((3 * p) + i))]) (rest := []) dX10_isWhole_38 wX10_isSet lX10_129 iX10_isSet sX10_isSet ⟨by decide, by decide⟩ sh172 rfl (xin_mm (by decide)) rfl rfl (by simp [Value.category]) ?_
      exact k3 c1 c2

theorem gX10_touches_0 (u : xU) (p S : Nat) {Q : Option Value → xM → Prop}  
    (k1 : xE mX10_touches 2 [(0, .ref 172), (1, .int (nI (p))), (2, .int (nI (S))), (3, .int (nI (0)))] [] (xmm u) Q) : xE mX10_touches 0 [(0, .ref 172), (1, .int (nI (p))), (2, .int (nI (S)))] [] (xmm u) Q := by
  refine xe_iconst (v := nI (0)) dX10_touches_0 xc0 ?_
  refine xe_istore_n (L2 := [(0, .ref 172), (1, .int (nI (p))), (2, .int (nI (S))), (3, .int (nI (0)))]) dX10_touches_1 rfl (by decide) rfl ?_
  exact k1

theorem gX10_touches_2 (u : xU) (p l i S : Nat) (x : Int32) (b : Bool) {Q : Option Value → xM → Prop} (hp : p < 10) (hl : l ≤ 3) (hi : i < l) (his : xC mX10_isSet [.ref 172, .int (nI S), .int x] (xmm u) (fun r μ' => r = some (.int (xb (b = true))) ∧ μ' = xmm u)) (v1 : u.1 178 p = nI (l)) (v2 : u.1 179 ((3 * p) + i) = x)
    (k1 : l ≤ i → Q (some (.int (nI (0)))) (xmm u))
    (k2 : ¬ l ≤ i → x = (-1) → xE mX10_touches 2 [(0, .ref 172), (1, .int (nI (p))), (2, .int (nI (S))), (3, .int (nI (i + 1)))] [] (xmm u) Q)
    (k3 : ¬ l ≤ i → ¬ x = (-1) → ¬ (b = true) → xE mX10_touches 2 [(0, .ref 172), (1, .int (nI (p))), (2, .int (nI (S))), (3, .int (nI (i + 1)))] [] (xmm u) Q)
    (k4 : ¬ l ≤ i → ¬ x = (-1) → b = true → Q (some (.int (nI (1)))) (xmm u)) : xE mX10_touches 2 [(0, .ref 172), (1, .int (nI (p))), (2, .int (nI (S))), (3, .int (nI (i)))] [] (xmm u) Q := by
  refine xe_iload_n 3 dX10_touches_2 rfl rfl ?_
  refine xe_aload_n 0 dX10_touches_3 rfl rfl ?_
  refine xr_getR (b := 178) dX10_touches_4 fX10_25 rfl sh172 (by decide) rfl ?_
  refine xe_iload_n 1 dX10_touches_7 rfl rfl ?_
  refine xr_iald (k := p) (v := nI (l)) dX10_touches_8 sh178 (by decide) (by omega) (by decide) v1 ?_
  refine xn_icmp_ge 52 dX10_touches_9 (by decide) (by omega) (by omega) (fun c1 => ?_) (fun c1 => ?_)
  · refine xe_iconst (v := nI (0)) dX10_touches_52 xc0 ?_
    exact xe_ret (r := (some (.int (nI (0))))) dX10_touches_53 (Or.inl rfl) (k1 c1)
  · refine xe_aload_n 0 dX10_touches_12 rfl rfl ?_
    refine xr_getR (b := 179) dX10_touches_13 fX10_28 rfl sh172 (by decide) rfl ?_
    refine xe_iconst (v := nI (3)) dX10_touches_16 xc3 ?_
    refine xe_iload_n 1 dX10_touches_17 rfl rfl ?_
    refine xn_imul dX10_touches_18 ?_
    refine xe_iload_n 3 dX10_touches_19 rfl rfl ?_
    refine xn_iadd dX10_touches_20 ?_
    refine xr_iald (k := (3 * p) + i) (v := x) dX10_touches_21 sh179 (by decide) (by omega) (by decide) v2 ?_
    refine xe_iconst (v := -1) dX10_touches_22 xcm1 ?_
    refine xe_icmp_eq 46 dX10_touches_23 (by decide) (fun c2 => ?_) (fun c2 => ?_)
    · refine xn_iinc (c := 1) (L2 := [(0, .ref 172), (1, .int (nI (p))), (2, .int (nI (S))), (3, .int (nI (i + 1)))]) 3 dX10_touches_46 rfl (by decide) rfl ?_
      refine xe_goto 2 dX10_touches_49 (by decide) ?_
      exact k2 c1 c2
    · refine xe_aload_n 0 dX10_touches_26 rfl rfl ?_
      refine xe_iload_n 2 dX10_touches_27 rfl rfl ?_
      refine xe_aload_n 0 dX10_touches_28 rfl rfl ?_
      refine xr_getR (b := 179) dX10_touches_29 fX10_28 rfl sh172 (by decide) rfl ?_
      refine xe_iconst (v := nI (3)) dX10_touches_32 xc3 ?_
      refine xe_iload_n 1 dX10_touches_33 rfl rfl ?_
      refine xn_imul dX10_touches_34 ?_
      refine xe_iload_n 3 dX10_touches_35 rfl rfl ?_
      refine xn_iadd dX10_touches_36 ?_
      refine xr_iald (k := (3 * p) + i) (v := x) dX10_touches_37 sh179 (by decide) (by omega) (by decide) v2 ?_
      refine xe_callV (As := [.int (nI (S)), .int (x)]) (rest := []) dX10_touches_38 wX10_isSet lX10_129 iX10_isSet sX10_isSet ⟨by decide, by decide⟩ sh172 rfl (xin_mm (by decide)) rfl rfl (by simp [Value.category]) (xC.pure (v := .int (xb (b = true))) (his) ?_)
      refine xb_if_eq 46 dX10_touches_41 (by decide) (fun c3 => ?_) (fun c3 => ?_)
      · refine xn_iinc (c := 1) (L2 := [(0, .ref 172), (1, .int (nI (p))), (2, .int (nI (S))), (3, .int (nI (i + 1)))]) 3 dX10_touches_46 rfl (by decide) rfl ?_
        refine xe_goto 2 dX10_touches_49 (by decide) ?_
        exact k3 c1 c2 c3
      · refine xe_iconst (v := nI (1)) dX10_touches_44 xc1 ?_
        exact xe_ret (r := (some (.int (nI (1))))) dX10_touches_45 (Or.inr rfl) (k4 c1 c2 c3)

theorem gX10_touches_e (u : xU) (p l i S : Nat) {Q : Option Value → xM → Prop} (hp : p < 10) (hl : l ≤ 3) (hi : i = l) (v1 : u.1 178 p = nI (l))
    (k1 : l ≤ i → Q (some (.int (nI (0)))) (xmm u))
    (k2 : ¬ l ≤ i → (u.1 179 ((3 * p) + i)) = (-1) → xE mX10_touches 2 [(0, .ref 172), (1, .int (nI (p))), (2, .int (nI (S))), (3, .int (nI (i + 1)))] [] (xmm u) Q)
    (k3 : ¬ l ≤ i → ¬ (u.1 179 ((3 * p) + i)) = (-1) → xC mX10_isSet [.ref 172, .int (nI (S)), .int (u.1 179 ((3 * p) + i))] (xmm u) (fun r μ1 => xE mX10_touches 41 [(0, .ref 172), (1, .int (nI (p))), (2, .int (nI (S))), (3, .int (nI (i)))] (r.toList ++ []) μ1 Q)) : xE mX10_touches 2 [(0, .ref 172), (1, .int (nI (p))), (2, .int (nI (S))), (3, .int (nI (i)))] [] (xmm u) Q := by
  refine xe_iload_n 3 dX10_touches_2 rfl rfl ?_
  refine xe_aload_n 0 dX10_touches_3 rfl rfl ?_
  refine xr_getR (b := 178) dX10_touches_4 fX10_25 rfl sh172 (by decide) rfl ?_
  refine xe_iload_n 1 dX10_touches_7 rfl rfl ?_
  refine xr_iald (k := p) (v := nI (l)) dX10_touches_8 sh178 (by decide) (by omega) (by decide) v1 ?_
  refine xn_icmp_ge 52 dX10_touches_9 (by decide) (by omega) (by omega) (fun c1 => ?_) (fun c1 => ?_)
  · refine xe_iconst (v := nI (0)) dX10_touches_52 xc0 ?_
    exact xe_ret (r := (some (.int (nI (0))))) dX10_touches_53 (Or.inl rfl) (k1 c1)
  · refine xe_aload_n 0 dX10_touches_12 rfl rfl ?_
    refine xr_getR (b := 179) dX10_touches_13 fX10_28 rfl sh172 (by decide) rfl ?_
    refine xe_iconst (v := nI (3)) dX10_touches_16 xc3 ?_
    refine xe_iload_n 1 dX10_touches_17 rfl rfl ?_
    refine xn_imul dX10_touches_18 ?_
    refine xe_iload_n 3 dX10_touches_19 rfl rfl ?_
    refine xn_iadd dX10_touches_20 ?_
    refine xr_iald (k := (3 * p) + i) (v := u.1 179 ((3 * p) + i)) dX10_touches_21 sh179 (by decide) (by omega) (by decide) rfl ?_
    refine xe_iconst (v := -1) dX10_touches_22 xcm1 ?_
    refine xe_icmp_eq 46 dX10_touches_23 (by decide) (fun c2 => ?_) (fun c2 => ?_)
    · refine xn_iinc (c := 1) (L2 := [(0, .ref 172), (1, .int (nI (p))), (2, .int (nI (S))), (3, .int (nI (i + 1)))]) 3 dX10_touches_46 rfl (by decide) rfl ?_
      refine xe_goto 2 dX10_touches_49 (by decide) ?_
      exact k2 c1 c2
    · refine xe_aload_n 0 dX10_touches_26 rfl rfl ?_
      refine xe_iload_n 2 dX10_touches_27 rfl rfl ?_
      refine xe_aload_n 0 dX10_touches_28 rfl rfl ?_
      refine xr_getR (b := 179) dX10_touches_29 fX10_28 rfl sh172 (by decide) rfl ?_
      refine xe_iconst (v := nI (3)) dX10_touches_32 xc3 ?_
      refine xe_iload_n 1 dX10_touches_33 rfl rfl ?_
      refine xn_imul dX10_touches_34 ?_
      refine xe_iload_n 3 dX10_touches_35 rfl rfl ?_
      refine xn_iadd dX10_touches_36 ?_
      refine xr_iald (k := (3 * p) + i) (v := u.1 179 ((3 * p) + i)) dX10_touches_37 sh179 (by decide) (by omega) (by decide) rfl ?_
      refine xe_callV (As := [.int (nI (S)), .int (u.1 179 ((3 * p) + i))]) (rest := []) dX10_touches_38 wX10_isSet lX10_129 iX10_isSet sX10_isSet ⟨by decide, by decide⟩ sh172 rfl (xin_mm (by decide)) rfl rfl (by simp [Value.category]) ?_
      exact k3 c1 c2

theorem gX10_told_n (u : xU) (p i : Nat) (y : Int32) {Q : Option Value → xM → Prop} (hp : p < 10) (hi : i < 3) (v1 : u.1 179 ((3 * p) + i) = (-1)) (v2 : u.1 180 ((3 * p) + i) = y)
    (k1 : Q (some (.int (y))) (xmm u)) : xE mX10_told 0 [(0, .ref 172), (1, .int (nI (p))), (2, .int (nI (i)))] [] (xmm u) Q := by
  refine xe_aload_n 0 dX10_told_0 rfl rfl ?_
  refine xr_getR (b := 179) dX10_told_1 fX10_28 rfl sh172 (by decide) rfl ?_
  refine xe_iconst (v := nI (3)) dX10_told_4 xc3 ?_
  refine xe_iload_n 1 dX10_told_5 rfl rfl ?_
  refine xn_imul dX10_told_6 ?_
  refine xe_iload_n 2 dX10_told_7 rfl rfl ?_
  refine xn_iadd dX10_told_8 ?_
  refine xr_iald (k := (3 * p) + i) (v := (-1)) dX10_told_9 sh179 (by decide) (by omega) (by decide) v1 ?_
  refine xe_iconst (v := -1) dX10_told_10 xcm1 ?_
  refine xe_icmp_ne 27 dX10_told_11 (by decide) (fun q => absurd rfl q) (fun _ => ?_)
  refine xe_aload_n 0 dX10_told_14 rfl rfl ?_
  refine xr_getR (b := 180) dX10_told_15 fX10_31 rfl sh172 (by decide) rfl ?_
  refine xe_iconst (v := nI (3)) dX10_told_18 xc3 ?_
  refine xe_iload_n 1 dX10_told_19 rfl rfl ?_
  refine xn_imul dX10_told_20 ?_
  refine xe_iload_n 2 dX10_told_21 rfl rfl ?_
  refine xn_iadd dX10_told_22 ?_
  refine xr_iald (k := (3 * p) + i) (v := y) dX10_told_23 sh180 (by decide) (by omega) (by decide) v2 ?_
  refine xe_goto 42 dX10_told_24 (by decide) ?_
  exact xe_ret (r := (some (.int (y)))) dX10_told_42 trivial (k1)

theorem gX10_told_s (u : xU) (p i k : Nat) (y : Int32) {Q : Option Value → xM → Prop} (hp : p < 10) (hi : i < 3) (hk : k < 6) (v1 : u.1 179 ((3 * p) + i) = nI (k)) (v2 : u.1 190 k = y)
    (k1 : ¬ (nI (k)) = (-1) → Q (some (.int (y))) (xmm u))
    (k2 : (nI (k)) = (-1) → Q (some (.int (u.1 180 ((3 * p) + i)))) (xmm u)) : xE mX10_told 0 [(0, .ref 172), (1, .int (nI (p))), (2, .int (nI (i)))] [] (xmm u) Q := by
  refine xe_aload_n 0 dX10_told_0 rfl rfl ?_
  refine xr_getR (b := 179) dX10_told_1 fX10_28 rfl sh172 (by decide) rfl ?_
  refine xe_iconst (v := nI (3)) dX10_told_4 xc3 ?_
  refine xe_iload_n 1 dX10_told_5 rfl rfl ?_
  refine xn_imul dX10_told_6 ?_
  refine xe_iload_n 2 dX10_told_7 rfl rfl ?_
  refine xn_iadd dX10_told_8 ?_
  refine xr_iald (k := (3 * p) + i) (v := nI (k)) dX10_told_9 sh179 (by decide) (by omega) (by decide) v1 ?_
  refine xe_iconst (v := -1) dX10_told_10 xcm1 ?_
  refine xe_icmp_ne 27 dX10_told_11 (by decide) (fun c1 => ?_) (fun c1 => ?_)
  · refine xe_aload_n 0 dX10_told_27 rfl rfl ?_
    refine xr_getR (b := 190) dX10_told_28 fX10_69 rfl sh172 (by decide) rfl ?_
    refine xe_aload_n 0 dX10_told_31 rfl rfl ?_
    refine xr_getR (b := 179) dX10_told_32 fX10_28 rfl sh172 (by decide) rfl ?_
    refine xe_iconst (v := nI (3)) dX10_told_35 xc3 ?_
    refine xe_iload_n 1 dX10_told_36 rfl rfl ?_
    refine xn_imul dX10_told_37 ?_
    refine xe_iload_n 2 dX10_told_38 rfl rfl ?_
    refine xn_iadd dX10_told_39 ?_
    refine xr_iald (k := (3 * p) + i) (v := nI (k)) dX10_told_40 sh179 (by decide) (by omega) (by decide) v1 ?_
    refine xr_iald (k := k) (v := y) dX10_told_41 sh190 (by decide) (by omega) (by decide) v2 ?_
    exact xe_ret (r := (some (.int (y)))) dX10_told_42 trivial (k1 c1)
  · refine xe_aload_n 0 dX10_told_14 rfl rfl ?_
    refine xr_getR (b := 180) dX10_told_15 fX10_31 rfl sh172 (by decide) rfl ?_
    refine xe_iconst (v := nI (3)) dX10_told_18 xc3 ?_
    refine xe_iload_n 1 dX10_told_19 rfl rfl ?_
    refine xn_imul dX10_told_20 ?_
    refine xe_iload_n 2 dX10_told_21 rfl rfl ?_
    refine xn_iadd dX10_told_22 ?_
    refine xr_iald (k := (3 * p) + i) (v := u.1 180 ((3 * p) + i)) dX10_told_23 sh180 (by decide) (by omega) (by decide) rfl ?_
    refine xe_goto 42 dX10_told_24 (by decide) ?_
    exact xe_ret (r := (some (.int (u.1 180 ((3 * p) + i))))) dX10_told_42 trivial (k2 c1)

theorem gX10_agrees_0 (u : xU) (p q S : Nat) {Q : Option Value → xM → Prop}  
    (k1 : xE mX10_agrees 3 [(0, .ref 172), (1, .int (nI (p))), (2, .int (nI (q))), (3, .int (nI (S))), (4, .int (nI (0)))] [] (xmm u) Q) : xE mX10_agrees 0 [(0, .ref 172), (1, .int (nI (p))), (2, .int (nI (q))), (3, .int (nI (S)))] [] (xmm u) Q := by
  refine xe_iconst (v := nI (0)) dX10_agrees_0 xc0 ?_
  refine xe_istore (L2 := [(0, .ref 172), (1, .int (nI (p))), (2, .int (nI (q))), (3, .int (nI (S))), (4, .int (nI (0)))]) dX10_agrees_1 (by decide) rfl ?_
  exact k1

theorem gX10_agrees_3 (u : xU) (p q S i l t : Nat) (x y v : Int32) (b : Bool) {Q : Option Value → xM → Prop} (hp : p < 10) (hl : l ≤ 3) (hi : i < l) (ht : t < 8) (his : xC mX10_isSet [.ref 172, .int (nI S), .int x] (xmm u) (fun r μ' => r = some (.int (xb (b = true))) ∧ μ' = xmm u)) (hce : xC mX10_cell [.ref 172, .int (nI t), .int (nI q), .int (nI i)] (xmm u) (fun r μ' => r = some (.int (v)) ∧ μ' = xmm u)) (hto : xC mX10_told [.ref 172, .int (nI p), .int (nI i)] (xmm u) (fun r μ' => r = some (.int (y)) ∧ μ' = xmm u)) (v1 : u.1 178 p = nI (l)) (v2 : u.1 179 ((3 * p) + i) = x) (v3 : u.1 177 p = nI (t))
    (k1 : l ≤ i → Q (some (.int (nI (1)))) (xmm u))
    (k2 : ¬ l ≤ i → x = (-1) → v = y → xE mX10_agrees 75 [(0, .ref 172), (1, .int (nI (p))), (2, .int (nI (q))), (3, .int (nI (S))), (4, .int (nI (i))), (5, .int (x)), (6, .int (v)), (7, .int (nI (0)))] [] (xmm u) Q)
    (k3 : ¬ l ≤ i → x = (-1) → ¬ v = y → Q (some (.int (nI (0)))) (xmm u))
    (k4 : ¬ l ≤ i → ¬ x = (-1) → ¬ (b = true) → xE mX10_agrees 75 [(0, .ref 172), (1, .int (nI (p))), (2, .int (nI (q))), (3, .int (nI (S))), (4, .int (nI (i))), (5, .int (x)), (6, .int (v)), (7, .int (nI (0)))] [] (xmm u) Q)
    (k5 : ¬ l ≤ i → ¬ x = (-1) → b = true → v = y → xE mX10_agrees 75 [(0, .ref 172), (1, .int (nI (p))), (2, .int (nI (q))), (3, .int (nI (S))), (4, .int (nI (i))), (5, .int (x)), (6, .int (v)), (7, .int (nI (0)))] [] (xmm u) Q)
    (k6 : ¬ l ≤ i → ¬ x = (-1) → b = true → ¬ v = y → Q (some (.int (nI (0)))) (xmm u)) : xE mX10_agrees 3 [(0, .ref 172), (1, .int (nI (p))), (2, .int (nI (q))), (3, .int (nI (S))), (4, .int (nI (i)))] [] (xmm u) Q := by
  refine xe_iload 4 dX10_agrees_3 rfl ?_
  refine xe_aload_n 0 dX10_agrees_5 rfl rfl ?_
  refine xr_getR (b := 178) dX10_agrees_6 fX10_25 rfl sh172 (by decide) rfl ?_
  refine xe_iload_n 1 dX10_agrees_9 rfl rfl ?_
  refine xr_iald (k := p) (v := nI (l)) dX10_agrees_10 sh178 (by decide) (by omega) (by decide) v1 ?_
  refine xn_icmp_ge 136 dX10_agrees_11 (by decide) (by omega) (by omega) (fun c1 => ?_) (fun c1 => ?_)
  · refine xe_iconst (v := nI (1)) dX10_agrees_136 xc1 ?_
    exact xe_ret (r := (some (.int (nI (1))))) dX10_agrees_137 (Or.inr rfl) (k1 c1)
  · refine xe_aload_n 0 dX10_agrees_14 rfl rfl ?_
    refine xr_getR (b := 179) dX10_agrees_15 fX10_28 rfl sh172 (by decide) rfl ?_
    refine xe_iconst (v := nI (3)) dX10_agrees_18 xc3 ?_
    refine xe_iload_n 1 dX10_agrees_19 rfl rfl ?_
    refine xn_imul dX10_agrees_20 ?_
    refine xe_iload 4 dX10_agrees_21 rfl ?_
    refine xn_iadd dX10_agrees_23 ?_
    refine xr_iald (k := (3 * p) + i) (v := x) dX10_agrees_24 sh179 (by decide) (by omega) (by decide) v2 ?_
    refine xe_istore (L2 := [(0, .ref 172), (1, .int (nI (p))), (2, .int (nI (q))), (3, .int (nI (S))), (4, .int (nI (i))), (5, .int (x))]) dX10_agrees_25 (by decide) rfl ?_
    refine xe_aload_n 0 dX10_agrees_27 rfl rfl ?_
    refine xe_aload_n 0 dX10_agrees_28 rfl rfl ?_
    refine xr_getR (b := 177) dX10_agrees_29 fX10_22 rfl sh172 (by decide) rfl ?_
    refine xe_iload_n 1 dX10_agrees_32 rfl rfl ?_
    refine xr_iald (k := p) (v := nI (t)) dX10_agrees_33 sh177 (by decide) (by omega) (by decide) v3 ?_
    refine xe_iload_n 2 dX10_agrees_34 rfl rfl ?_
    refine xe_iload 4 dX10_agrees_35 rfl ?_
    refine xe_callV (As := [.int (nI (t)), .int (nI (q)), .int (nI (i))]) (rest := []) dX10_agrees_37 wX10_cell lX10_95 iX10_cell sX10_cell ⟨by decide, by decide⟩ sh172 rfl (xin_mm (by decide)) rfl rfl (by simp [Value.category]) (xC.pure (v := .int (v)) (hce) ?_)
    refine xe_istore (L2 := [(0, .ref 172), (1, .int (nI (p))), (2, .int (nI (q))), (3, .int (nI (S))), (4, .int (nI (i))), (5, .int (x)), (6, .int (v))]) dX10_agrees_40 (by decide) rfl ?_
    refine xe_iload 5 dX10_agrees_42 rfl ?_
    refine xe_iconst (v := -1) dX10_agrees_44 xcm1 ?_
    refine xe_icmp_eq 58 dX10_agrees_45 (by decide) (fun c2 => ?_) (fun c2 => ?_)
    · refine xe_iload 6 dX10_agrees_58 rfl ?_
      refine xe_aload_n 0 dX10_agrees_60 rfl rfl ?_
      refine xe_iload_n 1 dX10_agrees_61 rfl rfl ?_
      refine xe_iload 4 dX10_agrees_62 rfl ?_
      refine xe_callV (As := [.int (nI (p)), .int (nI (i))]) (rest := [.int (v)]) dX10_agrees_64 wX10_told lX10_132 iX10_told sX10_told ⟨by decide, by decide⟩ sh172 rfl (xin_mm (by decide)) rfl rfl (by simp [Value.category]) (xC.pure (v := .int (y)) (hto) ?_)
      refine xe_icmp_eq 72 dX10_agrees_67 (by decide) (fun c3 => ?_) (fun c3 => ?_)
      · refine xe_iconst (v := nI (0)) dX10_agrees_72 xc0 ?_
        refine xe_istore (L2 := [(0, .ref 172), (1, .int (nI (p))), (2, .int (nI (q))), (3, .int (nI (S))), (4, .int (nI (i))), (5, .int (x)), (6, .int (v)), (7, .int (nI (0)))]) dX10_agrees_73 (by decide) rfl ?_
        exact k2 c1 c2 c3
      · refine xe_iconst (v := nI (0)) dX10_agrees_70 xc0 ?_
        exact xe_ret (r := (some (.int (nI (0))))) dX10_agrees_71 (Or.inl rfl) (k3 c1 c2 c3)
    · refine xe_aload_n 0 dX10_agrees_48 rfl rfl ?_
      refine xe_iload_n 3 dX10_agrees_49 rfl rfl ?_
      refine xe_iload 5 dX10_agrees_50 rfl ?_
      refine xe_callV (As := [.int (nI (S)), .int (x)]) (rest := []) dX10_agrees_52 wX10_isSet lX10_129 iX10_isSet sX10_isSet ⟨by decide, by decide⟩ sh172 rfl (xin_mm (by decide)) rfl rfl (by simp [Value.category]) (xC.pure (v := .int (xb (b = true))) (his) ?_)
      refine xb_if_eq 72 dX10_agrees_55 (by decide) (fun c4 => ?_) (fun c4 => ?_)
      · refine xe_iconst (v := nI (0)) dX10_agrees_72 xc0 ?_
        refine xe_istore (L2 := [(0, .ref 172), (1, .int (nI (p))), (2, .int (nI (q))), (3, .int (nI (S))), (4, .int (nI (i))), (5, .int (x)), (6, .int (v)), (7, .int (nI (0)))]) dX10_agrees_73 (by decide) rfl ?_
        exact k4 c1 c2 c4
      · refine xe_iload 6 dX10_agrees_58 rfl ?_
        refine xe_aload_n 0 dX10_agrees_60 rfl rfl ?_
        refine xe_iload_n 1 dX10_agrees_61 rfl rfl ?_
        refine xe_iload 4 dX10_agrees_62 rfl ?_
        refine xe_callV (As := [.int (nI (p)), .int (nI (i))]) (rest := [.int (v)]) dX10_agrees_64 wX10_told lX10_132 iX10_told sX10_told ⟨by decide, by decide⟩ sh172 rfl (xin_mm (by decide)) rfl rfl (by simp [Value.category]) (xC.pure (v := .int (y)) (hto) ?_)
        refine xe_icmp_eq 72 dX10_agrees_67 (by decide) (fun c5 => ?_) (fun c5 => ?_)
        · refine xe_iconst (v := nI (0)) dX10_agrees_72 xc0 ?_
          refine xe_istore (L2 := [(0, .ref 172), (1, .int (nI (p))), (2, .int (nI (q))), (3, .int (nI (S))), (4, .int (nI (i))), (5, .int (x)), (6, .int (v)), (7, .int (nI (0)))]) dX10_agrees_73 (by decide) rfl ?_
          exact k5 c1 c2 c4 c5
        · refine xe_iconst (v := nI (0)) dX10_agrees_70 xc0 ?_
          exact xe_ret (r := (some (.int (nI (0))))) dX10_agrees_71 (Or.inl rfl) (k6 c1 c2 c4 c5)

theorem gX10_agrees_e (u : xU) (p q S i l : Nat) {Q : Option Value → xM → Prop} (hp : p < 10) (hl : l ≤ 3) (hi : i = l) (v1 : u.1 178 p = nI (l))
    (k1 : l ≤ i → Q (some (.int (nI (1)))) (xmm u))
    (k2 : ¬ l ≤ i → xC mX10_cell [.ref 172, .int (u.1 177 p), .int (nI (q)), .int (nI (i))] (xmm u) (fun r μ1 => xE mX10_agrees 40 [(0, .ref 172), (1, .int (nI (p))), (2, .int (nI (q))), (3, .int (nI (S))), (4, .int (nI (i))), (5, .int (u.1 179 ((3 * p) + i)))] (r.toList ++ []) μ1 Q)) : xE mX10_agrees 3 [(0, .ref 172), (1, .int (nI (p))), (2, .int (nI (q))), (3, .int (nI (S))), (4, .int (nI (i)))] [] (xmm u) Q := by
  refine xe_iload 4 dX10_agrees_3 rfl ?_
  refine xe_aload_n 0 dX10_agrees_5 rfl rfl ?_
  refine xr_getR (b := 178) dX10_agrees_6 fX10_25 rfl sh172 (by decide) rfl ?_
  refine xe_iload_n 1 dX10_agrees_9 rfl rfl ?_
  refine xr_iald (k := p) (v := nI (l)) dX10_agrees_10 sh178 (by decide) (by omega) (by decide) v1 ?_
  refine xn_icmp_ge 136 dX10_agrees_11 (by decide) (by omega) (by omega) (fun c1 => ?_) (fun c1 => ?_)
  · refine xe_iconst (v := nI (1)) dX10_agrees_136 xc1 ?_
    exact xe_ret (r := (some (.int (nI (1))))) dX10_agrees_137 (Or.inr rfl) (k1 c1)
  · refine xe_aload_n 0 dX10_agrees_14 rfl rfl ?_
    refine xr_getR (b := 179) dX10_agrees_15 fX10_28 rfl sh172 (by decide) rfl ?_
    refine xe_iconst (v := nI (3)) dX10_agrees_18 xc3 ?_
    refine xe_iload_n 1 dX10_agrees_19 rfl rfl ?_
    refine xn_imul dX10_agrees_20 ?_
    refine xe_iload 4 dX10_agrees_21 rfl ?_
    refine xn_iadd dX10_agrees_23 ?_
    refine xr_iald (k := (3 * p) + i) (v := u.1 179 ((3 * p) + i)) dX10_agrees_24 sh179 (by decide) (by omega) (by decide) rfl ?_
    refine xe_istore (L2 := [(0, .ref 172), (1, .int (nI (p))), (2, .int (nI (q))), (3, .int (nI (S))), (4, .int (nI (i))), (5, .int (u.1 179 ((3 * p) + i)))]) dX10_agrees_25 (by decide) rfl ?_
    refine xe_aload_n 0 dX10_agrees_27 rfl rfl ?_
    refine xe_aload_n 0 dX10_agrees_28 rfl rfl ?_
    refine xr_getR (b := 177) dX10_agrees_29 fX10_22 rfl sh172 (by decide) rfl ?_
    refine xe_iload_n 1 dX10_agrees_32 rfl rfl ?_
    refine xr_iald (k := p) (v := u.1 177 p) dX10_agrees_33 sh177 (by decide) (by omega) (by decide) rfl ?_
    refine xe_iload_n 2 dX10_agrees_34 rfl rfl ?_
    refine xe_iload 4 dX10_agrees_35 rfl ?_
    refine xe_callV (As := [.int (u.1 177 p), .int (nI (q)), .int (nI (i))]) (rest := []) dX10_agrees_37 wX10_cell lX10_95 iX10_cell sX10_cell ⟨by decide, by decide⟩ sh172 rfl (xin_mm (by decide)) rfl rfl (by simp [Value.category]) ?_
    exact k2 c1

theorem gX10_agrees_75 (u : xU) (p q S i k t : Nat) (x v w z : Int32) {Q : Option Value → xM → Prop} (hp : p < 10) (hi : i < 3) (hk : k < i) (ht : t < 8) (hck : xC mX10_cell [.ref 172, .int (nI t), .int (nI q), .int (nI k)] (xmm u) (fun r μ' => r = some (.int (z)) ∧ μ' = xmm u)) (v1 : u.1 179 ((3 * p) + k) = w) (v2 : u.1 177 p = nI (t))
    (k1 : i ≤ k → xE mX10_agrees 3 [(0, .ref 172), (1, .int (nI (p))), (2, .int (nI (q))), (3, .int (nI (S))), (4, .int (nI (i + 1)))] [] (xmm u) Q)
    (k2 : ¬ i ≤ k → x = (-1) → xE mX10_agrees 75 [(0, .ref 172), (1, .int (nI (p))), (2, .int (nI (q))), (3, .int (nI (S))), (4, .int (nI (i))), (5, .int (x)), (6, .int (v)), (7, .int (nI (k + 1)))] [] (xmm u) Q)
    (k3 : ¬ i ≤ k → ¬ x = (-1) → ¬ w = x → xE mX10_agrees 75 [(0, .ref 172), (1, .int (nI (p))), (2, .int (nI (q))), (3, .int (nI (S))), (4, .int (nI (i))), (5, .int (x)), (6, .int (v)), (7, .int (nI (k + 1)))] [] (xmm u) Q)
    (k4 : ¬ i ≤ k → ¬ x = (-1) → w = x → z = v → xE mX10_agrees 75 [(0, .ref 172), (1, .int (nI (p))), (2, .int (nI (q))), (3, .int (nI (S))), (4, .int (nI (i))), (5, .int (x)), (6, .int (v)), (7, .int (nI (k + 1)))] [] (xmm u) Q)
    (k5 : ¬ i ≤ k → ¬ x = (-1) → w = x → ¬ z = v → Q (some (.int (nI (0)))) (xmm u)) : xE mX10_agrees 75 [(0, .ref 172), (1, .int (nI (p))), (2, .int (nI (q))), (3, .int (nI (S))), (4, .int (nI (i))), (5, .int (x)), (6, .int (v)), (7, .int (nI (k)))] [] (xmm u) Q := by
  refine xe_iload 7 dX10_agrees_75 rfl ?_
  refine xe_iload 4 dX10_agrees_77 rfl ?_
  refine xn_icmp_ge 130 dX10_agrees_79 (by decide) (by omega) (by omega) (fun c1 => ?_) (fun c1 => ?_)
  · refine xn_iinc (c := 1) (L2 := [(0, .ref 172), (1, .int (nI (p))), (2, .int (nI (q))), (3, .int (nI (S))), (4, .int (nI (i + 1))), (5, .int (x)), (6, .int (v)), (7, .int (nI (k)))]) 4 dX10_agrees_130 rfl (by decide) rfl ?_
    refine xe_goto 3 dX10_agrees_133 (by decide) ?_
    refine xE.sub [0, 1, 2, 3, 4] rfl ?_
    exact k1 c1
  · refine xe_iload 5 dX10_agrees_82 rfl ?_
    refine xe_iconst (v := -1) dX10_agrees_84 xcm1 ?_
    refine xe_icmp_eq 124 dX10_agrees_85 (by decide) (fun c2 => ?_) (fun c2 => ?_)
    · refine xn_iinc (c := 1) (L2 := [(0, .ref 172), (1, .int (nI (p))), (2, .int (nI (q))), (3, .int (nI (S))), (4, .int (nI (i))), (5, .int (x)), (6, .int (v)), (7, .int (nI (k + 1)))]) 7 dX10_agrees_124 rfl (by decide) rfl ?_
      refine xe_goto 75 dX10_agrees_127 (by decide) ?_
      exact k2 c1 c2
    · refine xe_aload_n 0 dX10_agrees_88 rfl rfl ?_
      refine xr_getR (b := 179) dX10_agrees_89 fX10_28 rfl sh172 (by decide) rfl ?_
      refine xe_iconst (v := nI (3)) dX10_agrees_92 xc3 ?_
      refine xe_iload_n 1 dX10_agrees_93 rfl rfl ?_
      refine xn_imul dX10_agrees_94 ?_
      refine xe_iload 7 dX10_agrees_95 rfl ?_
      refine xn_iadd dX10_agrees_97 ?_
      refine xr_iald (k := (3 * p) + k) (v := w) dX10_agrees_98 sh179 (by decide) (by omega) (by decide) v1 ?_
      refine xe_iload 5 dX10_agrees_99 rfl ?_
      refine xe_icmp_ne 124 dX10_agrees_101 (by decide) (fun c3 => ?_) (fun c3 => ?_)
      · refine xn_iinc (c := 1) (L2 := [(0, .ref 172), (1, .int (nI (p))), (2, .int (nI (q))), (3, .int (nI (S))), (4, .int (nI (i))), (5, .int (x)), (6, .int (v)), (7, .int (nI (k + 1)))]) 7 dX10_agrees_124 rfl (by decide) rfl ?_
        refine xe_goto 75 dX10_agrees_127 (by decide) ?_
        exact k3 c1 c2 c3
      · refine xe_aload_n 0 dX10_agrees_104 rfl rfl ?_
        refine xe_aload_n 0 dX10_agrees_105 rfl rfl ?_
        refine xr_getR (b := 177) dX10_agrees_106 fX10_22 rfl sh172 (by decide) rfl ?_
        refine xe_iload_n 1 dX10_agrees_109 rfl rfl ?_
        refine xr_iald (k := p) (v := nI (t)) dX10_agrees_110 sh177 (by decide) (by omega) (by decide) v2 ?_
        refine xe_iload_n 2 dX10_agrees_111 rfl rfl ?_
        refine xe_iload 7 dX10_agrees_112 rfl ?_
        refine xe_callV (As := [.int (nI (t)), .int (nI (q)), .int (nI (k))]) (rest := []) dX10_agrees_114 wX10_cell lX10_95 iX10_cell sX10_cell ⟨by decide, by decide⟩ sh172 rfl (xin_mm (by decide)) rfl rfl (by simp [Value.category]) (xC.pure (v := .int (z)) (hck) ?_)
        refine xe_iload 6 dX10_agrees_117 rfl ?_
        refine xe_icmp_eq 124 dX10_agrees_119 (by decide) (fun c4 => ?_) (fun c4 => ?_)
        · refine xn_iinc (c := 1) (L2 := [(0, .ref 172), (1, .int (nI (p))), (2, .int (nI (q))), (3, .int (nI (S))), (4, .int (nI (i))), (5, .int (x)), (6, .int (v)), (7, .int (nI (k + 1)))]) 7 dX10_agrees_124 rfl (by decide) rfl ?_
          refine xe_goto 75 dX10_agrees_127 (by decide) ?_
          exact k4 c1 c2 c3 c4
        · refine xe_iconst (v := nI (0)) dX10_agrees_122 xc0 ?_
          exact xe_ret (r := (some (.int (nI (0))))) dX10_agrees_123 (Or.inl rfl) (k5 c1 c2 c3 c4)

theorem gX10_agrees_f (u : xU) (p q S i k : Nat) (x v : Int32) {Q : Option Value → xM → Prop} (hi : i < 3) (hk : k = i) 
    (k1 : i ≤ k → xE mX10_agrees 3 [(0, .ref 172), (1, .int (nI (p))), (2, .int (nI (q))), (3, .int (nI (S))), (4, .int (nI (i + 1)))] [] (xmm u) Q)
    (k2 : ¬ i ≤ k → x = (-1) → xE mX10_agrees 75 [(0, .ref 172), (1, .int (nI (p))), (2, .int (nI (q))), (3, .int (nI (S))), (4, .int (nI (i))), (5, .int (x)), (6, .int (v)), (7, .int (nI (k + 1)))] [] (xmm u) Q)
    (k3 : ¬ i ≤ k → ¬ x = (-1) → ¬ (u.1 179 ((3 * p) + k)) = x → xE mX10_agrees 75 [(0, .ref 172), (1, .int (nI (p))), (2, .int (nI (q))), (3, .int (nI (S))), (4, .int (nI (i))), (5, .int (x)), (6, .int (v)), (7, .int (nI (k + 1)))] [] (xmm u) Q)
    (k4 : ¬ i ≤ k → ¬ x = (-1) → (u.1 179 ((3 * p) + k)) = x → xC mX10_cell [.ref 172, .int (u.1 177 p), .int (nI (q)), .int (nI (k))] (xmm u) (fun r μ1 => xE mX10_agrees 117 [(0, .ref 172), (1, .int (nI (p))), (2, .int (nI (q))), (3, .int (nI (S))), (4, .int (nI (i))), (5, .int (x)), (6, .int (v)), (7, .int (nI (k)))] (r.toList ++ []) μ1 Q)) : xE mX10_agrees 75 [(0, .ref 172), (1, .int (nI (p))), (2, .int (nI (q))), (3, .int (nI (S))), (4, .int (nI (i))), (5, .int (x)), (6, .int (v)), (7, .int (nI (k)))] [] (xmm u) Q := by
  refine xe_iload 7 dX10_agrees_75 rfl ?_
  refine xe_iload 4 dX10_agrees_77 rfl ?_
  refine xn_icmp_ge 130 dX10_agrees_79 (by decide) (by omega) (by omega) (fun c1 => ?_) (fun c1 => ?_)
  · refine xn_iinc (c := 1) (L2 := [(0, .ref 172), (1, .int (nI (p))), (2, .int (nI (q))), (3, .int (nI (S))), (4, .int (nI (i + 1))), (5, .int (x)), (6, .int (v)), (7, .int (nI (k)))]) 4 dX10_agrees_130 rfl (by decide) rfl ?_
    refine xe_goto 3 dX10_agrees_133 (by decide) ?_
    refine xE.sub [0, 1, 2, 3, 4] rfl ?_
    exact k1 c1
  · refine xe_iload 5 dX10_agrees_82 rfl ?_
    refine xe_iconst (v := -1) dX10_agrees_84 xcm1 ?_
    refine xe_icmp_eq 124 dX10_agrees_85 (by decide) (fun c2 => ?_) (fun c2 => ?_)
    · refine xn_iinc (c := 1) (L2 := [(0, .ref 172), (1, .int (nI (p))), (2, .int (nI (q))), (3, .int (nI (S))), (4, .int (nI (i))), (5, .int (x)), (6, .int (v)), (7, .int (nI (k + 1)))]) 7 dX10_agrees_124 rfl (by decide) rfl ?_
      refine xe_goto 75 dX10_agrees_127 (by decide) ?_
      exact k2 c1 c2
    · refine xe_aload_n 0 dX10_agrees_88 rfl rfl ?_
      refine xr_getR (b := 179) dX10_agrees_89 fX10_28 rfl sh172 (by decide) rfl ?_
      refine xe_iconst (v := nI (3)) dX10_agrees_92 xc3 ?_
      refine xe_iload_n 1 dX10_agrees_93 rfl rfl ?_
      refine xn_imul dX10_agrees_94 ?_
      refine xe_iload 7 dX10_agrees_95 rfl ?_
      refine xn_iadd dX10_agrees_97 ?_
      refine xr_iald (k := (3 * p) + k) (v := u.1 179 ((3 * p) + k)) dX10_agrees_98 sh179 (by decide) (by omega) (by decide) rfl ?_
      refine xe_iload 5 dX10_agrees_99 rfl ?_
      refine xe_icmp_ne 124 dX10_agrees_101 (by decide) (fun c3 => ?_) (fun c3 => ?_)
      · refine xn_iinc (c := 1) (L2 := [(0, .ref 172), (1, .int (nI (p))), (2, .int (nI (q))), (3, .int (nI (S))), (4, .int (nI (i))), (5, .int (x)), (6, .int (v)), (7, .int (nI (k + 1)))]) 7 dX10_agrees_124 rfl (by decide) rfl ?_
        refine xe_goto 75 dX10_agrees_127 (by decide) ?_
        exact k3 c1 c2 c3
      · refine xe_aload_n 0 dX10_agrees_104 rfl rfl ?_
        refine xe_aload_n 0 dX10_agrees_105 rfl rfl ?_
        refine xr_getR (b := 177) dX10_agrees_106 fX10_22 rfl sh172 (by decide) rfl ?_
        refine xe_iload_n 1 dX10_agrees_109 rfl rfl ?_
        refine xr_iald (k := p) (v := u.1 177 p) dX10_agrees_110 sh177 (by decide) (by omega) (by decide) rfl ?_
        refine xe_iload_n 2 dX10_agrees_111 rfl rfl ?_
        refine xe_iload 7 dX10_agrees_112 rfl ?_
        refine xe_callV (As := [.int (u.1 177 p), .int (nI (q)), .int (nI (k))]) (rest := []) dX10_agrees_114 wX10_cell lX10_95 iX10_cell sX10_cell ⟨by decide, by decide⟩ sh172 rfl (xin_mm (by decide)) rfl rfl (by simp [Value.category]) ?_
        exact k4 c1 c2 c3

theorem gX10_rowOf_0 (u : xU) (p S : Nat) {Q : Option Value → xM → Prop}  
    (k1 : xE mX10_rowOf 2 [(0, .ref 172), (1, .int (nI (p))), (2, .int (nI (S))), (3, .int (nI (0)))] [] (xmm u) Q) : xE mX10_rowOf 0 [(0, .ref 172), (1, .int (nI (p))), (2, .int (nI (S)))] [] (xmm u) Q := by
  refine xe_iconst (v := nI (0)) dX10_rowOf_0 xc0 ?_
  refine xe_istore_n (L2 := [(0, .ref 172), (1, .int (nI (p))), (2, .int (nI (S))), (3, .int (nI (0)))]) dX10_rowOf_1 rfl (by decide) rfl ?_
  exact k1

theorem gX10_rowOf_2 (u : xU) (p S q t m : Nat) (b : Bool) {Q : Option Value → xM → Prop} (hp : p < 10) (ht : t < 8) (hm : m ≤ 40) (hq : q < m) (hag : xC mX10_agrees [.ref 172, .int (nI p), .int (nI q), .int (nI S)] (xmm u) (fun r μ' => r = some (.int (xb (b = true))) ∧ μ' = xmm u)) (v1 : u.1 177 p = nI (t)) (v2 : u.1 174 t = nI (m))
    (k1 : m ≤ q → Q (some (.int (-1))) (xmm u))
    (k2 : ¬ m ≤ q → ¬ (b = true) → xE mX10_rowOf 2 [(0, .ref 172), (1, .int (nI (p))), (2, .int (nI (S))), (3, .int (nI (q + 1)))] [] (xmm u) Q)
    (k3 : ¬ m ≤ q → b = true → Q (some (.int (nI (q)))) (xmm u)) : xE mX10_rowOf 2 [(0, .ref 172), (1, .int (nI (p))), (2, .int (nI (S))), (3, .int (nI (q)))] [] (xmm u) Q := by
  refine xe_iload_n 3 dX10_rowOf_2 rfl rfl ?_
  refine xe_aload_n 0 dX10_rowOf_3 rfl rfl ?_
  refine xr_getR (b := 174) dX10_rowOf_4 fX10_13 rfl sh172 (by decide) rfl ?_
  refine xe_aload_n 0 dX10_rowOf_7 rfl rfl ?_
  refine xr_getR (b := 177) dX10_rowOf_8 fX10_22 rfl sh172 (by decide) rfl ?_
  refine xe_iload_n 1 dX10_rowOf_11 rfl rfl ?_
  refine xr_iald (k := p) (v := nI (t)) dX10_rowOf_12 sh177 (by decide) (by omega) (by decide) v1 ?_
  refine xr_iald (k := t) (v := nI (m)) dX10_rowOf_13 sh174 (by decide) (by omega) (by decide) v2 ?_
  refine xn_icmp_ge 35 dX10_rowOf_14 (by decide) (by omega) (by omega) (fun c1 => ?_) (fun c1 => ?_)
  · refine xe_iconst (v := -1) dX10_rowOf_35 xcm1 ?_
    exact xe_ret (r := (some (.int (-1)))) dX10_rowOf_36 trivial (k1 c1)
  · refine xe_aload_n 0 dX10_rowOf_17 rfl rfl ?_
    refine xe_iload_n 1 dX10_rowOf_18 rfl rfl ?_
    refine xe_iload_n 3 dX10_rowOf_19 rfl rfl ?_
    refine xe_iload_n 2 dX10_rowOf_20 rfl rfl ?_
    refine xe_callV (As := [.int (nI (p)), .int (nI (q)), .int (nI (S))]) (rest := []) dX10_rowOf_21 wX10_agrees lX10_135 iX10_agrees sX10_agrees ⟨by decide, by decide⟩ sh172 rfl (xin_mm (by decide)) rfl rfl (by simp [Value.category]) (xC.pure (v := .int (xb (b = true))) (hag) ?_)
    refine xb_if_eq 29 dX10_rowOf_24 (by decide) (fun c2 => ?_) (fun c2 => ?_)
    · refine xn_iinc (c := 1) (L2 := [(0, .ref 172), (1, .int (nI (p))), (2, .int (nI (S))), (3, .int (nI (q + 1)))]) 3 dX10_rowOf_29 rfl (by decide) rfl ?_
      refine xe_goto 2 dX10_rowOf_32 (by decide) ?_
      exact k2 c1 c2
    · refine xe_iload_n 3 dX10_rowOf_27 rfl rfl ?_
      exact xe_ret (r := (some (.int (nI (q))))) dX10_rowOf_28 trivial (k3 c1 c2)

theorem gX10_rowOf_e (u : xU) (p S q t m : Nat) {Q : Option Value → xM → Prop} (hp : p < 10) (ht : t < 8) (hm : m ≤ 40) (hq : q = m) (v1 : u.1 177 p = nI (t)) (v2 : u.1 174 t = nI (m))
    (k1 : m ≤ q → Q (some (.int (-1))) (xmm u))
    (k2 : ¬ m ≤ q → xC mX10_agrees [.ref 172, .int (nI (p)), .int (nI (q)), .int (nI (S))] (xmm u) (fun r μ1 => xE mX10_rowOf 24 [(0, .ref 172), (1, .int (nI (p))), (2, .int (nI (S))), (3, .int (nI (q)))] (r.toList ++ []) μ1 Q)) : xE mX10_rowOf 2 [(0, .ref 172), (1, .int (nI (p))), (2, .int (nI (S))), (3, .int (nI (q)))] [] (xmm u) Q := by
  refine xe_iload_n 3 dX10_rowOf_2 rfl rfl ?_
  refine xe_aload_n 0 dX10_rowOf_3 rfl rfl ?_
  refine xr_getR (b := 174) dX10_rowOf_4 fX10_13 rfl sh172 (by decide) rfl ?_
  refine xe_aload_n 0 dX10_rowOf_7 rfl rfl ?_
  refine xr_getR (b := 177) dX10_rowOf_8 fX10_22 rfl sh172 (by decide) rfl ?_
  refine xe_iload_n 1 dX10_rowOf_11 rfl rfl ?_
  refine xr_iald (k := p) (v := nI (t)) dX10_rowOf_12 sh177 (by decide) (by omega) (by decide) v1 ?_
  refine xr_iald (k := t) (v := nI (m)) dX10_rowOf_13 sh174 (by decide) (by omega) (by decide) v2 ?_
  refine xn_icmp_ge 35 dX10_rowOf_14 (by decide) (by omega) (by omega) (fun c1 => ?_) (fun c1 => ?_)
  · refine xe_iconst (v := -1) dX10_rowOf_35 xcm1 ?_
    exact xe_ret (r := (some (.int (-1)))) dX10_rowOf_36 trivial (k1 c1)
  · refine xe_aload_n 0 dX10_rowOf_17 rfl rfl ?_
    refine xe_iload_n 1 dX10_rowOf_18 rfl rfl ?_
    refine xe_iload_n 3 dX10_rowOf_19 rfl rfl ?_
    refine xe_iload_n 2 dX10_rowOf_20 rfl rfl ?_
    refine xe_callV (As := [.int (nI (p)), .int (nI (q)), .int (nI (S))]) (rest := []) dX10_rowOf_21 wX10_agrees lX10_135 iX10_agrees sX10_agrees ⟨by decide, by decide⟩ sh172 rfl (xin_mm (by decide)) rfl rfl (by simp [Value.category]) ?_
    exact k2 c1

theorem gX10_isTrue_h (u : xU) (p S : Nat) (bn bt : Bool) (ro : Int32) {Q : Option Value → xM → Prop} (hp : p < 10) (hin : xC mX10_isNamed [.ref 172, .int (nI p)] (xmm u) (fun r μ' => r = some (.int (xb (bn = true))) ∧ μ' = xmm u)) (htc : xC mX10_touches [.ref 172, .int (nI p), .int (nI S)] (xmm u) (fun r μ' => r = some (.int (xb (bt = true))) ∧ μ' = xmm u)) (hro : xC mX10_rowOf [.ref 172, .int (nI p), .int (nI S)] (xmm u) (fun r μ' => r = some (.int (ro)) ∧ μ' = xmm u)) (v1 : u.1 176 p = nI (0))
    (k1 : ¬ (bn = true) → ro = (-1) → Q (some (.int (nI (0)))) (xmm u))
    (k2 : ¬ (bn = true) → ¬ ro = (-1) → Q (some (.int (nI (1)))) (xmm u))
    (k3 : bn = true → ¬ (bt = true) → Q (some (.int (nI (1)))) (xmm u))
    (k4 : bn = true → bt = true → ro = (-1) → Q (some (.int (nI (0)))) (xmm u))
    (k5 : bn = true → bt = true → ¬ ro = (-1) → Q (some (.int (nI (1)))) (xmm u)) : xE mX10_isTrue 0 [(0, .ref 172), (1, .int (nI (p))), (2, .int (nI (S)))] [] (xmm u) Q := by
  refine xe_aload_n 0 dX10_isTrue_0 rfl rfl ?_
  refine xr_getR (b := 176) dX10_isTrue_1 fX10_19 rfl sh172 (by decide) rfl ?_
  refine xe_iload_n 1 dX10_isTrue_4 rfl rfl ?_
  refine xr_iald (k := p) (v := nI (0)) dX10_isTrue_5 sh176 (by decide) (by omega) (by decide) v1 ?_
  refine xe_tableIn (off := 26) 32 dX10_isTrue_6 (by decide) (by decide) (by decide) (by decide) ?_
  refine xe_aload_n 0 dX10_isTrue_32 rfl rfl ?_
  refine xe_iload_n 1 dX10_isTrue_33 rfl rfl ?_
  refine xe_callV (As := [.int (nI (p))]) (rest := []) dX10_isTrue_34 wX10_isNamed lX10_138 iX10_isNamed sX10_isNamed ⟨by decide, by decide⟩ sh172 rfl (xin_mm (by decide)) rfl rfl (by simp [Value.category]) (xC.pure (v := .int (xb (bn = true))) (hin) ?_)
  refine xb_if_eq 49 dX10_isTrue_37 (by decide) (fun c1 => ?_) (fun c1 => ?_)
  · refine xe_aload_n 0 dX10_isTrue_49 rfl rfl ?_
    refine xe_iload_n 1 dX10_isTrue_50 rfl rfl ?_
    refine xe_iload_n 2 dX10_isTrue_51 rfl rfl ?_
    refine xe_callV (As := [.int (nI (p)), .int (nI (S))]) (rest := []) dX10_isTrue_52 wX10_rowOf lX10_144 iX10_rowOf sX10_rowOf ⟨by decide, by decide⟩ sh172 rfl (xin_mm (by decide)) rfl rfl (by simp [Value.category]) (xC.pure (v := .int (ro)) (hro) ?_)
    refine xe_iconst (v := -1) dX10_isTrue_55 xcm1 ?_
    refine xe_icmp_eq 63 dX10_isTrue_56 (by decide) (fun c2 => ?_) (fun c2 => ?_)
    · refine xe_iconst (v := nI (0)) dX10_isTrue_63 xc0 ?_
      exact xe_ret (r := (some (.int (nI (0))))) dX10_isTrue_64 (Or.inl rfl) (k1 c1 c2)
    · refine xe_iconst (v := nI (1)) dX10_isTrue_59 xc1 ?_
      refine xe_goto 64 dX10_isTrue_60 (by decide) ?_
      exact xe_ret (r := (some (.int (nI (1))))) dX10_isTrue_64 (Or.inr rfl) (k2 c1 c2)
  · refine xe_aload_n 0 dX10_isTrue_40 rfl rfl ?_
    refine xe_iload_n 1 dX10_isTrue_41 rfl rfl ?_
    refine xe_iload_n 2 dX10_isTrue_42 rfl rfl ?_
    refine xe_callV (As := [.int (nI (p)), .int (nI (S))]) (rest := []) dX10_isTrue_43 wX10_touches lX10_141 iX10_touches sX10_touches ⟨by decide, by decide⟩ sh172 rfl (xin_mm (by decide)) rfl rfl (by simp [Value.category]) (xC.pure (v := .int (xb (bt = true))) (htc) ?_)
    refine xb_if_eq 59 dX10_isTrue_46 (by decide) (fun c3 => ?_) (fun c3 => ?_)
    · refine xe_iconst (v := nI (1)) dX10_isTrue_59 xc1 ?_
      refine xe_goto 64 dX10_isTrue_60 (by decide) ?_
      exact xe_ret (r := (some (.int (nI (1))))) dX10_isTrue_64 (Or.inr rfl) (k3 c1 c3)
    · refine xe_aload_n 0 dX10_isTrue_49 rfl rfl ?_
      refine xe_iload_n 1 dX10_isTrue_50 rfl rfl ?_
      refine xe_iload_n 2 dX10_isTrue_51 rfl rfl ?_
      refine xe_callV (As := [.int (nI (p)), .int (nI (S))]) (rest := []) dX10_isTrue_52 wX10_rowOf lX10_144 iX10_rowOf sX10_rowOf ⟨by decide, by decide⟩ sh172 rfl (xin_mm (by decide)) rfl rfl (by simp [Value.category]) (xC.pure (v := .int (ro)) (hro) ?_)
      refine xe_iconst (v := -1) dX10_isTrue_55 xcm1 ?_
      refine xe_icmp_eq 63 dX10_isTrue_56 (by decide) (fun c4 => ?_) (fun c4 => ?_)
      · refine xe_iconst (v := nI (0)) dX10_isTrue_63 xc0 ?_
        exact xe_ret (r := (some (.int (nI (0))))) dX10_isTrue_64 (Or.inl rfl) (k4 c1 c3 c4)
      · refine xe_iconst (v := nI (1)) dX10_isTrue_59 xc1 ?_
        refine xe_goto 64 dX10_isTrue_60 (by decide) ?_
        exact xe_ret (r := (some (.int (nI (1))))) dX10_isTrue_64 (Or.inr rfl) (k5 c1 c3 c4)

theorem gX10_isTrue_n (u : xU) (p S : Nat) (bw : Bool) (ro : Int32) {Q : Option Value → xM → Prop} (hp : p < 10) (hro : xC mX10_rowOf [.ref 172, .int (nI p), .int (nI S)] (xmm u) (fun r μ' => r = some (.int (ro)) ∧ μ' = xmm u)) (hwh : xC mX10_isWhole [.ref 172, .int (nI p), .int (nI S)] (xmm u) (fun r μ' => r = some (.int (xb (bw = true))) ∧ μ' = xmm u)) (v1 : u.1 176 p = nI (1))
    (k1 : ¬ (bw = true) → Q (some (.int (nI (1)))) (xmm u))
    (k2 : bw = true → ¬ ro = (-1) → Q (some (.int (nI (0)))) (xmm u))
    (k3 : bw = true → ro = (-1) → Q (some (.int (nI (1)))) (xmm u)) : xE mX10_isTrue 0 [(0, .ref 172), (1, .int (nI (p))), (2, .int (nI (S)))] [] (xmm u) Q := by
  refine xe_aload_n 0 dX10_isTrue_0 rfl rfl ?_
  refine xr_getR (b := 176) dX10_isTrue_1 fX10_19 rfl sh172 (by decide) rfl ?_
  refine xe_iload_n 1 dX10_isTrue_4 rfl rfl ?_
  refine xr_iald (k := p) (v := nI (1)) dX10_isTrue_5 sh176 (by decide) (by omega) (by decide) v1 ?_
  refine xe_tableIn (off := 59) 65 dX10_isTrue_6 (by decide) (by decide) (by decide) (by decide) ?_
  refine xe_aload_n 0 dX10_isTrue_65 rfl rfl ?_
  refine xe_iload_n 1 dX10_isTrue_66 rfl rfl ?_
  refine xe_iload_n 2 dX10_isTrue_67 rfl rfl ?_
  refine xe_callV (As := [.int (nI (p)), .int (nI (S))]) (rest := []) dX10_isTrue_68 wX10_isWhole lX10_147 iX10_isWhole sX10_isWhole ⟨by decide, by decide⟩ sh172 rfl (xin_mm (by decide)) rfl rfl (by simp [Value.category]) (xC.pure (v := .int (xb (bw = true))) (hwh) ?_)
  refine xb_if_eq 84 dX10_isTrue_71 (by decide) (fun c1 => ?_) (fun c1 => ?_)
  · refine xe_iconst (v := nI (1)) dX10_isTrue_84 xc1 ?_
    refine xe_goto 89 dX10_isTrue_85 (by decide) ?_
    exact xe_ret (r := (some (.int (nI (1))))) dX10_isTrue_89 (Or.inr rfl) (k1 c1)
  · refine xe_aload_n 0 dX10_isTrue_74 rfl rfl ?_
    refine xe_iload_n 1 dX10_isTrue_75 rfl rfl ?_
    refine xe_iload_n 2 dX10_isTrue_76 rfl rfl ?_
    refine xe_callV (As := [.int (nI (p)), .int (nI (S))]) (rest := []) dX10_isTrue_77 wX10_rowOf lX10_144 iX10_rowOf sX10_rowOf ⟨by decide, by decide⟩ sh172 rfl (xin_mm (by decide)) rfl rfl (by simp [Value.category]) (xC.pure (v := .int (ro)) (hro) ?_)
    refine xe_iconst (v := -1) dX10_isTrue_80 xcm1 ?_
    refine xe_icmp_ne 88 dX10_isTrue_81 (by decide) (fun c2 => ?_) (fun c2 => ?_)
    · refine xe_iconst (v := nI (0)) dX10_isTrue_88 xc0 ?_
      exact xe_ret (r := (some (.int (nI (0))))) dX10_isTrue_89 (Or.inl rfl) (k2 c1 c2)
    · refine xe_iconst (v := nI (1)) dX10_isTrue_84 xc1 ?_
      refine xe_goto 89 dX10_isTrue_85 (by decide) ?_
      exact xe_ret (r := (some (.int (nI (1))))) dX10_isTrue_89 (Or.inr rfl) (k3 c1 c2)

theorem gX10_isTrue_s (u : xU) (p S : Nat) (bw : Bool) (x y : Int32) {Q : Option Value → xM → Prop} (hp : p < 10) (hwh : xC mX10_isWhole [.ref 172, .int (nI p), .int (nI S)] (xmm u) (fun r μ' => r = some (.int (xb (bw = true))) ∧ μ' = xmm u)) (ht0 : xC mX10_told [.ref 172, .int (nI p), .int (nI (0))] (xmm u) (fun r μ' => r = some (.int (x)) ∧ μ' = xmm u)) (ht1 : xC mX10_told [.ref 172, .int (nI p), .int (nI (1))] (xmm u) (fun r μ' => r = some (.int (y)) ∧ μ' = xmm u)) (v1 : u.1 176 p = nI (2))
    (k1 : ¬ (bw = true) → Q (some (.int (nI (1)))) (xmm u))
    (k2 : bw = true → ¬ x = y → Q (some (.int (nI (0)))) (xmm u))
    (k3 : bw = true → x = y → Q (some (.int (nI (1)))) (xmm u)) : xE mX10_isTrue 0 [(0, .ref 172), (1, .int (nI (p))), (2, .int (nI (S)))] [] (xmm u) Q := by
  refine xe_aload_n 0 dX10_isTrue_0 rfl rfl ?_
  refine xr_getR (b := 176) dX10_isTrue_1 fX10_19 rfl sh172 (by decide) rfl ?_
  refine xe_iload_n 1 dX10_isTrue_4 rfl rfl ?_
  refine xr_iald (k := p) (v := nI (2)) dX10_isTrue_5 sh176 (by decide) (by omega) (by decide) v1 ?_
  refine xe_tableIn (off := 84) 90 dX10_isTrue_6 (by decide) (by decide) (by decide) (by decide) ?_
  refine xe_aload_n 0 dX10_isTrue_90 rfl rfl ?_
  refine xe_iload_n 1 dX10_isTrue_91 rfl rfl ?_
  refine xe_iload_n 2 dX10_isTrue_92 rfl rfl ?_
  refine xe_callV (As := [.int (nI (p)), .int (nI (S))]) (rest := []) dX10_isTrue_93 wX10_isWhole lX10_147 iX10_isWhole sX10_isWhole ⟨by decide, by decide⟩ sh172 rfl (xin_mm (by decide)) rfl rfl (by simp [Value.category]) (xC.pure (v := .int (xb (bw = true))) (hwh) ?_)
  refine xb_if_eq 114 dX10_isTrue_96 (by decide) (fun c1 => ?_) (fun c1 => ?_)
  · refine xe_iconst (v := nI (1)) dX10_isTrue_114 xc1 ?_
    refine xe_goto 119 dX10_isTrue_115 (by decide) ?_
    exact xe_ret (r := (some (.int (nI (1))))) dX10_isTrue_119 (Or.inr rfl) (k1 c1)
  · refine xe_aload_n 0 dX10_isTrue_99 rfl rfl ?_
    refine xe_iload_n 1 dX10_isTrue_100 rfl rfl ?_
    refine xe_iconst (v := nI (0)) dX10_isTrue_101 xc0 ?_
    refine xe_callV (As := [.int (nI (p)), .int (nI (0))]) (rest := []) dX10_isTrue_102 wX10_told lX10_132 iX10_told sX10_told ⟨by decide, by decide⟩ sh172 rfl (xin_mm (by decide)) rfl rfl (by simp [Value.category]) (xC.pure (v := .int (x)) (ht0) ?_)
    refine xe_aload_n 0 dX10_isTrue_105 rfl rfl ?_
    refine xe_iload_n 1 dX10_isTrue_106 rfl rfl ?_
    refine xe_iconst (v := nI (1)) dX10_isTrue_107 xc1 ?_
    refine xe_callV (As := [.int (nI (p)), .int (nI (1))]) (rest := [.int (x)]) dX10_isTrue_108 wX10_told lX10_132 iX10_told sX10_told ⟨by decide, by decide⟩ sh172 rfl (xin_mm (by decide)) rfl rfl (by simp [Value.category]) (xC.pure (v := .int (y)) (ht1) ?_)
    refine xe_icmp_ne 118 dX10_isTrue_111 (by decide) (fun c2 => ?_) (fun c2 => ?_)
    · refine xe_iconst (v := nI (0)) dX10_isTrue_118 xc0 ?_
      exact xe_ret (r := (some (.int (nI (0))))) dX10_isTrue_119 (Or.inl rfl) (k2 c1 c2)
    · refine xe_iconst (v := nI (1)) dX10_isTrue_114 xc1 ?_
      refine xe_goto 119 dX10_isTrue_115 (by decide) ?_
      exact xe_ret (r := (some (.int (nI (1))))) dX10_isTrue_119 (Or.inr rfl) (k3 c1 c2)

theorem gX10_isTrue_l (u : xU) (p S : Nat) (bw : Bool) (x y : Int32) {Q : Option Value → xM → Prop} (hp : p < 10) (hwh : xC mX10_isWhole [.ref 172, .int (nI p), .int (nI S)] (xmm u) (fun r μ' => r = some (.int (xb (bw = true))) ∧ μ' = xmm u)) (ht0 : xC mX10_told [.ref 172, .int (nI p), .int (nI (0))] (xmm u) (fun r μ' => r = some (.int (x)) ∧ μ' = xmm u)) (ht1 : xC mX10_told [.ref 172, .int (nI p), .int (nI (1))] (xmm u) (fun r μ' => r = some (.int (y)) ∧ μ' = xmm u)) (v1 : u.1 176 p = nI (3))
    (k1 : ¬ (bw = true) → Q (some (.int (nI (1)))) (xmm u))
    (k2 : bw = true → 0 ≤ (cmpK x y) → Q (some (.int (nI (0)))) (xmm u))
    (k3 : bw = true → ¬ 0 ≤ (cmpK x y) → Q (some (.int (nI (1)))) (xmm u)) : xE mX10_isTrue 0 [(0, .ref 172), (1, .int (nI (p))), (2, .int (nI (S)))] [] (xmm u) Q := by
  refine xe_aload_n 0 dX10_isTrue_0 rfl rfl ?_
  refine xr_getR (b := 176) dX10_isTrue_1 fX10_19 rfl sh172 (by decide) rfl ?_
  refine xe_iload_n 1 dX10_isTrue_4 rfl rfl ?_
  refine xr_iald (k := p) (v := nI (3)) dX10_isTrue_5 sh176 (by decide) (by omega) (by decide) v1 ?_
  refine xe_tableOut 120 dX10_isTrue_6 (by decide) (by decide) ?_
  refine xe_aload_n 0 dX10_isTrue_120 rfl rfl ?_
  refine xe_iload_n 1 dX10_isTrue_121 rfl rfl ?_
  refine xe_iload_n 2 dX10_isTrue_122 rfl rfl ?_
  refine xe_callV (As := [.int (nI (p)), .int (nI (S))]) (rest := []) dX10_isTrue_123 wX10_isWhole lX10_147 iX10_isWhole sX10_isWhole ⟨by decide, by decide⟩ sh172 rfl (xin_mm (by decide)) rfl rfl (by simp [Value.category]) (xC.pure (v := .int (xb (bw = true))) (hwh) ?_)
  refine xb_if_eq 147 dX10_isTrue_126 (by decide) (fun c1 => ?_) (fun c1 => ?_)
  · refine xe_iconst (v := nI (1)) dX10_isTrue_147 xc1 ?_
    refine xe_goto 152 dX10_isTrue_148 (by decide) ?_
    exact xe_ret (r := (some (.int (nI (1))))) dX10_isTrue_152 (Or.inr rfl) (k1 c1)
  · refine xe_aload_n 0 dX10_isTrue_129 rfl rfl ?_
    refine xe_iload_n 1 dX10_isTrue_130 rfl rfl ?_
    refine xe_iconst (v := nI (0)) dX10_isTrue_131 xc0 ?_
    refine xe_callV (As := [.int (nI (p)), .int (nI (0))]) (rest := []) dX10_isTrue_132 wX10_told lX10_132 iX10_told sX10_told ⟨by decide, by decide⟩ sh172 rfl (xin_mm (by decide)) rfl rfl (by simp [Value.category]) (xC.pure (v := .int (x)) (ht0) ?_)
    refine xe_aload_n 0 dX10_isTrue_135 rfl rfl ?_
    refine xe_iload_n 1 dX10_isTrue_136 rfl rfl ?_
    refine xe_iconst (v := nI (1)) dX10_isTrue_137 xc1 ?_
    refine xe_callV (As := [.int (nI (p)), .int (nI (1))]) (rest := [.int (x)]) dX10_isTrue_138 wX10_told lX10_132 iX10_told sX10_told ⟨by decide, by decide⟩ sh172 rfl (xin_mm (by decide)) rfl rfl (by simp [Value.category]) (xC.pure (v := .int (y)) (ht1) ?_)
    refine xe_callS (As := [.int (x), .int (y)]) (rest := []) dX10_isTrue_141 wX10_rank lX10_99 tX10_rank ⟨by decide, by decide⟩ rfl rfl (by simp [Value.category]) (xC.pure (v := .int (cmpK x y)) (qX10_rank u x y) ?_)
    refine xe_if_ge 151 dX10_isTrue_144 (by decide) (fun c2 => ?_) (fun c2 => ?_)
    · refine xe_iconst (v := nI (0)) dX10_isTrue_151 xc0 ?_
      exact xe_ret (r := (some (.int (nI (0))))) dX10_isTrue_152 (Or.inl rfl) (k2 c1 c2)
    · refine xe_iconst (v := nI (1)) dX10_isTrue_147 xc1 ?_
      refine xe_goto 152 dX10_isTrue_148 (by decide) ?_
      exact xe_ret (r := (some (.int (nI (1))))) dX10_isTrue_152 (Or.inr rfl) (k3 c1 c2)

theorem gX10_areTrue_0 (u : xU) (S : Nat) {Q : Option Value → xM → Prop}  
    (k1 : xE mX10_areTrue 2 [(0, .ref 172), (1, .int (nI (S))), (2, .int (nI (0)))] [] (xmm u) Q) : xE mX10_areTrue 0 [(0, .ref 172), (1, .int (nI (S)))] [] (xmm u) Q := by
  refine xe_iconst (v := nI (0)) dX10_areTrue_0 xc0 ?_
  refine xe_istore_n (L2 := [(0, .ref 172), (1, .int (nI (S))), (2, .int (nI (0)))]) dX10_areTrue_1 rfl (by decide) rfl ?_
  exact k1

theorem gX10_areTrue_2 (u : xU) (nn n : Nat) (S p : Nat) (b : Bool) {Q : Option Value → xM → Prop} (hnn : nn ≤ 6) (hn : n ≤ 10) (hp : p < n) (htr : xC mX10_isTrue [.ref 172, .int (nI p), .int (nI S)] (xmm u) (fun r μ' => r = some (.int (xb (b = true))) ∧ μ' = xmm u)) (v1 : u.1 172 3 = nI (nn)) (v2 : u.1 172 4 = nI (n))
    (k1 : n ≤ p → Q (some (.int (nI (1)))) (xmm u))
    (k2 : ¬ n ≤ p → b = true → xE mX10_areTrue 2 [(0, .ref 172), (1, .int (nI (S))), (2, .int (nI (p + 1)))] [] (xmm u) Q)
    (k3 : ¬ n ≤ p → ¬ (b = true) → Q (some (.int (nI (0)))) (xmm u)) : xE mX10_areTrue 2 [(0, .ref 172), (1, .int (nI (S))), (2, .int (nI (p)))] [] (xmm u) Q := by
  refine xe_iload_n 2 dX10_areTrue_2 rfl rfl ?_
  refine xe_aload_n 0 dX10_areTrue_3 rfl rfl ?_
  refine xr_getI (v := nI (n)) dX10_areTrue_4 fX10_92 sh172 (by decide) v2 ?_
  refine xn_icmp_ge 27 dX10_areTrue_7 (by decide) (by omega) (by omega) (fun c1 => ?_) (fun c1 => ?_)
  · refine xe_iconst (v := nI (1)) dX10_areTrue_27 xc1 ?_
    exact xe_ret (r := (some (.int (nI (1))))) dX10_areTrue_28 (Or.inr rfl) (k1 c1)
  · refine xe_aload_n 0 dX10_areTrue_10 rfl rfl ?_
    refine xe_iload_n 2 dX10_areTrue_11 rfl rfl ?_
    refine xe_iload_n 1 dX10_areTrue_12 rfl rfl ?_
    refine xe_callV (As := [.int (nI (p)), .int (nI (S))]) (rest := []) dX10_areTrue_13 wX10_isTrue lX10_150 iX10_isTrue sX10_isTrue ⟨by decide, by decide⟩ sh172 rfl (xin_mm (by decide)) rfl rfl (by simp [Value.category]) (xC.pure (v := .int (xb (b = true))) (htr) ?_)
    refine xb_if_ne 21 dX10_areTrue_16 (by decide) (fun c2 => ?_) (fun c2 => ?_)
    · refine xn_iinc (c := 1) (L2 := [(0, .ref 172), (1, .int (nI (S))), (2, .int (nI (p + 1)))]) 2 dX10_areTrue_21 rfl (by decide) rfl ?_
      refine xe_goto 2 dX10_areTrue_24 (by decide) ?_
      exact k2 c1 c2
    · refine xe_iconst (v := nI (0)) dX10_areTrue_19 xc0 ?_
      exact xe_ret (r := (some (.int (nI (0))))) dX10_areTrue_20 (Or.inl rfl) (k3 c1 c2)

theorem gX10_areTrue_e (u : xU) (nn n : Nat) (S p : Nat) {Q : Option Value → xM → Prop} (hnn : nn ≤ 6) (hn : n ≤ 10) (hp : p = n) (v1 : u.1 172 3 = nI (nn)) (v2 : u.1 172 4 = nI (n))
    (k1 : n ≤ p → Q (some (.int (nI (1)))) (xmm u))
    (k2 : ¬ n ≤ p → xC mX10_isTrue [.ref 172, .int (nI (p)), .int (nI (S))] (xmm u) (fun r μ1 => xE mX10_areTrue 16 [(0, .ref 172), (1, .int (nI (S))), (2, .int (nI (p)))] (r.toList ++ []) μ1 Q)) : xE mX10_areTrue 2 [(0, .ref 172), (1, .int (nI (S))), (2, .int (nI (p)))] [] (xmm u) Q := by
  refine xe_iload_n 2 dX10_areTrue_2 rfl rfl ?_
  refine xe_aload_n 0 dX10_areTrue_3 rfl rfl ?_
  refine xr_getI (v := nI (n)) dX10_areTrue_4 fX10_92 sh172 (by decide) v2 ?_
  refine xn_icmp_ge 27 dX10_areTrue_7 (by decide) (by omega) (by omega) (fun c1 => ?_) (fun c1 => ?_)
  · refine xe_iconst (v := nI (1)) dX10_areTrue_27 xc1 ?_
    exact xe_ret (r := (some (.int (nI (1))))) dX10_areTrue_28 (Or.inr rfl) (k1 c1)
  · refine xe_aload_n 0 dX10_areTrue_10 rfl rfl ?_
    refine xe_iload_n 2 dX10_areTrue_11 rfl rfl ?_
    refine xe_iload_n 1 dX10_areTrue_12 rfl rfl ?_
    refine xe_callV (As := [.int (nI (p)), .int (nI (S))]) (rest := []) dX10_areTrue_13 wX10_isTrue lX10_150 iX10_isTrue sX10_isTrue ⟨by decide, by decide⟩ sh172 rfl (xin_mm (by decide)) rfl rfl (by simp [Value.category]) ?_
    exact k2 c1

theorem gX10_columnOf_0 (u : xU) (k : Nat) {Q : Option Value → xM → Prop}  
    (k1 : xE mX10_columnOf 2 [(0, .ref 172), (1, .int (nI (k))), (2, .int (nI (0)))] [] (xmm u) Q) : xE mX10_columnOf 0 [(0, .ref 172), (1, .int (nI (k)))] [] (xmm u) Q := by
  refine xe_iconst (v := nI (0)) dX10_columnOf_0 xc0 ?_
  refine xe_istore_n (L2 := [(0, .ref 172), (1, .int (nI (k))), (2, .int (nI (0)))]) dX10_columnOf_1 rfl (by decide) rfl ?_
  exact k1

theorem gX10_columnOf_2 (u : xU) (nn n : Nat) (k p : Nat) {Q : Option Value → xM → Prop} (hnn : nn ≤ 6) (hn : n ≤ 10) (hp : p < n) (v1 : u.1 172 3 = nI (nn)) (v2 : u.1 172 4 = nI (n))
    (k1 : n ≤ p → Q (some (.int (-1))) (xmm u))
    (k2 : ¬ n ≤ p → xE mX10_columnOf 12 [(0, .ref 172), (1, .int (nI (k))), (2, .int (nI (p))), (3, .int (nI (0)))] [] (xmm u) Q) : xE mX10_columnOf 2 [(0, .ref 172), (1, .int (nI (k))), (2, .int (nI (p)))] [] (xmm u) Q := by
  refine xe_iload_n 2 dX10_columnOf_2 rfl rfl ?_
  refine xe_aload_n 0 dX10_columnOf_3 rfl rfl ?_
  refine xr_getI (v := nI (n)) dX10_columnOf_4 fX10_92 sh172 (by decide) v2 ?_
  refine xn_icmp_ge 63 dX10_columnOf_7 (by decide) (by omega) (by omega) (fun c1 => ?_) (fun c1 => ?_)
  · refine xe_iconst (v := -1) dX10_columnOf_63 xcm1 ?_
    exact xe_ret (r := (some (.int (-1)))) dX10_columnOf_64 trivial (k1 c1)
  · refine xe_iconst (v := nI (0)) dX10_columnOf_10 xc0 ?_
    refine xe_istore_n (L2 := [(0, .ref 172), (1, .int (nI (k))), (2, .int (nI (p))), (3, .int (nI (0)))]) dX10_columnOf_11 rfl (by decide) rfl ?_
    exact k2 c1

theorem gX10_columnOf_12 (u : xU) (k p i l kd : Nat) (x : Int32) {Q : Option Value → xM → Prop} (hp : p < 10) (hl : l ≤ 3) (hi : i < l) (hkd : kd ≤ 3) (v1 : u.1 178 p = nI (l)) (v2 : u.1 179 ((3 * p) + i) = x) (v3 : u.1 176 p = nI (kd))
    (k1 : l ≤ i → xE mX10_columnOf 2 [(0, .ref 172), (1, .int (nI (k))), (2, .int (nI (p + 1)))] [] (xmm u) Q)
    (k2 : ¬ l ≤ i → ¬ kd = 0 → xE mX10_columnOf 2 [(0, .ref 172), (1, .int (nI (k))), (2, .int (nI (p + 1)))] [] (xmm u) Q)
    (k3 : ¬ l ≤ i → kd = 0 → ¬ x = (nI (k)) → xE mX10_columnOf 12 [(0, .ref 172), (1, .int (nI (k))), (2, .int (nI (p))), (3, .int (nI (i + 1)))] [] (xmm u) Q)
    (k4 : ¬ l ≤ i → kd = 0 → x = (nI (k)) → Q (some (.int (nI ((3 * p) + i)))) (xmm u)) : xE mX10_columnOf 12 [(0, .ref 172), (1, .int (nI (k))), (2, .int (nI (p))), (3, .int (nI (i)))] [] (xmm u) Q := by
  refine xe_iload_n 3 dX10_columnOf_12 rfl rfl ?_
  refine xe_aload_n 0 dX10_columnOf_13 rfl rfl ?_
  refine xr_getR (b := 178) dX10_columnOf_14 fX10_25 rfl sh172 (by decide) rfl ?_
  refine xe_iload_n 2 dX10_columnOf_17 rfl rfl ?_
  refine xr_iald (k := p) (v := nI (l)) dX10_columnOf_18 sh178 (by decide) (by omega) (by decide) v1 ?_
  refine xn_icmp_ge 57 dX10_columnOf_19 (by decide) (by omega) (by omega) (fun c1 => ?_) (fun c1 => ?_)
  · refine xn_iinc (c := 1) (L2 := [(0, .ref 172), (1, .int (nI (k))), (2, .int (nI (p + 1))), (3, .int (nI (i)))]) 2 dX10_columnOf_57 rfl (by decide) rfl ?_
    refine xe_goto 2 dX10_columnOf_60 (by decide) ?_
    refine xE.sub [0, 1, 2] rfl ?_
    exact k1 c1
  · refine xe_aload_n 0 dX10_columnOf_22 rfl rfl ?_
    refine xr_getR (b := 176) dX10_columnOf_23 fX10_19 rfl sh172 (by decide) rfl ?_
    refine xe_iload_n 2 dX10_columnOf_26 rfl rfl ?_
    refine xr_iald (k := p) (v := nI (kd)) dX10_columnOf_27 sh176 (by decide) (by omega) (by decide) v3 ?_
    refine xn_if_ne 57 dX10_columnOf_28 (by decide) (by omega) (fun c2 => ?_) (fun c2 => ?_)
    · refine xn_iinc (c := 1) (L2 := [(0, .ref 172), (1, .int (nI (k))), (2, .int (nI (p + 1))), (3, .int (nI (i)))]) 2 dX10_columnOf_57 rfl (by decide) rfl ?_
      refine xe_goto 2 dX10_columnOf_60 (by decide) ?_
      refine xE.sub [0, 1, 2] rfl ?_
      exact k2 c1 c2
    · refine xe_aload_n 0 dX10_columnOf_31 rfl rfl ?_
      refine xr_getR (b := 179) dX10_columnOf_32 fX10_28 rfl sh172 (by decide) rfl ?_
      refine xe_iconst (v := nI (3)) dX10_columnOf_35 xc3 ?_
      refine xe_iload_n 2 dX10_columnOf_36 rfl rfl ?_
      refine xn_imul dX10_columnOf_37 ?_
      refine xe_iload_n 3 dX10_columnOf_38 rfl rfl ?_
      refine xn_iadd dX10_columnOf_39 ?_
      refine xr_iald (k := (3 * p) + i) (v := x) dX10_columnOf_40 sh179 (by decide) (by omega) (by decide) v2 ?_
      refine xe_iload_n 1 dX10_columnOf_41 rfl rfl ?_
      refine xe_icmp_ne 51 dX10_columnOf_42 (by decide) (fun c3 => ?_) (fun c3 => ?_)
      · refine xn_iinc (c := 1) (L2 := [(0, .ref 172), (1, .int (nI (k))), (2, .int (nI (p))), (3, .int (nI (i + 1)))]) 3 dX10_columnOf_51 rfl (by decide) rfl ?_
        refine xe_goto 12 dX10_columnOf_54 (by decide) ?_
        exact k3 c1 c2 c3
      · refine xe_iconst (v := nI (3)) dX10_columnOf_45 xc3 ?_
        refine xe_iload_n 2 dX10_columnOf_46 rfl rfl ?_
        refine xn_imul dX10_columnOf_47 ?_
        refine xe_iload_n 3 dX10_columnOf_48 rfl rfl ?_
        refine xn_iadd dX10_columnOf_49 ?_
        exact xe_ret (r := (some (.int (nI ((3 * p) + i))))) dX10_columnOf_50 trivial (k4 c1 c2 c3)

theorem gX10_columnOf_e (u : xU) (k p i l : Nat) {Q : Option Value → xM → Prop} (hp : p < 10) (hl : l ≤ 3) (hi : i = l) (v1 : u.1 178 p = nI (l))
    (k1 : l ≤ i → xE mX10_columnOf 2 [(0, .ref 172), (1, .int (nI (k))), (2, .int (nI (p + 1)))] [] (xmm u) Q)
    (k2 : ¬ l ≤ i → ¬ (u.1 176 p) = 0 → xE mX10_columnOf 2 [(0, .ref 172), (1, .int (nI (k))), (2, .int (nI (p + 1)))] [] (xmm u) Q)
    (k3 : ¬ l ≤ i → (u.1 176 p) = 0 → ¬ (u.1 179 ((3 * p) + i)) = (nI (k)) → xE mX10_columnOf 12 [(0, .ref 172), (1, .int (nI (k))), (2, .int (nI (p))), (3, .int (nI (i + 1)))] [] (xmm u) Q)
    (k4 : ¬ l ≤ i → (u.1 176 p) = 0 → (u.1 179 ((3 * p) + i)) = (nI (k)) → Q (some (.int (nI ((3 * p) + i)))) (xmm u)) : xE mX10_columnOf 12 [(0, .ref 172), (1, .int (nI (k))), (2, .int (nI (p))), (3, .int (nI (i)))] [] (xmm u) Q := by
  refine xe_iload_n 3 dX10_columnOf_12 rfl rfl ?_
  refine xe_aload_n 0 dX10_columnOf_13 rfl rfl ?_
  refine xr_getR (b := 178) dX10_columnOf_14 fX10_25 rfl sh172 (by decide) rfl ?_
  refine xe_iload_n 2 dX10_columnOf_17 rfl rfl ?_
  refine xr_iald (k := p) (v := nI (l)) dX10_columnOf_18 sh178 (by decide) (by omega) (by decide) v1 ?_
  refine xn_icmp_ge 57 dX10_columnOf_19 (by decide) (by omega) (by omega) (fun c1 => ?_) (fun c1 => ?_)
  · refine xn_iinc (c := 1) (L2 := [(0, .ref 172), (1, .int (nI (k))), (2, .int (nI (p + 1))), (3, .int (nI (i)))]) 2 dX10_columnOf_57 rfl (by decide) rfl ?_
    refine xe_goto 2 dX10_columnOf_60 (by decide) ?_
    refine xE.sub [0, 1, 2] rfl ?_
    exact k1 c1
  · refine xe_aload_n 0 dX10_columnOf_22 rfl rfl ?_
    refine xr_getR (b := 176) dX10_columnOf_23 fX10_19 rfl sh172 (by decide) rfl ?_
    refine xe_iload_n 2 dX10_columnOf_26 rfl rfl ?_
    refine xr_iald (k := p) (v := u.1 176 p) dX10_columnOf_27 sh176 (by decide) (by omega) (by decide) rfl ?_
    refine xe_if_ne 57 dX10_columnOf_28 (by decide) (fun c2 => ?_) (fun c2 => ?_)
    · refine xn_iinc (c := 1) (L2 := [(0, .ref 172), (1, .int (nI (k))), (2, .int (nI (p + 1))), (3, .int (nI (i)))]) 2 dX10_columnOf_57 rfl (by decide) rfl ?_
      refine xe_goto 2 dX10_columnOf_60 (by decide) ?_
      refine xE.sub [0, 1, 2] rfl ?_
      exact k2 c1 c2
    · refine xe_aload_n 0 dX10_columnOf_31 rfl rfl ?_
      refine xr_getR (b := 179) dX10_columnOf_32 fX10_28 rfl sh172 (by decide) rfl ?_
      refine xe_iconst (v := nI (3)) dX10_columnOf_35 xc3 ?_
      refine xe_iload_n 2 dX10_columnOf_36 rfl rfl ?_
      refine xn_imul dX10_columnOf_37 ?_
      refine xe_iload_n 3 dX10_columnOf_38 rfl rfl ?_
      refine xn_iadd dX10_columnOf_39 ?_
      refine xr_iald (k := (3 * p) + i) (v := u.1 179 ((3 * p) + i)) dX10_columnOf_40 sh179 (by decide) (by omega) (by decide) rfl ?_
      refine xe_iload_n 1 dX10_columnOf_41 rfl rfl ?_
      refine xe_icmp_ne 51 dX10_columnOf_42 (by decide) (fun c3 => ?_) (fun c3 => ?_)
      · refine xn_iinc (c := 1) (L2 := [(0, .ref 172), (1, .int (nI (k))), (2, .int (nI (p))), (3, .int (nI (i + 1)))]) 3 dX10_columnOf_51 rfl (by decide) rfl ?_
        refine xe_goto 12 dX10_columnOf_54 (by decide) ?_
        exact k3 c1 c2 c3
      · refine xe_iconst (v := nI (3)) dX10_columnOf_45 xc3 ?_
        refine xe_iload_n 2 dX10_columnOf_46 rfl rfl ?_
        refine xn_imul dX10_columnOf_47 ?_
        refine xe_iload_n 3 dX10_columnOf_48 rfl rfl ?_
        refine xn_iadd dX10_columnOf_49 ?_
        exact xe_ret (r := (some (.int (nI ((3 * p) + i))))) dX10_columnOf_50 trivial (k4 c1 c2 c3)

theorem gX10_isAgain_0 (u : xU) (t c q : Nat) {Q : Option Value → xM → Prop}  
    (k1 : xE mX10_isAgain 3 [(0, .ref 172), (1, .int (nI (t))), (2, .int (nI (c))), (3, .int (nI (q))), (4, .int (nI (0)))] [] (xmm u) Q) : xE mX10_isAgain 0 [(0, .ref 172), (1, .int (nI (t))), (2, .int (nI (c))), (3, .int (nI (q)))] [] (xmm u) Q := by
  refine xe_iconst (v := nI (0)) dX10_isAgain_0 xc0 ?_
  refine xe_istore (L2 := [(0, .ref 172), (1, .int (nI (t))), (2, .int (nI (c))), (3, .int (nI (q))), (4, .int (nI (0)))]) dX10_isAgain_1 (by decide) rfl ?_
  exact k1

theorem gX10_isAgain_3 (u : xU) (t c q k : Nat) (x y : Int32) {Q : Option Value → xM → Prop} (hq : q < 40) (hk : k ≤ q) (hc1 : xC mX10_cell [.ref 172, .int (nI t), .int (nI k), .int (nI c)] (xmm u) (fun r μ' => r = some (.int (x)) ∧ μ' = xmm u)) (hc2 : xC mX10_cell [.ref 172, .int (nI t), .int (nI q), .int (nI c)] (xmm u) (fun r μ' => r = some (.int (y)) ∧ μ' = xmm u)) 
    (k1 : q ≤ k → Q (some (.int (nI (0)))) (xmm u))
    (k2 : ¬ q ≤ k → ¬ x = y → xE mX10_isAgain 3 [(0, .ref 172), (1, .int (nI (t))), (2, .int (nI (c))), (3, .int (nI (q))), (4, .int (nI (k + 1)))] [] (xmm u) Q)
    (k3 : ¬ q ≤ k → x = y → Q (some (.int (nI (1)))) (xmm u)) : xE mX10_isAgain 3 [(0, .ref 172), (1, .int (nI (t))), (2, .int (nI (c))), (3, .int (nI (q))), (4, .int (nI (k)))] [] (xmm u) Q := by
  refine xe_iload 4 dX10_isAgain_3 rfl ?_
  refine xe_iload_n 3 dX10_isAgain_5 rfl rfl ?_
  refine xn_icmp_ge 35 dX10_isAgain_6 (by decide) (by omega) (by omega) (fun c1 => ?_) (fun c1 => ?_)
  · refine xe_iconst (v := nI (0)) dX10_isAgain_35 xc0 ?_
    exact xe_ret (r := (some (.int (nI (0))))) dX10_isAgain_36 (Or.inl rfl) (k1 c1)
  · refine xe_aload_n 0 dX10_isAgain_9 rfl rfl ?_
    refine xe_iload_n 1 dX10_isAgain_10 rfl rfl ?_
    refine xe_iload 4 dX10_isAgain_11 rfl ?_
    refine xe_iload_n 2 dX10_isAgain_13 rfl rfl ?_
    refine xe_callV (As := [.int (nI (t)), .int (nI (k)), .int (nI (c))]) (rest := []) dX10_isAgain_14 wX10_cell lX10_95 iX10_cell sX10_cell ⟨by decide, by decide⟩ sh172 rfl (xin_mm (by decide)) rfl rfl (by simp [Value.category]) (xC.pure (v := .int (x)) (hc1) ?_)
    refine xe_aload_n 0 dX10_isAgain_17 rfl rfl ?_
    refine xe_iload_n 1 dX10_isAgain_18 rfl rfl ?_
    refine xe_iload_n 3 dX10_isAgain_19 rfl rfl ?_
    refine xe_iload_n 2 dX10_isAgain_20 rfl rfl ?_
    refine xe_callV (As := [.int (nI (t)), .int (nI (q)), .int (nI (c))]) (rest := [.int (x)]) dX10_isAgain_21 wX10_cell lX10_95 iX10_cell sX10_cell ⟨by decide, by decide⟩ sh172 rfl (xin_mm (by decide)) rfl rfl (by simp [Value.category]) (xC.pure (v := .int (y)) (hc2) ?_)
    refine xe_icmp_ne 29 dX10_isAgain_24 (by decide) (fun c2 => ?_) (fun c2 => ?_)
    · refine xn_iinc (c := 1) (L2 := [(0, .ref 172), (1, .int (nI (t))), (2, .int (nI (c))), (3, .int (nI (q))), (4, .int (nI (k + 1)))]) 4 dX10_isAgain_29 rfl (by decide) rfl ?_
      refine xe_goto 3 dX10_isAgain_32 (by decide) ?_
      exact k2 c1 c2
    · refine xe_iconst (v := nI (1)) dX10_isAgain_27 xc1 ?_
      exact xe_ret (r := (some (.int (nI (1))))) dX10_isAgain_28 (Or.inr rfl) (k3 c1 c2)

