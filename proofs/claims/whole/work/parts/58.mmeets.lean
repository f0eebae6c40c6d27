theorem gX10_meets_0 (u : xU) {Q : Option Value → xM → Prop}  
    (k1 : xE mX10_meets 7 [(0, .ref 172), (1, .int (nI (0)))] [] (xmm (wi u 172 13 (nI (1)))) Q) : xE mX10_meets 0 [(0, .ref 172)] [] (xmm u) Q := by
  refine xe_aload_n 0 dX10_meets_0 rfl rfl ?_
  refine xe_iconst (v := nI (1)) dX10_meets_1 xc1 ?_
  refine xr_putI dX10_meets_2 fX10_153 sh172 (by decide) ?_
  refine xe_iconst (v := nI (0)) dX10_meets_5 xc0 ?_
  refine xe_istore_n (L2 := [(0, .ref 172), (1, .int (nI (0)))]) dX10_meets_6 rfl (by decide) rfl ?_
  exact k1

theorem gX10_meets_7 (u : xU) (j : Nat) {Q : Option Value → xM → Prop} (hj : j ≤ 6) 
    (k1 : 6 ≤ j → xE mX10_meets 30 [(0, .ref 172), (1, .int (nI (0))), (2, .int (nI (0)))] [] (xmm u) Q)
    (k2 : ¬ 6 ≤ j → xE mX10_meets 7 [(0, .ref 172), (1, .int (nI (j + 1)))] [] (xmm (wi u 182 j (nI (0)))) Q) : xE mX10_meets 7 [(0, .ref 172), (1, .int (nI (j)))] [] (xmm u) Q := by
  refine xe_iload_n 1 dX10_meets_7 rfl rfl ?_
  refine xe_bipush (v := nI (6)) dX10_meets_8 xcb6 ?_
  refine xn_icmp_ge 26 dX10_meets_10 (by decide) (by omega) (by omega) (fun c1 => ?_) (fun c1 => ?_)
  · refine xe_iconst (v := nI (0)) dX10_meets_26 xc0 ?_
    refine xe_istore_n (L2 := [(0, .ref 172), (1, .int (nI (0)))]) dX10_meets_27 rfl (by decide) rfl ?_
    refine xe_iconst (v := nI (0)) dX10_meets_28 xc0 ?_
    refine xe_istore_n (L2 := [(0, .ref 172), (1, .int (nI (0))), (2, .int (nI (0)))]) dX10_meets_29 rfl (by decide) rfl ?_
    exact k1 c1
  · refine xe_aload_n 0 dX10_meets_13 rfl rfl ?_
    refine xr_getR (b := 182) dX10_meets_14 fX10_37 rfl sh172 (by decide) rfl ?_
    refine xe_iload_n 1 dX10_meets_17 rfl rfl ?_
    refine xe_iconst (v := nI (0)) dX10_meets_18 xc0 ?_
    refine xr_iast (k := j) dX10_meets_19 sh182 (by decide) (by omega) (by decide) ?_
    refine xn_iinc (c := 1) (L2 := [(0, .ref 172), (1, .int (nI (j + 1)))]) 1 dX10_meets_20 rfl (by decide) rfl ?_
    refine xe_goto 7 dX10_meets_23 (by decide) ?_
    exact k2 c1

theorem gX10_meets_30 (u : xU) (nn n : Nat) (S i k p c t : Nat) {Q : Option Value → xM → Prop} (hnn : nn ≤ 6) (hn : n ≤ 10) (hi : i < nn) (hk : k < 6) (hp : p < 10) (hc : c < 3) (ht : t < 8) (hco : xC mX10_columnOf [.ref 172, .int (nI k)] (xmm u) (fun r μ' => r = some (.int (nI (3 * p + c))) ∧ μ' = xmm u)) (v1 : u.1 172 3 = nI (nn)) (v2 : u.1 172 4 = nI (n)) (v3 : u.1 181 i = nI (k)) (v4 : u.1 177 ((3 * p + c) / 3) = nI (t))
    (k1 : nn ≤ i → Q (some (.int (nI (1)))) (xmm u))
    (k2 : ¬ nn ≤ i → xE mX10_meets 75 [(0, .ref 172), (1, .int ((nI (S)) ||| (1 <<< ((nI (k)) &&& 31)))), (2, .int (nI (i))), (3, .int (nI (k))), (4, .int (nI (3 * p + c))), (5, .int (nI (t))), (6, .int (nI (0))), (7, .int (nI (0)))] [] (xmm u) Q) : xE mX10_meets 30 [(0, .ref 172), (1, .int (nI (S))), (2, .int (nI (i)))] [] (xmm u) Q := by
  refine xe_iload_n 2 dX10_meets_30 rfl rfl ?_
  refine xe_aload_n 0 dX10_meets_31 rfl rfl ?_
  refine xr_getI (v := nI (nn)) dX10_meets_32 fX10_119 sh172 (by decide) v1 ?_
  refine xn_icmp_ge 296 dX10_meets_35 (by decide) (by omega) (by omega) (fun c1 => ?_) (fun c1 => ?_)
  · refine xe_iconst (v := nI (1)) dX10_meets_296 xc1 ?_
    exact xe_ret (r := (some (.int (nI (1))))) dX10_meets_297 (Or.inr rfl) (k1 c1)
  · refine xe_aload_n 0 dX10_meets_38 rfl rfl ?_
    refine xr_getR (b := 181) dX10_meets_39 fX10_34 rfl sh172 (by decide) rfl ?_
    refine xe_iload_n 2 dX10_meets_42 rfl rfl ?_
    refine xr_iald (k := i) (v := nI (k)) dX10_meets_43 sh181 (by decide) (by omega) (by decide) v3 ?_
    refine xe_istore_n (L2 := [(0, .ref 172), (1, .int (nI (S))), (2, .int (nI (i))), (3, .int (nI (k)))]) dX10_meets_44 rfl (by decide) rfl ?_
    refine xe_iload_n 1 dX10_meets_45 rfl rfl ?_
    refine xe_iconst (v := nI (1)) dX10_meets_46 xc1 ?_
    refine xe_iload_n 3 dX10_meets_47 rfl rfl ?_
    refine xe_ishl dX10_meets_48 ?_
    refine xe_ior dX10_meets_49 ?_
    refine xe_istore_n (L2 := [(0, .ref 172), (1, .int ((nI (S)) ||| (1 <<< ((nI (k)) &&& 31)))), (2, .int (nI (i))), (3, .int (nI (k)))]) dX10_meets_50 rfl (by decide) rfl ?_
    refine xe_aload_n 0 dX10_meets_51 rfl rfl ?_
    refine xe_iload_n 3 dX10_meets_52 rfl rfl ?_
    refine xe_callV (As := [.int (nI (k))]) (rest := []) dX10_meets_53 wX10_columnOf lX10_156 iX10_columnOf sX10_columnOf ⟨by decide, by decide⟩ sh172 rfl (xin_mm (by decide)) rfl rfl (by simp [Value.category]) (xC.pure (v := .int (nI (3 * p + c))) (hco) ?_)
    refine xe_istore (L2 := [(0, .ref 172), (1, .int ((nI (S)) ||| (1 <<< ((nI (k)) &&& 31)))), (2, .int (nI (i))), (3, .int (nI (k))), (4, .int (nI (3 * p + c)))]) dX10_meets_56 (by decide) rfl ?_
    refine xe_aload_n 0 dX10_meets_58 rfl rfl ?_
    refine xr_getR (b := 177) dX10_meets_59 fX10_22 rfl sh172 (by decide) rfl ?_
    refine xe_iload 4 dX10_meets_62 rfl ?_
    refine xe_iconst (v := nI (3)) dX10_meets_64 xc3 ?_
    refine xn_idiv dX10_meets_65 (by omega) (by omega) (by omega) ?_
    refine xr_iald (k := (3 * p + c) / 3) (v := nI (t)) dX10_meets_66 sh177 (by decide) (by omega) (by decide) v4 ?_
    refine xe_istore (L2 := [(0, .ref 172), (1, .int ((nI (S)) ||| (1 <<< ((nI (k)) &&& 31)))), (2, .int (nI (i))), (3, .int (nI (k))), (4, .int (nI (3 * p + c))), (5, .int (nI (t)))]) dX10_meets_67 (by decide) rfl ?_
    refine xe_iconst (v := nI (0)) dX10_meets_69 xc0 ?_
    refine xe_istore (L2 := [(0, .ref 172), (1, .int ((nI (S)) ||| (1 <<< ((nI (k)) &&& 31)))), (2, .int (nI (i))), (3, .int (nI (k))), (4, .int (nI (3 * p + c))), (5, .int (nI (t))), (6, .int (nI (0)))]) dX10_meets_70 (by decide) rfl ?_
    refine xe_iconst (v := nI (0)) dX10_meets_72 xc0 ?_
    refine xe_istore (L2 := [(0, .ref 172), (1, .int ((nI (S)) ||| (1 <<< ((nI (k)) &&& 31)))), (2, .int (nI (i))), (3, .int (nI (k))), (4, .int (nI (3 * p + c))), (5, .int (nI (t))), (6, .int (nI (0))), (7, .int (nI (0)))]) dX10_meets_73 (by decide) rfl ?_
    exact k2 c1

theorem gX10_meets_e (u : xU) (nn n : Nat) (S i : Nat) {Q : Option Value → xM → Prop} (hnn : nn ≤ 6) (hn : n ≤ 10) (hi : i = nn) (v1 : u.1 172 3 = nI (nn)) (v2 : u.1 172 4 = nI (n))
    (k1 : nn ≤ i → Q (some (.int (nI (1)))) (xmm u))
    (k2 : ¬ nn ≤ i → xC mX10_columnOf [.ref 172, .int (u.1 181 i)] (xmm u) (fun r μ1 => xE mX10_meets 56 [(0, .ref 172), (1, .int ((nI (S)) ||| (1 <<< ((u.1 181 i) &&& 31)))), (2, .int (nI (i))), (3, .int (u.1 181 i))] (r.toList ++ []) μ1 Q)) : xE mX10_meets 30 [(0, .ref 172), (1, .int (nI (S))), (2, .int (nI (i)))] [] (xmm u) Q := by
  refine xe_iload_n 2 dX10_meets_30 rfl rfl ?_
  refine xe_aload_n 0 dX10_meets_31 rfl rfl ?_
  refine xr_getI (v := nI (nn)) dX10_meets_32 fX10_119 sh172 (by decide) v1 ?_
  refine xn_icmp_ge 296 dX10_meets_35 (by decide) (by omega) (by omega) (fun c1 => ?_) (fun c1 => ?_)
  · refine xe_iconst (v := nI (1)) dX10_meets_296 xc1 ?_
    exact xe_ret (r := (some (.int (nI (1))))) dX10_meets_297 (Or.inr rfl) (k1 c1)
  · refine xe_aload_n 0 dX10_meets_38 rfl rfl ?_
    refine xr_getR (b := 181) dX10_meets_39 fX10_34 rfl sh172 (by decide) rfl ?_
    refine xe_iload_n 2 dX10_meets_42 rfl rfl ?_
    refine xr_iald (k := i) (v := u.1 181 i) dX10_meets_43 sh181 (by decide) (by omega) (by decide) rfl ?_
    refine xe_istore_n (L2 := [(0, .ref 172), (1, .int (nI (S))), (2, .int (nI (i))), (3, .int (u.1 181 i))]) dX10_meets_44 rfl (by decide) rfl ?_
    refine xe_iload_n 1 dX10_meets_45 rfl rfl ?_
    refine xe_iconst (v := nI (1)) dX10_meets_46 xc1 ?_
    refine xe_iload_n 3 dX10_meets_47 rfl rfl ?_
    refine xe_ishl dX10_meets_48 ?_
    refine xe_ior dX10_meets_49 ?_
    refine xe_istore_n (L2 := [(0, .ref 172), (1, .int ((nI (S)) ||| (1 <<< ((u.1 181 i) &&& 31)))), (2, .int (nI (i))), (3, .int (u.1 181 i))]) dX10_meets_50 rfl (by decide) rfl ?_
    refine xe_aload_n 0 dX10_meets_51 rfl rfl ?_
    refine xe_iload_n 3 dX10_meets_52 rfl rfl ?_
    refine xe_callV (As := [.int (u.1 181 i)]) (rest := []) dX10_meets_53 wX10_columnOf lX10_156 iX10_columnOf sX10_columnOf ⟨by decide, by decide⟩ sh172 rfl (xin_mm (by decide)) rfl rfl (by simp [Value.category]) ?_
    exact k2 c1

theorem gX10_meets_75 (u : xU) (S i k col t n m : Nat) (rm : Nat) {Q : Option Value → xM → Prop} (hi : i < 6) (hk : k < 6) (hcol : col < 30) (ht : t < 8) (hn : n ≤ 500) (hm : m ≤ 500) (hrm : rm ≤ 500) (v1 : u.1 172 13 = nI (rm))
    (k1 : rm ≤ m → xE mX10_meets 246 [(0, .ref 172), (1, .int (nI (S))), (2, .int (nI (i))), (6, .int (nI (n))), (7, .int (nI (0)))] [] (xmm u) Q)
    (k2 : ¬ rm ≤ m → xE mX10_meets 87 [(0, .ref 172), (1, .int (nI (S))), (2, .int (nI (i))), (3, .int (nI (k))), (4, .int (nI (col))), (5, .int (nI (t))), (6, .int (nI (n))), (7, .int (nI (m))), (8, .int (nI (0)))] [] (xmm u) Q) : xE mX10_meets 75 [(0, .ref 172), (1, .int (nI (S))), (2, .int (nI (i))), (3, .int (nI (k))), (4, .int (nI (col))), (5, .int (nI (t))), (6, .int (nI (n))), (7, .int (nI (m)))] [] (xmm u) Q := by
  refine xe_iload 7 dX10_meets_75 rfl ?_
  refine xe_aload_n 0 dX10_meets_77 rfl rfl ?_
  refine xr_getI (v := nI (rm)) dX10_meets_78 fX10_153 sh172 (by decide) v1 ?_
  refine xn_icmp_ge 243 dX10_meets_81 (by decide) (by omega) (by omega) (fun c1 => ?_) (fun c1 => ?_)
  · refine xe_iconst (v := nI (0)) dX10_meets_243 xc0 ?_
    refine xe_istore (L2 := [(0, .ref 172), (1, .int (nI (S))), (2, .int (nI (i))), (3, .int (nI (k))), (4, .int (nI (col))), (5, .int (nI (t))), (6, .int (nI (n))), (7, .int (nI (0)))]) dX10_meets_244 (by decide) rfl ?_
    refine xE.sub [0, 1, 2, 6, 7] rfl ?_
    exact k1 c1
  · refine xe_iconst (v := nI (0)) dX10_meets_84 xc0 ?_
    refine xe_istore (L2 := [(0, .ref 172), (1, .int (nI (S))), (2, .int (nI (i))), (3, .int (nI (k))), (4, .int (nI (col))), (5, .int (nI (t))), (6, .int (nI (n))), (7, .int (nI (m))), (8, .int (nI (0)))]) dX10_meets_85 (by decide) rfl ?_
    exact k2 c1

theorem gX10_meets_87 (u : xU) (S i k col t n m : Nat) (q mt : Nat) (b : Bool) {Q : Option Value → xM → Prop} (hi : i < 6) (hk : k < 6) (hcol : col < 30) (ht : t < 8) (hn : n ≤ 500) (hm : m ≤ 500) (hmt : mt ≤ 40) (hq : q < mt) (hia : xC mX10_isAgain [.ref 172, .int (nI t), .int (nI (col % 3)), .int (nI q)] (xmm u) (fun r μ' => r = some (.int (xb (b = true))) ∧ μ' = xmm u)) (v1 : u.1 174 t = nI (mt))
    (k1 : mt ≤ q → xE mX10_meets 75 [(0, .ref 172), (1, .int (nI (S))), (2, .int (nI (i))), (3, .int (nI (k))), (4, .int (nI (col))), (5, .int (nI (t))), (6, .int (nI (n))), (7, .int (nI (m + 1)))] [] (xmm u) Q)
    (k2 : ¬ mt ≤ q → ¬ (b = true) → xE mX10_meets 120 [(0, .ref 172), (1, .int (nI (S))), (2, .int (nI (i))), (3, .int (nI (k))), (4, .int (nI (col))), (5, .int (nI (t))), (6, .int (nI (n))), (7, .int (nI (m))), (8, .int (nI (q))), (9, .int (nI (0)))] [] (xmm u) Q)
    (k3 : ¬ mt ≤ q → b = true → xE mX10_meets 87 [(0, .ref 172), (1, .int (nI (S))), (2, .int (nI (i))), (3, .int (nI (k))), (4, .int (nI (col))), (5, .int (nI (t))), (6, .int (nI (n))), (7, .int (nI (m))), (8, .int (nI (q + 1)))] [] (xmm u) Q) : xE mX10_meets 87 [(0, .ref 172), (1, .int (nI (S))), (2, .int (nI (i))), (3, .int (nI (k))), (4, .int (nI (col))), (5, .int (nI (t))), (6, .int (nI (n))), (7, .int (nI (m))), (8, .int (nI (q)))] [] (xmm u) Q := by
  refine xe_iload 8 dX10_meets_87 rfl ?_
  refine xe_aload_n 0 dX10_meets_89 rfl rfl ?_
  refine xr_getR (b := 174) dX10_meets_90 fX10_13 rfl sh172 (by decide) rfl ?_
  refine xe_iload 5 dX10_meets_93 rfl ?_
  refine xr_iald (k := t) (v := nI (mt)) dX10_meets_95 sh174 (by decide) (by omega) (by decide) v1 ?_
  refine xn_icmp_ge 237 dX10_meets_96 (by decide) (by omega) (by omega) (fun c1 => ?_) (fun c1 => ?_)
  · refine xn_iinc (c := 1) (L2 := [(0, .ref 172), (1, .int (nI (S))), (2, .int (nI (i))), (3, .int (nI (k))), (4, .int (nI (col))), (5, .int (nI (t))), (6, .int (nI (n))), (7, .int (nI (m + 1))), (8, .int (nI (q)))]) 7 dX10_meets_237 rfl (by decide) rfl ?_
    refine xe_goto 75 dX10_meets_240 (by decide) ?_
    refine xE.sub [0, 1, 2, 3, 4, 5, 6, 7] rfl ?_
    exact k1 c1
  · refine xe_aload_n 0 dX10_meets_99 rfl rfl ?_
    refine xe_iload 5 dX10_meets_100 rfl ?_
    refine xe_iload 4 dX10_meets_102 rfl ?_
    refine xe_iconst (v := nI (3)) dX10_meets_104 xc3 ?_
    refine xn_irem dX10_meets_105 (by omega) (by omega) (by omega) ?_
    refine xe_iload 8 dX10_meets_106 rfl ?_
    refine xe_callV (As := [.int (nI (t)), .int (nI (col % 3)), .int (nI (q))]) (rest := []) dX10_meets_108 wX10_isAgain lX10_160 iX10_isAgain sX10_isAgain ⟨by decide, by decide⟩ sh172 rfl (xin_mm (by decide)) rfl rfl (by simp [Value.category]) (xC.pure (v := .int (xb (b = true))) (hia) ?_)
    refine xb_if_eq 117 dX10_meets_111 (by decide) (fun c2 => ?_) (fun c2 => ?_)
    · refine xe_iconst (v := nI (0)) dX10_meets_117 xc0 ?_
      refine xe_istore (L2 := [(0, .ref 172), (1, .int (nI (S))), (2, .int (nI (i))), (3, .int (nI (k))), (4, .int (nI (col))), (5, .int (nI (t))), (6, .int (nI (n))), (7, .int (nI (m))), (8, .int (nI (q))), (9, .int (nI (0)))]) dX10_meets_118 (by decide) rfl ?_
      exact k2 c1 c2
    · refine xe_goto 231 dX10_meets_114 (by decide) ?_
      refine xn_iinc (c := 1) (L2 := [(0, .ref 172), (1, .int (nI (S))), (2, .int (nI (i))), (3, .int (nI (k))), (4, .int (nI (col))), (5, .int (nI (t))), (6, .int (nI (n))), (7, .int (nI (m))), (8, .int (nI (q + 1)))]) 8 dX10_meets_231 rfl (by decide) rfl ?_
      refine xe_goto 87 dX10_meets_234 (by decide) ?_
      exact k3 c1 c2

theorem gX10_meets_87e (u : xU) (S i k col t n m : Nat) (q mt : Nat) {Q : Option Value → xM → Prop} (hi : i < 6) (hk : k < 6) (hcol : col < 30) (ht : t < 8) (hn : n ≤ 500) (hm : m ≤ 500) (hmt : mt ≤ 40) (hq : q = mt) (v1 : u.1 174 t = nI (mt))
    (k1 : mt ≤ q → xE mX10_meets 75 [(0, .ref 172), (1, .int (nI (S))), (2, .int (nI (i))), (3, .int (nI (k))), (4, .int (nI (col))), (5, .int (nI (t))), (6, .int (nI (n))), (7, .int (nI (m + 1)))] [] (xmm u) Q)
    (k2 : ¬ mt ≤ q → xC mX10_isAgain [.ref 172, .int (nI (t)), .int (nI (col % 3)), .int (nI (q))] (xmm u) (fun r μ1 => xE mX10_meets 111 [(0, .ref 172), (1, .int (nI (S))), (2, .int (nI (i))), (3, .int (nI (k))), (4, .int (nI (col))), (5, .int (nI (t))), (6, .int (nI (n))), (7, .int (nI (m))), (8, .int (nI (q)))] (r.toList ++ []) μ1 Q)) : xE mX10_meets 87 [(0, .ref 172), (1, .int (nI (S))), (2, .int (nI (i))), (3, .int (nI (k))), (4, .int (nI (col))), (5, .int (nI (t))), (6, .int (nI (n))), (7, .int (nI (m))), (8, .int (nI (q)))] [] (xmm u) Q := by
  refine xe_iload 8 dX10_meets_87 rfl ?_
  refine xe_aload_n 0 dX10_meets_89 rfl rfl ?_
  refine xr_getR (b := 174) dX10_meets_90 fX10_13 rfl sh172 (by decide) rfl ?_
  refine xe_iload 5 dX10_meets_93 rfl ?_
  refine xr_iald (k := t) (v := nI (mt)) dX10_meets_95 sh174 (by decide) (by omega) (by decide) v1 ?_
  refine xn_icmp_ge 237 dX10_meets_96 (by decide) (by omega) (by omega) (fun c1 => ?_) (fun c1 => ?_)
  · refine xn_iinc (c := 1) (L2 := [(0, .ref 172), (1, .int (nI (S))), (2, .int (nI (i))), (3, .int (nI (k))), (4, .int (nI (col))), (5, .int (nI (t))), (6, .int (nI (n))), (7, .int (nI (m + 1))), (8, .int (nI (q)))]) 7 dX10_meets_237 rfl (by decide) rfl ?_
    refine xe_goto 75 dX10_meets_240 (by decide) ?_
    refine xE.sub [0, 1, 2, 3, 4, 5, 6, 7] rfl ?_
    exact k1 c1
  · refine xe_aload_n 0 dX10_meets_99 rfl rfl ?_
    refine xe_iload 5 dX10_meets_100 rfl ?_
    refine xe_iload 4 dX10_meets_102 rfl ?_
    refine xe_iconst (v := nI (3)) dX10_meets_104 xc3 ?_
    refine xn_irem dX10_meets_105 (by omega) (by omega) (by omega) ?_
    refine xe_iload 8 dX10_meets_106 rfl ?_
    refine xe_callV (As := [.int (nI (t)), .int (nI (col % 3)), .int (nI (q))]) (rest := []) dX10_meets_108 wX10_isAgain lX10_160 iX10_isAgain sX10_isAgain ⟨by decide, by decide⟩ sh172 rfl (xin_mm (by decide)) rfl rfl (by simp [Value.category]) ?_
    exact k2 c1

theorem gX10_meets_120 (u : xU) (S i k col t n m : Nat) (q j : Nat) (v x : Int32) {Q : Option Value → xM → Prop} (hi : i < 6) (hk : k < 6) (hcol : col < 30) (ht : t < 8) (hn : n ≤ 500) (hm : m ≤ 500) (hq : q < 40) (hj : j ≤ 6) (hm2 : m < 500) (hcl : xC mX10_cell [.ref 172, .int (nI t), .int (nI q), .int (nI (col % 3))] (xmm u) (fun r μ' => r = some (.int (v)) ∧ μ' = xmm u)) (v1 : u.1 182 ((6 * m) + j) = x)
    (k1 : 6 ≤ j → xC mX10_areTrue [.ref 172, .int (nI (S))] (xmm (wi u 190 k (v))) (fun r μ1 => xE mX10_meets 176 [(0, .ref 172), (1, .int (nI (S))), (2, .int (nI (i))), (3, .int (nI (k))), (4, .int (nI (col))), (5, .int (nI (t))), (6, .int (nI (n))), (7, .int (nI (m))), (8, .int (nI (q)))] (r.toList ++ []) μ1 Q))
    (k2 : ¬ 6 ≤ j → xE mX10_meets 120 [(0, .ref 172), (1, .int (nI (S))), (2, .int (nI (i))), (3, .int (nI (k))), (4, .int (nI (col))), (5, .int (nI (t))), (6, .int (nI (n))), (7, .int (nI (m))), (8, .int (nI (q))), (9, .int (nI (j + 1)))] [] (xmm (wi u 190 j (x))) Q) : xE mX10_meets 120 [(0, .ref 172), (1, .int (nI (S))), (2, .int (nI (i))), (3, .int (nI (k))), (4, .int (nI (col))), (5, .int (nI (t))), (6, .int (nI (n))), (7, .int (nI (m))), (8, .int (nI (q))), (9, .int (nI (j)))] [] (xmm u) Q := by
  refine xe_iload 9 dX10_meets_120 rfl ?_
  refine xe_bipush (v := nI (6)) dX10_meets_122 xcb6 ?_
  refine xn_icmp_ge 153 dX10_meets_124 (by decide) (by omega) (by omega) (fun c1 => ?_) (fun c1 => ?_)
  · refine xe_aload_n 0 dX10_meets_153 rfl rfl ?_
    refine xr_getR (b := 190) dX10_meets_154 fX10_69 rfl sh172 (by decide) rfl ?_
    refine xe_iload_n 3 dX10_meets_157 rfl rfl ?_
    refine xe_aload_n 0 dX10_meets_158 rfl rfl ?_
    refine xe_iload 5 dX10_meets_159 rfl ?_
    refine xe_iload 8 dX10_meets_161 rfl ?_
    refine xe_iload 4 dX10_meets_163 rfl ?_
    refine xe_iconst (v := nI (3)) dX10_meets_165 xc3 ?_
    refine xn_irem dX10_meets_166 (by omega) (by omega) (by omega) ?_
    refine xe_callV (As := [.int (nI (t)), .int (nI (q)), .int (nI (col % 3))]) (rest := [.int (nI (k)), .ref 190]) dX10_meets_167 wX10_cell lX10_95 iX10_cell sX10_cell ⟨by decide, by decide⟩ sh172 rfl (xin_mm (by decide)) rfl rfl (by simp [Value.category]) (xC.pure (v := .int (v)) (hcl) ?_)
    refine xr_iast (k := k) dX10_meets_170 sh190 (by decide) (by omega) (by decide) ?_
    refine xe_aload_n 0 dX10_meets_171 rfl rfl ?_
    refine xe_iload_n 1 dX10_meets_172 rfl rfl ?_
    refine xE.sub [0, 1, 2, 3, 4, 5, 6, 7, 8] rfl ?_
    refine xe_callV (As := [.int (nI (S))]) (rest := []) dX10_meets_173 wX10_areTrue lX10_163 iX10_areTrue sX10_areTrue ⟨by decide, by decide⟩ sh172 rfl (xin_mm (by decide)) rfl rfl (by simp [Value.category]) ?_
    exact k1 c1
  · refine xe_aload_n 0 dX10_meets_127 rfl rfl ?_
    refine xr_getR (b := 190) dX10_meets_128 fX10_69 rfl sh172 (by decide) rfl ?_
    refine xe_iload 9 dX10_meets_131 rfl ?_
    refine xe_aload_n 0 dX10_meets_133 rfl rfl ?_
    refine xr_getR (b := 182) dX10_meets_134 fX10_37 rfl sh172 (by decide) rfl ?_
    refine xe_bipush (v := nI (6)) dX10_meets_137 xcb6 ?_
    refine xe_iload 7 dX10_meets_139 rfl ?_
    refine xn_imul dX10_meets_141 ?_
    refine xe_iload 9 dX10_meets_142 rfl ?_
    refine xn_iadd dX10_meets_144 ?_
    refine xr_iald (k := (6 * m) + j) (v := x) dX10_meets_145 sh182 (by decide) (by omega) (by decide) v1 ?_
    refine xr_iast (k := j) dX10_meets_146 sh190 (by decide) (by omega) (by decide) ?_
    refine xn_iinc (c := 1) (L2 := [(0, .ref 172), (1, .int (nI (S))), (2, .int (nI (i))), (3, .int (nI (k))), (4, .int (nI (col))), (5, .int (nI (t))), (6, .int (nI (n))), (7, .int (nI (m))), (8, .int (nI (q))), (9, .int (nI (j + 1)))]) 9 dX10_meets_147 rfl (by decide) rfl ?_
    refine xe_goto 120 dX10_meets_150 (by decide) ?_
    exact k2 c1

theorem gX10_meets_176 (u : xU) (S i k col t n m : Nat) (q : Nat) (b : Bool) {Q : Option Value → xM → Prop} (hi : i < 6) (hk : k < 6) (hcol : col < 30) (ht : t < 8) (hn : n ≤ 500) (hm : m ≤ 500) (hq : q < 40) 
    (k1 : b = true → ¬ n = 500 → xE mX10_meets 195 [(0, .ref 172), (1, .int (nI (S))), (2, .int (nI (i))), (3, .int (nI (k))), (4, .int (nI (col))), (5, .int (nI (t))), (6, .int (nI (n))), (7, .int (nI (m))), (8, .int (nI (q))), (9, .int (nI (0)))] [] (xmm u) Q)
    (k2 : b = true → n = 500 → Q (some (.int (nI (0)))) (xmm u))
    (k3 : ¬ (b = true) → xE mX10_meets 87 [(0, .ref 172), (1, .int (nI (S))), (2, .int (nI (i))), (3, .int (nI (k))), (4, .int (nI (col))), (5, .int (nI (t))), (6, .int (nI (n))), (7, .int (nI (m))), (8, .int (nI (q + 1)))] [] (xmm u) Q) : xE mX10_meets 176 [(0, .ref 172), (1, .int (nI (S))), (2, .int (nI (i))), (3, .int (nI (k))), (4, .int (nI (col))), (5, .int (nI (t))), (6, .int (nI (n))), (7, .int (nI (m))), (8, .int (nI (q)))] [.int (xb (b = true))] (xmm u) Q := by
  refine xb_if_ne 182 dX10_meets_176 (by decide) (fun c1 => ?_) (fun c1 => ?_)
  · refine xe_iload 6 dX10_meets_182 rfl ?_
    refine xe_sipush (v := nI (500)) dX10_meets_184 xcs500 ?_
    refine xn_icmp_ne 192 dX10_meets_187 (by decide) (by omega) (by omega) (fun c2 => ?_) (fun c2 => ?_)
    · refine xe_iconst (v := nI (0)) dX10_meets_192 xc0 ?_
      refine xe_istore (L2 := [(0, .ref 172), (1, .int (nI (S))), (2, .int (nI (i))), (3, .int (nI (k))), (4, .int (nI (col))), (5, .int (nI (t))), (6, .int (nI (n))), (7, .int (nI (m))), (8, .int (nI (q))), (9, .int (nI (0)))]) dX10_meets_193 (by decide) rfl ?_
      exact k1 c1 c2
    · refine xe_iconst (v := nI (0)) dX10_meets_190 xc0 ?_
      exact xe_ret (r := (some (.int (nI (0))))) dX10_meets_191 (Or.inl rfl) (k2 c1 c2)
  · refine xe_goto 231 dX10_meets_179 (by decide) ?_
    refine xn_iinc (c := 1) (L2 := [(0, .ref 172), (1, .int (nI (S))), (2, .int (nI (i))), (3, .int (nI (k))), (4, .int (nI (col))), (5, .int (nI (t))), (6, .int (nI (n))), (7, .int (nI (m))), (8, .int (nI (q + 1)))]) 8 dX10_meets_231 rfl (by decide) rfl ?_
    refine xe_goto 87 dX10_meets_234 (by decide) ?_
    exact k3 c1

theorem gX10_meets_195 (u : xU) (S i k col t n m : Nat) (q j : Nat) (x : Int32) {Q : Option Value → xM → Prop} (hi : i < 6) (hk : k < 6) (hcol : col < 30) (ht : t < 8) (hn : n ≤ 500) (hm : m ≤ 500) (hq : q < 40) (hj : j ≤ 6) (hn2 : n < 500) (v1 : u.1 190 j = x)
    (k1 : 6 ≤ j → xE mX10_meets 87 [(0, .ref 172), (1, .int (nI (S))), (2, .int (nI (i))), (3, .int (nI (k))), (4, .int (nI (col))), (5, .int (nI (t))), (6, .int (nI (n + 1))), (7, .int (nI (m))), (8, .int (nI (q + 1)))] [] (xmm u) Q)
    (k2 : ¬ 6 ≤ j → xE mX10_meets 195 [(0, .ref 172), (1, .int (nI (S))), (2, .int (nI (i))), (3, .int (nI (k))), (4, .int (nI (col))), (5, .int (nI (t))), (6, .int (nI (n))), (7, .int (nI (m))), (8, .int (nI (q))), (9, .int (nI (j + 1)))] [] (xmm (wi u 183 ((6 * n) + j) (x))) Q) : xE mX10_meets 195 [(0, .ref 172), (1, .int (nI (S))), (2, .int (nI (i))), (3, .int (nI (k))), (4, .int (nI (col))), (5, .int (nI (t))), (6, .int (nI (n))), (7, .int (nI (m))), (8, .int (nI (q))), (9, .int (nI (j)))] [] (xmm u) Q := by
  refine xe_iload 9 dX10_meets_195 rfl ?_
  refine xe_bipush (v := nI (6)) dX10_meets_197 xcb6 ?_
  refine xn_icmp_ge 228 dX10_meets_199 (by decide) (by omega) (by omega) (fun c1 => ?_) (fun c1 => ?_)
  · refine xn_iinc (c := 1) (L2 := [(0, .ref 172), (1, .int (nI (S))), (2, .int (nI (i))), (3, .int (nI (k))), (4, .int (nI (col))), (5, .int (nI (t))), (6, .int (nI (n + 1))), (7, .int (nI (m))), (8, .int (nI (q))), (9, .int (nI (j)))]) 6 dX10_meets_228 rfl (by decide) rfl ?_
    refine xn_iinc (c := 1) (L2 := [(0, .ref 172), (1, .int (nI (S))), (2, .int (nI (i))), (3, .int (nI (k))), (4, .int (nI (col))), (5, .int (nI (t))), (6, .int (nI (n + 1))), (7, .int (nI (m))), (8, .int (nI (q + 1))), (9, .int (nI (j)))]) 8 dX10_meets_231 rfl (by decide) rfl ?_
    refine xe_goto 87 dX10_meets_234 (by decide) ?_
    refine xE.sub [0, 1, 2, 3, 4, 5, 6, 7, 8] rfl ?_
    exact k1 c1
  · refine xe_aload_n 0 dX10_meets_202 rfl rfl ?_
    refine xr_getR (b := 183) dX10_meets_203 fX10_40 rfl sh172 (by decide) rfl ?_
    refine xe_bipush (v := nI (6)) dX10_meets_206 xcb6 ?_
    refine xe_iload 6 dX10_meets_208 rfl ?_
    refine xn_imul dX10_meets_210 ?_
    refine xe_iload 9 dX10_meets_211 rfl ?_
    refine xn_iadd dX10_meets_213 ?_
    refine xe_aload_n 0 dX10_meets_214 rfl rfl ?_
    refine xr_getR (b := 190) dX10_meets_215 fX10_69 rfl sh172 (by decide) rfl ?_
    refine xe_iload 9 dX10_meets_218 rfl ?_
    refine xr_iald (k := j) (v := x) dX10_meets_220 sh190 (by decide) (by omega) (by decide) v1 ?_
    refine xr_iast (k := (6 * n) + j) dX10_meets_221 sh183 (by decide) (by omega) (by decide) ?_
    refine xn_iinc (c := 1) (L2 := [(0, .ref 172), (1, .int (nI (S))), (2, .int (nI (i))), (3, .int (nI (k))), (4, .int (nI (col))), (5, .int (nI (t))), (6, .int (nI (n))), (7, .int (nI (m))), (8, .int (nI (q))), (9, .int (nI (j + 1)))]) 9 dX10_meets_222 rfl (by decide) rfl ?_
    refine xe_goto 195 dX10_meets_225 (by decide) ?_
    exact k2 c1

theorem gX10_meets_246 (u : xU) (S i n j : Nat) (x : Int32) {Q : Option Value → xM → Prop} (hi : i < 6) (hn : n ≤ 500) (hj : j ≤ 6 * n) (v1 : u.1 183 j = x)
    (k1 : (6 * n) ≤ j → xE mX10_meets 30 [(0, .ref 172), (1, .int (nI (S))), (2, .int (nI (i + 1)))] [] (xmm (wi (wi u 172 13 (nI (n))) 184 i (nI (n)))) Q)
    (k2 : ¬ (6 * n) ≤ j → xE mX10_meets 246 [(0, .ref 172), (1, .int (nI (S))), (2, .int (nI (i))), (6, .int (nI (n))), (7, .int (nI (j + 1)))] [] (xmm (wi u 182 j (x))) Q) : xE mX10_meets 246 [(0, .ref 172), (1, .int (nI (S))), (2, .int (nI (i))), (6, .int (nI (n))), (7, .int (nI (j)))] [] (xmm u) Q := by
  refine xe_iload 4 dX10_meets_246 rfl ?_
  refine xe_bipush (v := nI (6)) dX10_meets_248 xcb6 ?_
  refine xe_iload 3 dX10_meets_250 rfl ?_
  refine xn_imul dX10_meets_252 ?_
  refine xn_icmp_ge 276 dX10_meets_253 (by decide) (by omega) (by omega) (fun c1 => ?_) (fun c1 => ?_)
  · refine xe_aload_n 0 dX10_meets_276 rfl rfl ?_
    refine xe_iload 3 dX10_meets_277 rfl ?_
    refine xr_putI dX10_meets_279 fX10_153 sh172 (by decide) ?_
    refine xe_aload_n 0 dX10_meets_282 rfl rfl ?_
    refine xr_getR (b := 184) dX10_meets_283 fX10_43 rfl sh172 (by decide) rfl ?_
    refine xe_iload_n 2 dX10_meets_286 rfl rfl ?_
    refine xe_iload 3 dX10_meets_287 rfl ?_
    refine xr_iast (k := i) dX10_meets_289 sh184 (by decide) (by omega) (by decide) ?_
    refine xn_iinc (c := 1) (L2 := [(0, .ref 172), (1, .int (nI (S))), (2, .int (nI (i + 1))), (6, .int (nI (n))), (7, .int (nI (j)))]) 2 dX10_meets_290 rfl (by decide) rfl ?_
    refine xe_goto 30 dX10_meets_293 (by decide) ?_
    refine xE.sub [0, 1, 2] rfl ?_
    exact k1 c1
  · refine xe_aload_n 0 dX10_meets_256 rfl rfl ?_
    refine xr_getR (b := 182) dX10_meets_257 fX10_37 rfl sh172 (by decide) rfl ?_
    refine xe_iload 4 dX10_meets_260 rfl ?_
    refine xe_aload_n 0 dX10_meets_262 rfl rfl ?_
    refine xr_getR (b := 183) dX10_meets_263 fX10_40 rfl sh172 (by decide) rfl ?_
    refine xe_iload 4 dX10_meets_266 rfl ?_
    refine xr_iald (k := j) (v := x) dX10_meets_268 sh183 (by decide) (by omega) (by decide) v1 ?_
    refine xr_iast (k := j) dX10_meets_269 sh182 (by decide) (by omega) (by decide) ?_
    refine xn_iinc (c := 1) (L2 := [(0, .ref 172), (1, .int (nI (S))), (2, .int (nI (i))), (6, .int (nI (n))), (7, .int (nI (j + 1)))]) 4 dX10_meets_270 rfl (by decide) rfl ?_
    refine xe_goto 246 dX10_meets_273 (by decide) ?_
    exact k2 c1

