theorem gX10_isAmong_k_0 (u : xU) (i m n : Nat) {Q : Option Value → xM → Prop}  
    (k1 : xE mX10_isAmong 3 [(0, .ref 185), (1, .int (nI (i))), (2, .ref 189), (3, .int (nI (m))), (4, .int (nI (n))), (5, .int (nI (0)))] [] (xmm u) Q) : xE mX10_isAmong 0 [(0, .ref 185), (1, .int (nI (i))), (2, .ref 189), (3, .int (nI (m))), (4, .int (nI (n)))] [] (xmm u) Q := by
  refine xe_iconst (v := nI (0)) dX10_isAmong_0 xc0 ?_
  refine xe_istore (L2 := [(0, .ref 185), (1, .int (nI (i))), (2, .ref 189), (3, .int (nI (m))), (4, .int (nI (n))), (5, .int (nI (0)))]) dX10_isAmong_1 (by decide) rfl ?_
  exact k1

theorem gX10_isAmong_k_3 (u : xU) (i m n j : Nat) (d : Int32) {Q : Option Value → xM → Prop} (hm : m ≤ 500) (hj : j < m) (hag : xC mX10_against_ [.ref 185, .int (nI i), .ref 189, .int (nI j), .int (nI n)] (xmm u) (fun r μ' => r = some (.int d) ∧ μ' = xmm u)) 
    (k1 : m ≤ j → Q (some (.int (nI (0)))) (xmm u))
    (k2 : ¬ m ≤ j → ¬ d = 0 → xE mX10_isAmong 3 [(0, .ref 185), (1, .int (nI (i))), (2, .ref 189), (3, .int (nI (m))), (4, .int (nI (n))), (5, .int (nI (j + 1)))] [] (xmm u) Q)
    (k3 : ¬ m ≤ j → d = 0 → Q (some (.int (nI (1)))) (xmm u)) : xE mX10_isAmong 3 [(0, .ref 185), (1, .int (nI (i))), (2, .ref 189), (3, .int (nI (m))), (4, .int (nI (n))), (5, .int (nI (j)))] [] (xmm u) Q := by
  refine xe_iload 5 dX10_isAmong_3 rfl ?_
  refine xe_iload_n 3 dX10_isAmong_5 rfl rfl ?_
  refine xn_icmp_ge 30 dX10_isAmong_6 (by decide) (by omega) (by omega) (fun c1 => ?_) (fun c1 => ?_)
  · refine xe_iconst (v := nI (0)) dX10_isAmong_30 xc0 ?_
    exact xe_ret (r := (some (.int (nI (0))))) dX10_isAmong_31 (Or.inl rfl) (k1 c1)
  · refine xe_aload_n 0 dX10_isAmong_9 rfl rfl ?_
    refine xe_iload_n 1 dX10_isAmong_10 rfl rfl ?_
    refine xe_aload_n 2 dX10_isAmong_11 rfl rfl ?_
    refine xe_iload 5 dX10_isAmong_12 rfl ?_
    refine xe_iload 4 dX10_isAmong_14 rfl ?_
    refine xe_callS (As := [.ref 185, .int (nI (i)), .ref 189, .int (nI (j)), .int (nI (n))]) (rest := []) dX10_isAmong_16 wX10_against_ lX10_179 tX10_against_ ⟨by decide, by decide⟩ rfl rfl (by simp [Value.category]) (xC.pure (v := .int (d)) (hag) ?_)
    refine xe_if_ne 24 dX10_isAmong_19 (by decide) (fun c2 => ?_) (fun c2 => ?_)
    · refine xn_iinc (c := 1) (L2 := [(0, .ref 185), (1, .int (nI (i))), (2, .ref 189), (3, .int (nI (m))), (4, .int (nI (n))), (5, .int (nI (j + 1)))]) 5 dX10_isAmong_24 rfl (by decide) rfl ?_
      refine xe_goto 3 dX10_isAmong_27 (by decide) ?_
      exact k2 c1 c2
    · refine xe_iconst (v := nI (1)) dX10_isAmong_22 xc1 ?_
      exact xe_ret (r := (some (.int (nI (1))))) dX10_isAmong_23 (Or.inr rfl) (k3 c1 c2)

theorem gX10_isAmong_k_e (u : xU) (i m n j : Nat) {Q : Option Value → xM → Prop} (hm : m ≤ 500) (hj : j = m) 
    (k1 : m ≤ j → Q (some (.int (nI (0)))) (xmm u))
    (k2 : ¬ m ≤ j → xE mX10_isAmong 9 [(0, .ref 185), (1, .int (nI (i))), (2, .ref 189), (3, .int (nI (m))), (4, .int (nI (n))), (5, .int (nI (j)))] [] (xmm u) Q) : xE mX10_isAmong 3 [(0, .ref 185), (1, .int (nI (i))), (2, .ref 189), (3, .int (nI (m))), (4, .int (nI (n))), (5, .int (nI (j)))] [] (xmm u) Q := by
  refine xe_iload 5 dX10_isAmong_3 rfl ?_
  refine xe_iload_n 3 dX10_isAmong_5 rfl rfl ?_
  refine xn_icmp_ge 30 dX10_isAmong_6 (by decide) (by omega) (by omega) (fun c1 => ?_) (fun c1 => ?_)
  · refine xe_iconst (v := nI (0)) dX10_isAmong_30 xc0 ?_
    exact xe_ret (r := (some (.int (nI (0))))) dX10_isAmong_31 (Or.inl rfl) (k1 c1)
  · exact k2 c1

theorem gX10_isAmong_w_0 (u : xU) (i m n : Nat) {Q : Option Value → xM → Prop}  
    (k1 : xE mX10_isAmong 3 [(0, .ref 189), (1, .int (nI (i))), (2, .ref 185), (3, .int (nI (m))), (4, .int (nI (n))), (5, .int (nI (0)))] [] (xmm u) Q) : xE mX10_isAmong 0 [(0, .ref 189), (1, .int (nI (i))), (2, .ref 185), (3, .int (nI (m))), (4, .int (nI (n)))] [] (xmm u) Q := by
  refine xe_iconst (v := nI (0)) dX10_isAmong_0 xc0 ?_
  refine xe_istore (L2 := [(0, .ref 189), (1, .int (nI (i))), (2, .ref 185), (3, .int (nI (m))), (4, .int (nI (n))), (5, .int (nI (0)))]) dX10_isAmong_1 (by decide) rfl ?_
  exact k1

theorem gX10_isAmong_w_3 (u : xU) (i m n j : Nat) (d : Int32) {Q : Option Value → xM → Prop} (hm : m ≤ 500) (hj : j < m) (hag : xC mX10_against_ [.ref 189, .int (nI i), .ref 185, .int (nI j), .int (nI n)] (xmm u) (fun r μ' => r = some (.int d) ∧ μ' = xmm u)) 
    (k1 : m ≤ j → Q (some (.int (nI (0)))) (xmm u))
    (k2 : ¬ m ≤ j → ¬ d = 0 → xE mX10_isAmong 3 [(0, .ref 189), (1, .int (nI (i))), (2, .ref 185), (3, .int (nI (m))), (4, .int (nI (n))), (5, .int (nI (j + 1)))] [] (xmm u) Q)
    (k3 : ¬ m ≤ j → d = 0 → Q (some (.int (nI (1)))) (xmm u)) : xE mX10_isAmong 3 [(0, .ref 189), (1, .int (nI (i))), (2, .ref 185), (3, .int (nI (m))), (4, .int (nI (n))), (5, .int (nI (j)))] [] (xmm u) Q := by
  refine xe_iload 5 dX10_isAmong_3 rfl ?_
  refine xe_iload_n 3 dX10_isAmong_5 rfl rfl ?_
  refine xn_icmp_ge 30 dX10_isAmong_6 (by decide) (by omega) (by omega) (fun c1 => ?_) (fun c1 => ?_)
  · refine xe_iconst (v := nI (0)) dX10_isAmong_30 xc0 ?_
    exact xe_ret (r := (some (.int (nI (0))))) dX10_isAmong_31 (Or.inl rfl) (k1 c1)
  · refine xe_aload_n 0 dX10_isAmong_9 rfl rfl ?_
    refine xe_iload_n 1 dX10_isAmong_10 rfl rfl ?_
    refine xe_aload_n 2 dX10_isAmong_11 rfl rfl ?_
    refine xe_iload 5 dX10_isAmong_12 rfl ?_
    refine xe_iload 4 dX10_isAmong_14 rfl ?_
    refine xe_callS (As := [.ref 189, .int (nI (i)), .ref 185, .int (nI (j)), .int (nI (n))]) (rest := []) dX10_isAmong_16 wX10_against_ lX10_179 tX10_against_ ⟨by decide, by decide⟩ rfl rfl (by simp [Value.category]) (xC.pure (v := .int (d)) (hag) ?_)
    refine xe_if_ne 24 dX10_isAmong_19 (by decide) (fun c2 => ?_) (fun c2 => ?_)
    · refine xn_iinc (c := 1) (L2 := [(0, .ref 189), (1, .int (nI (i))), (2, .ref 185), (3, .int (nI (m))), (4, .int (nI (n))), (5, .int (nI (j + 1)))]) 5 dX10_isAmong_24 rfl (by decide) rfl ?_
      refine xe_goto 3 dX10_isAmong_27 (by decide) ?_
      exact k2 c1 c2
    · refine xe_iconst (v := nI (1)) dX10_isAmong_22 xc1 ?_
      exact xe_ret (r := (some (.int (nI (1))))) dX10_isAmong_23 (Or.inr rfl) (k3 c1 c2)

theorem gX10_isAmong_w_e (u : xU) (i m n j : Nat) {Q : Option Value → xM → Prop} (hm : m ≤ 500) (hj : j = m) 
    (k1 : m ≤ j → Q (some (.int (nI (0)))) (xmm u))
    (k2 : ¬ m ≤ j → xE mX10_isAmong 9 [(0, .ref 189), (1, .int (nI (i))), (2, .ref 185), (3, .int (nI (m))), (4, .int (nI (n))), (5, .int (nI (j)))] [] (xmm u) Q) : xE mX10_isAmong 3 [(0, .ref 189), (1, .int (nI (i))), (2, .ref 185), (3, .int (nI (m))), (4, .int (nI (n))), (5, .int (nI (j)))] [] (xmm u) Q := by
  refine xe_iload 5 dX10_isAmong_3 rfl ?_
  refine xe_iload_n 3 dX10_isAmong_5 rfl rfl ?_
  refine xn_icmp_ge 30 dX10_isAmong_6 (by decide) (by omega) (by omega) (fun c1 => ?_) (fun c1 => ?_)
  · refine xe_iconst (v := nI (0)) dX10_isAmong_30 xc0 ?_
    exact xe_ret (r := (some (.int (nI (0))))) dX10_isAmong_31 (Or.inl rfl) (k1 c1)
  · exact k2 c1

theorem gX10_differs_0 (u : xU) (wm km kn : Nat) (i : Int32) {Q : Option Value → xM → Prop}  (v1 : u.1 172 16 = nI (wm)) (v2 : u.1 172 23 = nI (km)) (v3 : u.1 172 22 = nI (kn))
    (k1 : xE mX10_differs 22 [(0, .ref 172), (1, .int (nI (0))), (2, .int (i)), (3, .int (nI (0))), (4, .int (nI (wm))), (5, .int (nI (0)))] [] (xmm u) Q) : xE mX10_differs 0 [(0, .ref 172), (1, .int (nI (0))), (2, .int (i))] [] (xmm u) Q := by
  refine xe_iconst (v := nI (0)) dX10_differs_0 xc0 ?_
  refine xe_istore_n (L2 := [(0, .ref 172), (1, .int (nI (0))), (2, .int (i)), (3, .int (nI (0)))]) dX10_differs_1 rfl (by decide) rfl ?_
  refine xe_iload_n 1 dX10_differs_2 rfl rfl ?_
  refine xn_if_ne 13 dX10_differs_3 (by decide) (by omega) (fun q => absurd q (by decide)) (fun _ => ?_)
  refine xe_aload_n 0 dX10_differs_6 rfl rfl ?_
  refine xr_getI (v := nI (wm)) dX10_differs_7 fX10_46 sh172 (by decide) v1 ?_
  refine xe_goto 17 dX10_differs_10 (by decide) ?_
  refine xe_istore (L2 := [(0, .ref 172), (1, .int (nI (0))), (2, .int (i)), (3, .int (nI (0))), (4, .int (nI (wm)))]) dX10_differs_17 (by decide) rfl ?_
  refine xe_iconst (v := nI (0)) dX10_differs_19 xc0 ?_
  refine xe_istore (L2 := [(0, .ref 172), (1, .int (nI (0))), (2, .int (i)), (3, .int (nI (0))), (4, .int (nI (wm))), (5, .int (nI (0)))]) dX10_differs_20 (by decide) rfl ?_
  exact k1

theorem gX10_differs_22_0 (u : xU) (wm km kn c all m : Nat) (i : Int32) (b : Bool) {Q : Option Value → xM → Prop} (hall : all ≤ 500) (hm : m < all) (ham : xC mX10_isAmong [.ref 185, .int (nI m), .ref 189, .int (nI km), .int (nI kn)] (xmm u) (fun r μ' => r = some (.int (xb (b = true))) ∧ μ' = xmm u)) (v1 : u.1 172 16 = nI (wm)) (v2 : u.1 172 23 = nI (km)) (v3 : u.1 172 22 = nI (kn))
    (k1 : all ≤ m → ¬ i = (-1) → Q (some (.int (-1))) (xmm u))
    (k2 : all ≤ m → i = (-1) → Q (some (.int (nI (c)))) (xmm u))
    (k3 : ¬ all ≤ m → ¬ (b = true) → ¬ (nI (c)) = i → xE mX10_differs 22 [(0, .ref 172), (1, .int (nI (0))), (2, .int (i)), (3, .int (nI (c + 1))), (4, .int (nI (all))), (5, .int (nI (m + 1)))] [] (xmm u) Q)
    (k4 : ¬ all ≤ m → ¬ (b = true) → (nI (c)) = i → Q (some (.int (nI (m)))) (xmm u))
    (k5 : ¬ all ≤ m → b = true → xE mX10_differs 22 [(0, .ref 172), (1, .int (nI (0))), (2, .int (i)), (3, .int (nI (c))), (4, .int (nI (all))), (5, .int (nI (m + 1)))] [] (xmm u) Q) : xE mX10_differs 22 [(0, .ref 172), (1, .int (nI (0))), (2, .int (i)), (3, .int (nI (c))), (4, .int (nI (all))), (5, .int (nI (m)))] [] (xmm u) Q := by
  refine xe_iload 5 dX10_differs_22 rfl ?_
  refine xe_iload 4 dX10_differs_24 rfl ?_
  refine xn_icmp_ge 104 dX10_differs_26 (by decide) (by omega) (by omega) (fun c1 => ?_) (fun c1 => ?_)
  · refine xe_iload_n 2 dX10_differs_104 rfl rfl ?_
    refine xe_iconst (v := -1) dX10_differs_105 xcm1 ?_
    refine xe_icmp_ne 113 dX10_differs_106 (by decide) (fun c2 => ?_) (fun c2 => ?_)
    · refine xe_iconst (v := -1) dX10_differs_113 xcm1 ?_
      exact xe_ret (r := (some (.int (-1)))) dX10_differs_114 trivial (k1 c1 c2)
    · refine xe_iload_n 3 dX10_differs_109 rfl rfl ?_
      refine xe_goto 114 dX10_differs_110 (by decide) ?_
      exact xe_ret (r := (some (.int (nI (c))))) dX10_differs_114 trivial (k2 c1 c2)
  · refine xe_iload_n 1 dX10_differs_29 rfl rfl ?_
    refine xn_if_ne 60 dX10_differs_30 (by decide) (by omega) (fun q => absurd q (by decide)) (fun _ => ?_)
    refine xe_aload_n 0 dX10_differs_33 rfl rfl ?_
    refine xr_getR (b := 185) dX10_differs_34 fX10_50 rfl sh172 (by decide) rfl ?_
    refine xe_iload 5 dX10_differs_37 rfl ?_
    refine xe_aload_n 0 dX10_differs_39 rfl rfl ?_
    refine xr_getR (b := 189) dX10_differs_40 fX10_66 rfl sh172 (by decide) rfl ?_
    refine xe_aload_n 0 dX10_differs_43 rfl rfl ?_
    refine xr_getI (v := nI (km)) dX10_differs_44 fX10_63 sh172 (by decide) v2 ?_
    refine xe_aload_n 0 dX10_differs_47 rfl rfl ?_
    refine xr_getI (v := nI (kn)) dX10_differs_48 fX10_188 sh172 (by decide) v3 ?_
    refine xe_callS (As := [.ref 185, .int (nI (m)), .ref 189, .int (nI (km)), .int (nI (kn))]) (rest := []) dX10_differs_51 wX10_isAmong lX10_191 tX10_isAmong ⟨by decide, by decide⟩ rfl rfl (by simp [Value.category]) (xC.pure (v := .int (xb (b = true))) (ham) ?_)
    refine xb_if_eq 87 dX10_differs_54 (by decide) (fun c3 => ?_) (fun c3 => ?_)
    · refine xe_iload_n 3 dX10_differs_87 rfl rfl ?_
      refine xe_iload_n 2 dX10_differs_88 rfl rfl ?_
      refine xe_icmp_ne 95 dX10_differs_89 (by decide) (fun c4 => ?_) (fun c4 => ?_)
      · refine xn_iinc (c := 1) (L2 := [(0, .ref 172), (1, .int (nI (0))), (2, .int (i)), (3, .int (nI (c + 1))), (4, .int (nI (all))), (5, .int (nI (m)))]) 3 dX10_differs_95 rfl (by decide) rfl ?_
        refine xn_iinc (c := 1) (L2 := [(0, .ref 172), (1, .int (nI (0))), (2, .int (i)), (3, .int (nI (c + 1))), (4, .int (nI (all))), (5, .int (nI (m + 1)))]) 5 dX10_differs_98 rfl (by decide) rfl ?_
        refine xe_goto 22 dX10_differs_101 (by decide) ?_
        exact k3 c1 c3 c4
      · refine xe_iload 5 dX10_differs_92 rfl ?_
        exact xe_ret (r := (some (.int (nI (m))))) dX10_differs_94 trivial (k4 c1 c3 c4)
    · refine xe_goto 98 dX10_differs_57 (by decide) ?_
      refine xn_iinc (c := 1) (L2 := [(0, .ref 172), (1, .int (nI (0))), (2, .int (i)), (3, .int (nI (c))), (4, .int (nI (all))), (5, .int (nI (m + 1)))]) 5 dX10_differs_98 rfl (by decide) rfl ?_
      refine xe_goto 22 dX10_differs_101 (by decide) ?_
      exact k5 c1 c3

theorem gX10_differs_e_0 (u : xU) (c all m : Nat) (i : Int32) {Q : Option Value → xM → Prop} (hall : all ≤ 500) (hm : m = all) 
    (k1 : all ≤ m → ¬ i = (-1) → Q (some (.int (-1))) (xmm u))
    (k2 : all ≤ m → i = (-1) → Q (some (.int (nI (c)))) (xmm u))
    (k3 : ¬ all ≤ m → xE mX10_differs 29 [(0, .ref 172), (1, .int (nI (0))), (2, .int (i)), (3, .int (nI (c))), (4, .int (nI (all))), (5, .int (nI (m)))] [] (xmm u) Q) : xE mX10_differs 22 [(0, .ref 172), (1, .int (nI (0))), (2, .int (i)), (3, .int (nI (c))), (4, .int (nI (all))), (5, .int (nI (m)))] [] (xmm u) Q := by
  refine xe_iload 5 dX10_differs_22 rfl ?_
  refine xe_iload 4 dX10_differs_24 rfl ?_
  refine xn_icmp_ge 104 dX10_differs_26 (by decide) (by omega) (by omega) (fun c1 => ?_) (fun c1 => ?_)
  · refine xe_iload_n 2 dX10_differs_104 rfl rfl ?_
    refine xe_iconst (v := -1) dX10_differs_105 xcm1 ?_
    refine xe_icmp_ne 113 dX10_differs_106 (by decide) (fun c2 => ?_) (fun c2 => ?_)
    · refine xe_iconst (v := -1) dX10_differs_113 xcm1 ?_
      exact xe_ret (r := (some (.int (-1)))) dX10_differs_114 trivial (k1 c1 c2)
    · refine xe_iload_n 3 dX10_differs_109 rfl rfl ?_
      refine xe_goto 114 dX10_differs_110 (by decide) ?_
      exact xe_ret (r := (some (.int (nI (c))))) dX10_differs_114 trivial (k2 c1 c2)
  · exact k3 c1

theorem gX10_differs_1 (u : xU) (wm km kn : Nat) (i : Int32) {Q : Option Value → xM → Prop}  (v1 : u.1 172 16 = nI (wm)) (v2 : u.1 172 23 = nI (km)) (v3 : u.1 172 22 = nI (kn))
    (k1 : xE mX10_differs 22 [(0, .ref 172), (1, .int (nI (1))), (2, .int (i)), (3, .int (nI (0))), (4, .int (nI (km))), (5, .int (nI (0)))] [] (xmm u) Q) : xE mX10_differs 0 [(0, .ref 172), (1, .int (nI (1))), (2, .int (i))] [] (xmm u) Q := by
  refine xe_iconst (v := nI (0)) dX10_differs_0 xc0 ?_
  refine xe_istore_n (L2 := [(0, .ref 172), (1, .int (nI (1))), (2, .int (i)), (3, .int (nI (0)))]) dX10_differs_1 rfl (by decide) rfl ?_
  refine xe_iload_n 1 dX10_differs_2 rfl rfl ?_
  refine xn_if_ne 13 dX10_differs_3 (by decide) (by omega) (fun _ => ?_) (fun q => absurd q (by decide))
  refine xe_aload_n 0 dX10_differs_13 rfl rfl ?_
  refine xr_getI (v := nI (km)) dX10_differs_14 fX10_63 sh172 (by decide) v2 ?_
  refine xe_istore (L2 := [(0, .ref 172), (1, .int (nI (1))), (2, .int (i)), (3, .int (nI (0))), (4, .int (nI (km)))]) dX10_differs_17 (by decide) rfl ?_
  refine xe_iconst (v := nI (0)) dX10_differs_19 xc0 ?_
  refine xe_istore (L2 := [(0, .ref 172), (1, .int (nI (1))), (2, .int (i)), (3, .int (nI (0))), (4, .int (nI (km))), (5, .int (nI (0)))]) dX10_differs_20 (by decide) rfl ?_
  exact k1

theorem gX10_differs_22_1 (u : xU) (wm km kn c all m : Nat) (i : Int32) (b : Bool) {Q : Option Value → xM → Prop} (hall : all ≤ 500) (hm : m < all) (ham : xC mX10_isAmong [.ref 189, .int (nI m), .ref 185, .int (nI wm), .int (nI kn)] (xmm u) (fun r μ' => r = some (.int (xb (b = true))) ∧ μ' = xmm u)) (v1 : u.1 172 16 = nI (wm)) (v2 : u.1 172 23 = nI (km)) (v3 : u.1 172 22 = nI (kn))
    (k1 : all ≤ m → ¬ i = (-1) → Q (some (.int (-1))) (xmm u))
    (k2 : all ≤ m → i = (-1) → Q (some (.int (nI (c)))) (xmm u))
    (k3 : ¬ all ≤ m → ¬ (b = true) → ¬ (nI (c)) = i → xE mX10_differs 22 [(0, .ref 172), (1, .int (nI (1))), (2, .int (i)), (3, .int (nI (c + 1))), (4, .int (nI (all))), (5, .int (nI (m + 1)))] [] (xmm u) Q)
    (k4 : ¬ all ≤ m → ¬ (b = true) → (nI (c)) = i → Q (some (.int (nI (m)))) (xmm u))
    (k5 : ¬ all ≤ m → b = true → xE mX10_differs 22 [(0, .ref 172), (1, .int (nI (1))), (2, .int (i)), (3, .int (nI (c))), (4, .int (nI (all))), (5, .int (nI (m + 1)))] [] (xmm u) Q) : xE mX10_differs 22 [(0, .ref 172), (1, .int (nI (1))), (2, .int (i)), (3, .int (nI (c))), (4, .int (nI (all))), (5, .int (nI (m)))] [] (xmm u) Q := by
  refine xe_iload 5 dX10_differs_22 rfl ?_
  refine xe_iload 4 dX10_differs_24 rfl ?_
  refine xn_icmp_ge 104 dX10_differs_26 (by decide) (by omega) (by omega) (fun c1 => ?_) (fun c1 => ?_)
  · refine xe_iload_n 2 dX10_differs_104 rfl rfl ?_
    refine xe_iconst (v := -1) dX10_differs_105 xcm1 ?_
    refine xe_icmp_ne 113 dX10_differs_106 (by decide) (fun c2 => ?_) (fun c2 => ?_)
    · refine xe_iconst (v := -1) dX10_differs_113 xcm1 ?_
      exact xe_ret (r := (some (.int (-1)))) dX10_differs_114 trivial (k1 c1 c2)
    · refine xe_iload_n 3 dX10_differs_109 rfl rfl ?_
      refine xe_goto 114 dX10_differs_110 (by decide) ?_
      exact xe_ret (r := (some (.int (nI (c))))) dX10_differs_114 trivial (k2 c1 c2)
  · refine xe_iload_n 1 dX10_differs_29 rfl rfl ?_
    refine xn_if_ne 60 dX10_differs_30 (by decide) (by omega) (fun _ => ?_) (fun q => absurd q (by decide))
    refine xe_aload_n 0 dX10_differs_60 rfl rfl ?_
    refine xr_getR (b := 189) dX10_differs_61 fX10_66 rfl sh172 (by decide) rfl ?_
    refine xe_iload 5 dX10_differs_64 rfl ?_
    refine xe_aload_n 0 dX10_differs_66 rfl rfl ?_
    refine xr_getR (b := 185) dX10_differs_67 fX10_50 rfl sh172 (by decide) rfl ?_
    refine xe_aload_n 0 dX10_differs_70 rfl rfl ?_
    refine xr_getI (v := nI (wm)) dX10_differs_71 fX10_46 sh172 (by decide) v1 ?_
    refine xe_aload_n 0 dX10_differs_74 rfl rfl ?_
    refine xr_getI (v := nI (kn)) dX10_differs_75 fX10_188 sh172 (by decide) v3 ?_
    refine xe_callS (As := [.ref 189, .int (nI (m)), .ref 185, .int (nI (wm)), .int (nI (kn))]) (rest := []) dX10_differs_78 wX10_isAmong lX10_191 tX10_isAmong ⟨by decide, by decide⟩ rfl rfl (by simp [Value.category]) (xC.pure (v := .int (xb (b = true))) (ham) ?_)
    refine xb_if_eq 87 dX10_differs_81 (by decide) (fun c3 => ?_) (fun c3 => ?_)
    · refine xe_iload_n 3 dX10_differs_87 rfl rfl ?_
      refine xe_iload_n 2 dX10_differs_88 rfl rfl ?_
      refine xe_icmp_ne 95 dX10_differs_89 (by decide) (fun c4 => ?_) (fun c4 => ?_)
      · refine xn_iinc (c := 1) (L2 := [(0, .ref 172), (1, .int (nI (1))), (2, .int (i)), (3, .int (nI (c + 1))), (4, .int (nI (all))), (5, .int (nI (m)))]) 3 dX10_differs_95 rfl (by decide) rfl ?_
        refine xn_iinc (c := 1) (L2 := [(0, .ref 172), (1, .int (nI (1))), (2, .int (i)), (3, .int (nI (c + 1))), (4, .int (nI (all))), (5, .int (nI (m + 1)))]) 5 dX10_differs_98 rfl (by decide) rfl ?_
        refine xe_goto 22 dX10_differs_101 (by decide) ?_
        exact k3 c1 c3 c4
      · refine xe_iload 5 dX10_differs_92 rfl ?_
        exact xe_ret (r := (some (.int (nI (m))))) dX10_differs_94 trivial (k4 c1 c3 c4)
    · refine xe_goto 98 dX10_differs_84 (by decide) ?_
      refine xn_iinc (c := 1) (L2 := [(0, .ref 172), (1, .int (nI (1))), (2, .int (i)), (3, .int (nI (c))), (4, .int (nI (all))), (5, .int (nI (m + 1)))]) 5 dX10_differs_98 rfl (by decide) rfl ?_
      refine xe_goto 22 dX10_differs_101 (by decide) ?_
      exact k5 c1 c3

theorem gX10_differs_e_1 (u : xU) (c all m : Nat) (i : Int32) {Q : Option Value → xM → Prop} (hall : all ≤ 500) (hm : m = all) 
    (k1 : all ≤ m → ¬ i = (-1) → Q (some (.int (-1))) (xmm u))
    (k2 : all ≤ m → i = (-1) → Q (some (.int (nI (c)))) (xmm u))
    (k3 : ¬ all ≤ m → xE mX10_differs 29 [(0, .ref 172), (1, .int (nI (1))), (2, .int (i)), (3, .int (nI (c))), (4, .int (nI (all))), (5, .int (nI (m)))] [] (xmm u) Q) : xE mX10_differs 22 [(0, .ref 172), (1, .int (nI (1))), (2, .int (i)), (3, .int (nI (c))), (4, .int (nI (all))), (5, .int (nI (m)))] [] (xmm u) Q := by
  refine xe_iload 5 dX10_differs_22 rfl ?_
  refine xe_iload 4 dX10_differs_24 rfl ?_
  refine xn_icmp_ge 104 dX10_differs_26 (by decide) (by omega) (by omega) (fun c1 => ?_) (fun c1 => ?_)
  · refine xe_iload_n 2 dX10_differs_104 rfl rfl ?_
    refine xe_iconst (v := -1) dX10_differs_105 xcm1 ?_
    refine xe_icmp_ne 113 dX10_differs_106 (by decide) (fun c2 => ?_) (fun c2 => ?_)
    · refine xe_iconst (v := -1) dX10_differs_113 xcm1 ?_
      exact xe_ret (r := (some (.int (-1)))) dX10_differs_114 trivial (k1 c1 c2)
    · refine xe_iload_n 3 dX10_differs_109 rfl rfl ?_
      refine xe_goto 114 dX10_differs_110 (by decide) ?_
      exact xe_ret (r := (some (.int (nI (c))))) dX10_differs_114 trivial (k2 c1 c2)
  · exact k3 c1

theorem gX10_differ_0 (u : xU) (zk w : Int32) (kn wn : Nat) {Q : Option Value → xM → Prop} (hkn : kn ≤ 6) (hwn : wn ≤ 6) (v1 : u.1 172 23 = zk) (v2 : u.1 172 22 = nI (kn)) (v3 : u.1 172 15 = nI (wn))
    (k1 : zk = (-1) → Q (some (.int (nI (0)))) (xmm u))
    (k2 : ¬ zk = (-1) → ¬ kn = wn → Q (some (.int (nI (0)))) (xmm u))
    (k3 : ¬ zk = (-1) → kn = wn → ¬ (0 ≤ w ∧ w ≤ 1) → Q (some (.int (nI (0)))) (xmm u))
    (k4 : ¬ zk = (-1) → kn = wn → 0 ≤ w ∧ w ≤ 1 → Q (some (.int (nI (1)))) (xmm u)) : xE mX10_differ 0 [(0, .ref 172), (1, .int (w))] [] (xmm u) Q := by
  refine xe_aload_n 0 dX10_differ_0 rfl rfl ?_
  refine xr_getI (v := zk) dX10_differ_1 fX10_63 sh172 (by decide) v1 ?_
  refine xe_iconst (v := -1) dX10_differ_4 xcm1 ?_
  refine xe_icmp_eq 32 dX10_differ_5 (by decide) (fun c1 => ?_) (fun c1 => ?_)
  · refine xe_iconst (v := nI (0)) dX10_differ_32 xc0 ?_
    exact xe_ret (r := (some (.int (nI (0))))) dX10_differ_33 (Or.inl rfl) (k1 c1)
  · refine xe_aload_n 0 dX10_differ_8 rfl rfl ?_
    refine xr_getI (v := nI (kn)) dX10_differ_9 fX10_188 sh172 (by decide) v2 ?_
    refine xe_aload_n 0 dX10_differ_12 rfl rfl ?_
    refine xr_getI (v := nI (wn)) dX10_differ_13 fX10_173 sh172 (by decide) v3 ?_
    refine xn_icmp_ne 32 dX10_differ_16 (by decide) (by omega) (by omega) (fun c2 => ?_) (fun c2 => ?_)
    · refine xe_iconst (v := nI (0)) dX10_differ_32 xc0 ?_
      exact xe_ret (r := (some (.int (nI (0))))) dX10_differ_33 (Or.inl rfl) (k2 c1 c2)
    · refine xe_iload_n 1 dX10_differ_19 rfl rfl ?_
      refine xe_iconst (v := nI (0)) dX10_differ_20 xc0 ?_
      refine xe_iconst (v := nI (1)) dX10_differ_21 xc1 ?_
      refine xe_callS (As := [.int (w), .int (nI (0)), .int (nI (1))]) (rest := []) dX10_differ_22 wX10_lies lX10_88 tX10_lies ⟨by decide, by decide⟩ rfl rfl (by simp [Value.category]) (xC.pure (v := .int (xb (0 ≤ w ∧ w ≤ 1))) (qX10_lies u w (nI (0)) (nI (1))) ?_)
      refine xb_if_eq 32 dX10_differ_25 (by decide) (fun c3 => ?_) (fun c3 => ?_)
      · refine xe_iconst (v := nI (0)) dX10_differ_32 xc0 ?_
        exact xe_ret (r := (some (.int (nI (0))))) dX10_differ_33 (Or.inl rfl) (k3 c1 c2 c3)
      · refine xe_iconst (v := nI (1)) dX10_differ_28 xc1 ?_
        refine xe_goto 33 dX10_differ_29 (by decide) ?_
        exact xe_ret (r := (some (.int (nI (1))))) dX10_differ_33 (Or.inr rfl) (k4 c1 c2 c3)

theorem gX10_delta_f (u : xU) (w : Int32) {Q : Option Value → xM → Prop} (hdf : xC mX10_differ [.ref 172, .int w] (xmm u) (fun r μ' => r = some (.int (xb (False))) ∧ μ' = xmm u)) 
    (k1 : ¬ False → Q (some (.int (-1))) (xmm u))
    (k2 : False → xC mX10_differs [.ref 172, .int (w), .int (-1)] (xmm u) (fun r μ1 => xE mX10_delta 14 [] (r.toList ++ []) μ1 Q)) : xE mX10_delta 0 [(0, .ref 172), (1, .int (w))] [] (xmm u) Q := by
  refine xe_aload_n 0 dX10_delta_0 rfl rfl ?_
  refine xe_iload_n 1 dX10_delta_1 rfl rfl ?_
  refine xe_callV (As := [.int (w)]) (rest := []) dX10_delta_2 wX10_differ lX10_195 iX10_differ sX10_differ ⟨by decide, by decide⟩ sh172 rfl (xin_mm (by decide)) rfl rfl (by simp [Value.category]) (xC.pure (v := .int (xb (False))) (hdf) ?_)
  refine xb_if_eq 17 dX10_delta_5 (by decide) (fun c1 => ?_) (fun c1 => ?_)
  · refine xe_iconst (v := -1) dX10_delta_17 xcm1 ?_
    exact xe_ret (r := (some (.int (-1)))) dX10_delta_18 trivial (k1 c1)
  · refine xe_aload_n 0 dX10_delta_8 rfl rfl ?_
    refine xe_iload_n 1 dX10_delta_9 rfl rfl ?_
    refine xe_iconst (v := -1) dX10_delta_10 xcm1 ?_
    refine xE.sub [] rfl ?_
    refine xe_callV (As := [.int (w), .int (-1)]) (rest := []) dX10_delta_11 wX10_differs lX10_198 iX10_differs sX10_differs ⟨by decide, by decide⟩ sh172 rfl (xin_mm (by decide)) rfl rfl (by simp [Value.category]) ?_
    exact k2 c1

theorem gX10_delta_t (u : xU) (w d : Int32) {Q : Option Value → xM → Prop} (hdf : xC mX10_differ [.ref 172, .int w] (xmm u) (fun r μ' => r = some (.int (xb (True))) ∧ μ' = xmm u)) (hdi : xC mX10_differs [.ref 172, .int w, .int (-1)] (xmm u) (fun r μ' => r = some (.int d) ∧ μ' = xmm u)) 
    (k1 : ¬ True → Q (some (.int (-1))) (xmm u))
    (k2 : True → Q (some (.int (d))) (xmm u)) : xE mX10_delta 0 [(0, .ref 172), (1, .int (w))] [] (xmm u) Q := by
  refine xe_aload_n 0 dX10_delta_0 rfl rfl ?_
  refine xe_iload_n 1 dX10_delta_1 rfl rfl ?_
  refine xe_callV (As := [.int (w)]) (rest := []) dX10_delta_2 wX10_differ lX10_195 iX10_differ sX10_differ ⟨by decide, by decide⟩ sh172 rfl (xin_mm (by decide)) rfl rfl (by simp [Value.category]) (xC.pure (v := .int (xb (True))) (hdf) ?_)
  refine xb_if_eq 17 dX10_delta_5 (by decide) (fun c1 => ?_) (fun c1 => ?_)
  · refine xe_iconst (v := -1) dX10_delta_17 xcm1 ?_
    exact xe_ret (r := (some (.int (-1)))) dX10_delta_18 trivial (k1 c1)
  · refine xe_aload_n 0 dX10_delta_8 rfl rfl ?_
    refine xe_iload_n 1 dX10_delta_9 rfl rfl ?_
    refine xe_iconst (v := -1) dX10_delta_10 xcm1 ?_
    refine xe_callV (As := [.int (w), .int (-1)]) (rest := []) dX10_delta_11 wX10_differs lX10_198 iX10_differs sX10_differs ⟨by decide, by decide⟩ sh172 rfl (xin_mm (by decide)) rfl rfl (by simp [Value.category]) (xC.pure (v := .int (d)) (hdi) ?_)
    refine xe_goto 18 dX10_delta_14 (by decide) ?_
    exact xe_ret (r := (some (.int (d)))) dX10_delta_18 trivial (k2 c1)

theorem gX10_change_0 (u : xU) (w i k : Int32) (bd b : Bool) {Q : Option Value → xM → Prop} (hdf : xC mX10_differ [.ref 172, .int w] (xmm u) (fun r μ' => r = some (.int (xb (bd = true))) ∧ μ' = xmm u)) (hin : xC mX10_isName [.ref 172, .int k] (xmm u) (fun r μ' => r = some (.int (xb (b = true))) ∧ μ' = xmm u)) 
    (k1 : ¬ (bd = true) → Q (some (.int (nI (0)))) (xmm u))
    (k2 : bd = true → i < 0 → Q (some (.int (nI (0)))) (xmm u))
    (k3 : bd = true → ¬ i < 0 → b = true → xE mX10_change 22 [(0, .ref 172), (1, .int (w)), (2, .int (i)), (3, .int (k))] [] (xmm u) Q)
    (k4 : bd = true → ¬ i < 0 → ¬ (b = true) → Q (some (.int (nI (0)))) (xmm u)) : xE mX10_change 0 [(0, .ref 172), (1, .int (w)), (2, .int (i)), (3, .int (k))] [] (xmm u) Q := by
  refine xe_aload_n 0 dX10_change_0 rfl rfl ?_
  refine xe_iload_n 1 dX10_change_1 rfl rfl ?_
  refine xe_callV (As := [.int (w)]) (rest := []) dX10_change_2 wX10_differ lX10_195 iX10_differ sX10_differ ⟨by decide, by decide⟩ sh172 rfl (xin_mm (by decide)) rfl rfl (by simp [Value.category]) (xC.pure (v := .int (xb (bd = true))) (hdf) ?_)
  refine xb_if_eq 20 dX10_change_5 (by decide) (fun c1 => ?_) (fun c1 => ?_)
  · refine xe_iconst (v := nI (0)) dX10_change_20 xc0 ?_
    exact xe_ret (r := (some (.int (nI (0))))) dX10_change_21 trivial (k1 c1)
  · refine xe_iload_n 2 dX10_change_8 rfl rfl ?_
    refine xe_if_lt 20 dX10_change_9 (by decide) (fun c2 => ?_) (fun c2 => ?_)
    · refine xe_iconst (v := nI (0)) dX10_change_20 xc0 ?_
      exact xe_ret (r := (some (.int (nI (0))))) dX10_change_21 trivial (k2 c1 c2)
    · refine xe_aload_n 0 dX10_change_12 rfl rfl ?_
      refine xe_iload_n 3 dX10_change_13 rfl rfl ?_
      refine xe_callV (As := [.int (k)]) (rest := []) dX10_change_14 wX10_isName lX10_182 iX10_isName sX10_isName ⟨by decide, by decide⟩ sh172 rfl (xin_mm (by decide)) rfl rfl (by simp [Value.category]) (xC.pure (v := .int (xb (b = true))) (hin) ?_)
      refine xb_if_ne 22 dX10_change_17 (by decide) (fun c3 => ?_) (fun c3 => ?_)
      · exact k3 c1 c2 c3
      · refine xe_iconst (v := nI (0)) dX10_change_20 xc0 ?_
        exact xe_ret (r := (some (.int (nI (0))))) dX10_change_21 trivial (k4 c1 c2 c3)

theorem gX10_change_n (u : xU) (w i k : Int32) {Q : Option Value → xM → Prop} (hdi : xC mX10_differs [.ref 172, .int w, .int i] (xmm u) (fun r μ' => r = some (.int (-1)) ∧ μ' = xmm u)) 
    (k1 : Q (some (.int (nI (0)))) (xmm u)) : xE mX10_change 22 [(0, .ref 172), (1, .int (w)), (2, .int (i)), (3, .int (k))] [] (xmm u) Q := by
  refine xe_aload_n 0 dX10_change_22 rfl rfl ?_
  refine xe_iload_n 1 dX10_change_23 rfl rfl ?_
  refine xe_iload_n 2 dX10_change_24 rfl rfl ?_
  refine xe_callV (As := [.int (w), .int (i)]) (rest := []) dX10_change_25 wX10_differs lX10_198 iX10_differs sX10_differs ⟨by decide, by decide⟩ sh172 rfl (xin_mm (by decide)) rfl rfl (by simp [Value.category]) (xC.pure (v := .int ((-1))) (hdi) ?_)
  refine xe_istore (L2 := [(0, .ref 172), (1, .int (w)), (2, .int (i)), (3, .int (k)), (4, .int ((-1)))]) dX10_change_28 (by decide) rfl ?_
  refine xe_iload 4 dX10_change_30 rfl ?_
  refine xe_iconst (v := -1) dX10_change_32 xcm1 ?_
  refine xe_icmp_ne 40 dX10_change_33 (by decide) (fun q => absurd rfl q) (fun _ => ?_)
  refine xe_iconst (v := nI (0)) dX10_change_36 xc0 ?_
  refine xe_goto 71 dX10_change_37 (by decide) ?_
  exact xe_ret (r := (some (.int (nI (0))))) dX10_change_71 trivial (k1)

theorem gX10_change_s (u : xU) (w i x y : Int32) (k m : Nat) {Q : Option Value → xM → Prop} (hk : k < 6) (hm : m < 500) (hdi : xC mX10_differs [.ref 172, .int w, .int i] (xmm u) (fun r μ' => r = some (.int (nI m)) ∧ μ' = xmm u)) (v1 : u.1 185 ((6 * m) + k) = x) (v2 : u.1 189 ((6 * m) + k) = y)
    (k1 : ¬ (nI (m)) = (-1) → ¬ w = 0 → Q (some (.int (y))) (xmm u))
    (k2 : ¬ (nI (m)) = (-1) → w = 0 → Q (some (.int (x))) (xmm u))
    (k3 : (nI (m)) = (-1) → Q (some (.int (nI (0)))) (xmm u)) : xE mX10_change 22 [(0, .ref 172), (1, .int (w)), (2, .int (i)), (3, .int (nI (k)))] [] (xmm u) Q := by
  refine xe_aload_n 0 dX10_change_22 rfl rfl ?_
  refine xe_iload_n 1 dX10_change_23 rfl rfl ?_
  refine xe_iload_n 2 dX10_change_24 rfl rfl ?_
  refine xe_callV (As := [.int (w), .int (i)]) (rest := []) dX10_change_25 wX10_differs lX10_198 iX10_differs sX10_differs ⟨by decide, by decide⟩ sh172 rfl (xin_mm (by decide)) rfl rfl (by simp [Value.category]) (xC.pure (v := .int (nI (m))) (hdi) ?_)
  refine xe_istore (L2 := [(0, .ref 172), (1, .int (w)), (2, .int (i)), (3, .int (nI (k))), (4, .int (nI (m)))]) dX10_change_28 (by decide) rfl ?_
  refine xe_iload 4 dX10_change_30 rfl ?_
  refine xe_iconst (v := -1) dX10_change_32 xcm1 ?_
  refine xe_icmp_ne 40 dX10_change_33 (by decide) (fun c1 => ?_) (fun c1 => ?_)
  · refine xe_iload_n 1 dX10_change_40 rfl rfl ?_
    refine xe_if_ne 59 dX10_change_41 (by decide) (fun c2 => ?_) (fun c2 => ?_)
    · refine xe_aload_n 0 dX10_change_59 rfl rfl ?_
      refine xr_getR (b := 189) dX10_change_60 fX10_66 rfl sh172 (by decide) rfl ?_
      refine xe_bipush (v := nI (6)) dX10_change_63 xcb6 ?_
      refine xe_iload 4 dX10_change_65 rfl ?_
      refine xn_imul dX10_change_67 ?_
      refine xe_iload_n 3 dX10_change_68 rfl rfl ?_
      refine xn_iadd dX10_change_69 ?_
      refine xr_iald (k := (6 * m) + k) (v := y) dX10_change_70 sh189 (by decide) (by omega) (by decide) v2 ?_
      exact xe_ret (r := (some (.int (y)))) dX10_change_71 trivial (k1 c1 c2)
    · refine xe_aload_n 0 dX10_change_44 rfl rfl ?_
      refine xr_getR (b := 185) dX10_change_45 fX10_50 rfl sh172 (by decide) rfl ?_
      refine xe_bipush (v := nI (6)) dX10_change_48 xcb6 ?_
      refine xe_iload 4 dX10_change_50 rfl ?_
      refine xn_imul dX10_change_52 ?_
      refine xe_iload_n 3 dX10_change_53 rfl rfl ?_
      refine xn_iadd dX10_change_54 ?_
      refine xr_iald (k := (6 * m) + k) (v := x) dX10_change_55 sh185 (by decide) (by omega) (by decide) v1 ?_
      refine xe_goto 71 dX10_change_56 (by decide) ?_
      exact xe_ret (r := (some (.int (x)))) dX10_change_71 trivial (k2 c1 c2)
  · refine xe_iconst (v := nI (0)) dX10_change_36 xc0 ?_
    refine xe_goto 71 dX10_change_37 (by decide) ?_
    exact xe_ret (r := (some (.int (nI (0))))) dX10_change_71 trivial (k3 c1)

