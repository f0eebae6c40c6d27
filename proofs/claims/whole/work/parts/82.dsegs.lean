theorem gX0_inOrderWith_0 (u : xU) (A B i j : Nat) {Q : Option Value → xM → Prop} (hA : A = 47 ∨ A = 59) (hB : B = 47 ∨ B = 59) 
    (k1 : xE mX0_inOrderWith 3 [(0, .ref A), (1, .int (nI (i))), (2, .ref B), (3, .int (nI (j))), (4, .int (nI (0)))] [] (xmm u) Q) : xE mX0_inOrderWith 0 [(0, .ref A), (1, .int (nI (i))), (2, .ref B), (3, .int (nI (j)))] [] (xmm u) Q := by
  refine xe_iconst (v := nI (0)) dX0_inOrderWith_0 xc0 ?_
  refine xe_istore (L2 := [(0, .ref A), (1, .int (nI (i))), (2, .ref B), (3, .int (nI (j))), (4, .int (nI (0)))]) dX0_inOrderWith_1 (by decide) rfl ?_
  exact k1

theorem gX0_inOrderWith_3 (u : xU) (A B i j k n : Nat) (v x : Int32) {Q : Option Value → xM → Prop} (hA : A = 47 ∨ A = 59) (hB : B = 47 ∨ B = 59) (hn : n ≤ 6) (hk : k < n) (haa : xC mX0_at [.ref A, .int (nI i), .int (nI k)] (xmm u) (fun r μ' => r = some (.int v) ∧ μ' = xmm u)) (hab : xC mX0_at [.ref B, .int (nI j), .int (nI k)] (xmm u) (fun r μ' => r = some (.int x) ∧ μ' = xmm u)) (v1 : u.1 A 0 = nI (n))
    (k1 : n ≤ k → Q (some (.int (nI (0)))) (xmm u))
    (k2 : ¬ n ≤ k → (cmpK v x) = 0 → xE mX0_inOrderWith 3 [(0, .ref A), (1, .int (nI (i))), (2, .ref B), (3, .int (nI (j))), (4, .int (nI (k + 1)))] [] (xmm u) Q)
    (k3 : ¬ n ≤ k → ¬ (cmpK v x) = 0 → Q (some (.int (cmpK v x))) (xmm u)) : xE mX0_inOrderWith 3 [(0, .ref A), (1, .int (nI (i))), (2, .ref B), (3, .int (nI (j))), (4, .int (nI (k)))] [] (xmm u) Q := by
  refine xe_iload 4 dX0_inOrderWith_3 rfl ?_
  refine xe_aload_n 0 dX0_inOrderWith_5 rfl rfl ?_
  refine xr_getI (v := nI (n)) dX0_inOrderWith_6 fX0_24 (shA hA).1 (by omega) v1 ?_
  refine xn_icmp_ge 45 dX0_inOrderWith_9 (by decide) (by omega) (by omega) (fun c1 => ?_) (fun c1 => ?_)
  · refine xe_iconst (v := nI (0)) dX0_inOrderWith_45 xc0 ?_
    exact xe_ret (r := (some (.int (nI (0))))) dX0_inOrderWith_46 trivial (k1 c1)
  · refine xe_aload_n 0 dX0_inOrderWith_12 rfl rfl ?_
    refine xe_iload_n 1 dX0_inOrderWith_13 rfl rfl ?_
    refine xe_iload 4 dX0_inOrderWith_14 rfl ?_
    refine xe_callV (As := [.int (nI (i)), .int (nI (k))]) (rest := []) dX0_inOrderWith_16 wX0_at lX0_45 iX0_at sX0_at ⟨by decide, by decide⟩ (shA hA).1 rfl (xin_mm (by omega)) rfl rfl (by simp [Value.category]) (xC.pure (v := .int (v)) (haa) ?_)
    refine xe_aload_n 2 dX0_inOrderWith_19 rfl rfl ?_
    refine xe_iload_n 3 dX0_inOrderWith_20 rfl rfl ?_
    refine xe_iload 4 dX0_inOrderWith_21 rfl ?_
    refine xe_callV (As := [.int (nI (j)), .int (nI (k))]) (rest := [.int (v)]) dX0_inOrderWith_23 wX0_at lX0_45 iX0_at sX0_at ⟨by decide, by decide⟩ (shA hB).1 rfl (xin_mm (by omega)) rfl rfl (by simp [Value.category]) (xC.pure (v := .int (x)) (hab) ?_)
    refine xe_callSN (As := [.int (v), .int (x)]) (rest := []) dX0_inOrderWith_26 wX9_inOrder lX0_49 tX9_inOrder ⟨by decide, by decide⟩ rfl rfl (by simp [Value.category]) (xC.pure (v := .int (cmpK v x)) (qX9_inOrder u v x) ?_)
    refine xe_istore (L2 := [(0, .ref A), (1, .int (nI (i))), (2, .ref B), (3, .int (nI (j))), (4, .int (nI (k))), (5, .int (cmpK v x))]) dX0_inOrderWith_29 (by decide) rfl ?_
    refine xe_iload 5 dX0_inOrderWith_31 rfl ?_
    refine xe_if_eq 39 dX0_inOrderWith_33 (by decide) (fun c2 => ?_) (fun c2 => ?_)
    · refine xn_iinc (c := 1) (L2 := [(0, .ref A), (1, .int (nI (i))), (2, .ref B), (3, .int (nI (j))), (4, .int (nI (k + 1))), (5, .int (cmpK v x))]) 4 dX0_inOrderWith_39 rfl (by decide) rfl ?_
      refine xe_goto 3 dX0_inOrderWith_42 (by decide) ?_
      refine xE.sub [0, 1, 2, 3, 4] rfl ?_
      exact k2 c1 c2
    · refine xe_iload 5 dX0_inOrderWith_36 rfl ?_
      exact xe_ret (r := (some (.int (cmpK v x)))) dX0_inOrderWith_38 trivial (k3 c1 c2)

theorem gX0_inOrderWith_e (u : xU) (A B i j k n : Nat) {Q : Option Value → xM → Prop} (hA : A = 47 ∨ A = 59) (hB : B = 47 ∨ B = 59) (hn : n ≤ 6) (hk : k = n) (v1 : u.1 A 0 = nI (n))
    (k1 : n ≤ k → Q (some (.int (nI (0)))) (xmm u))
    (k2 : ¬ n ≤ k → xE mX0_inOrderWith 12 [(0, .ref A), (1, .int (nI (i))), (2, .ref B), (3, .int (nI (j))), (4, .int (nI (k)))] [] (xmm u) Q) : xE mX0_inOrderWith 3 [(0, .ref A), (1, .int (nI (i))), (2, .ref B), (3, .int (nI (j))), (4, .int (nI (k)))] [] (xmm u) Q := by
  refine xe_iload 4 dX0_inOrderWith_3 rfl ?_
  refine xe_aload_n 0 dX0_inOrderWith_5 rfl rfl ?_
  refine xr_getI (v := nI (n)) dX0_inOrderWith_6 fX0_24 (shA hA).1 (by omega) v1 ?_
  refine xn_icmp_ge 45 dX0_inOrderWith_9 (by decide) (by omega) (by omega) (fun c1 => ?_) (fun c1 => ?_)
  · refine xe_iconst (v := nI (0)) dX0_inOrderWith_45 xc0 ?_
    exact xe_ret (r := (some (.int (nI (0))))) dX0_inOrderWith_46 trivial (k1 c1)
  · exact k2 c1

theorem gX2_find_0 (u : xU) (A B : Nat) {Q : Option Value → xM → Prop} (hA : A = 47 ∨ A = 59) (hB : B = 47 ∨ B = 59) 
    (k1 : xE mX2_find 15 [(0, .ref 68), (1, .ref A), (2, .ref B), (3, .int (nI (0))), (4, .int (nI (0)))] [] (xmm (wi (wf u (some A)) 68 0 (nI (0)))) Q) : xE mX2_find 0 [(0, .ref 68), (1, .ref A), (2, .ref B)] [] (xmm u) Q := by
  refine xe_aload_n 0 dX2_find_0 rfl rfl ?_
  refine xe_aload_n 1 dX2_find_1 rfl rfl ?_
  refine xr_putR dX2_find_2 fX2_15 ?_
  refine xe_aload_n 0 dX2_find_5 rfl rfl ?_
  refine xe_iconst (v := nI (0)) dX2_find_6 xc0 ?_
  refine xr_putI dX2_find_7 fX2_19 sh68 (by decide) ?_
  refine xe_iconst (v := nI (0)) dX2_find_10 xc0 ?_
  refine xe_istore_n (L2 := [(0, .ref 68), (1, .ref A), (2, .ref B), (3, .int (nI (0)))]) dX2_find_11 rfl (by decide) rfl ?_
  refine xe_iconst (v := nI (0)) dX2_find_12 xc0 ?_
  refine xe_istore (L2 := [(0, .ref 68), (1, .ref A), (2, .ref B), (3, .int (nI (0))), (4, .int (nI (0)))]) dX2_find_13 (by decide) rfl ?_
  exact k1

theorem gX2_find_15 (u : xU) (A B j i ma mb : Nat) {Q : Option Value → xM → Prop} (hA : A = 47 ∨ A = 59) (hB : B = 47 ∨ B = 59) (hma : ma ≤ 500) (hmb : mb ≤ 500) (hi : i ≤ ma) (v1 : u.1 A 1 = nI (ma)) (v2 : u.1 B 1 = nI (mb))
    (k1 : ma ≤ i → Q none (xmm u))
    (k2 : ¬ ma ≤ i → 500 ≤ i → Q none (xmm u))
    (k3 : ¬ ma ≤ i → ¬ 500 ≤ i → xE mX2_find 32 [(0, .ref 68), (1, .ref A), (2, .ref B), (3, .int (nI (j))), (4, .int (nI (i)))] [] (xmm u) Q) : xE mX2_find 15 [(0, .ref 68), (1, .ref A), (2, .ref B), (3, .int (nI (j))), (4, .int (nI (i)))] [] (xmm u) Q := by
  refine xe_iload 4 dX2_find_15 rfl ?_
  refine xe_aload_n 1 dX2_find_17 rfl rfl ?_
  refine xr_getI (v := nI (ma)) dX2_find_18 fX2_23 (shA hA).1 (by omega) v1 ?_
  refine xn_icmp_ge 103 dX2_find_21 (by decide) (by omega) (by omega) (fun c1 => ?_) (fun c1 => ?_)
  · exact xe_ret (r := none) dX2_find_103 trivial (k1 c1)
  · refine xe_iload 4 dX2_find_24 rfl ?_
    refine xe_sipush (v := nI (500)) dX2_find_26 xcs500 ?_
    refine xn_icmp_ge 103 dX2_find_29 (by decide) (by omega) (by omega) (fun c2 => ?_) (fun c2 => ?_)
    · exact xe_ret (r := none) dX2_find_103 trivial (k2 c1 c2)
    · exact k3 c1 c2

theorem gX2_find_32 (u : xU) (A B j i ma mb z : Nat) (d : Int32) {Q : Option Value → xM → Prop} (hA : A = 47 ∨ A = 59) (hB : B = 47 ∨ B = 59) (hma : ma ≤ 500) (hmb : mb ≤ 500) (hi : i < ma) (hz : z ≤ i) (hj : j < mb) (hio : xC mX0_inOrderWith [.ref B, .int (nI j), .ref A, .int (nI i)] (xmm u) (fun r μ' => r = some (.int d) ∧ μ' = xmm u)) (v1 : u.1 A 1 = nI (ma)) (v2 : u.1 B 1 = nI (mb)) (v3 : u.1 68 0 = nI (z))
    (k1 : mb ≤ j → mb ≤ j → xE mX2_find 15 [(0, .ref 68), (1, .ref A), (2, .ref B), (3, .int (nI (j))), (4, .int (nI (i + 1)))] [] (xmm (wi (wi u 69 z (nI (i))) 68 0 (nI (z + 1)))) Q)
    (k2 : mb ≤ j → ¬ mb ≤ j → d = 0 → xE mX2_find 15 [(0, .ref 68), (1, .ref A), (2, .ref B), (3, .int (nI (j))), (4, .int (nI (i + 1)))] [] (xmm u) Q)
    (k3 : mb ≤ j → ¬ mb ≤ j → ¬ d = 0 → xE mX2_find 15 [(0, .ref 68), (1, .ref A), (2, .ref B), (3, .int (nI (j))), (4, .int (nI (i + 1)))] [] (xmm (wi (wi u 69 z (nI (i))) 68 0 (nI (z + 1)))) Q)
    (k4 : ¬ mb ≤ j → 0 ≤ d → mb ≤ j → xE mX2_find 15 [(0, .ref 68), (1, .ref A), (2, .ref B), (3, .int (nI (j))), (4, .int (nI (i + 1)))] [] (xmm (wi (wi u 69 z (nI (i))) 68 0 (nI (z + 1)))) Q)
    (k5 : ¬ mb ≤ j → 0 ≤ d → ¬ mb ≤ j → d = 0 → xE mX2_find 15 [(0, .ref 68), (1, .ref A), (2, .ref B), (3, .int (nI (j))), (4, .int (nI (i + 1)))] [] (xmm u) Q)
    (k6 : ¬ mb ≤ j → 0 ≤ d → ¬ mb ≤ j → ¬ d = 0 → xE mX2_find 15 [(0, .ref 68), (1, .ref A), (2, .ref B), (3, .int (nI (j))), (4, .int (nI (i + 1)))] [] (xmm (wi (wi u 69 z (nI (i))) 68 0 (nI (z + 1)))) Q)
    (k7 : ¬ mb ≤ j → ¬ 0 ≤ d → xE mX2_find 32 [(0, .ref 68), (1, .ref A), (2, .ref B), (3, .int (nI (j + 1))), (4, .int (nI (i)))] [] (xmm u) Q) : xE mX2_find 32 [(0, .ref 68), (1, .ref A), (2, .ref B), (3, .int (nI (j))), (4, .int (nI (i)))] [] (xmm u) Q := by
  refine xe_iload_n 3 dX2_find_32 rfl rfl ?_
  refine xe_aload_n 2 dX2_find_33 rfl rfl ?_
  refine xr_getI (v := nI (mb)) dX2_find_34 fX2_23 (shA hB).1 (by omega) v2 ?_
  refine xn_icmp_ge 57 dX2_find_37 (by decide) (by omega) (by omega) (fun c1 => ?_) (fun c1 => ?_)
  · refine xe_iload_n 3 dX2_find_57 rfl rfl ?_
    refine xe_aload_n 2 dX2_find_58 rfl rfl ?_
    refine xr_getI (v := nI (mb)) dX2_find_59 fX2_23 (shA hB).1 (by omega) v2 ?_
    refine xn_icmp_ge 76 dX2_find_62 (by decide) (by omega) (by omega) (fun c2 => ?_) (fun c2 => ?_)
    · refine xe_aload_n 0 dX2_find_76 rfl rfl ?_
      refine xr_getR (b := 69) dX2_find_77 fX2_9 rfl sh68 (by decide) rfl ?_
      refine xe_aload_n 0 dX2_find_80 rfl rfl ?_
      refine xr_getI (v := nI (z)) dX2_find_81 fX2_19 sh68 (by decide) v3 ?_
      refine xe_iload 4 dX2_find_84 rfl ?_
      refine xr_iast (k := z) dX2_find_86 sh69 (by decide) (by omega) (by decide) ?_
      refine xe_aload_n 0 dX2_find_87 rfl rfl ?_
      refine xe_dup dX2_find_88 rfl ?_
      refine xr_getI (v := nI (z)) dX2_find_89 fX2_19 sh68 (by decide) ((wi_ne (by omega)).trans v3) ?_
      refine xe_iconst (v := nI (1)) dX2_find_92 xc1 ?_
      refine xn_iadd dX2_find_93 ?_
      refine xr_putI dX2_find_94 fX2_19 sh68 (by decide) ?_
      refine xn_iinc (c := 1) (L2 := [(0, .ref 68), (1, .ref A), (2, .ref B), (3, .int (nI (j))), (4, .int (nI (i + 1)))]) 4 dX2_find_97 rfl (by decide) rfl ?_
      refine xe_goto 15 dX2_find_100 (by decide) ?_
      exact k1 c1 c2
    · refine xe_aload_n 2 dX2_find_65 rfl rfl ?_
      refine xe_iload_n 3 dX2_find_66 rfl rfl ?_
      refine xe_aload_n 1 dX2_find_67 rfl rfl ?_
      refine xe_iload 4 dX2_find_68 rfl ?_
      refine xe_callV (As := [.int (nI (j)), .ref A, .int (nI (i))]) (rest := []) dX2_find_70 wX0_inOrderWith lX2_26 iX0_inOrderWith sX0_inOrderWith ⟨by decide, by decide⟩ (shA hB).1 rfl (xin_mm (by omega)) rfl rfl (by simp [Value.category]) (xC.pure (v := .int (d)) (hio) ?_)
      refine xe_if_eq 97 dX2_find_73 (by decide) (fun c3 => ?_) (fun c3 => ?_)
      · refine xn_iinc (c := 1) (L2 := [(0, .ref 68), (1, .ref A), (2, .ref B), (3, .int (nI (j))), (4, .int (nI (i + 1)))]) 4 dX2_find_97 rfl (by decide) rfl ?_
        refine xe_goto 15 dX2_find_100 (by decide) ?_
        exact k2 c1 c2 c3
      · refine xe_aload_n 0 dX2_find_76 rfl rfl ?_
        refine xr_getR (b := 69) dX2_find_77 fX2_9 rfl sh68 (by decide) rfl ?_
        refine xe_aload_n 0 dX2_find_80 rfl rfl ?_
        refine xr_getI (v := nI (z)) dX2_find_81 fX2_19 sh68 (by decide) v3 ?_
        refine xe_iload 4 dX2_find_84 rfl ?_
        refine xr_iast (k := z) dX2_find_86 sh69 (by decide) (by omega) (by decide) ?_
        refine xe_aload_n 0 dX2_find_87 rfl rfl ?_
        refine xe_dup dX2_find_88 rfl ?_
        refine xr_getI (v := nI (z)) dX2_find_89 fX2_19 sh68 (by decide) ((wi_ne (by omega)).trans v3) ?_
        refine xe_iconst (v := nI (1)) dX2_find_92 xc1 ?_
        refine xn_iadd dX2_find_93 ?_
        refine xr_putI dX2_find_94 fX2_19 sh68 (by decide) ?_
        refine xn_iinc (c := 1) (L2 := [(0, .ref 68), (1, .ref A), (2, .ref B), (3, .int (nI (j))), (4, .int (nI (i + 1)))]) 4 dX2_find_97 rfl (by decide) rfl ?_
        refine xe_goto 15 dX2_find_100 (by decide) ?_
        exact k3 c1 c2 c3
  · refine xe_aload_n 2 dX2_find_40 rfl rfl ?_
    refine xe_iload_n 3 dX2_find_41 rfl rfl ?_
    refine xe_aload_n 1 dX2_find_42 rfl rfl ?_
    refine xe_iload 4 dX2_find_43 rfl ?_
    refine xe_callV (As := [.int (nI (j)), .ref A, .int (nI (i))]) (rest := []) dX2_find_45 wX0_inOrderWith lX2_26 iX0_inOrderWith sX0_inOrderWith ⟨by decide, by decide⟩ (shA hB).1 rfl (xin_mm (by omega)) rfl rfl (by simp [Value.category]) (xC.pure (v := .int (d)) (hio) ?_)
    refine xe_if_ge 57 dX2_find_48 (by decide) (fun c4 => ?_) (fun c4 => ?_)
    · refine xe_iload_n 3 dX2_find_57 rfl rfl ?_
      refine xe_aload_n 2 dX2_find_58 rfl rfl ?_
      refine xr_getI (v := nI (mb)) dX2_find_59 fX2_23 (shA hB).1 (by omega) v2 ?_
      refine xn_icmp_ge 76 dX2_find_62 (by decide) (by omega) (by omega) (fun c5 => ?_) (fun c5 => ?_)
      · refine xe_aload_n 0 dX2_find_76 rfl rfl ?_
        refine xr_getR (b := 69) dX2_find_77 fX2_9 rfl sh68 (by decide) rfl ?_
        refine xe_aload_n 0 dX2_find_80 rfl rfl ?_
        refine xr_getI (v := nI (z)) dX2_find_81 fX2_19 sh68 (by decide) v3 ?_
        refine xe_iload 4 dX2_find_84 rfl ?_
        refine xr_iast (k := z) dX2_find_86 sh69 (by decide) (by omega) (by decide) ?_
        refine xe_aload_n 0 dX2_find_87 rfl rfl ?_
        refine xe_dup dX2_find_88 rfl ?_
        refine xr_getI (v := nI (z)) dX2_find_89 fX2_19 sh68 (by decide) ((wi_ne (by omega)).trans v3) ?_
        refine xe_iconst (v := nI (1)) dX2_find_92 xc1 ?_
        refine xn_iadd dX2_find_93 ?_
        refine xr_putI dX2_find_94 fX2_19 sh68 (by decide) ?_
        refine xn_iinc (c := 1) (L2 := [(0, .ref 68), (1, .ref A), (2, .ref B), (3, .int (nI (j))), (4, .int (nI (i + 1)))]) 4 dX2_find_97 rfl (by decide) rfl ?_
        refine xe_goto 15 dX2_find_100 (by decide) ?_
        exact k4 c1 c4 c5
      · refine xe_aload_n 2 dX2_find_65 rfl rfl ?_
        refine xe_iload_n 3 dX2_find_66 rfl rfl ?_
        refine xe_aload_n 1 dX2_find_67 rfl rfl ?_
        refine xe_iload 4 dX2_find_68 rfl ?_
        refine xe_callV (As := [.int (nI (j)), .ref A, .int (nI (i))]) (rest := []) dX2_find_70 wX0_inOrderWith lX2_26 iX0_inOrderWith sX0_inOrderWith ⟨by decide, by decide⟩ (shA hB).1 rfl (xin_mm (by omega)) rfl rfl (by simp [Value.category]) (xC.pure (v := .int (d)) (hio) ?_)
        refine xe_if_eq 97 dX2_find_73 (by decide) (fun c6 => ?_) (fun c6 => ?_)
        · refine xn_iinc (c := 1) (L2 := [(0, .ref 68), (1, .ref A), (2, .ref B), (3, .int (nI (j))), (4, .int (nI (i + 1)))]) 4 dX2_find_97 rfl (by decide) rfl ?_
          refine xe_goto 15 dX2_find_100 (by decide) ?_
          exact k5 c1 c4 c5 c6
        · refine xe_aload_n 0 dX2_find_76 rfl rfl ?_
          refine xr_getR (b := 69) dX2_find_77 fX2_9 rfl sh68 (by decide) rfl ?_
          refine xe_aload_n 0 dX2_find_80 rfl rfl ?_
          refine xr_getI (v := nI (z)) dX2_find_81 fX2_19 sh68 (by decide) v3 ?_
          refine xe_iload 4 dX2_find_84 rfl ?_
          refine xr_iast (k := z) dX2_find_86 sh69 (by decide) (by omega) (by decide) ?_
          refine xe_aload_n 0 dX2_find_87 rfl rfl ?_
          refine xe_dup dX2_find_88 rfl ?_
          refine xr_getI (v := nI (z)) dX2_find_89 fX2_19 sh68 (by decide) ((wi_ne (by omega)).trans v3) ?_
          refine xe_iconst (v := nI (1)) dX2_find_92 xc1 ?_
          refine xn_iadd dX2_find_93 ?_
          refine xr_putI dX2_find_94 fX2_19 sh68 (by decide) ?_
          refine xn_iinc (c := 1) (L2 := [(0, .ref 68), (1, .ref A), (2, .ref B), (3, .int (nI (j))), (4, .int (nI (i + 1)))]) 4 dX2_find_97 rfl (by decide) rfl ?_
          refine xe_goto 15 dX2_find_100 (by decide) ?_
          exact k6 c1 c4 c5 c6
    · refine xn_iinc (c := 1) (L2 := [(0, .ref 68), (1, .ref A), (2, .ref B), (3, .int (nI (j + 1))), (4, .int (nI (i)))]) 3 dX2_find_51 rfl (by decide) rfl ?_
      refine xe_goto 32 dX2_find_54 (by decide) ?_
      exact k7 c1 c4

theorem gX2_find_e (u : xU) (A B j i ma mb z : Nat) {Q : Option Value → xM → Prop} (hA : A = 47 ∨ A = 59) (hB : B = 47 ∨ B = 59) (hma : ma ≤ 500) (hmb : mb ≤ 500) (hi : i < ma) (hz : z ≤ i) (hj : j = mb) (v1 : u.1 A 1 = nI (ma)) (v2 : u.1 B 1 = nI (mb)) (v3 : u.1 68 0 = nI (z))
    (k1 : mb ≤ j → mb ≤ j → xE mX2_find 15 [(0, .ref 68), (1, .ref A), (2, .ref B), (3, .int (nI (j))), (4, .int (nI (i + 1)))] [] (xmm (wi (wi u 69 z (nI (i))) 68 0 (nI (z + 1)))) Q)
    (k2 : mb ≤ j → ¬ mb ≤ j → xE mX2_find 65 [(0, .ref 68), (1, .ref A), (2, .ref B), (3, .int (nI (j))), (4, .int (nI (i)))] [] (xmm u) Q)
    (k3 : ¬ mb ≤ j → xE mX2_find 40 [(0, .ref 68), (1, .ref A), (2, .ref B), (3, .int (nI (j))), (4, .int (nI (i)))] [] (xmm u) Q) : xE mX2_find 32 [(0, .ref 68), (1, .ref A), (2, .ref B), (3, .int (nI (j))), (4, .int (nI (i)))] [] (xmm u) Q := by
  refine xe_iload_n 3 dX2_find_32 rfl rfl ?_
  refine xe_aload_n 2 dX2_find_33 rfl rfl ?_
  refine xr_getI (v := nI (mb)) dX2_find_34 fX2_23 (shA hB).1 (by omega) v2 ?_
  refine xn_icmp_ge 57 dX2_find_37 (by decide) (by omega) (by omega) (fun c1 => ?_) (fun c1 => ?_)
  · refine xe_iload_n 3 dX2_find_57 rfl rfl ?_
    refine xe_aload_n 2 dX2_find_58 rfl rfl ?_
    refine xr_getI (v := nI (mb)) dX2_find_59 fX2_23 (shA hB).1 (by omega) v2 ?_
    refine xn_icmp_ge 76 dX2_find_62 (by decide) (by omega) (by omega) (fun c2 => ?_) (fun c2 => ?_)
    · refine xe_aload_n 0 dX2_find_76 rfl rfl ?_
      refine xr_getR (b := 69) dX2_find_77 fX2_9 rfl sh68 (by decide) rfl ?_
      refine xe_aload_n 0 dX2_find_80 rfl rfl ?_
      refine xr_getI (v := nI (z)) dX2_find_81 fX2_19 sh68 (by decide) v3 ?_
      refine xe_iload 4 dX2_find_84 rfl ?_
      refine xr_iast (k := z) dX2_find_86 sh69 (by decide) (by omega) (by decide) ?_
      refine xe_aload_n 0 dX2_find_87 rfl rfl ?_
      refine xe_dup dX2_find_88 rfl ?_
      refine xr_getI (v := nI (z)) dX2_find_89 fX2_19 sh68 (by decide) ((wi_ne (by omega)).trans v3) ?_
      refine xe_iconst (v := nI (1)) dX2_find_92 xc1 ?_
      refine xn_iadd dX2_find_93 ?_
      refine xr_putI dX2_find_94 fX2_19 sh68 (by decide) ?_
      refine xn_iinc (c := 1) (L2 := [(0, .ref 68), (1, .ref A), (2, .ref B), (3, .int (nI (j))), (4, .int (nI (i + 1)))]) 4 dX2_find_97 rfl (by decide) rfl ?_
      refine xe_goto 15 dX2_find_100 (by decide) ?_
      exact k1 c1 c2
    · exact k2 c1 c2
  · exact k3 c1

theorem gX2_at_I (u : xU) (A : Nat) (i k z : Int32) {Q : Option Value → xM → Prop} (hA : A = 47 ∨ A = 59) (hfr : u.2.2 = some A) (v1 : u.1 68 0 = z)
    (k1 : i < 0 → Q (some (.int (nI (0)))) (xmm u))
    (k2 : ¬ i < 0 → i < z → False)
    (k3 : ¬ i < 0 → ¬ i < z → Q (some (.int (nI (0)))) (xmm u)) : xE mX2_at 0 [(0, .ref 68), (1, .int (i)), (2, .int (k))] [] (xmm u) Q := by
  refine xe_aload_n 0 dX2_at_0 rfl rfl ?_
  refine xr_getR (b := A) dX2_at_1 fX2_15 rfl sh68 (by decide) (by rw [hfr]; rfl) ?_
  refine xe_ifnull_r dX2_at_4 ?_
  refine xe_iload_n 1 dX2_at_7 rfl rfl ?_
  refine xe_if_lt 19 dX2_at_8 (by decide) (fun c1 => ?_) (fun c1 => ?_)
  · refine xe_iconst (v := nI (0)) dX2_at_19 xc0 ?_
    refine xe_goto 37 dX2_at_20 (by decide) ?_
    exact xe_ret (r := (some (.int (nI (0))))) dX2_at_37 trivial (k1 c1)
  · refine xe_iload_n 1 dX2_at_11 rfl rfl ?_
    refine xe_aload_n 0 dX2_at_12 rfl rfl ?_
    refine xr_getI (v := z) dX2_at_13 fX2_19 sh68 (by decide) v1 ?_
    refine xe_icmp_lt 23 dX2_at_16 (by decide) (fun c2 => ?_) (fun c2 => ?_)
    · refine xe_aload_n 0 dX2_at_23 rfl rfl ?_
      refine xr_getR (b := A) dX2_at_24 fX2_15 rfl sh68 (by decide) (by rw [hfr]; rfl) ?_
      refine xe_aload_n 0 dX2_at_27 rfl rfl ?_
      refine xr_getR (b := 69) dX2_at_28 fX2_9 rfl sh68 (by decide) rfl ?_
      refine xe_iload_n 1 dX2_at_31 rfl rfl ?_
      exact (k2 c1 c2).elim
    · refine xe_iconst (v := nI (0)) dX2_at_19 xc0 ?_
      refine xe_goto 37 dX2_at_20 (by decide) ?_
      exact xe_ret (r := (some (.int (nI (0))))) dX2_at_37 trivial (k3 c1 c2)

theorem gX2_at_N (u : xU) (A i z : Nat) (k p v : Int32) {Q : Option Value → xM → Prop} (hA : A = 47 ∨ A = 59) (hfr : u.2.2 = some A) (hi : i < z) (hz : z ≤ 500) (hat : xC mX0_at [.ref A, .int p, .int k] (xmm u) (fun r μ' => r = some (.int v) ∧ μ' = xmm u)) (v1 : u.1 68 0 = nI (z)) (v2 : u.1 69 i = p)
    (k1 : i < z → Q (some (.int (v))) (xmm u))
    (k2 : ¬ i < z → Q (some (.int (nI (0)))) (xmm u)) : xE mX2_at 0 [(0, .ref 68), (1, .int (nI (i))), (2, .int (k))] [] (xmm u) Q := by
  refine xe_aload_n 0 dX2_at_0 rfl rfl ?_
  refine xr_getR (b := A) dX2_at_1 fX2_15 rfl sh68 (by decide) (by rw [hfr]; rfl) ?_
  refine xe_ifnull_r dX2_at_4 ?_
  refine xe_iload_n 1 dX2_at_7 rfl rfl ?_
  refine xn_if_lt 19 dX2_at_8 (by decide) (by omega) (fun q => absurd q (by omega)) (fun _ => ?_)
  refine xe_iload_n 1 dX2_at_11 rfl rfl ?_
  refine xe_aload_n 0 dX2_at_12 rfl rfl ?_
  refine xr_getI (v := nI (z)) dX2_at_13 fX2_19 sh68 (by decide) v1 ?_
  refine xn_icmp_lt 23 dX2_at_16 (by decide) (by omega) (by omega) (fun c1 => ?_) (fun c1 => ?_)
  · refine xe_aload_n 0 dX2_at_23 rfl rfl ?_
    refine xr_getR (b := A) dX2_at_24 fX2_15 rfl sh68 (by decide) (by rw [hfr]; rfl) ?_
    refine xe_aload_n 0 dX2_at_27 rfl rfl ?_
    refine xr_getR (b := 69) dX2_at_28 fX2_9 rfl sh68 (by decide) rfl ?_
    refine xe_iload_n 1 dX2_at_31 rfl rfl ?_
    refine xr_iald (k := i) (v := p) dX2_at_32 sh69 (by decide) (by omega) (by decide) v2 ?_
    refine xe_iload_n 2 dX2_at_33 rfl rfl ?_
    refine xe_callV (As := [.int (p), .int (k)]) (rest := []) dX2_at_34 wX0_at lX2_30 iX0_at sX0_at ⟨by decide, by decide⟩ (shA hA).1 rfl (xin_mm (by omega)) rfl rfl (by simp [Value.category]) (xC.pure (v := .int (v)) (hat) ?_)
    exact xe_ret (r := (some (.int (v)))) dX2_at_37 trivial (k1 c1)
  · refine xe_iconst (v := nI (0)) dX2_at_19 xc0 ?_
    refine xe_goto 37 dX2_at_20 (by decide) ?_
    exact xe_ret (r := (some (.int (nI (0))))) dX2_at_37 trivial (k2 c1)

theorem gX9_findDifference_0 (u : xU) (w zk zw : Int32) (nk nw : Nat) {Q : Option Value → xM → Prop} (hnk : nk ≤ 6) (hnw : nw ≤ 6) (v1 : u.1 59 1 = zk) (v2 : u.1 47 1 = zw) (v3 : u.1 59 0 = nI (nk)) (v4 : u.1 47 0 = nI (nw))
    (k1 : zk = (-1) → Q (some (.int (nI (0)))) (xmm u))
    (k2 : ¬ zk = (-1) → zw = (-1) → Q (some (.int (nI (0)))) (xmm u))
    (k3 : ¬ zk = (-1) → ¬ zw = (-1) → ¬ nk = nw → Q (some (.int (nI (0)))) (xmm u))
    (k4 : ¬ zk = (-1) → ¬ zw = (-1) → nk = nw → w < 0 → Q (some (.int (nI (0)))) (xmm u))
    (k5 : ¬ zk = (-1) → ¬ zw = (-1) → nk = nw → ¬ w < 0 → w ≤ 1 → ¬ w = 0 → xC mX2_find [.ref 68, .ref 59, .ref 47] (xmm u) (fun r μ1 => xE mX9_findDifference 83 [] (r.toList ++ []) μ1 Q))
    (k6 : ¬ zk = (-1) → ¬ zw = (-1) → nk = nw → ¬ w < 0 → w ≤ 1 → w = 0 → xC mX2_find [.ref 68, .ref 47, .ref 59] (xmm u) (fun r μ1 => xE mX9_findDifference 68 [] (r.toList ++ []) μ1 Q))
    (k7 : ¬ zk = (-1) → ¬ zw = (-1) → nk = nw → ¬ w < 0 → ¬ w ≤ 1 → Q (some (.int (nI (0)))) (xmm u)) : xE mX9_findDifference 0 [(0, .ref 1), (1, .int (w))] [] (xmm u) Q := by
  refine xe_aload_n 0 dX9_findDifference_0 rfl rfl ?_
  refine xr_getR (b := 46) dX9_findDifference_1 fX9_25 rfl sh1 (by decide) rfl ?_
  refine xr_getR (b := 47) dX9_findDifference_4 fX9_139 rfl sh46 (by decide) rfl ?_
  refine xe_astore_n (L2 := [(0, .ref 1), (1, .int (w)), (2, .ref 47)]) dX9_findDifference_7 rfl (by decide) rfl ?_
  refine xe_aload_n 0 dX9_findDifference_8 rfl rfl ?_
  refine xr_getR (b := 59) dX9_findDifference_9 fX9_32 rfl sh1 (by decide) rfl ?_
  refine xr_getI (v := zk) dX9_findDifference_12 fX9_142 sh59 (by decide) v1 ?_
  refine xe_iconst (v := -1) dX9_findDifference_15 xcm1 ?_
  refine xe_icmp_eq 50 dX9_findDifference_16 (by decide) (fun c1 => ?_) (fun c1 => ?_)
  · refine xe_iconst (v := nI (0)) dX9_findDifference_50 xc0 ?_
    exact xe_ret (r := (some (.int (nI (0))))) dX9_findDifference_51 (Or.inl rfl) (k1 c1)
  · refine xe_aload_n 2 dX9_findDifference_19 rfl rfl ?_
    refine xr_getI (v := zw) dX9_findDifference_20 fX9_142 sh47 (by decide) v2 ?_
    refine xe_iconst (v := -1) dX9_findDifference_23 xcm1 ?_
    refine xe_icmp_eq 50 dX9_findDifference_24 (by decide) (fun c2 => ?_) (fun c2 => ?_)
    · refine xe_iconst (v := nI (0)) dX9_findDifference_50 xc0 ?_
      exact xe_ret (r := (some (.int (nI (0))))) dX9_findDifference_51 (Or.inl rfl) (k2 c1 c2)
    · refine xe_aload_n 0 dX9_findDifference_27 rfl rfl ?_
      refine xr_getR (b := 59) dX9_findDifference_28 fX9_32 rfl sh1 (by decide) rfl ?_
      refine xr_getI (v := nI (nk)) dX9_findDifference_31 fX9_231 sh59 (by decide) v3 ?_
      refine xe_aload_n 2 dX9_findDifference_34 rfl rfl ?_
      refine xr_getI (v := nI (nw)) dX9_findDifference_35 fX9_231 sh47 (by decide) v4 ?_
      refine xn_icmp_ne 50 dX9_findDifference_38 (by decide) (by omega) (by omega) (fun c3 => ?_) (fun c3 => ?_)
      · refine xe_iconst (v := nI (0)) dX9_findDifference_50 xc0 ?_
        exact xe_ret (r := (some (.int (nI (0))))) dX9_findDifference_51 (Or.inl rfl) (k3 c1 c2 c3)
      · refine xe_iload_n 1 dX9_findDifference_41 rfl rfl ?_
        refine xe_if_lt 50 dX9_findDifference_42 (by decide) (fun c4 => ?_) (fun c4 => ?_)
        · refine xe_iconst (v := nI (0)) dX9_findDifference_50 xc0 ?_
          exact xe_ret (r := (some (.int (nI (0))))) dX9_findDifference_51 (Or.inl rfl) (k4 c1 c2 c3 c4)
        · refine xe_iload_n 1 dX9_findDifference_45 rfl rfl ?_
          refine xe_iconst (v := nI (1)) dX9_findDifference_46 xc1 ?_
          refine xe_icmp_le 52 dX9_findDifference_47 (by decide) (fun c5 => ?_) (fun c5 => ?_)
          · refine xe_iload_n 1 dX9_findDifference_52 rfl rfl ?_
            refine xe_if_ne 71 dX9_findDifference_53 (by decide) (fun c6 => ?_) (fun c6 => ?_)
            · refine xe_aload_n 0 dX9_findDifference_71 rfl rfl ?_
              refine xr_getR (b := 68) dX9_findDifference_72 fX9_39 rfl sh1 (by decide) rfl ?_
              refine xe_aload_n 0 dX9_findDifference_75 rfl rfl ?_
              refine xr_getR (b := 59) dX9_findDifference_76 fX9_32 rfl sh1 (by decide) rfl ?_
              refine xe_aload_n 2 dX9_findDifference_79 rfl rfl ?_
              refine xE.sub [] rfl ?_
              refine xe_callV (As := [.ref 59, .ref 47]) (rest := []) dX9_findDifference_80 wX2_find lX9_232 iX2_find sX2_find ⟨by decide, by decide⟩ sh68 rfl (xin_mm (by decide)) rfl rfl (by simp [Value.category]) ?_
              exact k5 c1 c2 c3 c4 c5 c6
            · refine xe_aload_n 0 dX9_findDifference_56 rfl rfl ?_
              refine xr_getR (b := 68) dX9_findDifference_57 fX9_39 rfl sh1 (by decide) rfl ?_
              refine xe_aload_n 2 dX9_findDifference_60 rfl rfl ?_
              refine xe_aload_n 0 dX9_findDifference_61 rfl rfl ?_
              refine xr_getR (b := 59) dX9_findDifference_62 fX9_32 rfl sh1 (by decide) rfl ?_
              refine xE.sub [] rfl ?_
              refine xe_callV (As := [.ref 47, .ref 59]) (rest := []) dX9_findDifference_65 wX2_find lX9_232 iX2_find sX2_find ⟨by decide, by decide⟩ sh68 rfl (xin_mm (by decide)) rfl rfl (by simp [Value.category]) ?_
              exact k6 c1 c2 c3 c4 c5 c6
          · refine xe_iconst (v := nI (0)) dX9_findDifference_50 xc0 ?_
            exact xe_ret (r := (some (.int (nI (0))))) dX9_findDifference_51 (Or.inl rfl) (k7 c1 c2 c3 c4 c5)

theorem gX9_findDifference_68 (u : xU) {Q : Option Value → xM → Prop}  
    (k1 : Q (some (.int (nI (1)))) (xmm u)) : xE mX9_findDifference 68 [] [] (xmm u) Q := by
  refine xe_goto 83 dX9_findDifference_68 (by decide) ?_
  refine xe_iconst (v := nI (1)) dX9_findDifference_83 xc1 ?_
  exact xe_ret (r := (some (.int (nI (1))))) dX9_findDifference_84 (Or.inr rfl) (k1)

theorem gX9_findDifference_83 (u : xU) {Q : Option Value → xM → Prop}  
    (k1 : Q (some (.int (nI (1)))) (xmm u)) : xE mX9_findDifference 83 [] [] (xmm u) Q := by
  refine xe_iconst (v := nI (1)) dX9_findDifference_83 xc1 ?_
  exact xe_ret (r := (some (.int (nI (1))))) dX9_findDifference_84 (Or.inr rfl) (k1)

theorem gX9_delta_0 (u : xU) (w : Int32) {Q : Option Value → xM → Prop}  
    (k1 : xC mX9_findDifference [.ref 1, .int (w)] (xmm u) (fun r μ1 => xE mX9_delta 5 [(0, .ref 1)] (r.toList ++ []) μ1 Q)) : xE mX9_delta 0 [(0, .ref 1), (1, .int (w))] [] (xmm u) Q := by
  refine xe_aload_n 0 dX9_delta_0 rfl rfl ?_
  refine xe_iload_n 1 dX9_delta_1 rfl rfl ?_
  refine xE.sub [0] rfl ?_
  refine xe_callV (As := [.int (w)]) (rest := []) dX9_delta_2 wX9_findDifference lX9_183 iX9_findDifference sX9_findDifference ⟨by decide, by decide⟩ sh1 rfl (xin_mm (by decide)) rfl rfl (by simp [Value.category]) ?_
  exact k1

theorem gX9_delta_t (u : xU) (z : Int32) {Q : Option Value → xM → Prop}  (v1 : u.1 68 0 = z)
    (k1 : Q (some (.int (z))) (xmm u)) : xE mX9_delta 5 [(0, .ref 1)] [.int (nI (1))] (xmm u) Q := by
  refine xn_if_eq 18 dX9_delta_5 (by decide) (by omega) (fun q => absurd q (by decide)) (fun _ => ?_)
  refine xe_aload_n 0 dX9_delta_8 rfl rfl ?_
  refine xr_getR (b := 68) dX9_delta_9 fX9_39 rfl sh1 (by decide) rfl ?_
  refine xr_getI (v := z) dX9_delta_12 fX9_186 sh68 (by decide) v1 ?_
  refine xe_goto 19 dX9_delta_15 (by decide) ?_
  exact xe_ret (r := (some (.int (z)))) dX9_delta_19 trivial (k1)

theorem gX9_delta_f (u : xU) {Q : Option Value → xM → Prop}  
    (k1 : Q (some (.int (-1))) (xmm u)) : xE mX9_delta 5 [(0, .ref 1)] [.int (nI (0))] (xmm u) Q := by
  refine xn_if_eq 18 dX9_delta_5 (by decide) (by omega) (fun _ => ?_) (fun q => absurd q (by decide))
  refine xe_iconst (v := -1) dX9_delta_18 xcm1 ?_
  exact xe_ret (r := (some (.int (-1)))) dX9_delta_19 trivial (k1)

theorem gX9_change_0 (u : xU) (w i k : Int32) {Q : Option Value → xM → Prop}  
    (k1 : xC mX9_findDifference [.ref 1, .int (w)] (xmm u) (fun r μ1 => xE mX9_change 5 [(0, .ref 1), (2, .int (i)), (3, .int (k))] (r.toList ++ []) μ1 Q)) : xE mX9_change 0 [(0, .ref 1), (1, .int (w)), (2, .int (i)), (3, .int (k))] [] (xmm u) Q := by
  refine xe_aload_n 0 dX9_change_0 rfl rfl ?_
  refine xe_iload_n 1 dX9_change_1 rfl rfl ?_
  refine xE.sub [0, 2, 3] rfl ?_
  refine xe_callV (As := [.int (w)]) (rest := []) dX9_change_2 wX9_findDifference lX9_183 iX9_findDifference sX9_findDifference ⟨by decide, by decide⟩ sh1 rfl (xin_mm (by decide)) rfl rfl (by simp [Value.category]) ?_
  exact k1

theorem gX9_change_t (u : xU) (i k v : Int32) {Q : Option Value → xM → Prop} (hda : xC mX2_at [.ref 68, .int i, .int k] (xmm u) (fun r μ' => r = some (.int v) ∧ μ' = xmm u)) 
    (k1 : Q (some (.int (v))) (xmm u)) : xE mX9_change 5 [(0, .ref 1), (2, .int (i)), (3, .int (k))] [.int (nI (1))] (xmm u) Q := by
  refine xn_if_eq 20 dX9_change_5 (by decide) (by omega) (fun q => absurd q (by decide)) (fun _ => ?_)
  refine xe_aload_n 0 dX9_change_8 rfl rfl ?_
  refine xr_getR (b := 68) dX9_change_9 fX9_39 rfl sh1 (by decide) rfl ?_
  refine xe_iload_n 1 dX9_change_12 rfl rfl ?_
  refine xe_iload_n 2 dX9_change_13 rfl rfl ?_
  refine xe_callV (As := [.int (i), .int (k)]) (rest := []) dX9_change_14 wX2_at lX9_187 iX2_at sX2_at ⟨by decide, by decide⟩ sh68 rfl (xin_mm (by decide)) rfl rfl (by simp [Value.category]) (xC.pure (v := .int (v)) (hda) ?_)
  refine xe_goto 21 dX9_change_17 (by decide) ?_
  exact xe_ret (r := (some (.int (v)))) dX9_change_21 trivial (k1)

theorem gX9_change_f (u : xU) (i k : Int32) {Q : Option Value → xM → Prop}  
    (k1 : Q (some (.int (nI (0)))) (xmm u)) : xE mX9_change 5 [(0, .ref 1), (2, .int (i)), (3, .int (k))] [.int (nI (0))] (xmm u) Q := by
  refine xn_if_eq 20 dX9_change_5 (by decide) (by omega) (fun _ => ?_) (fun q => absurd q (by decide))
  refine xe_iconst (v := nI (0)) dX9_change_20 xc0 ?_
  exact xe_ret (r := (some (.int (nI (0))))) dX9_change_21 trivial (k1)

