theorem gX7_prepare_0 (u : xU) {Q : Option Value → xM → Prop}  
    (k1 : xE mX7_prepare 5 [(0, .ref 74), (1, .ref 2), (2, .ref 3), (3, .int (nI (1))), (4, .int (nI (0)))] [] (xmm u) Q) : xE mX7_prepare 0 [(0, .ref 74), (1, .ref 2), (2, .ref 3)] [] (xmm u) Q := by
  refine xe_iconst (v := nI (1)) dX7_prepare_0 xc1 ?_
  refine xe_istore_n (L2 := [(0, .ref 74), (1, .ref 2), (2, .ref 3), (3, .int (nI (1)))]) dX7_prepare_1 rfl (by decide) rfl ?_
  refine xe_iconst (v := nI (0)) dX7_prepare_2 xc0 ?_
  refine xe_istore (L2 := [(0, .ref 74), (1, .ref 2), (2, .ref 3), (3, .int (nI (1))), (4, .int (nI (0)))]) dX7_prepare_3 (by decide) rfl ?_
  exact k1

theorem gX7_prepare_5 (u : xU) (nn n p kd m t : Nat) (b : Bool) (x : Int64) {Q : Option Value → xM → Prop} (hnn : nn ≤ 6) (hn : n ≤ 10) (hp : p < n) (hkd : kd ≤ 1) (hm : m < 64) (ht : t < 8) (hfr : xC mX7_fittingRows [.ref (156 + 2 * t), .ref (6 + 4 * p)] (xmm u) (fun r μ' => r = some (.long x) ∧ μ' = xmm u)) (v1 : u.1 3 0 = nI (nn)) (v2 : u.1 3 1 = nI (n)) (v3 : u.1 (6 + 4 * p) 0 = nI (kd)) (v4 : u.1 (6 + 4 * p) 3 = nI (m)) (v5 : u.1 (6 + 4 * p) 1 = nI (t))
    (k1 : n ≤ p → xE mX7_prepare 122 [(0, .ref 74), (1, .ref 2), (2, .ref 3), (3, .int (xb (b = true))), (4, .int (nI (0)))] [] (xmm u) Q)
    (k2 : ¬ n ≤ p → ¬ (kd ≤ 1) → ¬ (kd ≤ 1) → xE mX7_prepare 5 [(0, .ref 74), (1, .ref 2), (2, .ref 3), (3, .int (xb (b = true))), (4, .int (nI (p + 1)))] [] (xmm (wl u 83 p (0))) Q)
    (k3 : ¬ n ≤ p → ¬ (kd ≤ 1) → kd ≤ 1 → ¬ m = 0 → xE mX7_prepare 5 [(0, .ref 74), (1, .ref 2), (2, .ref 3), (3, .int (xb (b = true))), (4, .int (nI (p + 1)))] [] (xmm (wl u 83 p (0))) Q)
    (k4 : ¬ n ≤ p → ¬ (kd ≤ 1) → kd ≤ 1 → m = 0 → ¬ (b = true) → xE mX7_prepare 5 [(0, .ref 74), (1, .ref 2), (2, .ref 3), (3, .int (nI (0))), (4, .int (nI (p + 1)))] [] (xmm (wl u 83 p (0))) Q)
    (k5 : ¬ n ≤ p → ¬ (kd ≤ 1) → kd ≤ 1 → m = 0 → b = true → (lg_cmp 0 0) = 0 → ¬ kd = 0 → xE mX7_prepare 5 [(0, .ref 74), (1, .ref 2), (2, .ref 3), (3, .int (nI (1))), (4, .int (nI (p + 1)))] [] (xmm (wl u 83 p (0))) Q)
    (k6 : ¬ n ≤ p → ¬ (kd ≤ 1) → kd ≤ 1 → m = 0 → b = true → (lg_cmp 0 0) = 0 → kd = 0 → xE mX7_prepare 5 [(0, .ref 74), (1, .ref 2), (2, .ref 3), (3, .int (nI (0))), (4, .int (nI (p + 1)))] [] (xmm (wl u 83 p (0))) Q)
    (k7 : ¬ n ≤ p → ¬ (kd ≤ 1) → kd ≤ 1 → m = 0 → b = true → ¬ (lg_cmp 0 0) = 0 → ¬ kd = 0 → xE mX7_prepare 5 [(0, .ref 74), (1, .ref 2), (2, .ref 3), (3, .int (nI (0))), (4, .int (nI (p + 1)))] [] (xmm (wl u 83 p (0))) Q)
    (k8 : ¬ n ≤ p → ¬ (kd ≤ 1) → kd ≤ 1 → m = 0 → b = true → ¬ (lg_cmp 0 0) = 0 → kd = 0 → xE mX7_prepare 5 [(0, .ref 74), (1, .ref 2), (2, .ref 3), (3, .int (nI (1))), (4, .int (nI (p + 1)))] [] (xmm (wl u 83 p (0))) Q)
    (k9 : ¬ n ≤ p → kd ≤ 1 → ¬ (kd ≤ 1) → xE mX7_prepare 5 [(0, .ref 74), (1, .ref 2), (2, .ref 3), (3, .int (xb (b = true))), (4, .int (nI (p + 1)))] [] (xmm (wl u 83 p (x))) Q)
    (k10 : ¬ n ≤ p → kd ≤ 1 → kd ≤ 1 → ¬ m = 0 → xE mX7_prepare 5 [(0, .ref 74), (1, .ref 2), (2, .ref 3), (3, .int (xb (b = true))), (4, .int (nI (p + 1)))] [] (xmm (wl u 83 p (x))) Q)
    (k11 : ¬ n ≤ p → kd ≤ 1 → kd ≤ 1 → m = 0 → ¬ (b = true) → xE mX7_prepare 5 [(0, .ref 74), (1, .ref 2), (2, .ref 3), (3, .int (nI (0))), (4, .int (nI (p + 1)))] [] (xmm (wl u 83 p (x))) Q)
    (k12 : ¬ n ≤ p → kd ≤ 1 → kd ≤ 1 → m = 0 → b = true → (lg_cmp x 0) = 0 → ¬ kd = 0 → xE mX7_prepare 5 [(0, .ref 74), (1, .ref 2), (2, .ref 3), (3, .int (nI (1))), (4, .int (nI (p + 1)))] [] (xmm (wl u 83 p (x))) Q)
    (k13 : ¬ n ≤ p → kd ≤ 1 → kd ≤ 1 → m = 0 → b = true → (lg_cmp x 0) = 0 → kd = 0 → xE mX7_prepare 5 [(0, .ref 74), (1, .ref 2), (2, .ref 3), (3, .int (nI (0))), (4, .int (nI (p + 1)))] [] (xmm (wl u 83 p (x))) Q)
    (k14 : ¬ n ≤ p → kd ≤ 1 → kd ≤ 1 → m = 0 → b = true → ¬ (lg_cmp x 0) = 0 → ¬ kd = 0 → xE mX7_prepare 5 [(0, .ref 74), (1, .ref 2), (2, .ref 3), (3, .int (nI (0))), (4, .int (nI (p + 1)))] [] (xmm (wl u 83 p (x))) Q)
    (k15 : ¬ n ≤ p → kd ≤ 1 → kd ≤ 1 → m = 0 → b = true → ¬ (lg_cmp x 0) = 0 → kd = 0 → xE mX7_prepare 5 [(0, .ref 74), (1, .ref 2), (2, .ref 3), (3, .int (nI (1))), (4, .int (nI (p + 1)))] [] (xmm (wl u 83 p (x))) Q) : xE mX7_prepare 5 [(0, .ref 74), (1, .ref 2), (2, .ref 3), (3, .int (xb (b = true))), (4, .int (nI (p)))] [] (xmm u) Q := by
  refine xe_iload 4 dX7_prepare_5 rfl ?_
  refine xe_aload_n 2 dX7_prepare_7 rfl rfl ?_
  refine xr_getI (v := nI (n)) dX7_prepare_8 fX7_56 sh3 (by decide) v2 ?_
  refine xn_icmp_ge 119 dX7_prepare_11 (by decide) (by omega) (by omega) (fun c1 => ?_) (fun c1 => ?_)
  · refine xe_iconst (v := nI (0)) dX7_prepare_119 xc0 ?_
    refine xe_istore (L2 := [(0, .ref 74), (1, .ref 2), (2, .ref 3), (3, .int (xb (b = true))), (4, .int (nI (0)))]) dX7_prepare_120 (by decide) rfl ?_
    exact k1 c1
  · refine xe_aload_n 2 dX7_prepare_14 rfl rfl ?_
    refine xr_getR (b := 4) dX7_prepare_15 fX7_62 rfl sh3 (by decide) rfl ?_
    refine xe_iload 4 dX7_prepare_18 rfl ?_
    refine xr_aald (k := p) (b := (6 + 4 * p)) dX7_prepare_20 sh4 (by decide) (by decide) (by decide) (by omega) (by decide) (rParts (by omega)) ?_
    refine xe_astore (L2 := [(0, .ref 74), (1, .ref 2), (2, .ref 3), (3, .int (xb (b = true))), (4, .int (nI (p))), (5, .ref (6 + 4 * p))]) dX7_prepare_21 (by decide) rfl ?_
    refine xe_aload_n 0 dX7_prepare_23 rfl rfl ?_
    refine xr_getR (b := 83) dX7_prepare_24 fX7_20 rfl sh74 (by decide) rfl ?_
    refine xe_iload 4 dX7_prepare_27 rfl ?_
    refine xe_aload 5 dX7_prepare_29 rfl ?_
    refine xe_callV (As := []) (rest := [.int (nI (p)), .ref 83]) dX7_prepare_31 wX3_isFact lX7_66 iX3_isFact sX3_isFact ⟨by decide, by decide⟩ (shP _ (by omega)) rfl (xin_mm (by omega)) rfl rfl (by simp [Value.category]) (xC.pure (v := .int (xb (kd ≤ 1))) (qX3_isFact u p kd (by omega) (by omega) v3) ?_)
    refine xb_if_eq 52 dX7_prepare_34 (by decide) (fun c2 => ?_) (fun c2 => ?_)
    · refine xe_lconst (v := 0) dX7_prepare_52 (by decide) ?_
      refine xr_last (k := p) dX7_prepare_53 sh83 (by decide) (by omega) (by decide) ?_
      refine xe_aload 5 dX7_prepare_54 rfl ?_
      refine xe_callV (As := []) (rest := []) dX7_prepare_56 wX3_isFact lX7_66 iX3_isFact sX3_isFact ⟨by decide, by decide⟩ (shP _ (by omega)) rfl (xin_mm (by omega)) rfl rfl (by simp [Value.category]) (xC.pure (v := .int (xb (kd ≤ 1))) (qX3_isFact (wl u 83 p (0)) p kd (by omega) (by omega) (wl_i.trans v3)) ?_)
      refine xb_if_eq 113 dX7_prepare_59 (by decide) (fun c3 => ?_) (fun c3 => ?_)
      · refine xn_iinc (c := 1) (L2 := [(0, .ref 74), (1, .ref 2), (2, .ref 3), (3, .int (xb (b = true))), (4, .int (nI (p + 1))), (5, .ref (6 + 4 * p))]) 4 dX7_prepare_113 rfl (by decide) rfl ?_
        refine xe_goto 5 dX7_prepare_116 (by decide) ?_
        refine xE.sub [0, 1, 2, 3, 4] rfl ?_
        exact k2 c1 c2 c3
      · refine xe_aload 5 dX7_prepare_62 rfl ?_
        refine xr_getI (v := nI (m)) dX7_prepare_64 fX7_79 (shP _ (by omega)) (by omega) (wl_i.trans v4) ?_
        refine xn_if_ne 113 dX7_prepare_67 (by decide) (by omega) (fun c4 => ?_) (fun c4 => ?_)
        · refine xn_iinc (c := 1) (L2 := [(0, .ref 74), (1, .ref 2), (2, .ref 3), (3, .int (xb (b = true))), (4, .int (nI (p + 1))), (5, .ref (6 + 4 * p))]) 4 dX7_prepare_113 rfl (by decide) rfl ?_
          refine xe_goto 5 dX7_prepare_116 (by decide) ?_
          refine xE.sub [0, 1, 2, 3, 4] rfl ?_
          exact k3 c1 c2 c3 c4
        · refine xe_iload_n 3 dX7_prepare_70 rfl rfl ?_
          refine xb_if_eq 111 dX7_prepare_71 (by decide) (fun c5 => ?_) (fun c5 => ?_)
          · refine xe_iconst (v := nI (0)) dX7_prepare_111 xc0 ?_
            refine xe_istore_n (L2 := [(0, .ref 74), (1, .ref 2), (2, .ref 3), (3, .int (nI (0))), (4, .int (nI (p))), (5, .ref (6 + 4 * p))]) dX7_prepare_112 rfl (by decide) rfl ?_
            refine xn_iinc (c := 1) (L2 := [(0, .ref 74), (1, .ref 2), (2, .ref 3), (3, .int (nI (0))), (4, .int (nI (p + 1))), (5, .ref (6 + 4 * p))]) 4 dX7_prepare_113 rfl (by decide) rfl ?_
            refine xe_goto 5 dX7_prepare_116 (by decide) ?_
            refine xE.sub [0, 1, 2, 3, 4] rfl ?_
            exact k4 c1 c2 c3 c4 c5
          · refine xe_aload_n 0 dX7_prepare_74 rfl rfl ?_
            refine xr_getR (b := 83) dX7_prepare_75 fX7_20 rfl sh74 (by decide) rfl ?_
            refine xe_iload 4 dX7_prepare_78 rfl ?_
            refine xr_lald (k := p) (v := 0) dX7_prepare_80 sh83 (by decide) (by omega) (by decide) wl_self ?_
            refine xe_lconst (v := 0) dX7_prepare_81 (by decide) ?_
            refine xe_lcmp dX7_prepare_82 ?_
            refine xe_if_eq 90 dX7_prepare_83 (by decide) (fun c6 => ?_) (fun c6 => ?_)
            · refine xe_iconst (v := nI (0)) dX7_prepare_90 xc0 ?_
              refine xe_aload 5 dX7_prepare_91 rfl ?_
              refine xr_getI (v := nI (kd)) dX7_prepare_93 fX7_82 (shP _ (by omega)) (by omega) (wl_i.trans v3) ?_
              refine xn_if_ne 103 dX7_prepare_96 (by decide) (by omega) (fun c7 => ?_) (fun c7 => ?_)
              · refine xe_iconst (v := nI (0)) dX7_prepare_103 xc0 ?_
                refine xn_icmp_ne 111 dX7_prepare_104 (by decide) (by omega) (by omega) (fun q => absurd q (by decide)) (fun _ => ?_)
                refine xe_iconst (v := nI (1)) dX7_prepare_107 xc1 ?_
                refine xe_goto 112 dX7_prepare_108 (by decide) ?_
                refine xe_istore_n (L2 := [(0, .ref 74), (1, .ref 2), (2, .ref 3), (3, .int (nI (1))), (4, .int (nI (p))), (5, .ref (6 + 4 * p))]) dX7_prepare_112 rfl (by decide) rfl ?_
                refine xn_iinc (c := 1) (L2 := [(0, .ref 74), (1, .ref 2), (2, .ref 3), (3, .int (nI (1))), (4, .int (nI (p + 1))), (5, .ref (6 + 4 * p))]) 4 dX7_prepare_113 rfl (by decide) rfl ?_
                refine xe_goto 5 dX7_prepare_116 (by decide) ?_
                refine xE.sub [0, 1, 2, 3, 4] rfl ?_
                exact k5 c1 c2 c3 c4 c5 c6 c7
              · refine xe_iconst (v := nI (1)) dX7_prepare_99 xc1 ?_
                refine xe_goto 104 dX7_prepare_100 (by decide) ?_
                refine xn_icmp_ne 111 dX7_prepare_104 (by decide) (by omega) (by omega) (fun _ => ?_) (fun q => absurd q (by decide))
                refine xe_iconst (v := nI (0)) dX7_prepare_111 xc0 ?_
                refine xe_istore_n (L2 := [(0, .ref 74), (1, .ref 2), (2, .ref 3), (3, .int (nI (0))), (4, .int (nI (p))), (5, .ref (6 + 4 * p))]) dX7_prepare_112 rfl (by decide) rfl ?_
                refine xn_iinc (c := 1) (L2 := [(0, .ref 74), (1, .ref 2), (2, .ref 3), (3, .int (nI (0))), (4, .int (nI (p + 1))), (5, .ref (6 + 4 * p))]) 4 dX7_prepare_113 rfl (by decide) rfl ?_
                refine xe_goto 5 dX7_prepare_116 (by decide) ?_
                refine xE.sub [0, 1, 2, 3, 4] rfl ?_
                exact k6 c1 c2 c3 c4 c5 c6 c7
            · refine xe_iconst (v := nI (1)) dX7_prepare_86 xc1 ?_
              refine xe_goto 91 dX7_prepare_87 (by decide) ?_
              refine xe_aload 5 dX7_prepare_91 rfl ?_
              refine xr_getI (v := nI (kd)) dX7_prepare_93 fX7_82 (shP _ (by omega)) (by omega) (wl_i.trans v3) ?_
              refine xn_if_ne 103 dX7_prepare_96 (by decide) (by omega) (fun c8 => ?_) (fun c8 => ?_)
              · refine xe_iconst (v := nI (0)) dX7_prepare_103 xc0 ?_
                refine xn_icmp_ne 111 dX7_prepare_104 (by decide) (by omega) (by omega) (fun _ => ?_) (fun q => absurd q (by decide))
                refine xe_iconst (v := nI (0)) dX7_prepare_111 xc0 ?_
                refine xe_istore_n (L2 := [(0, .ref 74), (1, .ref 2), (2, .ref 3), (3, .int (nI (0))), (4, .int (nI (p))), (5, .ref (6 + 4 * p))]) dX7_prepare_112 rfl (by decide) rfl ?_
                refine xn_iinc (c := 1) (L2 := [(0, .ref 74), (1, .ref 2), (2, .ref 3), (3, .int (nI (0))), (4, .int (nI (p + 1))), (5, .ref (6 + 4 * p))]) 4 dX7_prepare_113 rfl (by decide) rfl ?_
                refine xe_goto 5 dX7_prepare_116 (by decide) ?_
                refine xE.sub [0, 1, 2, 3, 4] rfl ?_
                exact k7 c1 c2 c3 c4 c5 c6 c8
              · refine xe_iconst (v := nI (1)) dX7_prepare_99 xc1 ?_
                refine xe_goto 104 dX7_prepare_100 (by decide) ?_
                refine xn_icmp_ne 111 dX7_prepare_104 (by decide) (by omega) (by omega) (fun q => absurd q (by decide)) (fun _ => ?_)
                refine xe_iconst (v := nI (1)) dX7_prepare_107 xc1 ?_
                refine xe_goto 112 dX7_prepare_108 (by decide) ?_
                refine xe_istore_n (L2 := [(0, .ref 74), (1, .ref 2), (2, .ref 3), (3, .int (nI (1))), (4, .int (nI (p))), (5, .ref (6 + 4 * p))]) dX7_prepare_112 rfl (by decide) rfl ?_
                refine xn_iinc (c := 1) (L2 := [(0, .ref 74), (1, .ref 2), (2, .ref 3), (3, .int (nI (1))), (4, .int (nI (p + 1))), (5, .ref (6 + 4 * p))]) 4 dX7_prepare_113 rfl (by decide) rfl ?_
                refine xe_goto 5 dX7_prepare_116 (by decide) ?_
                refine xE.sub [0, 1, 2, 3, 4] rfl ?_
                exact k8 c1 c2 c3 c4 c5 c6 c8
    · refine xe_aload_n 1 dX7_prepare_37 rfl rfl ?_
      refine xe_aload 5 dX7_prepare_38 rfl ?_
      refine xr_getI (v := nI (t)) dX7_prepare_40 fX7_72 (shP _ (by omega)) (by omega) v5 ?_
      refine xr_aald (k := t) (b := (156 + 2 * t)) dX7_prepare_43 sh2 (by decide) (by decide) (by decide) (by omega) (by decide) (rTabs (by omega)) ?_
      refine xe_aload 5 dX7_prepare_44 rfl ?_
      refine xe_callS (As := [.ref (156 + 2 * t), .ref (6 + 4 * p)]) (rest := [.int (nI (p)), .ref 83]) dX7_prepare_46 wX7_fittingRows lX7_75 tX7_fittingRows ⟨by decide, by decide⟩ rfl rfl (by simp [Value.category]) (xC.pure (v := .long (x)) (hfr) ?_)
      refine xe_goto 53 dX7_prepare_49 (by decide) ?_
      refine xr_last (k := p) dX7_prepare_53 sh83 (by decide) (by omega) (by decide) ?_
      refine xe_aload 5 dX7_prepare_54 rfl ?_
      refine xe_callV (As := []) (rest := []) dX7_prepare_56 wX3_isFact lX7_66 iX3_isFact sX3_isFact ⟨by decide, by decide⟩ (shP _ (by omega)) rfl (xin_mm (by omega)) rfl rfl (by simp [Value.category]) (xC.pure (v := .int (xb (kd ≤ 1))) (qX3_isFact (wl u 83 p (x)) p kd (by omega) (by omega) (wl_i.trans v3)) ?_)
      refine xb_if_eq 113 dX7_prepare_59 (by decide) (fun c9 => ?_) (fun c9 => ?_)
      · refine xn_iinc (c := 1) (L2 := [(0, .ref 74), (1, .ref 2), (2, .ref 3), (3, .int (xb (b = true))), (4, .int (nI (p + 1))), (5, .ref (6 + 4 * p))]) 4 dX7_prepare_113 rfl (by decide) rfl ?_
        refine xe_goto 5 dX7_prepare_116 (by decide) ?_
        refine xE.sub [0, 1, 2, 3, 4] rfl ?_
        exact k9 c1 c2 c9
      · refine xe_aload 5 dX7_prepare_62 rfl ?_
        refine xr_getI (v := nI (m)) dX7_prepare_64 fX7_79 (shP _ (by omega)) (by omega) (wl_i.trans v4) ?_
        refine xn_if_ne 113 dX7_prepare_67 (by decide) (by omega) (fun c10 => ?_) (fun c10 => ?_)
        · refine xn_iinc (c := 1) (L2 := [(0, .ref 74), (1, .ref 2), (2, .ref 3), (3, .int (xb (b = true))), (4, .int (nI (p + 1))), (5, .ref (6 + 4 * p))]) 4 dX7_prepare_113 rfl (by decide) rfl ?_
          refine xe_goto 5 dX7_prepare_116 (by decide) ?_
          refine xE.sub [0, 1, 2, 3, 4] rfl ?_
          exact k10 c1 c2 c9 c10
        · refine xe_iload_n 3 dX7_prepare_70 rfl rfl ?_
          refine xb_if_eq 111 dX7_prepare_71 (by decide) (fun c11 => ?_) (fun c11 => ?_)
          · refine xe_iconst (v := nI (0)) dX7_prepare_111 xc0 ?_
            refine xe_istore_n (L2 := [(0, .ref 74), (1, .ref 2), (2, .ref 3), (3, .int (nI (0))), (4, .int (nI (p))), (5, .ref (6 + 4 * p))]) dX7_prepare_112 rfl (by decide) rfl ?_
            refine xn_iinc (c := 1) (L2 := [(0, .ref 74), (1, .ref 2), (2, .ref 3), (3, .int (nI (0))), (4, .int (nI (p + 1))), (5, .ref (6 + 4 * p))]) 4 dX7_prepare_113 rfl (by decide) rfl ?_
            refine xe_goto 5 dX7_prepare_116 (by decide) ?_
            refine xE.sub [0, 1, 2, 3, 4] rfl ?_
            exact k11 c1 c2 c9 c10 c11
          · refine xe_aload_n 0 dX7_prepare_74 rfl rfl ?_
            refine xr_getR (b := 83) dX7_prepare_75 fX7_20 rfl sh74 (by decide) rfl ?_
            refine xe_iload 4 dX7_prepare_78 rfl ?_
            refine xr_lald (k := p) (v := x) dX7_prepare_80 sh83 (by decide) (by omega) (by decide) wl_self ?_
            refine xe_lconst (v := 0) dX7_prepare_81 (by decide) ?_
            refine xe_lcmp dX7_prepare_82 ?_
            refine xe_if_eq 90 dX7_prepare_83 (by decide) (fun c12 => ?_) (fun c12 => ?_)
            · refine xe_iconst (v := nI (0)) dX7_prepare_90 xc0 ?_
              refine xe_aload 5 dX7_prepare_91 rfl ?_
              refine xr_getI (v := nI (kd)) dX7_prepare_93 fX7_82 (shP _ (by omega)) (by omega) (wl_i.trans v3) ?_
              refine xn_if_ne 103 dX7_prepare_96 (by decide) (by omega) (fun c13 => ?_) (fun c13 => ?_)
              · refine xe_iconst (v := nI (0)) dX7_prepare_103 xc0 ?_
                refine xn_icmp_ne 111 dX7_prepare_104 (by decide) (by omega) (by omega) (fun q => absurd q (by decide)) (fun _ => ?_)
                refine xe_iconst (v := nI (1)) dX7_prepare_107 xc1 ?_
                refine xe_goto 112 dX7_prepare_108 (by decide) ?_
                refine xe_istore_n (L2 := [(0, .ref 74), (1, .ref 2), (2, .ref 3), (3, .int (nI (1))), (4, .int (nI (p))), (5, .ref (6 + 4 * p))]) dX7_prepare_112 rfl (by decide) rfl ?_
                refine xn_iinc (c := 1) (L2 := [(0, .ref 74), (1, .ref 2), (2, .ref 3), (3, .int (nI (1))), (4, .int (nI (p + 1))), (5, .ref (6 + 4 * p))]) 4 dX7_prepare_113 rfl (by decide) rfl ?_
                refine xe_goto 5 dX7_prepare_116 (by decide) ?_
                refine xE.sub [0, 1, 2, 3, 4] rfl ?_
                exact k12 c1 c2 c9 c10 c11 c12 c13
              · refine xe_iconst (v := nI (1)) dX7_prepare_99 xc1 ?_
                refine xe_goto 104 dX7_prepare_100 (by decide) ?_
                refine xn_icmp_ne 111 dX7_prepare_104 (by decide) (by omega) (by omega) (fun _ => ?_) (fun q => absurd q (by decide))
                refine xe_iconst (v := nI (0)) dX7_prepare_111 xc0 ?_
                refine xe_istore_n (L2 := [(0, .ref 74), (1, .ref 2), (2, .ref 3), (3, .int (nI (0))), (4, .int (nI (p))), (5, .ref (6 + 4 * p))]) dX7_prepare_112 rfl (by decide) rfl ?_
                refine xn_iinc (c := 1) (L2 := [(0, .ref 74), (1, .ref 2), (2, .ref 3), (3, .int (nI (0))), (4, .int (nI (p + 1))), (5, .ref (6 + 4 * p))]) 4 dX7_prepare_113 rfl (by decide) rfl ?_
                refine xe_goto 5 dX7_prepare_116 (by decide) ?_
                refine xE.sub [0, 1, 2, 3, 4] rfl ?_
                exact k13 c1 c2 c9 c10 c11 c12 c13
            · refine xe_iconst (v := nI (1)) dX7_prepare_86 xc1 ?_
              refine xe_goto 91 dX7_prepare_87 (by decide) ?_
              refine xe_aload 5 dX7_prepare_91 rfl ?_
              refine xr_getI (v := nI (kd)) dX7_prepare_93 fX7_82 (shP _ (by omega)) (by omega) (wl_i.trans v3) ?_
              refine xn_if_ne 103 dX7_prepare_96 (by decide) (by omega) (fun c14 => ?_) (fun c14 => ?_)
              · refine xe_iconst (v := nI (0)) dX7_prepare_103 xc0 ?_
                refine xn_icmp_ne 111 dX7_prepare_104 (by decide) (by omega) (by omega) (fun _ => ?_) (fun q => absurd q (by decide))
                refine xe_iconst (v := nI (0)) dX7_prepare_111 xc0 ?_
                refine xe_istore_n (L2 := [(0, .ref 74), (1, .ref 2), (2, .ref 3), (3, .int (nI (0))), (4, .int (nI (p))), (5, .ref (6 + 4 * p))]) dX7_prepare_112 rfl (by decide) rfl ?_
                refine xn_iinc (c := 1) (L2 := [(0, .ref 74), (1, .ref 2), (2, .ref 3), (3, .int (nI (0))), (4, .int (nI (p + 1))), (5, .ref (6 + 4 * p))]) 4 dX7_prepare_113 rfl (by decide) rfl ?_
                refine xe_goto 5 dX7_prepare_116 (by decide) ?_
                refine xE.sub [0, 1, 2, 3, 4] rfl ?_
                exact k14 c1 c2 c9 c10 c11 c12 c14
              · refine xe_iconst (v := nI (1)) dX7_prepare_99 xc1 ?_
                refine xe_goto 104 dX7_prepare_100 (by decide) ?_
                refine xn_icmp_ne 111 dX7_prepare_104 (by decide) (by omega) (by omega) (fun q => absurd q (by decide)) (fun _ => ?_)
                refine xe_iconst (v := nI (1)) dX7_prepare_107 xc1 ?_
                refine xe_goto 112 dX7_prepare_108 (by decide) ?_
                refine xe_istore_n (L2 := [(0, .ref 74), (1, .ref 2), (2, .ref 3), (3, .int (nI (1))), (4, .int (nI (p))), (5, .ref (6 + 4 * p))]) dX7_prepare_112 rfl (by decide) rfl ?_
                refine xn_iinc (c := 1) (L2 := [(0, .ref 74), (1, .ref 2), (2, .ref 3), (3, .int (nI (1))), (4, .int (nI (p + 1))), (5, .ref (6 + 4 * p))]) 4 dX7_prepare_113 rfl (by decide) rfl ?_
                refine xe_goto 5 dX7_prepare_116 (by decide) ?_
                refine xE.sub [0, 1, 2, 3, 4] rfl ?_
                exact k15 c1 c2 c9 c10 c11 c12 c14

theorem gX7_prepare_c (u : xU) (nn n p kd : Nat) (b : Bool) {Q : Option Value → xM → Prop} (hnn : nn ≤ 6) (hn : n ≤ 10) (hp : p < n) (hkd : kd ≤ 3) (hk2 : 2 ≤ kd) (v1 : u.1 3 0 = nI (nn)) (v2 : u.1 3 1 = nI (n)) (v3 : u.1 (6 + 4 * p) 0 = nI (kd))
    (k1 : n ≤ p → xE mX7_prepare 122 [(0, .ref 74), (1, .ref 2), (2, .ref 3), (3, .int (xb (b = true))), (4, .int (nI (0)))] [] (xmm u) Q)
    (k2 : ¬ n ≤ p → ¬ (kd ≤ 1) → ¬ (kd ≤ 1) → xE mX7_prepare 5 [(0, .ref 74), (1, .ref 2), (2, .ref 3), (3, .int (xb (b = true))), (4, .int (nI (p + 1)))] [] (xmm (wl u 83 p (0))) Q)
    (k3 : ¬ n ≤ p → ¬ (kd ≤ 1) → kd ≤ 1 → ¬ (u.1 (6 + 4 * p) 3) = 0 → xE mX7_prepare 5 [(0, .ref 74), (1, .ref 2), (2, .ref 3), (3, .int (xb (b = true))), (4, .int (nI (p + 1)))] [] (xmm (wl u 83 p (0))) Q)
    (k4 : ¬ n ≤ p → ¬ (kd ≤ 1) → kd ≤ 1 → (u.1 (6 + 4 * p) 3) = 0 → ¬ (b = true) → xE mX7_prepare 5 [(0, .ref 74), (1, .ref 2), (2, .ref 3), (3, .int (nI (0))), (4, .int (nI (p + 1)))] [] (xmm (wl u 83 p (0))) Q)
    (k5 : ¬ n ≤ p → ¬ (kd ≤ 1) → kd ≤ 1 → (u.1 (6 + 4 * p) 3) = 0 → b = true → (lg_cmp 0 0) = 0 → ¬ kd = 0 → xE mX7_prepare 5 [(0, .ref 74), (1, .ref 2), (2, .ref 3), (3, .int (nI (1))), (4, .int (nI (p + 1)))] [] (xmm (wl u 83 p (0))) Q)
    (k6 : ¬ n ≤ p → ¬ (kd ≤ 1) → kd ≤ 1 → (u.1 (6 + 4 * p) 3) = 0 → b = true → (lg_cmp 0 0) = 0 → kd = 0 → xE mX7_prepare 5 [(0, .ref 74), (1, .ref 2), (2, .ref 3), (3, .int (nI (0))), (4, .int (nI (p + 1)))] [] (xmm (wl u 83 p (0))) Q)
    (k7 : ¬ n ≤ p → ¬ (kd ≤ 1) → kd ≤ 1 → (u.1 (6 + 4 * p) 3) = 0 → b = true → ¬ (lg_cmp 0 0) = 0 → ¬ kd = 0 → xE mX7_prepare 5 [(0, .ref 74), (1, .ref 2), (2, .ref 3), (3, .int (nI (0))), (4, .int (nI (p + 1)))] [] (xmm (wl u 83 p (0))) Q)
    (k8 : ¬ n ≤ p → ¬ (kd ≤ 1) → kd ≤ 1 → (u.1 (6 + 4 * p) 3) = 0 → b = true → ¬ (lg_cmp 0 0) = 0 → kd = 0 → xE mX7_prepare 5 [(0, .ref 74), (1, .ref 2), (2, .ref 3), (3, .int (nI (1))), (4, .int (nI (p + 1)))] [] (xmm (wl u 83 p (0))) Q)
    (k9 : ¬ n ≤ p → kd ≤ 1 → False) : xE mX7_prepare 5 [(0, .ref 74), (1, .ref 2), (2, .ref 3), (3, .int (xb (b = true))), (4, .int (nI (p)))] [] (xmm u) Q := by
  refine xe_iload 4 dX7_prepare_5 rfl ?_
  refine xe_aload_n 2 dX7_prepare_7 rfl rfl ?_
  refine xr_getI (v := nI (n)) dX7_prepare_8 fX7_56 sh3 (by decide) v2 ?_
  refine xn_icmp_ge 119 dX7_prepare_11 (by decide) (by omega) (by omega) (fun c1 => ?_) (fun c1 => ?_)
  · refine xe_iconst (v := nI (0)) dX7_prepare_119 xc0 ?_
    refine xe_istore (L2 := [(0, .ref 74), (1, .ref 2), (2, .ref 3), (3, .int (xb (b = true))), (4, .int (nI (0)))]) dX7_prepare_120 (by decide) rfl ?_
    exact k1 c1
  · refine xe_aload_n 2 dX7_prepare_14 rfl rfl ?_
    refine xr_getR (b := 4) dX7_prepare_15 fX7_62 rfl sh3 (by decide) rfl ?_
    refine xe_iload 4 dX7_prepare_18 rfl ?_
    refine xr_aald (k := p) (b := (6 + 4 * p)) dX7_prepare_20 sh4 (by decide) (by decide) (by decide) (by omega) (by decide) (rParts (by omega)) ?_
    refine xe_astore (L2 := [(0, .ref 74), (1, .ref 2), (2, .ref 3), (3, .int (xb (b = true))), (4, .int (nI (p))), (5, .ref (6 + 4 * p))]) dX7_prepare_21 (by decide) rfl ?_
    refine xe_aload_n 0 dX7_prepare_23 rfl rfl ?_
    refine xr_getR (b := 83) dX7_prepare_24 fX7_20 rfl sh74 (by decide) rfl ?_
    refine xe_iload 4 dX7_prepare_27 rfl ?_
    refine xe_aload 5 dX7_prepare_29 rfl ?_
    refine xe_callV (As := []) (rest := [.int (nI (p)), .ref 83]) dX7_prepare_31 wX3_isFact lX7_66 iX3_isFact sX3_isFact ⟨by decide, by decide⟩ (shP _ (by omega)) rfl (xin_mm (by omega)) rfl rfl (by simp [Value.category]) (xC.pure (v := .int (xb (kd ≤ 1))) (qX3_isFact u p kd (by omega) (by omega) v3) ?_)
    refine xb_if_eq 52 dX7_prepare_34 (by decide) (fun c2 => ?_) (fun c2 => ?_)
    · refine xe_lconst (v := 0) dX7_prepare_52 (by decide) ?_
      refine xr_last (k := p) dX7_prepare_53 sh83 (by decide) (by omega) (by decide) ?_
      refine xe_aload 5 dX7_prepare_54 rfl ?_
      refine xe_callV (As := []) (rest := []) dX7_prepare_56 wX3_isFact lX7_66 iX3_isFact sX3_isFact ⟨by decide, by decide⟩ (shP _ (by omega)) rfl (xin_mm (by omega)) rfl rfl (by simp [Value.category]) (xC.pure (v := .int (xb (kd ≤ 1))) (qX3_isFact (wl u 83 p (0)) p kd (by omega) (by omega) (wl_i.trans v3)) ?_)
      refine xb_if_eq 113 dX7_prepare_59 (by decide) (fun c3 => ?_) (fun c3 => ?_)
      · refine xn_iinc (c := 1) (L2 := [(0, .ref 74), (1, .ref 2), (2, .ref 3), (3, .int (xb (b = true))), (4, .int (nI (p + 1))), (5, .ref (6 + 4 * p))]) 4 dX7_prepare_113 rfl (by decide) rfl ?_
        refine xe_goto 5 dX7_prepare_116 (by decide) ?_
        refine xE.sub [0, 1, 2, 3, 4] rfl ?_
        exact k2 c1 c2 c3
      · refine xe_aload 5 dX7_prepare_62 rfl ?_
        refine xr_getI (v := u.1 (6 + 4 * p) 3) dX7_prepare_64 fX7_79 (shP _ (by omega)) (by omega) (wl_i) ?_
        refine xe_if_ne 113 dX7_prepare_67 (by decide) (fun c4 => ?_) (fun c4 => ?_)
        · refine xn_iinc (c := 1) (L2 := [(0, .ref 74), (1, .ref 2), (2, .ref 3), (3, .int (xb (b = true))), (4, .int (nI (p + 1))), (5, .ref (6 + 4 * p))]) 4 dX7_prepare_113 rfl (by decide) rfl ?_
          refine xe_goto 5 dX7_prepare_116 (by decide) ?_
          refine xE.sub [0, 1, 2, 3, 4] rfl ?_
          exact k3 c1 c2 c3 c4
        · refine xe_iload_n 3 dX7_prepare_70 rfl rfl ?_
          refine xb_if_eq 111 dX7_prepare_71 (by decide) (fun c5 => ?_) (fun c5 => ?_)
          · refine xe_iconst (v := nI (0)) dX7_prepare_111 xc0 ?_
            refine xe_istore_n (L2 := [(0, .ref 74), (1, .ref 2), (2, .ref 3), (3, .int (nI (0))), (4, .int (nI (p))), (5, .ref (6 + 4 * p))]) dX7_prepare_112 rfl (by decide) rfl ?_
            refine xn_iinc (c := 1) (L2 := [(0, .ref 74), (1, .ref 2), (2, .ref 3), (3, .int (nI (0))), (4, .int (nI (p + 1))), (5, .ref (6 + 4 * p))]) 4 dX7_prepare_113 rfl (by decide) rfl ?_
            refine xe_goto 5 dX7_prepare_116 (by decide) ?_
            refine xE.sub [0, 1, 2, 3, 4] rfl ?_
            exact k4 c1 c2 c3 c4 c5
          · refine xe_aload_n 0 dX7_prepare_74 rfl rfl ?_
            refine xr_getR (b := 83) dX7_prepare_75 fX7_20 rfl sh74 (by decide) rfl ?_
            refine xe_iload 4 dX7_prepare_78 rfl ?_
            refine xr_lald (k := p) (v := 0) dX7_prepare_80 sh83 (by decide) (by omega) (by decide) wl_self ?_
            refine xe_lconst (v := 0) dX7_prepare_81 (by decide) ?_
            refine xe_lcmp dX7_prepare_82 ?_
            refine xe_if_eq 90 dX7_prepare_83 (by decide) (fun c6 => ?_) (fun c6 => ?_)
            · refine xe_iconst (v := nI (0)) dX7_prepare_90 xc0 ?_
              refine xe_aload 5 dX7_prepare_91 rfl ?_
              refine xr_getI (v := nI (kd)) dX7_prepare_93 fX7_82 (shP _ (by omega)) (by omega) (wl_i.trans v3) ?_
              refine xn_if_ne 103 dX7_prepare_96 (by decide) (by omega) (fun c7 => ?_) (fun c7 => ?_)
              · refine xe_iconst (v := nI (0)) dX7_prepare_103 xc0 ?_
                refine xn_icmp_ne 111 dX7_prepare_104 (by decide) (by omega) (by omega) (fun q => absurd q (by decide)) (fun _ => ?_)
                refine xe_iconst (v := nI (1)) dX7_prepare_107 xc1 ?_
                refine xe_goto 112 dX7_prepare_108 (by decide) ?_
                refine xe_istore_n (L2 := [(0, .ref 74), (1, .ref 2), (2, .ref 3), (3, .int (nI (1))), (4, .int (nI (p))), (5, .ref (6 + 4 * p))]) dX7_prepare_112 rfl (by decide) rfl ?_
                refine xn_iinc (c := 1) (L2 := [(0, .ref 74), (1, .ref 2), (2, .ref 3), (3, .int (nI (1))), (4, .int (nI (p + 1))), (5, .ref (6 + 4 * p))]) 4 dX7_prepare_113 rfl (by decide) rfl ?_
                refine xe_goto 5 dX7_prepare_116 (by decide) ?_
                refine xE.sub [0, 1, 2, 3, 4] rfl ?_
                exact k5 c1 c2 c3 c4 c5 c6 c7
              · refine xe_iconst (v := nI (1)) dX7_prepare_99 xc1 ?_
                refine xe_goto 104 dX7_prepare_100 (by decide) ?_
                refine xn_icmp_ne 111 dX7_prepare_104 (by decide) (by omega) (by omega) (fun _ => ?_) (fun q => absurd q (by decide))
                refine xe_iconst (v := nI (0)) dX7_prepare_111 xc0 ?_
                refine xe_istore_n (L2 := [(0, .ref 74), (1, .ref 2), (2, .ref 3), (3, .int (nI (0))), (4, .int (nI (p))), (5, .ref (6 + 4 * p))]) dX7_prepare_112 rfl (by decide) rfl ?_
                refine xn_iinc (c := 1) (L2 := [(0, .ref 74), (1, .ref 2), (2, .ref 3), (3, .int (nI (0))), (4, .int (nI (p + 1))), (5, .ref (6 + 4 * p))]) 4 dX7_prepare_113 rfl (by decide) rfl ?_
                refine xe_goto 5 dX7_prepare_116 (by decide) ?_
                refine xE.sub [0, 1, 2, 3, 4] rfl ?_
                exact k6 c1 c2 c3 c4 c5 c6 c7
            · refine xe_iconst (v := nI (1)) dX7_prepare_86 xc1 ?_
              refine xe_goto 91 dX7_prepare_87 (by decide) ?_
              refine xe_aload 5 dX7_prepare_91 rfl ?_
              refine xr_getI (v := nI (kd)) dX7_prepare_93 fX7_82 (shP _ (by omega)) (by omega) (wl_i.trans v3) ?_
              refine xn_if_ne 103 dX7_prepare_96 (by decide) (by omega) (fun c8 => ?_) (fun c8 => ?_)
              · refine xe_iconst (v := nI (0)) dX7_prepare_103 xc0 ?_
                refine xn_icmp_ne 111 dX7_prepare_104 (by decide) (by omega) (by omega) (fun _ => ?_) (fun q => absurd q (by decide))
                refine xe_iconst (v := nI (0)) dX7_prepare_111 xc0 ?_
                refine xe_istore_n (L2 := [(0, .ref 74), (1, .ref 2), (2, .ref 3), (3, .int (nI (0))), (4, .int (nI (p))), (5, .ref (6 + 4 * p))]) dX7_prepare_112 rfl (by decide) rfl ?_
                refine xn_iinc (c := 1) (L2 := [(0, .ref 74), (1, .ref 2), (2, .ref 3), (3, .int (nI (0))), (4, .int (nI (p + 1))), (5, .ref (6 + 4 * p))]) 4 dX7_prepare_113 rfl (by decide) rfl ?_
                refine xe_goto 5 dX7_prepare_116 (by decide) ?_
                refine xE.sub [0, 1, 2, 3, 4] rfl ?_
                exact k7 c1 c2 c3 c4 c5 c6 c8
              · refine xe_iconst (v := nI (1)) dX7_prepare_99 xc1 ?_
                refine xe_goto 104 dX7_prepare_100 (by decide) ?_
                refine xn_icmp_ne 111 dX7_prepare_104 (by decide) (by omega) (by omega) (fun q => absurd q (by decide)) (fun _ => ?_)
                refine xe_iconst (v := nI (1)) dX7_prepare_107 xc1 ?_
                refine xe_goto 112 dX7_prepare_108 (by decide) ?_
                refine xe_istore_n (L2 := [(0, .ref 74), (1, .ref 2), (2, .ref 3), (3, .int (nI (1))), (4, .int (nI (p))), (5, .ref (6 + 4 * p))]) dX7_prepare_112 rfl (by decide) rfl ?_
                refine xn_iinc (c := 1) (L2 := [(0, .ref 74), (1, .ref 2), (2, .ref 3), (3, .int (nI (1))), (4, .int (nI (p + 1))), (5, .ref (6 + 4 * p))]) 4 dX7_prepare_113 rfl (by decide) rfl ?_
                refine xe_goto 5 dX7_prepare_116 (by decide) ?_
                refine xE.sub [0, 1, 2, 3, 4] rfl ?_
                exact k8 c1 c2 c3 c4 c5 c6 c8
    · refine xe_aload_n 1 dX7_prepare_37 rfl rfl ?_
      refine xe_aload 5 dX7_prepare_38 rfl ?_
      refine xr_getI (v := u.1 (6 + 4 * p) 1) dX7_prepare_40 fX7_72 (shP _ (by omega)) (by omega) rfl ?_
      exact (k9 c1 c2).elim

theorem gX7_prepare_e (u : xU) (nn n p : Nat) (b : Bool) {Q : Option Value → xM → Prop} (hnn : nn ≤ 6) (hn : n ≤ 10) (hp : p = n) (v1 : u.1 3 0 = nI (nn)) (v2 : u.1 3 1 = nI (n))
    (k1 : n ≤ p → xE mX7_prepare 122 [(0, .ref 74), (1, .ref 2), (2, .ref 3), (3, .int (xb (b = true))), (4, .int (nI (0)))] [] (xmm u) Q)
    (k2 : ¬ n ≤ p → xC mX3_isFact [.ref (6 + 4 * p)] (xmm u) (fun r μ1 => xE mX7_prepare 34 [(0, .ref 74), (1, .ref 2), (2, .ref 3), (3, .int (xb (b = true))), (4, .int (nI (p))), (5, .ref (6 + 4 * p))] (r.toList ++ [.int (nI (p)), .ref 83]) μ1 Q)) : xE mX7_prepare 5 [(0, .ref 74), (1, .ref 2), (2, .ref 3), (3, .int (xb (b = true))), (4, .int (nI (p)))] [] (xmm u) Q := by
  refine xe_iload 4 dX7_prepare_5 rfl ?_
  refine xe_aload_n 2 dX7_prepare_7 rfl rfl ?_
  refine xr_getI (v := nI (n)) dX7_prepare_8 fX7_56 sh3 (by decide) v2 ?_
  refine xn_icmp_ge 119 dX7_prepare_11 (by decide) (by omega) (by omega) (fun c1 => ?_) (fun c1 => ?_)
  · refine xe_iconst (v := nI (0)) dX7_prepare_119 xc0 ?_
    refine xe_istore (L2 := [(0, .ref 74), (1, .ref 2), (2, .ref 3), (3, .int (xb (b = true))), (4, .int (nI (0)))]) dX7_prepare_120 (by decide) rfl ?_
    exact k1 c1
  · refine xe_aload_n 2 dX7_prepare_14 rfl rfl ?_
    refine xr_getR (b := 4) dX7_prepare_15 fX7_62 rfl sh3 (by decide) rfl ?_
    refine xe_iload 4 dX7_prepare_18 rfl ?_
    refine xr_aald (k := p) (b := (6 + 4 * p)) dX7_prepare_20 sh4 (by decide) (by decide) (by decide) (by omega) (by decide) (rParts (by omega)) ?_
    refine xe_astore (L2 := [(0, .ref 74), (1, .ref 2), (2, .ref 3), (3, .int (xb (b = true))), (4, .int (nI (p))), (5, .ref (6 + 4 * p))]) dX7_prepare_21 (by decide) rfl ?_
    refine xe_aload_n 0 dX7_prepare_23 rfl rfl ?_
    refine xr_getR (b := 83) dX7_prepare_24 fX7_20 rfl sh74 (by decide) rfl ?_
    refine xe_iload 4 dX7_prepare_27 rfl ?_
    refine xe_aload 5 dX7_prepare_29 rfl ?_
    refine xe_callV (As := []) (rest := [.int (nI (p)), .ref 83]) dX7_prepare_31 wX3_isFact lX7_66 iX3_isFact sX3_isFact ⟨by decide, by decide⟩ (shP _ (by omega)) rfl (xin_mm (by omega)) rfl rfl (by simp [Value.category]) ?_
    exact k2 c1

theorem gX7_prepare_122 (u : xU) (nn n k : Nat) (b : Bool) {Q : Option Value → xM → Prop} (hnn : nn ≤ 6) (hn : n ≤ 10) (hk : k ≤ nn) (v1 : u.1 3 0 = nI (nn)) (v2 : u.1 3 1 = nI (n))
    (k1 : nn ≤ k → xE mX7_prepare 148 [(0, .ref 74), (1, .ref 2), (2, .ref 3), (3, .int (xb (b = true))), (4, .int (nI (0)))] [] (xmm u) Q)
    (k2 : ¬ nn ≤ k → xC mX7_gatherDomain [.ref 74, .ref 2, .ref 3, .int (nI (k))] (xmm u) (fun r μ1 => xE mX7_prepare 139 [(0, .ref 74), (1, .ref 2), (2, .ref 3), (3, .int (xb (b = true))), (4, .int (nI (k)))] (r.toList ++ []) μ1 Q)) : xE mX7_prepare 122 [(0, .ref 74), (1, .ref 2), (2, .ref 3), (3, .int (xb (b = true))), (4, .int (nI (k)))] [] (xmm u) Q := by
  refine xe_iload 4 dX7_prepare_122 rfl ?_
  refine xe_aload_n 2 dX7_prepare_124 rfl rfl ?_
  refine xr_getI (v := nI (nn)) dX7_prepare_125 fX7_85 sh3 (by decide) v1 ?_
  refine xn_icmp_ge 145 dX7_prepare_128 (by decide) (by omega) (by omega) (fun c1 => ?_) (fun c1 => ?_)
  · refine xe_iconst (v := nI (0)) dX7_prepare_145 xc0 ?_
    refine xe_istore (L2 := [(0, .ref 74), (1, .ref 2), (2, .ref 3), (3, .int (xb (b = true))), (4, .int (nI (0)))]) dX7_prepare_146 (by decide) rfl ?_
    exact k1 c1
  · refine xe_aload_n 0 dX7_prepare_131 rfl rfl ?_
    refine xe_aload_n 1 dX7_prepare_132 rfl rfl ?_
    refine xe_aload_n 2 dX7_prepare_133 rfl rfl ?_
    refine xe_iload 4 dX7_prepare_134 rfl ?_
    refine xe_callV (As := [.ref 2, .ref 3, .int (nI (k))]) (rest := []) dX7_prepare_136 wX7_gatherDomain lX7_88 iX7_gatherDomain sX7_gatherDomain ⟨by decide, by decide⟩ sh74 rfl (xin_mm (by decide)) rfl rfl (by simp [Value.category]) ?_
    exact k2 c1

theorem gX7_prepare_139 (u : xU) (k : Nat) (b : Bool) {Q : Option Value → xM → Prop}  
    (k1 : xE mX7_prepare 122 [(0, .ref 74), (1, .ref 2), (2, .ref 3), (3, .int (xb (b = true))), (4, .int (nI (k + 1)))] [] (xmm u) Q) : xE mX7_prepare 139 [(0, .ref 74), (1, .ref 2), (2, .ref 3), (3, .int (xb (b = true))), (4, .int (nI (k)))] [] (xmm u) Q := by
  refine xn_iinc (c := 1) (L2 := [(0, .ref 74), (1, .ref 2), (2, .ref 3), (3, .int (xb (b = true))), (4, .int (nI (k + 1)))]) 4 dX7_prepare_139 rfl (by decide) rfl ?_
  refine xe_goto 122 dX7_prepare_142 (by decide) ?_
  exact k1

theorem gX7_prepare_148 (u : xU) (nn n p : Nat) (b : Bool) {Q : Option Value → xM → Prop} (hnn : nn ≤ 6) (hn : n ≤ 10) (hp : p ≤ n) (v1 : u.1 3 0 = nI (nn)) (v2 : u.1 3 1 = nI (n))
    (k1 : n ≤ p → ¬ (b = true) → Q none (xmm (wi u 146 0 (nI (0)))))
    (k2 : n ≤ p → b = true → Q none (xmm (wi u 146 0 (nI (1)))))
    (k3 : ¬ n ≤ p → xE mX7_prepare 169 [(0, .ref 74), (1, .ref 2), (2, .ref 3), (3, .int (xb (b = true))), (4, .int (nI (p))), (5, .ref (6 + 4 * p)), (6, .int (nI (0)))] [] (xmm u) Q) : xE mX7_prepare 148 [(0, .ref 74), (1, .ref 2), (2, .ref 3), (3, .int (xb (b = true))), (4, .int (nI (p)))] [] (xmm u) Q := by
  refine xe_iload 4 dX7_prepare_148 rfl ?_
  refine xe_aload_n 2 dX7_prepare_150 rfl rfl ?_
  refine xr_getI (v := nI (n)) dX7_prepare_151 fX7_56 sh3 (by decide) v2 ?_
  refine xn_icmp_ge 239 dX7_prepare_154 (by decide) (by omega) (by omega) (fun c1 => ?_) (fun c1 => ?_)
  · refine xe_aload_n 0 dX7_prepare_239 rfl rfl ?_
    refine xr_getR (b := 146) dX7_prepare_240 fX7_32 rfl sh74 (by decide) rfl ?_
    refine xe_iconst (v := nI (0)) dX7_prepare_243 xc0 ?_
    refine xe_iload_n 3 dX7_prepare_244 rfl rfl ?_
    refine xb_if_eq 252 dX7_prepare_245 (by decide) (fun c2 => ?_) (fun c2 => ?_)
    · refine xe_iconst (v := nI (0)) dX7_prepare_252 xc0 ?_
      refine xr_iast (k := 0) dX7_prepare_253 sh146 (by decide) (by omega) (by decide) ?_
      exact xe_ret (r := none) dX7_prepare_254 trivial (k1 c1 c2)
    · refine xe_iconst (v := nI (1)) dX7_prepare_248 xc1 ?_
      refine xe_goto 253 dX7_prepare_249 (by decide) ?_
      refine xr_iast (k := 0) dX7_prepare_253 sh146 (by decide) (by omega) (by decide) ?_
      exact xe_ret (r := none) dX7_prepare_254 trivial (k2 c1 c2)
  · refine xe_aload_n 2 dX7_prepare_157 rfl rfl ?_
    refine xr_getR (b := 4) dX7_prepare_158 fX7_62 rfl sh3 (by decide) rfl ?_
    refine xe_iload 4 dX7_prepare_161 rfl ?_
    refine xr_aald (k := p) (b := (6 + 4 * p)) dX7_prepare_163 sh4 (by decide) (by decide) (by decide) (by omega) (by decide) (rParts (by omega)) ?_
    refine xe_astore (L2 := [(0, .ref 74), (1, .ref 2), (2, .ref 3), (3, .int (xb (b = true))), (4, .int (nI (p))), (5, .ref (6 + 4 * p))]) dX7_prepare_164 (by decide) rfl ?_
    refine xe_iconst (v := nI (0)) dX7_prepare_166 xc0 ?_
    refine xe_istore (L2 := [(0, .ref 74), (1, .ref 2), (2, .ref 3), (3, .int (xb (b = true))), (4, .int (nI (p))), (5, .ref (6 + 4 * p)), (6, .int (nI (0)))]) dX7_prepare_167 (by decide) rfl ?_
    exact k3 c1

theorem gX7_prepare_s (u : xU) (p c kd l k t : Nat) (b : Bool) {Q : Option Value → xM → Prop} (hp : p < 10) (hkd : kd ≤ 3) (hl : l ≤ 3) (hc : c < l) (hk : k < 6) (ht : t < 8) (hpi : xC mX7_pair [.int (nI p), .int (nI c)] (xmm u) (fun r μ' => r = some (.int (nI (p * 3 + c))) ∧ μ' = xmm u)) (v1 : u.1 (6 + 4 * p) 0 = nI (kd)) (v2 : u.1 (6 + 4 * p) 2 = nI (l)) (v3 : u.1 (7 + 4 * p) c = nI (k)) (v4 : u.1 (6 + 4 * p) 1 = nI (t))
    (k1 : ¬ (kd ≤ 1) → xE mX7_prepare 148 [(0, .ref 74), (1, .ref 2), (2, .ref 3), (3, .int (xb (b = true))), (4, .int (nI (p + 1)))] [] (xmm u) Q)
    (k2 : kd ≤ 1 → l ≤ c → xE mX7_prepare 148 [(0, .ref 74), (1, .ref 2), (2, .ref 3), (3, .int (xb (b = true))), (4, .int (nI (p + 1)))] [] (xmm u) Q)
    (k3 : kd ≤ 1 → ¬ l ≤ c → (nI (k)) = (-1) → xE mX7_prepare 169 [(0, .ref 74), (1, .ref 2), (2, .ref 3), (3, .int (xb (b = true))), (4, .int (nI (p))), (5, .ref (6 + 4 * p)), (6, .int (nI (c + 1)))] [] (xmm u) Q)
    (k4 : kd ≤ 1 → ¬ l ≤ c → ¬ (nI (k)) = (-1) → xC mX7_gatherRowsWith [.ref 74, .ref (156 + 2 * t), .int (nI (c)), .int (nI (k)), .int (nI (p * 3 + c))] (xmm u) (fun r μ1 => xE mX7_prepare 227 [(0, .ref 74), (1, .ref 2), (2, .ref 3), (3, .int (xb (b = true))), (4, .int (nI (p))), (5, .ref (6 + 4 * p)), (6, .int (nI (c)))] (r.toList ++ []) μ1 Q)) : xE mX7_prepare 169 [(0, .ref 74), (1, .ref 2), (2, .ref 3), (3, .int (xb (b = true))), (4, .int (nI (p))), (5, .ref (6 + 4 * p)), (6, .int (nI (c)))] [] (xmm u) Q := by
  refine xe_aload 5 dX7_prepare_169 rfl ?_
  refine xe_callV (As := []) (rest := []) dX7_prepare_171 wX3_isFact lX7_66 iX3_isFact sX3_isFact ⟨by decide, by decide⟩ (shP _ (by omega)) rfl (xin_mm (by omega)) rfl rfl (by simp [Value.category]) (xC.pure (v := .int (xb (kd ≤ 1))) (qX3_isFact u p kd (by omega) (by omega) v1) ?_)
  refine xb_if_eq 233 dX7_prepare_174 (by decide) (fun c1 => ?_) (fun c1 => ?_)
  · refine xn_iinc (c := 1) (L2 := [(0, .ref 74), (1, .ref 2), (2, .ref 3), (3, .int (xb (b = true))), (4, .int (nI (p + 1))), (5, .ref (6 + 4 * p)), (6, .int (nI (c)))]) 4 dX7_prepare_233 rfl (by decide) rfl ?_
    refine xe_goto 148 dX7_prepare_236 (by decide) ?_
    refine xE.sub [0, 1, 2, 3, 4] rfl ?_
    exact k1 c1
  · refine xe_iload 6 dX7_prepare_177 rfl ?_
    refine xe_aload 5 dX7_prepare_179 rfl ?_
    refine xr_getI (v := nI (l)) dX7_prepare_181 fX7_92 (shP _ (by omega)) (by omega) v2 ?_
    refine xn_icmp_ge 233 dX7_prepare_184 (by decide) (by omega) (by omega) (fun c2 => ?_) (fun c2 => ?_)
    · refine xn_iinc (c := 1) (L2 := [(0, .ref 74), (1, .ref 2), (2, .ref 3), (3, .int (xb (b = true))), (4, .int (nI (p + 1))), (5, .ref (6 + 4 * p)), (6, .int (nI (c)))]) 4 dX7_prepare_233 rfl (by decide) rfl ?_
      refine xe_goto 148 dX7_prepare_236 (by decide) ?_
      refine xE.sub [0, 1, 2, 3, 4] rfl ?_
      exact k2 c1 c2
    · refine xe_aload 5 dX7_prepare_187 rfl ?_
      refine xr_getR (b := (7 + 4 * p)) dX7_prepare_189 fX7_95 rfl (shP _ (by omega)) (by omega) (rPN (by omega)) ?_
      refine xe_iload 6 dX7_prepare_192 rfl ?_
      refine xr_iald (k := c) (v := nI (k)) dX7_prepare_194 (shPN _ (by omega)) (by omega) (by omega) (by decide) v3 ?_
      refine xe_iconst (v := -1) dX7_prepare_195 xcm1 ?_
      refine xe_icmp_eq 227 dX7_prepare_196 (by decide) (fun c3 => ?_) (fun c3 => ?_)
      · refine xn_iinc (c := 1) (L2 := [(0, .ref 74), (1, .ref 2), (2, .ref 3), (3, .int (xb (b = true))), (4, .int (nI (p))), (5, .ref (6 + 4 * p)), (6, .int (nI (c + 1)))]) 6 dX7_prepare_227 rfl (by decide) rfl ?_
        refine xe_goto 169 dX7_prepare_230 (by decide) ?_
        exact k3 c1 c2 c3
      · refine xe_aload_n 0 dX7_prepare_199 rfl rfl ?_
        refine xe_aload_n 1 dX7_prepare_200 rfl rfl ?_
        refine xe_aload 5 dX7_prepare_201 rfl ?_
        refine xr_getI (v := nI (t)) dX7_prepare_203 fX7_72 (shP _ (by omega)) (by omega) v4 ?_
        refine xr_aald (k := t) (b := (156 + 2 * t)) dX7_prepare_206 sh2 (by decide) (by decide) (by decide) (by omega) (by decide) (rTabs (by omega)) ?_
        refine xe_iload 6 dX7_prepare_207 rfl ?_
        refine xe_aload 5 dX7_prepare_209 rfl ?_
        refine xr_getR (b := (7 + 4 * p)) dX7_prepare_211 fX7_95 rfl (shP _ (by omega)) (by omega) (rPN (by omega)) ?_
        refine xe_iload 6 dX7_prepare_214 rfl ?_
        refine xr_iald (k := c) (v := nI (k)) dX7_prepare_216 (shPN _ (by omega)) (by omega) (by omega) (by decide) v3 ?_
        refine xe_iload 4 dX7_prepare_217 rfl ?_
        refine xe_iload 6 dX7_prepare_219 rfl ?_
        refine xe_callS (As := [.int (nI (p)), .int (nI (c))]) (rest := [.int (nI (k)), .int (nI (c)), .ref (156 + 2 * t), .ref 74]) dX7_prepare_221 wX7_pair lX7_98 tX7_pair ⟨by decide, by decide⟩ rfl rfl (by simp [Value.category]) (xC.pure (v := .int (nI (p * 3 + c))) (hpi) ?_)
        refine xe_callV (As := [.ref (156 + 2 * t), .int (nI (c)), .int (nI (k)), .int (nI (p * 3 + c))]) (rest := []) dX7_prepare_224 wX7_gatherRowsWith lX7_102 iX7_gatherRowsWith sX7_gatherRowsWith ⟨by decide, by decide⟩ sh74 rfl (xin_mm (by decide)) rfl rfl (by simp [Value.category]) ?_
        exact k4 c1 c2 c3

theorem gX7_prepare_n (u : xU) (p c kd l : Nat) (b : Bool) {Q : Option Value → xM → Prop} (hp : p < 10) (hkd : kd ≤ 3) (hl : l ≤ 3) (hc : c < l) (v1 : u.1 (6 + 4 * p) 0 = nI (kd)) (v2 : u.1 (6 + 4 * p) 2 = nI (l)) (v3 : u.1 (7 + 4 * p) c = (-1))
    (k1 : ¬ (kd ≤ 1) → xE mX7_prepare 148 [(0, .ref 74), (1, .ref 2), (2, .ref 3), (3, .int (xb (b = true))), (4, .int (nI (p + 1)))] [] (xmm u) Q)
    (k2 : kd ≤ 1 → l ≤ c → xE mX7_prepare 148 [(0, .ref 74), (1, .ref 2), (2, .ref 3), (3, .int (xb (b = true))), (4, .int (nI (p + 1)))] [] (xmm u) Q)
    (k3 : kd ≤ 1 → ¬ l ≤ c → xE mX7_prepare 169 [(0, .ref 74), (1, .ref 2), (2, .ref 3), (3, .int (xb (b = true))), (4, .int (nI (p))), (5, .ref (6 + 4 * p)), (6, .int (nI (c + 1)))] [] (xmm u) Q) : xE mX7_prepare 169 [(0, .ref 74), (1, .ref 2), (2, .ref 3), (3, .int (xb (b = true))), (4, .int (nI (p))), (5, .ref (6 + 4 * p)), (6, .int (nI (c)))] [] (xmm u) Q := by
  refine xe_aload 5 dX7_prepare_169 rfl ?_
  refine xe_callV (As := []) (rest := []) dX7_prepare_171 wX3_isFact lX7_66 iX3_isFact sX3_isFact ⟨by decide, by decide⟩ (shP _ (by omega)) rfl (xin_mm (by omega)) rfl rfl (by simp [Value.category]) (xC.pure (v := .int (xb (kd ≤ 1))) (qX3_isFact u p kd (by omega) (by omega) v1) ?_)
  refine xb_if_eq 233 dX7_prepare_174 (by decide) (fun c1 => ?_) (fun c1 => ?_)
  · refine xn_iinc (c := 1) (L2 := [(0, .ref 74), (1, .ref 2), (2, .ref 3), (3, .int (xb (b = true))), (4, .int (nI (p + 1))), (5, .ref (6 + 4 * p)), (6, .int (nI (c)))]) 4 dX7_prepare_233 rfl (by decide) rfl ?_
    refine xe_goto 148 dX7_prepare_236 (by decide) ?_
    refine xE.sub [0, 1, 2, 3, 4] rfl ?_
    exact k1 c1
  · refine xe_iload 6 dX7_prepare_177 rfl ?_
    refine xe_aload 5 dX7_prepare_179 rfl ?_
    refine xr_getI (v := nI (l)) dX7_prepare_181 fX7_92 (shP _ (by omega)) (by omega) v2 ?_
    refine xn_icmp_ge 233 dX7_prepare_184 (by decide) (by omega) (by omega) (fun c2 => ?_) (fun c2 => ?_)
    · refine xn_iinc (c := 1) (L2 := [(0, .ref 74), (1, .ref 2), (2, .ref 3), (3, .int (xb (b = true))), (4, .int (nI (p + 1))), (5, .ref (6 + 4 * p)), (6, .int (nI (c)))]) 4 dX7_prepare_233 rfl (by decide) rfl ?_
      refine xe_goto 148 dX7_prepare_236 (by decide) ?_
      refine xE.sub [0, 1, 2, 3, 4] rfl ?_
      exact k2 c1 c2
    · refine xe_aload 5 dX7_prepare_187 rfl ?_
      refine xr_getR (b := (7 + 4 * p)) dX7_prepare_189 fX7_95 rfl (shP _ (by omega)) (by omega) (rPN (by omega)) ?_
      refine xe_iload 6 dX7_prepare_192 rfl ?_
      refine xr_iald (k := c) (v := (-1)) dX7_prepare_194 (shPN _ (by omega)) (by omega) (by omega) (by decide) v3 ?_
      refine xe_iconst (v := -1) dX7_prepare_195 xcm1 ?_
      refine xe_icmp_eq 227 dX7_prepare_196 (by decide) (fun _ => ?_) (fun q => absurd rfl q)
      refine xn_iinc (c := 1) (L2 := [(0, .ref 74), (1, .ref 2), (2, .ref 3), (3, .int (xb (b = true))), (4, .int (nI (p))), (5, .ref (6 + 4 * p)), (6, .int (nI (c + 1)))]) 6 dX7_prepare_227 rfl (by decide) rfl ?_
      refine xe_goto 169 dX7_prepare_230 (by decide) ?_
      exact k3 c1 c2

theorem gX7_prepare_f (u : xU) (p c kd l : Nat) (b : Bool) {Q : Option Value → xM → Prop} (hp : p < 10) (hkd : kd ≤ 3) (hl : l ≤ 3) (hc : kd ≤ 1 → c = l) (v1 : u.1 (6 + 4 * p) 0 = nI (kd)) (v2 : u.1 (6 + 4 * p) 2 = nI (l))
    (k1 : ¬ (kd ≤ 1) → xE mX7_prepare 148 [(0, .ref 74), (1, .ref 2), (2, .ref 3), (3, .int (xb (b = true))), (4, .int (nI (p + 1)))] [] (xmm u) Q)
    (k2 : kd ≤ 1 → l ≤ c → xE mX7_prepare 148 [(0, .ref 74), (1, .ref 2), (2, .ref 3), (3, .int (xb (b = true))), (4, .int (nI (p + 1)))] [] (xmm u) Q)
    (k3 : kd ≤ 1 → ¬ l ≤ c → (u.1 (7 + 4 * p) c) = (-1) → xE mX7_prepare 169 [(0, .ref 74), (1, .ref 2), (2, .ref 3), (3, .int (xb (b = true))), (4, .int (nI (p))), (5, .ref (6 + 4 * p)), (6, .int (nI (c + 1)))] [] (xmm u) Q)
    (k4 : kd ≤ 1 → ¬ l ≤ c → ¬ (u.1 (7 + 4 * p) c) = (-1) → False) : xE mX7_prepare 169 [(0, .ref 74), (1, .ref 2), (2, .ref 3), (3, .int (xb (b = true))), (4, .int (nI (p))), (5, .ref (6 + 4 * p)), (6, .int (nI (c)))] [] (xmm u) Q := by
  refine xe_aload 5 dX7_prepare_169 rfl ?_
  refine xe_callV (As := []) (rest := []) dX7_prepare_171 wX3_isFact lX7_66 iX3_isFact sX3_isFact ⟨by decide, by decide⟩ (shP _ (by omega)) rfl (xin_mm (by omega)) rfl rfl (by simp [Value.category]) (xC.pure (v := .int (xb (kd ≤ 1))) (qX3_isFact u p kd (by omega) (by omega) v1) ?_)
  refine xb_if_eq 233 dX7_prepare_174 (by decide) (fun c1 => ?_) (fun c1 => ?_)
  · refine xn_iinc (c := 1) (L2 := [(0, .ref 74), (1, .ref 2), (2, .ref 3), (3, .int (xb (b = true))), (4, .int (nI (p + 1))), (5, .ref (6 + 4 * p)), (6, .int (nI (c)))]) 4 dX7_prepare_233 rfl (by decide) rfl ?_
    refine xe_goto 148 dX7_prepare_236 (by decide) ?_
    refine xE.sub [0, 1, 2, 3, 4] rfl ?_
    exact k1 c1
  · refine xe_iload 6 dX7_prepare_177 rfl ?_
    refine xe_aload 5 dX7_prepare_179 rfl ?_
    refine xr_getI (v := nI (l)) dX7_prepare_181 fX7_92 (shP _ (by omega)) (by omega) v2 ?_
    refine xn_icmp_ge 233 dX7_prepare_184 (by decide) (by omega) (by omega) (fun c2 => ?_) (fun c2 => ?_)
    · refine xn_iinc (c := 1) (L2 := [(0, .ref 74), (1, .ref 2), (2, .ref 3), (3, .int (xb (b = true))), (4, .int (nI (p + 1))), (5, .ref (6 + 4 * p)), (6, .int (nI (c)))]) 4 dX7_prepare_233 rfl (by decide) rfl ?_
      refine xe_goto 148 dX7_prepare_236 (by decide) ?_
      refine xE.sub [0, 1, 2, 3, 4] rfl ?_
      exact k2 c1 c2
    · refine xe_aload 5 dX7_prepare_187 rfl ?_
      refine xr_getR (b := (7 + 4 * p)) dX7_prepare_189 fX7_95 rfl (shP _ (by omega)) (by omega) (rPN (by omega)) ?_
      refine xe_iload 6 dX7_prepare_192 rfl ?_
      refine xr_iald (k := c) (v := u.1 (7 + 4 * p) c) dX7_prepare_194 (shPN _ (by omega)) (by omega) (by omega) (by decide) rfl ?_
      refine xe_iconst (v := -1) dX7_prepare_195 xcm1 ?_
      refine xe_icmp_eq 227 dX7_prepare_196 (by decide) (fun c3 => ?_) (fun c3 => ?_)
      · refine xn_iinc (c := 1) (L2 := [(0, .ref 74), (1, .ref 2), (2, .ref 3), (3, .int (xb (b = true))), (4, .int (nI (p))), (5, .ref (6 + 4 * p)), (6, .int (nI (c + 1)))]) 6 dX7_prepare_227 rfl (by decide) rfl ?_
        refine xe_goto 169 dX7_prepare_230 (by decide) ?_
        exact k3 c1 c2 c3
      · refine xe_aload_n 0 dX7_prepare_199 rfl rfl ?_
        refine xe_aload_n 1 dX7_prepare_200 rfl rfl ?_
        refine xe_aload 5 dX7_prepare_201 rfl ?_
        refine xr_getI (v := u.1 (6 + 4 * p) 1) dX7_prepare_203 fX7_72 (shP _ (by omega)) (by omega) rfl ?_
        exact (k4 c1 c2 c3).elim

theorem gX7_prepare_227 (u : xU) (p c : Nat) (b : Bool) {Q : Option Value → xM → Prop}  
    (k1 : xE mX7_prepare 169 [(0, .ref 74), (1, .ref 2), (2, .ref 3), (3, .int (xb (b = true))), (4, .int (nI (p))), (5, .ref (6 + 4 * p)), (6, .int (nI (c + 1)))] [] (xmm u) Q) : xE mX7_prepare 227 [(0, .ref 74), (1, .ref 2), (2, .ref 3), (3, .int (xb (b = true))), (4, .int (nI (p))), (5, .ref (6 + 4 * p)), (6, .int (nI (c)))] [] (xmm u) Q := by
  refine xn_iinc (c := 1) (L2 := [(0, .ref 74), (1, .ref 2), (2, .ref 3), (3, .int (xb (b = true))), (4, .int (nI (p))), (5, .ref (6 + 4 * p)), (6, .int (nI (c + 1)))]) 6 dX7_prepare_227 rfl (by decide) rfl ?_
  refine xe_goto 169 dX7_prepare_230 (by decide) ?_
  exact k1

