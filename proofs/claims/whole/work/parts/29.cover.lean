theorem gX1_gatherCarriers_0 (u : xU) {Q : Option Value → xM → Prop}  
    (k1 : xE mX1_gatherCarriers 9 [(0, .ref 71), (1, .ref 3), (2, .int (nI (1))), (3, .int (nI (0)))] [] (xmm (wi u 71 1 (nI (0)))) Q) : xE mX1_gatherCarriers 0 [(0, .ref 71), (1, .ref 3)] [] (xmm u) Q := by
  refine xe_iconst (v := nI (1)) dX1_gatherCarriers_0 xc1 ?_
  refine xe_istore_n (L2 := [(0, .ref 71), (1, .ref 3), (2, .int (nI (1)))]) dX1_gatherCarriers_1 rfl (by decide) rfl ?_
  refine xe_aload_n 0 dX1_gatherCarriers_2 rfl rfl ?_
  refine xe_iconst (v := nI (0)) dX1_gatherCarriers_3 xc0 ?_
  refine xr_putI dX1_gatherCarriers_4 fX1_40 sh71 (by decide) ?_
  refine xe_iconst (v := nI (0)) dX1_gatherCarriers_7 xc0 ?_
  refine xe_istore_n (L2 := [(0, .ref 71), (1, .ref 3), (2, .int (nI (1))), (3, .int (nI (0)))]) dX1_gatherCarriers_8 rfl (by decide) rfl ?_
  exact k1

theorem gX1_gatherCarriers_9 (u : xU) (nn n cc : Nat) (w p kd m : Nat) {Q : Option Value → xM → Prop} (hnn : nn ≤ 6) (hn : n ≤ 10) (hcc : cc ≤ 5) (hw : w ≤ 243) (hp : p < n) (hkd : kd ≤ 3) (hm : m < 64) (v1 : u.1 3 0 = nI (nn)) (v2 : u.1 3 1 = nI (n)) (v3 : u.1 71 1 = nI (cc)) (v4 : u.1 (6 + 4 * p) 0 = nI (kd)) (v5 : u.1 (6 + 4 * p) 3 = nI (m))
    (k1 : n ≤ p → Q (some (.int (nI (w)))) (xmm u))
    (k2 : ¬ n ≤ p → 5 ≤ cc → Q (some (.int (nI (w)))) (xmm u))
    (k3 : ¬ n ≤ p → ¬ 5 ≤ cc → ¬ kd = 0 → xE mX1_gatherCarriers 9 [(0, .ref 71), (1, .ref 3), (2, .int (nI (w))), (3, .int (nI (p + 1)))] [] (xmm u) Q)
    (k4 : ¬ n ≤ p → ¬ 5 ≤ cc → kd = 0 → m = 0 → xE mX1_gatherCarriers 9 [(0, .ref 71), (1, .ref 3), (2, .int (nI (w))), (3, .int (nI (p + 1)))] [] (xmm u) Q)
    (k5 : ¬ n ≤ p → ¬ 5 ≤ cc → kd = 0 → ¬ m = 0 → xE mX1_gatherCarriers 9 [(0, .ref 71), (1, .ref 3), (2, .int (nI (w * 3))), (3, .int (nI (p + 1)))] [] (xmm (wi (wi u 72 cc (nI (p))) 71 1 (nI (cc + 1)))) Q) : xE mX1_gatherCarriers 9 [(0, .ref 71), (1, .ref 3), (2, .int (nI (w))), (3, .int (nI (p)))] [] (xmm u) Q := by
  refine xe_iload_n 3 dX1_gatherCarriers_9 rfl rfl ?_
  refine xe_aload_n 1 dX1_gatherCarriers_10 rfl rfl ?_
  refine xr_getI (v := nI (n)) dX1_gatherCarriers_11 fX1_44 sh3 (by decide) v2 ?_
  refine xn_icmp_ge 79 dX1_gatherCarriers_14 (by decide) (by omega) (by omega) (fun c1 => ?_) (fun c1 => ?_)
  · refine xe_iload_n 2 dX1_gatherCarriers_79 rfl rfl ?_
    exact xe_ret (r := (some (.int (nI (w))))) dX1_gatherCarriers_80 trivial (k1 c1)
  · refine xe_aload_n 0 dX1_gatherCarriers_17 rfl rfl ?_
    refine xr_getI (v := nI (cc)) dX1_gatherCarriers_18 fX1_40 sh71 (by decide) v3 ?_
    refine xe_iconst (v := nI (5)) dX1_gatherCarriers_21 xc5 ?_
    refine xn_icmp_ge 79 dX1_gatherCarriers_22 (by decide) (by omega) (by omega) (fun c2 => ?_) (fun c2 => ?_)
    · refine xe_iload_n 2 dX1_gatherCarriers_79 rfl rfl ?_
      exact xe_ret (r := (some (.int (nI (w))))) dX1_gatherCarriers_80 trivial (k2 c1 c2)
    · refine xe_aload_n 1 dX1_gatherCarriers_25 rfl rfl ?_
      refine xr_getR (b := 4) dX1_gatherCarriers_26 fX1_49 rfl sh3 (by decide) rfl ?_
      refine xe_iload_n 3 dX1_gatherCarriers_29 rfl rfl ?_
      refine xr_aald (k := p) (b := (6 + 4 * p)) dX1_gatherCarriers_30 sh4 (by decide) (by decide) (by decide) (by omega) (by decide) (rParts (by omega)) ?_
      refine xe_astore (L2 := [(0, .ref 71), (1, .ref 3), (2, .int (nI (w))), (3, .int (nI (p))), (4, .ref (6 + 4 * p))]) dX1_gatherCarriers_31 (by decide) rfl ?_
      refine xe_aload 4 dX1_gatherCarriers_33 rfl ?_
      refine xr_getI (v := nI (kd)) dX1_gatherCarriers_35 fX1_53 (shP _ (by omega)) (by omega) v4 ?_
      refine xn_if_ne 73 dX1_gatherCarriers_38 (by decide) (by omega) (fun c3 => ?_) (fun c3 => ?_)
      · refine xn_iinc (c := 1) (L2 := [(0, .ref 71), (1, .ref 3), (2, .int (nI (w))), (3, .int (nI (p + 1))), (4, .ref (6 + 4 * p))]) 3 dX1_gatherCarriers_73 rfl (by decide) rfl ?_
        refine xe_goto 9 dX1_gatherCarriers_76 (by decide) ?_
        refine xE.sub [0, 1, 2, 3] rfl ?_
        exact k3 c1 c2 c3
      · refine xe_aload 4 dX1_gatherCarriers_41 rfl ?_
        refine xr_getI (v := nI (m)) dX1_gatherCarriers_43 fX1_58 (shP _ (by omega)) (by omega) v5 ?_
        refine xn_if_eq 73 dX1_gatherCarriers_46 (by decide) (by omega) (fun c4 => ?_) (fun c4 => ?_)
        · refine xn_iinc (c := 1) (L2 := [(0, .ref 71), (1, .ref 3), (2, .int (nI (w))), (3, .int (nI (p + 1))), (4, .ref (6 + 4 * p))]) 3 dX1_gatherCarriers_73 rfl (by decide) rfl ?_
          refine xe_goto 9 dX1_gatherCarriers_76 (by decide) ?_
          refine xE.sub [0, 1, 2, 3] rfl ?_
          exact k4 c1 c2 c3 c4
        · refine xe_aload_n 0 dX1_gatherCarriers_49 rfl rfl ?_
          refine xr_getR (b := 72) dX1_gatherCarriers_50 fX1_9 rfl sh71 (by decide) rfl ?_
          refine xe_aload_n 0 dX1_gatherCarriers_53 rfl rfl ?_
          refine xr_getI (v := nI (cc)) dX1_gatherCarriers_54 fX1_40 sh71 (by decide) v3 ?_
          refine xe_iload_n 3 dX1_gatherCarriers_57 rfl rfl ?_
          refine xr_iast (k := cc) dX1_gatherCarriers_58 sh72 (by decide) (by omega) (by decide) ?_
          refine xe_aload_n 0 dX1_gatherCarriers_59 rfl rfl ?_
          refine xe_dup dX1_gatherCarriers_60 rfl ?_
          refine xr_getI (v := nI (cc)) dX1_gatherCarriers_61 fX1_40 sh71 (by decide) ((wi_ne (by omega)).trans v3) ?_
          refine xe_iconst (v := nI (1)) dX1_gatherCarriers_64 xc1 ?_
          refine xn_iadd dX1_gatherCarriers_65 ?_
          refine xr_putI dX1_gatherCarriers_66 fX1_40 sh71 (by decide) ?_
          refine xe_iload_n 2 dX1_gatherCarriers_69 rfl rfl ?_
          refine xe_iconst (v := nI (3)) dX1_gatherCarriers_70 xc3 ?_
          refine xn_imul dX1_gatherCarriers_71 ?_
          refine xe_istore_n (L2 := [(0, .ref 71), (1, .ref 3), (2, .int (nI (w * 3))), (3, .int (nI (p))), (4, .ref (6 + 4 * p))]) dX1_gatherCarriers_72 rfl (by decide) rfl ?_
          refine xn_iinc (c := 1) (L2 := [(0, .ref 71), (1, .ref 3), (2, .int (nI (w * 3))), (3, .int (nI (p + 1))), (4, .ref (6 + 4 * p))]) 3 dX1_gatherCarriers_73 rfl (by decide) rfl ?_
          refine xe_goto 9 dX1_gatherCarriers_76 (by decide) ?_
          refine xE.sub [0, 1, 2, 3] rfl ?_
          exact k5 c1 c2 c3 c4

theorem gX1_gatherCarriers_e (u : xU) (nn n cc : Nat) (w p : Nat) {Q : Option Value → xM → Prop} (hnn : nn ≤ 6) (hn : n ≤ 10) (hcc : cc ≤ 5) (hw : w ≤ 243) (hp : p = n) (v1 : u.1 3 0 = nI (nn)) (v2 : u.1 3 1 = nI (n)) (v3 : u.1 71 1 = nI (cc))
    (k1 : n ≤ p → Q (some (.int (nI (w)))) (xmm u))
    (k2 : ¬ n ≤ p → 5 ≤ cc → Q (some (.int (nI (w)))) (xmm u))
    (k3 : ¬ n ≤ p → ¬ 5 ≤ cc → ¬ (u.1 (6 + 4 * p) 0) = 0 → xE mX1_gatherCarriers 9 [(0, .ref 71), (1, .ref 3), (2, .int (nI (w))), (3, .int (nI (p + 1)))] [] (xmm u) Q)
    (k4 : ¬ n ≤ p → ¬ 5 ≤ cc → (u.1 (6 + 4 * p) 0) = 0 → (u.1 (6 + 4 * p) 3) = 0 → xE mX1_gatherCarriers 9 [(0, .ref 71), (1, .ref 3), (2, .int (nI (w))), (3, .int (nI (p + 1)))] [] (xmm u) Q)
    (k5 : ¬ n ≤ p → ¬ 5 ≤ cc → (u.1 (6 + 4 * p) 0) = 0 → ¬ (u.1 (6 + 4 * p) 3) = 0 → xE mX1_gatherCarriers 9 [(0, .ref 71), (1, .ref 3), (2, .int (nI (w * 3))), (3, .int (nI (p + 1)))] [] (xmm (wi (wi u 72 cc (nI (p))) 71 1 (nI (cc + 1)))) Q) : xE mX1_gatherCarriers 9 [(0, .ref 71), (1, .ref 3), (2, .int (nI (w))), (3, .int (nI (p)))] [] (xmm u) Q := by
  refine xe_iload_n 3 dX1_gatherCarriers_9 rfl rfl ?_
  refine xe_aload_n 1 dX1_gatherCarriers_10 rfl rfl ?_
  refine xr_getI (v := nI (n)) dX1_gatherCarriers_11 fX1_44 sh3 (by decide) v2 ?_
  refine xn_icmp_ge 79 dX1_gatherCarriers_14 (by decide) (by omega) (by omega) (fun c1 => ?_) (fun c1 => ?_)
  · refine xe_iload_n 2 dX1_gatherCarriers_79 rfl rfl ?_
    exact xe_ret (r := (some (.int (nI (w))))) dX1_gatherCarriers_80 trivial (k1 c1)
  · refine xe_aload_n 0 dX1_gatherCarriers_17 rfl rfl ?_
    refine xr_getI (v := nI (cc)) dX1_gatherCarriers_18 fX1_40 sh71 (by decide) v3 ?_
    refine xe_iconst (v := nI (5)) dX1_gatherCarriers_21 xc5 ?_
    refine xn_icmp_ge 79 dX1_gatherCarriers_22 (by decide) (by omega) (by omega) (fun c2 => ?_) (fun c2 => ?_)
    · refine xe_iload_n 2 dX1_gatherCarriers_79 rfl rfl ?_
      exact xe_ret (r := (some (.int (nI (w))))) dX1_gatherCarriers_80 trivial (k2 c1 c2)
    · refine xe_aload_n 1 dX1_gatherCarriers_25 rfl rfl ?_
      refine xr_getR (b := 4) dX1_gatherCarriers_26 fX1_49 rfl sh3 (by decide) rfl ?_
      refine xe_iload_n 3 dX1_gatherCarriers_29 rfl rfl ?_
      refine xr_aald (k := p) (b := (6 + 4 * p)) dX1_gatherCarriers_30 sh4 (by decide) (by decide) (by decide) (by omega) (by decide) (rParts (by omega)) ?_
      refine xe_astore (L2 := [(0, .ref 71), (1, .ref 3), (2, .int (nI (w))), (3, .int (nI (p))), (4, .ref (6 + 4 * p))]) dX1_gatherCarriers_31 (by decide) rfl ?_
      refine xe_aload 4 dX1_gatherCarriers_33 rfl ?_
      refine xr_getI (v := u.1 (6 + 4 * p) 0) dX1_gatherCarriers_35 fX1_53 (shP _ (by omega)) (by omega) rfl ?_
      refine xe_if_ne 73 dX1_gatherCarriers_38 (by decide) (fun c3 => ?_) (fun c3 => ?_)
      · refine xn_iinc (c := 1) (L2 := [(0, .ref 71), (1, .ref 3), (2, .int (nI (w))), (3, .int (nI (p + 1))), (4, .ref (6 + 4 * p))]) 3 dX1_gatherCarriers_73 rfl (by decide) rfl ?_
        refine xe_goto 9 dX1_gatherCarriers_76 (by decide) ?_
        refine xE.sub [0, 1, 2, 3] rfl ?_
        exact k3 c1 c2 c3
      · refine xe_aload 4 dX1_gatherCarriers_41 rfl ?_
        refine xr_getI (v := u.1 (6 + 4 * p) 3) dX1_gatherCarriers_43 fX1_58 (shP _ (by omega)) (by omega) rfl ?_
        refine xe_if_eq 73 dX1_gatherCarriers_46 (by decide) (fun c4 => ?_) (fun c4 => ?_)
        · refine xn_iinc (c := 1) (L2 := [(0, .ref 71), (1, .ref 3), (2, .int (nI (w))), (3, .int (nI (p + 1))), (4, .ref (6 + 4 * p))]) 3 dX1_gatherCarriers_73 rfl (by decide) rfl ?_
          refine xe_goto 9 dX1_gatherCarriers_76 (by decide) ?_
          refine xE.sub [0, 1, 2, 3] rfl ?_
          exact k4 c1 c2 c3 c4
        · refine xe_aload_n 0 dX1_gatherCarriers_49 rfl rfl ?_
          refine xr_getR (b := 72) dX1_gatherCarriers_50 fX1_9 rfl sh71 (by decide) rfl ?_
          refine xe_aload_n 0 dX1_gatherCarriers_53 rfl rfl ?_
          refine xr_getI (v := nI (cc)) dX1_gatherCarriers_54 fX1_40 sh71 (by decide) v3 ?_
          refine xe_iload_n 3 dX1_gatherCarriers_57 rfl rfl ?_
          refine xr_iast (k := cc) dX1_gatherCarriers_58 sh72 (by decide) (by omega) (by decide) ?_
          refine xe_aload_n 0 dX1_gatherCarriers_59 rfl rfl ?_
          refine xe_dup dX1_gatherCarriers_60 rfl ?_
          refine xr_getI (v := nI (cc)) dX1_gatherCarriers_61 fX1_40 sh71 (by decide) ((wi_ne (by omega)).trans v3) ?_
          refine xe_iconst (v := nI (1)) dX1_gatherCarriers_64 xc1 ?_
          refine xn_iadd dX1_gatherCarriers_65 ?_
          refine xr_putI dX1_gatherCarriers_66 fX1_40 sh71 (by decide) ?_
          refine xe_iload_n 2 dX1_gatherCarriers_69 rfl rfl ?_
          refine xe_iconst (v := nI (3)) dX1_gatherCarriers_70 xc3 ?_
          refine xn_imul dX1_gatherCarriers_71 ?_
          refine xe_istore_n (L2 := [(0, .ref 71), (1, .ref 3), (2, .int (nI (w * 3))), (3, .int (nI (p))), (4, .ref (6 + 4 * p))]) dX1_gatherCarriers_72 rfl (by decide) rfl ?_
          refine xn_iinc (c := 1) (L2 := [(0, .ref 71), (1, .ref 3), (2, .int (nI (w * 3))), (3, .int (nI (p + 1))), (4, .ref (6 + 4 * p))]) 3 dX1_gatherCarriers_73 rfl (by decide) rfl ?_
          refine xe_goto 9 dX1_gatherCarriers_76 (by decide) ?_
          refine xE.sub [0, 1, 2, 3] rfl ?_
          exact k5 c1 c2 c3 c4

theorem gX1_takeTrial_0 (u : xU) (cc w : Nat) {Q : Option Value → xM → Prop} (hcc : cc ≤ 5) (h1 : 1 ≤ cc) (v1 : u.1 71 1 = nI (cc))
    (k1 : xE mX1_takeTrial 9 [(0, .ref 71), (2, .int (nI (w))), (3, .int (nI (cc - 1)))] [] (xmm u) Q) : xE mX1_takeTrial 0 [(0, .ref 71), (1, .int (nI (w)))] [] (xmm u) Q := by
  refine xe_iload_n 1 dX1_takeTrial_0 rfl rfl ?_
  refine xe_istore_n (L2 := [(0, .ref 71), (1, .int (nI (w))), (2, .int (nI (w)))]) dX1_takeTrial_1 rfl (by decide) rfl ?_
  refine xe_aload_n 0 dX1_takeTrial_2 rfl rfl ?_
  refine xr_getI (v := nI (cc)) dX1_takeTrial_3 fX1_40 sh71 (by decide) v1 ?_
  refine xe_iconst (v := nI (1)) dX1_takeTrial_6 xc1 ?_
  refine xn_isub dX1_takeTrial_7 (by omega) ?_
  refine xe_istore_n (L2 := [(0, .ref 71), (1, .int (nI (w))), (2, .int (nI (w))), (3, .int (nI (cc - 1)))]) dX1_takeTrial_8 rfl (by decide) rfl ?_
  refine xE.sub [0, 2, 3] rfl ?_
  exact k1

theorem gX1_takeTrial_z (u : xU) (w : Nat) {Q : Option Value → xM → Prop}  (v1 : u.1 71 1 = 0)
    (k1 : xE mX1_takeTrial 9 [(0, .ref 71), (2, .int (nI (w))), (3, .int (0 - 1))] [] (xmm u) Q) : xE mX1_takeTrial 0 [(0, .ref 71), (1, .int (nI (w)))] [] (xmm u) Q := by
  refine xe_iload_n 1 dX1_takeTrial_0 rfl rfl ?_
  refine xe_istore_n (L2 := [(0, .ref 71), (1, .int (nI (w))), (2, .int (nI (w)))]) dX1_takeTrial_1 rfl (by decide) rfl ?_
  refine xe_aload_n 0 dX1_takeTrial_2 rfl rfl ?_
  refine xr_getI (v := 0) dX1_takeTrial_3 fX1_40 sh71 (by decide) v1 ?_
  refine xe_iconst (v := nI (1)) dX1_takeTrial_6 xc1 ?_
  refine xe_isub dX1_takeTrial_7 ?_
  refine xe_istore_n (L2 := [(0, .ref 71), (1, .int (nI (w))), (2, .int (nI (w))), (3, .int (0 - 1))]) dX1_takeTrial_8 rfl (by decide) rfl ?_
  refine xE.sub [0, 2, 3] rfl ?_
  exact k1

theorem gX1_takeTrial_9 (u : xU) (w h : Nat) {Q : Option Value → xM → Prop} (hw : w ≤ 243) (hh : h < 5) (h1 : 1 ≤ h) 
    (k1 : xE mX1_takeTrial 9 [(0, .ref 71), (2, .int (nI (w / 3))), (3, .int (nI (h - 1)))] [] (xmm (wi u 73 h (nI (w % 3)))) Q) : xE mX1_takeTrial 9 [(0, .ref 71), (2, .int (nI (w))), (3, .int (nI (h)))] [] (xmm u) Q := by
  refine xe_iload_n 2 dX1_takeTrial_9 rfl rfl ?_
  refine xn_if_lt 32 dX1_takeTrial_10 (by decide) (by omega) (fun q => absurd q (by omega)) (fun _ => ?_)
  refine xe_aload_n 0 dX1_takeTrial_13 rfl rfl ?_
  refine xr_getR (b := 73) dX1_takeTrial_14 fX1_15 rfl sh71 (by decide) rfl ?_
  refine xe_iload_n 2 dX1_takeTrial_17 rfl rfl ?_
  refine xe_iload_n 1 dX1_takeTrial_18 rfl rfl ?_
  refine xe_iconst (v := nI (3)) dX1_takeTrial_19 xc3 ?_
  refine xn_irem dX1_takeTrial_20 (by omega) (by omega) (by omega) ?_
  refine xr_iast (k := h) dX1_takeTrial_21 sh73 (by decide) (by omega) (by decide) ?_
  refine xe_iload_n 1 dX1_takeTrial_22 rfl rfl ?_
  refine xe_iconst (v := nI (3)) dX1_takeTrial_23 xc3 ?_
  refine xn_idiv dX1_takeTrial_24 (by omega) (by omega) (by omega) ?_
  refine xe_istore_n (L2 := [(0, .ref 71), (2, .int (nI (w / 3))), (3, .int (nI (h)))]) dX1_takeTrial_25 rfl (by decide) rfl ?_
  refine xn_idec (L2 := [(0, .ref 71), (2, .int (nI (w / 3))), (3, .int (nI (h - 1)))]) 2 dX1_takeTrial_26 rfl (by omega) (by decide) rfl ?_
  refine xe_goto 9 dX1_takeTrial_29 (by decide) ?_
  exact k1

theorem gX1_takeTrial_l (u : xU) (w : Nat) {Q : Option Value → xM → Prop} (hw : w ≤ 243) 
    (k1 : xE mX1_takeTrial 9 [(0, .ref 71), (2, .int (nI (w / 3))), (3, .int (0 + Int32.ofInt (-1)))] [] (xmm (wi u 73 0 (nI (w % 3)))) Q) : xE mX1_takeTrial 9 [(0, .ref 71), (2, .int (nI (w))), (3, .int (nI (0)))] [] (xmm u) Q := by
  refine xe_iload_n 2 dX1_takeTrial_9 rfl rfl ?_
  refine xn_if_lt 32 dX1_takeTrial_10 (by decide) (by omega) (fun q => absurd q (by omega)) (fun _ => ?_)
  refine xe_aload_n 0 dX1_takeTrial_13 rfl rfl ?_
  refine xr_getR (b := 73) dX1_takeTrial_14 fX1_15 rfl sh71 (by decide) rfl ?_
  refine xe_iload_n 2 dX1_takeTrial_17 rfl rfl ?_
  refine xe_iload_n 1 dX1_takeTrial_18 rfl rfl ?_
  refine xe_iconst (v := nI (3)) dX1_takeTrial_19 xc3 ?_
  refine xn_irem dX1_takeTrial_20 (by omega) (by omega) (by omega) ?_
  refine xr_iast (k := 0) dX1_takeTrial_21 sh73 (by decide) (by omega) (by decide) ?_
  refine xe_iload_n 1 dX1_takeTrial_22 rfl rfl ?_
  refine xe_iconst (v := nI (3)) dX1_takeTrial_23 xc3 ?_
  refine xn_idiv dX1_takeTrial_24 (by omega) (by omega) (by omega) ?_
  refine xe_istore_n (L2 := [(0, .ref 71), (2, .int (nI (w / 3))), (3, .int (nI (0)))]) dX1_takeTrial_25 rfl (by decide) rfl ?_
  refine xe_iinc (L2 := [(0, .ref 71), (2, .int (nI (w / 3))), (3, .int (0 + Int32.ofInt (-1)))]) 2 dX1_takeTrial_26 rfl rfl (by decide) rfl ?_
  refine xe_goto 9 dX1_takeTrial_29 (by decide) ?_
  exact k1

theorem gX1_takeTrial_n (u : xU) (w : Nat) (h : Int32) {Q : Option Value → xM → Prop} (hw : w ≤ 243) 
    (k1 : h < 0 → Q none (xmm u))
    (k2 : ¬ h < 0 → False) : xE mX1_takeTrial 9 [(0, .ref 71), (2, .int (nI (w))), (3, .int (h))] [] (xmm u) Q := by
  refine xe_iload_n 2 dX1_takeTrial_9 rfl rfl ?_
  refine xe_if_lt 32 dX1_takeTrial_10 (by decide) (fun c1 => ?_) (fun c1 => ?_)
  · exact xe_ret (r := none) dX1_takeTrial_32 trivial (k1 c1)
  · refine xe_aload_n 0 dX1_takeTrial_13 rfl rfl ?_
    refine xr_getR (b := 73) dX1_takeTrial_14 fX1_15 rfl sh71 (by decide) rfl ?_
    refine xe_iload_n 2 dX1_takeTrial_17 rfl rfl ?_
    refine xe_iload_n 1 dX1_takeTrial_18 rfl rfl ?_
    refine xe_iconst (v := nI (3)) dX1_takeTrial_19 xc3 ?_
    refine xn_irem dX1_takeTrial_20 (by omega) (by omega) (by omega) ?_
    exact (k2 c1).elim

theorem gX1_coversAllNames_0 (u : xU) {Q : Option Value → xM → Prop}  
    (k1 : xE mX1_coversAllNames 2 [(0, .ref 71), (1, .ref 3), (2, .int (nI (0)))] [] (xmm u) Q) : xE mX1_coversAllNames 0 [(0, .ref 71), (1, .ref 3)] [] (xmm u) Q := by
  refine xe_iconst (v := nI (0)) dX1_coversAllNames_0 xc0 ?_
  refine xe_istore_n (L2 := [(0, .ref 71), (1, .ref 3), (2, .int (nI (0)))]) dX1_coversAllNames_1 rfl (by decide) rfl ?_
  exact k1

theorem gX1_coversAllNames_2 (u : xU) (nn n cc : Nat) (k : Nat) {Q : Option Value → xM → Prop} (hnn : nn ≤ 6) (hn : n ≤ 10) (hk : k ≤ nn) (v1 : u.1 3 0 = nI (nn)) (v2 : u.1 3 1 = nI (n))
    (k1 : nn ≤ k → Q (some (.int (nI (1)))) (xmm u))
    (k2 : ¬ nn ≤ k → xE mX1_coversAllNames 15 [(0, .ref 71), (1, .ref 3), (2, .int (nI (k))), (3, .int (nI (0))), (4, .int (nI (0)))] [] (xmm u) Q) : xE mX1_coversAllNames 2 [(0, .ref 71), (1, .ref 3), (2, .int (nI (k)))] [] (xmm u) Q := by
  refine xe_iload_n 2 dX1_coversAllNames_2 rfl rfl ?_
  refine xe_aload_n 1 dX1_coversAllNames_3 rfl rfl ?_
  refine xr_getI (v := nI (nn)) dX1_coversAllNames_4 fX1_61 sh3 (by decide) v1 ?_
  refine xn_icmp_ge 72 dX1_coversAllNames_7 (by decide) (by omega) (by omega) (fun c1 => ?_) (fun c1 => ?_)
  · refine xe_iconst (v := nI (1)) dX1_coversAllNames_72 xc1 ?_
    exact xe_ret (r := (some (.int (nI (1))))) dX1_coversAllNames_73 (Or.inr rfl) (k1 c1)
  · refine xe_iconst (v := nI (0)) dX1_coversAllNames_10 xc0 ?_
    refine xe_istore_n (L2 := [(0, .ref 71), (1, .ref 3), (2, .int (nI (k))), (3, .int (nI (0)))]) dX1_coversAllNames_11 rfl (by decide) rfl ?_
    refine xe_iconst (v := nI (0)) dX1_coversAllNames_12 xc0 ?_
    refine xe_istore (L2 := [(0, .ref 71), (1, .ref 3), (2, .int (nI (k))), (3, .int (nI (0))), (4, .int (nI (0)))]) dX1_coversAllNames_13 (by decide) rfl ?_
    exact k2 c1

theorem gX1_coversAllNames_15 (u : xU) (nn n cc : Nat) (k f h c s m : Nat) {Q : Option Value → xM → Prop} (hnn : nn ≤ 6) (hn : n ≤ 10) (hcc : cc ≤ 5) (hk : k < nn) (hf : f ≤ 10) (hh : h < cc) (hc : c < n) (hs : s ≤ 2) (hm : m < 64) (v1 : u.1 3 0 = nI (nn)) (v2 : u.1 3 1 = nI (n)) (v3 : u.1 71 1 = nI (cc)) (v4 : u.1 72 h = nI (c)) (v5 : u.1 73 h = nI (s)) (v6 : u.1 (6 + 4 * c) 3 = nI (m))
    (k1 : cc ≤ h → 2 ≤ f → xE mX1_coversAllNames 2 [(0, .ref 71), (1, .ref 3), (2, .int (nI (k + 1)))] [] (xmm u) Q)
    (k2 : cc ≤ h → ¬ 2 ≤ f → Q (some (.int (nI (0)))) (xmm u))
    (k3 : ¬ cc ≤ h → ¬ (m.testBit k = true) → xE mX1_coversAllNames 15 [(0, .ref 71), (1, .ref 3), (2, .int (nI (k))), (3, .int (nI (f))), (4, .int (nI (h + 1)))] [] (xmm u) Q)
    (k4 : ¬ cc ≤ h → m.testBit k = true → xE mX1_coversAllNames 15 [(0, .ref 71), (1, .ref 3), (2, .int (nI (k))), (3, .int (nI (f + s))), (4, .int (nI (h + 1)))] [] (xmm u) Q) : xE mX1_coversAllNames 15 [(0, .ref 71), (1, .ref 3), (2, .int (nI (k))), (3, .int (nI (f))), (4, .int (nI (h)))] [] (xmm u) Q := by
  refine xe_iload 4 dX1_coversAllNames_15 rfl ?_
  refine xe_aload_n 0 dX1_coversAllNames_17 rfl rfl ?_
  refine xr_getI (v := nI (cc)) dX1_coversAllNames_18 fX1_40 sh71 (by decide) v3 ?_
  refine xn_icmp_ge 59 dX1_coversAllNames_21 (by decide) (by omega) (by omega) (fun c1 => ?_) (fun c1 => ?_)
  · refine xe_iload_n 3 dX1_coversAllNames_59 rfl rfl ?_
    refine xe_iconst (v := nI (2)) dX1_coversAllNames_60 xc2 ?_
    refine xn_icmp_ge 66 dX1_coversAllNames_61 (by decide) (by omega) (by omega) (fun c2 => ?_) (fun c2 => ?_)
    · refine xn_iinc (c := 1) (L2 := [(0, .ref 71), (1, .ref 3), (2, .int (nI (k + 1))), (3, .int (nI (f))), (4, .int (nI (h)))]) 2 dX1_coversAllNames_66 rfl (by decide) rfl ?_
      refine xe_goto 2 dX1_coversAllNames_69 (by decide) ?_
      refine xE.sub [0, 1, 2] rfl ?_
      exact k1 c1 c2
    · refine xe_iconst (v := nI (0)) dX1_coversAllNames_64 xc0 ?_
      exact xe_ret (r := (some (.int (nI (0))))) dX1_coversAllNames_65 (Or.inl rfl) (k2 c1 c2)
  · refine xe_aload_n 1 dX1_coversAllNames_24 rfl rfl ?_
    refine xr_getR (b := 4) dX1_coversAllNames_25 fX1_49 rfl sh3 (by decide) rfl ?_
    refine xe_aload_n 0 dX1_coversAllNames_28 rfl rfl ?_
    refine xr_getR (b := 72) dX1_coversAllNames_29 fX1_9 rfl sh71 (by decide) rfl ?_
    refine xe_iload 4 dX1_coversAllNames_32 rfl ?_
    refine xr_iald (k := h) (v := nI (c)) dX1_coversAllNames_34 sh72 (by decide) (by omega) (by decide) v4 ?_
    refine xr_aald (k := c) (b := (6 + 4 * c)) dX1_coversAllNames_35 sh4 (by decide) (by decide) (by decide) (by omega) (by decide) (rParts (by omega)) ?_
    refine xe_iload_n 2 dX1_coversAllNames_36 rfl rfl ?_
    refine xe_callV (As := [.int (nI (k))]) (rest := []) dX1_coversAllNames_37 wX3_carries lX1_64 iX3_carries sX3_carries ⟨by decide, by decide⟩ (shP _ (by omega)) rfl (xin_mm (by omega)) rfl rfl (by simp [Value.category]) (xC.pure (v := .int (xb (m.testBit k = true))) (qX3_carries u c m k (by omega) (by omega) (by omega) v6) ?_)
    refine xb_if_eq 53 dX1_coversAllNames_40 (by decide) (fun c3 => ?_) (fun c3 => ?_)
    · refine xn_iinc (c := 1) (L2 := [(0, .ref 71), (1, .ref 3), (2, .int (nI (k))), (3, .int (nI (f))), (4, .int (nI (h + 1)))]) 4 dX1_coversAllNames_53 rfl (by decide) rfl ?_
      refine xe_goto 15 dX1_coversAllNames_56 (by decide) ?_
      exact k3 c1 c3
    · refine xe_iload_n 3 dX1_coversAllNames_43 rfl rfl ?_
      refine xe_aload_n 0 dX1_coversAllNames_44 rfl rfl ?_
      refine xr_getR (b := 73) dX1_coversAllNames_45 fX1_15 rfl sh71 (by decide) rfl ?_
      refine xe_iload 4 dX1_coversAllNames_48 rfl ?_
      refine xr_iald (k := h) (v := nI (s)) dX1_coversAllNames_50 sh73 (by decide) (by omega) (by decide) v5 ?_
      refine xn_iadd dX1_coversAllNames_51 ?_
      refine xe_istore_n (L2 := [(0, .ref 71), (1, .ref 3), (2, .int (nI (k))), (3, .int (nI (f + s))), (4, .int (nI (h)))]) dX1_coversAllNames_52 rfl (by decide) rfl ?_
      refine xn_iinc (c := 1) (L2 := [(0, .ref 71), (1, .ref 3), (2, .int (nI (k))), (3, .int (nI (f + s))), (4, .int (nI (h + 1)))]) 4 dX1_coversAllNames_53 rfl (by decide) rfl ?_
      refine xe_goto 15 dX1_coversAllNames_56 (by decide) ?_
      exact k4 c1 c3

theorem gX1_coversAllNames_e (u : xU) (nn n cc : Nat) (k f h : Nat) {Q : Option Value → xM → Prop} (hnn : nn ≤ 6) (hn : n ≤ 10) (hcc : cc ≤ 5) (hk : k < nn) (hf : f ≤ 10) (hh : h = cc) (v1 : u.1 3 0 = nI (nn)) (v2 : u.1 3 1 = nI (n)) (v3 : u.1 71 1 = nI (cc))
    (k1 : cc ≤ h → 2 ≤ f → xE mX1_coversAllNames 2 [(0, .ref 71), (1, .ref 3), (2, .int (nI (k + 1)))] [] (xmm u) Q)
    (k2 : cc ≤ h → ¬ 2 ≤ f → Q (some (.int (nI (0)))) (xmm u))
    (k3 : ¬ cc ≤ h → False) : xE mX1_coversAllNames 15 [(0, .ref 71), (1, .ref 3), (2, .int (nI (k))), (3, .int (nI (f))), (4, .int (nI (h)))] [] (xmm u) Q := by
  refine xe_iload 4 dX1_coversAllNames_15 rfl ?_
  refine xe_aload_n 0 dX1_coversAllNames_17 rfl rfl ?_
  refine xr_getI (v := nI (cc)) dX1_coversAllNames_18 fX1_40 sh71 (by decide) v3 ?_
  refine xn_icmp_ge 59 dX1_coversAllNames_21 (by decide) (by omega) (by omega) (fun c1 => ?_) (fun c1 => ?_)
  · refine xe_iload_n 3 dX1_coversAllNames_59 rfl rfl ?_
    refine xe_iconst (v := nI (2)) dX1_coversAllNames_60 xc2 ?_
    refine xn_icmp_ge 66 dX1_coversAllNames_61 (by decide) (by omega) (by omega) (fun c2 => ?_) (fun c2 => ?_)
    · refine xn_iinc (c := 1) (L2 := [(0, .ref 71), (1, .ref 3), (2, .int (nI (k + 1))), (3, .int (nI (f))), (4, .int (nI (h)))]) 2 dX1_coversAllNames_66 rfl (by decide) rfl ?_
      refine xe_goto 2 dX1_coversAllNames_69 (by decide) ?_
      refine xE.sub [0, 1, 2] rfl ?_
      exact k1 c1 c2
    · refine xe_iconst (v := nI (0)) dX1_coversAllNames_64 xc0 ?_
      exact xe_ret (r := (some (.int (nI (0))))) dX1_coversAllNames_65 (Or.inl rfl) (k2 c1 c2)
  · refine xe_aload_n 1 dX1_coversAllNames_24 rfl rfl ?_
    refine xr_getR (b := 4) dX1_coversAllNames_25 fX1_49 rfl sh3 (by decide) rfl ?_
    refine xe_aload_n 0 dX1_coversAllNames_28 rfl rfl ?_
    refine xr_getR (b := 72) dX1_coversAllNames_29 fX1_9 rfl sh71 (by decide) rfl ?_
    refine xe_iload 4 dX1_coversAllNames_32 rfl ?_
    refine xr_iald (k := h) (v := u.1 72 h) dX1_coversAllNames_34 sh72 (by decide) (by omega) (by decide) rfl ?_
    exact (k3 c1).elim

theorem gX1_productOfShares_0 (u : xU) {Q : Option Value → xM → Prop}  
    (k1 : xE mX1_productOfShares 5 [(0, .ref 71), (1, .ref 2), (2, .ref 3), (3, .long (1)), (5, .int (nI (0)))] [] (xmm u) Q) : xE mX1_productOfShares 0 [(0, .ref 71), (1, .ref 2), (2, .ref 3)] [] (xmm u) Q := by
  refine xe_lconst (v := 1) dX1_productOfShares_0 (by decide) ?_
  refine xe_lstore_n (L2 := [(0, .ref 71), (1, .ref 2), (2, .ref 3), (3, .long (1))]) dX1_productOfShares_1 rfl (by decide) rfl ?_
  refine xe_iconst (v := nI (0)) dX1_productOfShares_2 xc0 ?_
  refine xe_istore (L2 := [(0, .ref 71), (1, .ref 2), (2, .ref 3), (3, .long (1)), (5, .int (nI (0)))]) dX1_productOfShares_3 (by decide) rfl ?_
  exact k1

theorem gX1_productOfShares_5 (u : xU) (nn n cc : Nat) (x : Int64) (h c : Nat) {Q : Option Value → xM → Prop} (hnn : nn ≤ 6) (hn : n ≤ 10) (hcc : cc ≤ 5) (hh : h < cc) (hc : c < n) (v1 : u.1 3 0 = nI (nn)) (v2 : u.1 3 1 = nI (n)) (v3 : u.1 71 1 = nI (cc)) (v4 : u.1 72 h = nI (c))
    (k1 : cc ≤ h → Q (some (.long (x))) (xmm u))
    (k2 : ¬ cc ≤ h → xE mX1_productOfShares 31 [(0, .ref 71), (1, .ref 2), (2, .ref 3), (3, .long (x)), (5, .int (nI (h))), (6, .ref (6 + 4 * c)), (7, .int (nI (0)))] [] (xmm u) Q) : xE mX1_productOfShares 5 [(0, .ref 71), (1, .ref 2), (2, .ref 3), (3, .long (x)), (5, .int (nI (h)))] [] (xmm u) Q := by
  refine xe_iload 4 dX1_productOfShares_5 rfl ?_
  refine xe_aload_n 0 dX1_productOfShares_7 rfl rfl ?_
  refine xr_getI (v := nI (cc)) dX1_productOfShares_8 fX1_40 sh71 (by decide) v3 ?_
  refine xn_icmp_ge 69 dX1_productOfShares_11 (by decide) (by omega) (by omega) (fun c1 => ?_) (fun c1 => ?_)
  · refine xe_lload_n 3 dX1_productOfShares_69 rfl rfl ?_
    exact xe_ret (r := (some (.long (x)))) dX1_productOfShares_70 trivial (k1 c1)
  · refine xe_aload_n 2 dX1_productOfShares_14 rfl rfl ?_
    refine xr_getR (b := 4) dX1_productOfShares_15 fX1_49 rfl sh3 (by decide) rfl ?_
    refine xe_aload_n 0 dX1_productOfShares_18 rfl rfl ?_
    refine xr_getR (b := 72) dX1_productOfShares_19 fX1_9 rfl sh71 (by decide) rfl ?_
    refine xe_iload 4 dX1_productOfShares_22 rfl ?_
    refine xr_iald (k := h) (v := nI (c)) dX1_productOfShares_24 sh72 (by decide) (by omega) (by decide) v4 ?_
    refine xr_aald (k := c) (b := (6 + 4 * c)) dX1_productOfShares_25 sh4 (by decide) (by decide) (by decide) (by omega) (by decide) (rParts (by omega)) ?_
    refine xe_astore (L2 := [(0, .ref 71), (1, .ref 2), (2, .ref 3), (3, .long (x)), (5, .int (nI (h))), (6, .ref (6 + 4 * c))]) dX1_productOfShares_26 (by decide) rfl ?_
    refine xe_iconst (v := nI (0)) dX1_productOfShares_28 xc0 ?_
    refine xe_istore (L2 := [(0, .ref 71), (1, .ref 2), (2, .ref 3), (3, .long (x)), (5, .int (nI (h))), (6, .ref (6 + 4 * c)), (7, .int (nI (0)))]) dX1_productOfShares_29 (by decide) rfl ?_
    exact k2 c1

theorem gX1_productOfShares_e (u : xU) (nn n cc : Nat) (x : Int64) (h : Nat) {Q : Option Value → xM → Prop} (hnn : nn ≤ 6) (hn : n ≤ 10) (hcc : cc ≤ 5) (hh : h = cc) (v1 : u.1 3 0 = nI (nn)) (v2 : u.1 3 1 = nI (n)) (v3 : u.1 71 1 = nI (cc))
    (k1 : cc ≤ h → Q (some (.long (x))) (xmm u))
    (k2 : ¬ cc ≤ h → False) : xE mX1_productOfShares 5 [(0, .ref 71), (1, .ref 2), (2, .ref 3), (3, .long (x)), (5, .int (nI (h)))] [] (xmm u) Q := by
  refine xe_iload 4 dX1_productOfShares_5 rfl ?_
  refine xe_aload_n 0 dX1_productOfShares_7 rfl rfl ?_
  refine xr_getI (v := nI (cc)) dX1_productOfShares_8 fX1_40 sh71 (by decide) v3 ?_
  refine xn_icmp_ge 69 dX1_productOfShares_11 (by decide) (by omega) (by omega) (fun c1 => ?_) (fun c1 => ?_)
  · refine xe_lload_n 3 dX1_productOfShares_69 rfl rfl ?_
    exact xe_ret (r := (some (.long (x)))) dX1_productOfShares_70 trivial (k1 c1)
  · refine xe_aload_n 2 dX1_productOfShares_14 rfl rfl ?_
    refine xr_getR (b := 4) dX1_productOfShares_15 fX1_49 rfl sh3 (by decide) rfl ?_
    refine xe_aload_n 0 dX1_productOfShares_18 rfl rfl ?_
    refine xr_getR (b := 72) dX1_productOfShares_19 fX1_9 rfl sh71 (by decide) rfl ?_
    refine xe_iload 4 dX1_productOfShares_22 rfl ?_
    refine xr_iald (k := h) (v := u.1 72 h) dX1_productOfShares_24 sh72 (by decide) (by omega) (by decide) rfl ?_
    exact (k2 c1).elim

theorem gX1_productOfShares_31 (u : xU) (nn n cc : Nat) (x : Int64) (h c s j t z : Nat) {Q : Option Value → xM → Prop} (hnn : nn ≤ 6) (hn : n ≤ 10) (hcc : cc ≤ 5) (hh : h < cc) (hc : c < n) (hs : s ≤ 2) (hj : j ≤ s) (ht : t < 8) (v1 : u.1 3 0 = nI (nn)) (v2 : u.1 3 1 = nI (n)) (v3 : u.1 71 1 = nI (cc)) (v4 : u.1 73 h = nI (s)) (v5 : u.1 (6 + 4 * c) 1 = nI (t)) (v6 : u.1 (156 + 2 * t) 1 = nI (z))
    (k1 : s ≤ j → xE mX1_productOfShares 5 [(0, .ref 71), (1, .ref 2), (2, .ref 3), (3, .long (x)), (5, .int (nI (h + 1)))] [] (xmm u) Q)
    (k2 : ¬ s ≤ j → xE mX1_productOfShares 31 [(0, .ref 71), (1, .ref 2), (2, .ref 3), (3, .long (x * ((nI (z)).toInt64))), (5, .int (nI (h))), (6, .ref (6 + 4 * c)), (7, .int (nI (j + 1)))] [] (xmm u) Q) : xE mX1_productOfShares 31 [(0, .ref 71), (1, .ref 2), (2, .ref 3), (3, .long (x)), (5, .int (nI (h))), (6, .ref (6 + 4 * c)), (7, .int (nI (j)))] [] (xmm u) Q := by
  refine xe_iload 6 dX1_productOfShares_31 rfl ?_
  refine xe_aload_n 0 dX1_productOfShares_33 rfl rfl ?_
  refine xr_getR (b := 73) dX1_productOfShares_34 fX1_15 rfl sh71 (by decide) rfl ?_
  refine xe_iload 4 dX1_productOfShares_37 rfl ?_
  refine xr_iald (k := h) (v := nI (s)) dX1_productOfShares_39 sh73 (by decide) (by omega) (by decide) v4 ?_
  refine xn_icmp_ge 63 dX1_productOfShares_40 (by decide) (by omega) (by omega) (fun c1 => ?_) (fun c1 => ?_)
  · refine xn_iinc (c := 1) (L2 := [(0, .ref 71), (1, .ref 2), (2, .ref 3), (3, .long (x)), (5, .int (nI (h + 1))), (6, .ref (6 + 4 * c)), (7, .int (nI (j)))]) 4 dX1_productOfShares_63 rfl (by decide) rfl ?_
    refine xe_goto 5 dX1_productOfShares_66 (by decide) ?_
    refine xE.sub [0, 1, 2, 3, 4] rfl ?_
    exact k1 c1
  · refine xe_lload_n 3 dX1_productOfShares_43 rfl rfl ?_
    refine xe_aload_n 1 dX1_productOfShares_44 rfl rfl ?_
    refine xe_aload 5 dX1_productOfShares_45 rfl ?_
    refine xr_getI (v := nI (t)) dX1_productOfShares_47 fX1_68 (shP _ (by omega)) (by omega) v5 ?_
    refine xr_aald (k := t) (b := (156 + 2 * t)) dX1_productOfShares_50 sh2 (by decide) (by decide) (by decide) (by omega) (by decide) (rTabs (by omega)) ?_
    refine xr_getI (v := nI (z)) dX1_productOfShares_51 fX1_71 (shT _ (by omega)) (by omega) v6 ?_
    refine xe_i2l dX1_productOfShares_54 ?_
    refine xe_lmul dX1_productOfShares_55 ?_
    refine xe_lstore_n (L2 := [(0, .ref 71), (1, .ref 2), (2, .ref 3), (3, .long (x * ((nI (z)).toInt64))), (5, .int (nI (h))), (6, .ref (6 + 4 * c)), (7, .int (nI (j)))]) dX1_productOfShares_56 rfl (by decide) rfl ?_
    refine xn_iinc (c := 1) (L2 := [(0, .ref 71), (1, .ref 2), (2, .ref 3), (3, .long (x * ((nI (z)).toInt64))), (5, .int (nI (h))), (6, .ref (6 + 4 * c)), (7, .int (nI (j + 1)))]) 6 dX1_productOfShares_57 rfl (by decide) rfl ?_
    refine xe_goto 31 dX1_productOfShares_60 (by decide) ?_
    exact k2 c1

theorem gX1_find_0 (u : xU) {Q : Option Value → xM → Prop}  
    (k1 : xC mX1_gatherCarriers [.ref 71, .ref 3] (xmm u) (fun r μ1 => xE mX1_find 5 [(0, .ref 71), (1, .ref 2), (2, .ref 3)] (r.toList ++ []) μ1 Q)) : xE mX1_find 0 [(0, .ref 71), (1, .ref 2), (2, .ref 3)] [] (xmm u) Q := by
  refine xe_aload_n 0 dX1_find_0 rfl rfl ?_
  refine xe_aload_n 2 dX1_find_1 rfl rfl ?_
  refine xe_callV (As := [.ref 3]) (rest := []) dX1_find_2 wX1_gatherCarriers lX1_18 iX1_gatherCarriers sX1_gatherCarriers ⟨by decide, by decide⟩ sh71 rfl (xin_mm (by decide)) rfl rfl (by simp [Value.category]) ?_
  exact k1

theorem gX1_find_5 (u : xU) (w : Nat) {Q : Option Value → xM → Prop}  
    (k1 : xE mX1_find 19 [(0, .ref 71), (1, .ref 2), (2, .ref 3), (3, .int (nI (w))), (4, .int (nI (0))), (5, .int (nI (0)))] [] (xmm (wl u 71 0 ((-1)))) Q) : xE mX1_find 5 [(0, .ref 71), (1, .ref 2), (2, .ref 3)] [.int (nI (w))] (xmm u) Q := by
  refine xe_istore_n (L2 := [(0, .ref 71), (1, .ref 2), (2, .ref 3), (3, .int (nI (w)))]) dX1_find_5 rfl (by decide) rfl ?_
  refine xe_iconst (v := nI (0)) dX1_find_6 xc0 ?_
  refine xe_istore (L2 := [(0, .ref 71), (1, .ref 2), (2, .ref 3), (3, .int (nI (w))), (4, .int (nI (0)))]) dX1_find_7 (by decide) rfl ?_
  refine xe_aload_n 0 dX1_find_9 rfl rfl ?_
  refine xe_ldc2 dX1_find_10 kX1_22 ?_
  refine xr_putL dX1_find_13 fX1_24 sh71 (by decide) ?_
  refine xe_iconst (v := nI (0)) dX1_find_16 xc0 ?_
  refine xe_istore (L2 := [(0, .ref 71), (1, .ref 2), (2, .ref 3), (3, .int (nI (w))), (4, .int (nI (0))), (5, .int (nI (0)))]) dX1_find_17 (by decide) rfl ?_
  exact k1

theorem gX1_find_19 (u : xU) (w lt tr : Nat) {Q : Option Value → xM → Prop} (hw : w ≤ 243) (hlt : lt ≤ 243) (htr : tr ≤ w) 
    (k1 : w ≤ tr → xC mX1_takeTrial [.ref 71, .int (nI (lt))] (xmm u) (fun r μ1 => xE mX1_find 90 [] (r.toList ++ []) μ1 Q))
    (k2 : ¬ w ≤ tr → xC mX1_takeTrial [.ref 71, .int (nI (tr))] (xmm u) (fun r μ1 => xE mX1_find 31 [(0, .ref 71), (1, .ref 2), (2, .ref 3), (3, .int (nI (w))), (4, .int (nI (lt))), (5, .int (nI (tr)))] (r.toList ++ []) μ1 Q)) : xE mX1_find 19 [(0, .ref 71), (1, .ref 2), (2, .ref 3), (3, .int (nI (w))), (4, .int (nI (lt))), (5, .int (nI (tr)))] [] (xmm u) Q := by
  refine xe_iload 5 dX1_find_19 rfl ?_
  refine xe_iload_n 3 dX1_find_21 rfl rfl ?_
  refine xn_icmp_ge 84 dX1_find_22 (by decide) (by omega) (by omega) (fun c1 => ?_) (fun c1 => ?_)
  · refine xe_aload_n 0 dX1_find_84 rfl rfl ?_
    refine xe_iload 4 dX1_find_85 rfl ?_
    refine xE.sub [] rfl ?_
    refine xe_callV (As := [.int (nI (lt))]) (rest := []) dX1_find_87 wX1_takeTrial lX1_28 iX1_takeTrial sX1_takeTrial ⟨by decide, by decide⟩ sh71 rfl (xin_mm (by decide)) rfl rfl (by simp [Value.category]) ?_
    exact k1 c1
  · refine xe_aload_n 0 dX1_find_25 rfl rfl ?_
    refine xe_iload 5 dX1_find_26 rfl ?_
    refine xe_callV (As := [.int (nI (tr))]) (rest := []) dX1_find_28 wX1_takeTrial lX1_28 iX1_takeTrial sX1_takeTrial ⟨by decide, by decide⟩ sh71 rfl (xin_mm (by decide)) rfl rfl (by simp [Value.category]) ?_
    exact k2 c1

theorem gX1_find_31 (u : xU) (w lt tr : Nat) (ec : Bool) {Q : Option Value → xM → Prop} (hw : w ≤ 243) (hlt : lt ≤ 243) (htr : tr < w) (hcv : xC mX1_coversAllNames [.ref 71, .ref 3] (xmm u) (fun r μ' => r = some (.int (xb (ec = true))) ∧ μ' = xmm u)) 
    (k1 : ¬ (ec = true) → xE mX1_find 19 [(0, .ref 71), (1, .ref 2), (2, .ref 3), (3, .int (nI (w))), (4, .int (nI (lt))), (5, .int (nI (tr + 1)))] [] (xmm u) Q)
    (k2 : ec = true → xC mX1_productOfShares [.ref 71, .ref 2, .ref 3] (xmm u) (fun r μ1 => xE mX1_find 45 [(0, .ref 71), (1, .ref 2), (2, .ref 3), (3, .int (nI (w))), (4, .int (nI (lt))), (5, .int (nI (tr)))] (r.toList ++ []) μ1 Q)) : xE mX1_find 31 [(0, .ref 71), (1, .ref 2), (2, .ref 3), (3, .int (nI (w))), (4, .int (nI (lt))), (5, .int (nI (tr)))] [] (xmm u) Q := by
  refine xe_aload_n 0 dX1_find_31 rfl rfl ?_
  refine xe_aload_n 2 dX1_find_32 rfl rfl ?_
  refine xe_callV (As := [.ref 3]) (rest := []) dX1_find_33 wX1_coversAllNames lX1_32 iX1_coversAllNames sX1_coversAllNames ⟨by decide, by decide⟩ sh71 rfl (xin_mm (by decide)) rfl rfl (by simp [Value.category]) (xC.pure (v := .int (xb (ec = true))) (hcv) ?_)
  refine xb_if_eq 78 dX1_find_36 (by decide) (fun c1 => ?_) (fun c1 => ?_)
  · refine xn_iinc (c := 1) (L2 := [(0, .ref 71), (1, .ref 2), (2, .ref 3), (3, .int (nI (w))), (4, .int (nI (lt))), (5, .int (nI (tr + 1)))]) 5 dX1_find_78 rfl (by decide) rfl ?_
    refine xe_goto 19 dX1_find_81 (by decide) ?_
    exact k1 c1
  · refine xe_aload_n 0 dX1_find_39 rfl rfl ?_
    refine xe_aload_n 1 dX1_find_40 rfl rfl ?_
    refine xe_aload_n 2 dX1_find_41 rfl rfl ?_
    refine xe_callV (As := [.ref 2, .ref 3]) (rest := []) dX1_find_42 wX1_productOfShares lX1_36 iX1_productOfShares sX1_productOfShares ⟨by decide, by decide⟩ sh71 rfl (xin_mm (by decide)) rfl rfl (by simp [Value.category]) ?_
    exact k2 c1

theorem gX1_find_45 (u : xU) (w lt tr : Nat) (x pr : Int64) {Q : Option Value → xM → Prop} (hw : w ≤ 243) (hlt : lt ≤ 243) (htr : tr < w) (v1 : u.2.1 71 0 = pr)
    (k1 : (lg_cmp pr ((-1))) = 0 → xE mX1_find 19 [(0, .ref 71), (1, .ref 2), (2, .ref 3), (3, .int (nI (w))), (4, .int (nI (tr))), (5, .int (nI (tr + 1)))] [] (xmm (wl u 71 0 (x))) Q)
    (k2 : ¬ (lg_cmp pr ((-1))) = 0 → 0 ≤ (lg_cmp x pr) → xE mX1_find 19 [(0, .ref 71), (1, .ref 2), (2, .ref 3), (3, .int (nI (w))), (4, .int (nI (lt))), (5, .int (nI (tr + 1)))] [] (xmm u) Q)
    (k3 : ¬ (lg_cmp pr ((-1))) = 0 → ¬ 0 ≤ (lg_cmp x pr) → xE mX1_find 19 [(0, .ref 71), (1, .ref 2), (2, .ref 3), (3, .int (nI (w))), (4, .int (nI (tr))), (5, .int (nI (tr + 1)))] [] (xmm (wl u 71 0 (x))) Q) : xE mX1_find 45 [(0, .ref 71), (1, .ref 2), (2, .ref 3), (3, .int (nI (w))), (4, .int (nI (lt))), (5, .int (nI (tr)))] [.long (x)] (xmm u) Q := by
  refine xe_lstore (L2 := [(0, .ref 71), (1, .ref 2), (2, .ref 3), (3, .int (nI (w))), (4, .int (nI (lt))), (5, .int (nI (tr))), (6, .long (x))]) dX1_find_45 (by decide) rfl ?_
  refine xe_aload_n 0 dX1_find_47 rfl rfl ?_
  refine xr_getL (v := pr) dX1_find_48 fX1_24 sh71 (by decide) v1 ?_
  refine xe_ldc2 dX1_find_51 kX1_22 ?_
  refine xe_lcmp dX1_find_54 ?_
  refine xe_if_eq 68 dX1_find_55 (by decide) (fun c1 => ?_) (fun c1 => ?_)
  · refine xe_aload_n 0 dX1_find_68 rfl rfl ?_
    refine xe_lload 6 dX1_find_69 rfl ?_
    refine xr_putL dX1_find_71 fX1_24 sh71 (by decide) ?_
    refine xe_iload 5 dX1_find_74 rfl ?_
    refine xe_istore (L2 := [(0, .ref 71), (1, .ref 2), (2, .ref 3), (3, .int (nI (w))), (4, .int (nI (tr))), (5, .int (nI (tr))), (6, .long (x))]) dX1_find_76 (by decide) rfl ?_
    refine xn_iinc (c := 1) (L2 := [(0, .ref 71), (1, .ref 2), (2, .ref 3), (3, .int (nI (w))), (4, .int (nI (tr))), (5, .int (nI (tr + 1))), (6, .long (x))]) 5 dX1_find_78 rfl (by decide) rfl ?_
    refine xe_goto 19 dX1_find_81 (by decide) ?_
    refine xE.sub [0, 1, 2, 3, 4, 5] rfl ?_
    exact k1 c1
  · refine xe_lload 6 dX1_find_58 rfl ?_
    refine xe_aload_n 0 dX1_find_60 rfl rfl ?_
    refine xr_getL (v := pr) dX1_find_61 fX1_24 sh71 (by decide) v1 ?_
    refine xe_lcmp dX1_find_64 ?_
    refine xe_if_ge 78 dX1_find_65 (by decide) (fun c2 => ?_) (fun c2 => ?_)
    · refine xn_iinc (c := 1) (L2 := [(0, .ref 71), (1, .ref 2), (2, .ref 3), (3, .int (nI (w))), (4, .int (nI (lt))), (5, .int (nI (tr + 1))), (6, .long (x))]) 5 dX1_find_78 rfl (by decide) rfl ?_
      refine xe_goto 19 dX1_find_81 (by decide) ?_
      refine xE.sub [0, 1, 2, 3, 4, 5] rfl ?_
      exact k2 c1 c2
    · refine xe_aload_n 0 dX1_find_68 rfl rfl ?_
      refine xe_lload 6 dX1_find_69 rfl ?_
      refine xr_putL dX1_find_71 fX1_24 sh71 (by decide) ?_
      refine xe_iload 5 dX1_find_74 rfl ?_
      refine xe_istore (L2 := [(0, .ref 71), (1, .ref 2), (2, .ref 3), (3, .int (nI (w))), (4, .int (nI (tr))), (5, .int (nI (tr))), (6, .long (x))]) dX1_find_76 (by decide) rfl ?_
      refine xn_iinc (c := 1) (L2 := [(0, .ref 71), (1, .ref 2), (2, .ref 3), (3, .int (nI (w))), (4, .int (nI (tr))), (5, .int (nI (tr + 1))), (6, .long (x))]) 5 dX1_find_78 rfl (by decide) rfl ?_
      refine xe_goto 19 dX1_find_81 (by decide) ?_
      refine xE.sub [0, 1, 2, 3, 4, 5] rfl ?_
      exact k3 c1 c2

theorem gX1_find_90 (u : xU) {Q : Option Value → xM → Prop}  
    (k1 : Q none (xmm u)) : xE mX1_find 90 [] [] (xmm u) Q := by
  exact xe_ret (r := none) dX1_find_90 trivial (k1)

theorem gX1_shareOf_0 (u : xU) (p : Int32) {Q : Option Value → xM → Prop}  
    (k1 : xE mX1_shareOf 2 [(0, .ref 71), (1, .int (p)), (2, .int (nI (0)))] [] (xmm u) Q) : xE mX1_shareOf 0 [(0, .ref 71), (1, .int (p))] [] (xmm u) Q := by
  refine xe_iconst (v := nI (0)) dX1_shareOf_0 xc0 ?_
  refine xe_istore_n (L2 := [(0, .ref 71), (1, .int (p)), (2, .int (nI (0)))]) dX1_shareOf_1 rfl (by decide) rfl ?_
  exact k1

theorem gX1_shareOf_2 (u : xU) (cc h c s : Nat) (p : Int32) {Q : Option Value → xM → Prop} (hcc : cc ≤ 5) (hh : h < cc) (hc : c < 10) (hs : s ≤ 2) (v1 : u.1 71 1 = nI (cc)) (v2 : u.1 72 h = nI (c)) (v3 : u.1 73 h = nI (s))
    (k1 : cc ≤ h → Q (some (.int (-1))) (xmm u))
    (k2 : ¬ cc ≤ h → ¬ (nI (c)) = p → xE mX1_shareOf 2 [(0, .ref 71), (1, .int (p)), (2, .int (nI (h + 1)))] [] (xmm u) Q)
    (k3 : ¬ cc ≤ h → (nI (c)) = p → Q (some (.int (nI (s)))) (xmm u)) : xE mX1_shareOf 2 [(0, .ref 71), (1, .int (p)), (2, .int (nI (h)))] [] (xmm u) Q := by
  refine xe_iload_n 2 dX1_shareOf_2 rfl rfl ?_
  refine xe_aload_n 0 dX1_shareOf_3 rfl rfl ?_
  refine xr_getI (v := nI (cc)) dX1_shareOf_4 fX1_40 sh71 (by decide) v1 ?_
  refine xn_icmp_ge 33 dX1_shareOf_7 (by decide) (by omega) (by omega) (fun c1 => ?_) (fun c1 => ?_)
  · refine xe_iconst (v := -1) dX1_shareOf_33 xcm1 ?_
    exact xe_ret (r := (some (.int (-1)))) dX1_shareOf_34 trivial (k1 c1)
  · refine xe_aload_n 0 dX1_shareOf_10 rfl rfl ?_
    refine xr_getR (b := 72) dX1_shareOf_11 fX1_9 rfl sh71 (by decide) rfl ?_
    refine xe_iload_n 2 dX1_shareOf_14 rfl rfl ?_
    refine xr_iald (k := h) (v := nI (c)) dX1_shareOf_15 sh72 (by decide) (by omega) (by decide) v2 ?_
    refine xe_iload_n 1 dX1_shareOf_16 rfl rfl ?_
    refine xe_icmp_ne 27 dX1_shareOf_17 (by decide) (fun c2 => ?_) (fun c2 => ?_)
    · refine xn_iinc (c := 1) (L2 := [(0, .ref 71), (1, .int (p)), (2, .int (nI (h + 1)))]) 2 dX1_shareOf_27 rfl (by decide) rfl ?_
      refine xe_goto 2 dX1_shareOf_30 (by decide) ?_
      exact k2 c1 c2
    · refine xe_aload_n 0 dX1_shareOf_20 rfl rfl ?_
      refine xr_getR (b := 73) dX1_shareOf_21 fX1_15 rfl sh71 (by decide) rfl ?_
      refine xe_iload_n 2 dX1_shareOf_24 rfl rfl ?_
      refine xr_iald (k := h) (v := nI (s)) dX1_shareOf_25 sh73 (by decide) (by omega) (by decide) v3 ?_
      exact xe_ret (r := (some (.int (nI (s))))) dX1_shareOf_26 trivial (k3 c1 c2)

theorem gX1_shareOf_e (u : xU) (cc h : Nat) (p : Int32) {Q : Option Value → xM → Prop} (hcc : cc ≤ 5) (hh : h = cc) (v1 : u.1 71 1 = nI (cc))
    (k1 : cc ≤ h → Q (some (.int (-1))) (xmm u))
    (k2 : ¬ cc ≤ h → ¬ (u.1 72 h) = p → xE mX1_shareOf 2 [(0, .ref 71), (1, .int (p)), (2, .int (nI (h + 1)))] [] (xmm u) Q)
    (k3 : ¬ cc ≤ h → (u.1 72 h) = p → Q (some (.int (u.1 73 h))) (xmm u)) : xE mX1_shareOf 2 [(0, .ref 71), (1, .int (p)), (2, .int (nI (h)))] [] (xmm u) Q := by
  refine xe_iload_n 2 dX1_shareOf_2 rfl rfl ?_
  refine xe_aload_n 0 dX1_shareOf_3 rfl rfl ?_
  refine xr_getI (v := nI (cc)) dX1_shareOf_4 fX1_40 sh71 (by decide) v1 ?_
  refine xn_icmp_ge 33 dX1_shareOf_7 (by decide) (by omega) (by omega) (fun c1 => ?_) (fun c1 => ?_)
  · refine xe_iconst (v := -1) dX1_shareOf_33 xcm1 ?_
    exact xe_ret (r := (some (.int (-1)))) dX1_shareOf_34 trivial (k1 c1)
  · refine xe_aload_n 0 dX1_shareOf_10 rfl rfl ?_
    refine xr_getR (b := 72) dX1_shareOf_11 fX1_9 rfl sh71 (by decide) rfl ?_
    refine xe_iload_n 2 dX1_shareOf_14 rfl rfl ?_
    refine xr_iald (k := h) (v := u.1 72 h) dX1_shareOf_15 sh72 (by decide) (by omega) (by decide) rfl ?_
    refine xe_iload_n 1 dX1_shareOf_16 rfl rfl ?_
    refine xe_icmp_ne 27 dX1_shareOf_17 (by decide) (fun c2 => ?_) (fun c2 => ?_)
    · refine xn_iinc (c := 1) (L2 := [(0, .ref 71), (1, .int (p)), (2, .int (nI (h + 1)))]) 2 dX1_shareOf_27 rfl (by decide) rfl ?_
      refine xe_goto 2 dX1_shareOf_30 (by decide) ?_
      exact k2 c1 c2
    · refine xe_aload_n 0 dX1_shareOf_20 rfl rfl ?_
      refine xr_getR (b := 73) dX1_shareOf_21 fX1_15 rfl sh71 (by decide) rfl ?_
      refine xe_iload_n 2 dX1_shareOf_24 rfl rfl ?_
      refine xr_iald (k := h) (v := u.1 73 h) dX1_shareOf_25 sh73 (by decide) (by omega) (by decide) rfl ?_
      exact xe_ret (r := (some (.int (u.1 73 h)))) dX1_shareOf_26 trivial (k3 c1 c2)

theorem gX9_bound_0 (u : xU) (es : Bool) {Q : Option Value → xM → Prop} (hst : xC mX4_stands [.ref 3] (xmm u) (fun r μ' => r = some (.int (xb (es = true))) ∧ μ' = xmm u)) 
    (k1 : es = true → xC mX1_find [.ref 71, .ref 2, .ref 3] (xmm u) (fun r μ1 => xE mX9_bound 29 [(0, .ref 1)] (r.toList ++ []) μ1 Q))
    (k2 : ¬ (es = true) → Q (some (.long ((-1)))) (xmm u)) : xE mX9_bound 0 [(0, .ref 1)] [] (xmm u) Q := by
  refine xe_aload_n 0 dX9_bound_0 rfl rfl ?_
  refine xr_getR (b := 3) dX9_bound_1 fX9_18 rfl sh1 (by decide) rfl ?_
  refine xe_callV (As := []) (rest := []) dX9_bound_4 wX4_stands lX9_127 iX4_stands sX4_stands ⟨by decide, by decide⟩ sh3 rfl (xin_mm (by decide)) rfl rfl (by simp [Value.category]) (xC.pure (v := .int (xb (es = true))) (hst) ?_)
  refine xb_if_ne 14 dX9_bound_7 (by decide) (fun c1 => ?_) (fun c1 => ?_)
  · refine xe_aload_n 0 dX9_bound_14 rfl rfl ?_
    refine xr_getR (b := 71) dX9_bound_15 fX9_53 rfl sh1 (by decide) rfl ?_
    refine xe_aload_n 0 dX9_bound_18 rfl rfl ?_
    refine xr_getR (b := 2) dX9_bound_19 fX9_11 rfl sh1 (by decide) rfl ?_
    refine xe_aload_n 0 dX9_bound_22 rfl rfl ?_
    refine xr_getR (b := 3) dX9_bound_23 fX9_18 rfl sh1 (by decide) rfl ?_
    refine xe_callV (As := [.ref 2, .ref 3]) (rest := []) dX9_bound_26 wX1_find lX9_190 iX1_find sX1_find ⟨by decide, by decide⟩ sh71 rfl (xin_mm (by decide)) rfl rfl (by simp [Value.category]) ?_
    exact k1 c1
  · refine xe_ldc2 dX9_bound_10 kX9_188 ?_
    exact xe_ret (r := (some (.long ((-1))))) dX9_bound_13 trivial (k2 c1)

theorem gX9_bound_29 (u : xU) (x : Int64) {Q : Option Value → xM → Prop}  (v1 : u.2.1 71 0 = x)
    (k1 : Q (some (.long (x))) (xmm u)) : xE mX9_bound 29 [(0, .ref 1)] [] (xmm u) Q := by
  refine xe_aload_n 0 dX9_bound_29 rfl rfl ?_
  refine xr_getR (b := 71) dX9_bound_30 fX9_53 rfl sh1 (by decide) rfl ?_
  refine xr_getL (v := x) dX9_bound_33 fX9_193 sh71 (by decide) v1 ?_
  exact xe_ret (r := (some (.long (x)))) dX9_bound_36 trivial (k1)

theorem gX9_cover_0 (u : xU) (p : Int32) (es : Bool) {Q : Option Value → xM → Prop} (hst : xC mX4_stands [.ref 3] (xmm u) (fun r μ' => r = some (.int (xb (es = true))) ∧ μ' = xmm u)) 
    (k1 : es = true → xC mX1_find [.ref 71, .ref 2, .ref 3] (xmm u) (fun r μ1 => xE mX9_cover 27 [(0, .ref 1), (1, .int (p))] (r.toList ++ []) μ1 Q))
    (k2 : ¬ (es = true) → Q (some (.int (-1))) (xmm u)) : xE mX9_cover 0 [(0, .ref 1), (1, .int (p))] [] (xmm u) Q := by
  refine xe_aload_n 0 dX9_cover_0 rfl rfl ?_
  refine xr_getR (b := 3) dX9_cover_1 fX9_18 rfl sh1 (by decide) rfl ?_
  refine xe_callV (As := []) (rest := []) dX9_cover_4 wX4_stands lX9_127 iX4_stands sX4_stands ⟨by decide, by decide⟩ sh3 rfl (xin_mm (by decide)) rfl rfl (by simp [Value.category]) (xC.pure (v := .int (xb (es = true))) (hst) ?_)
  refine xb_if_ne 12 dX9_cover_7 (by decide) (fun c1 => ?_) (fun c1 => ?_)
  · refine xe_aload_n 0 dX9_cover_12 rfl rfl ?_
    refine xr_getR (b := 71) dX9_cover_13 fX9_53 rfl sh1 (by decide) rfl ?_
    refine xe_aload_n 0 dX9_cover_16 rfl rfl ?_
    refine xr_getR (b := 2) dX9_cover_17 fX9_11 rfl sh1 (by decide) rfl ?_
    refine xe_aload_n 0 dX9_cover_20 rfl rfl ?_
    refine xr_getR (b := 3) dX9_cover_21 fX9_18 rfl sh1 (by decide) rfl ?_
    refine xe_callV (As := [.ref 2, .ref 3]) (rest := []) dX9_cover_24 wX1_find lX9_190 iX1_find sX1_find ⟨by decide, by decide⟩ sh71 rfl (xin_mm (by decide)) rfl rfl (by simp [Value.category]) ?_
    exact k1 c1
  · refine xe_iconst (v := -1) dX9_cover_10 xcm1 ?_
    exact xe_ret (r := (some (.int (-1)))) dX9_cover_11 trivial (k2 c1)

theorem gX9_cover_27 (u : xU) (p : Int32) {Q : Option Value → xM → Prop}  
    (k1 : xC mX1_shareOf [.ref 71, .int (p)] (xmm u) (fun r μ1 => xE mX9_cover 35 [] (r.toList ++ []) μ1 Q)) : xE mX9_cover 27 [(0, .ref 1), (1, .int (p))] [] (xmm u) Q := by
  refine xe_aload_n 0 dX9_cover_27 rfl rfl ?_
  refine xr_getR (b := 71) dX9_cover_28 fX9_53 rfl sh1 (by decide) rfl ?_
  refine xe_iload_n 1 dX9_cover_31 rfl rfl ?_
  refine xE.sub [] rfl ?_
  refine xe_callV (As := [.int (p)]) (rest := []) dX9_cover_32 wX1_shareOf lX9_197 iX1_shareOf sX1_shareOf ⟨by decide, by decide⟩ sh71 rfl (xin_mm (by decide)) rfl rfl (by simp [Value.category]) ?_
  exact k1

