theorem gX7_meetAlong_0 (u : xU) (h : Nat) {Q : Option Value → xM → Prop} (hh : h ≤ 6) 
    (k1 : xE mX7_meetAlong 15 [(0, .ref 74), (1, .ref 3), (2, .ref 5), (3, .int (nI (h))), (4, .int (nI (0))), (5, .int (nI (0)))] [] (xmm (wl u (148 + 0) 0 (0))) Q) : xE mX7_meetAlong 0 [(0, .ref 74), (1, .ref 3), (2, .ref 5), (3, .int (nI (h)))] [] (xmm u) Q := by
  refine xe_iconst (v := nI (0)) dX7_meetAlong_0 xc0 ?_
  refine xe_istore (L2 := [(0, .ref 74), (1, .ref 3), (2, .ref 5), (3, .int (nI (h))), (4, .int (nI (0)))]) dX7_meetAlong_1 (by decide) rfl ?_
  refine xe_aload_n 0 dX7_meetAlong_3 rfl rfl ?_
  refine xr_getR (b := 147) dX7_meetAlong_4 fX7_35 rfl sh74 (by decide) rfl ?_
  refine xe_iconst (v := nI (0)) dX7_meetAlong_7 xc0 ?_
  refine xr_aald (k := 0) (b := (148 + 0)) dX7_meetAlong_8 sh147 (by decide) (by decide) (by decide) (by omega) (by decide) (rSL (by omega)) ?_
  refine xe_iconst (v := nI (0)) dX7_meetAlong_9 xc0 ?_
  refine xe_lconst (v := 0) dX7_meetAlong_10 (by decide) ?_
  refine xr_last (k := 0) dX7_meetAlong_11 (shSL _ (by omega)) (by omega) (by omega) (by decide) ?_
  refine xe_iconst (v := nI (0)) dX7_meetAlong_12 xc0 ?_
  refine xe_istore (L2 := [(0, .ref 74), (1, .ref 3), (2, .ref 5), (3, .int (nI (h))), (4, .int (nI (0))), (5, .int (nI (0)))]) dX7_meetAlong_13 (by decide) rfl ?_
  exact k1

theorem gX7_meetAlong_15 (u : xU) (h S i : Nat) {Q : Option Value → xM → Prop} (hh : h ≤ 6) (hi : i < h) 
    (k1 : h ≤ i → Q (some (.int (u.1 146 h))) (xmm u))
    (k2 : ¬ h ≤ i → xE mX7_meetAlong 34 [(0, .ref 74), (1, .ref 3), (2, .ref 5), (3, .int (nI (h))), (4, .int (nI (S))), (5, .int (nI (i))), (6, .int (nI (0)))] [] (xmm (wi u 146 (i + 1) (nI (0)))) Q) : xE mX7_meetAlong 15 [(0, .ref 74), (1, .ref 3), (2, .ref 5), (3, .int (nI (h))), (4, .int (nI (S))), (5, .int (nI (i)))] [] (xmm u) Q := by
  refine xe_iload 5 dX7_meetAlong_15 rfl ?_
  refine xe_iload_n 3 dX7_meetAlong_17 rfl rfl ?_
  refine xn_icmp_ge 122 dX7_meetAlong_18 (by decide) (by omega) (by omega) (fun c1 => ?_) (fun c1 => ?_)
  · refine xe_aload_n 0 dX7_meetAlong_122 rfl rfl ?_
    refine xr_getR (b := 146) dX7_meetAlong_123 fX7_32 rfl sh74 (by decide) rfl ?_
    refine xe_iload_n 3 dX7_meetAlong_126 rfl rfl ?_
    refine xr_iald (k := h) (v := u.1 146 h) dX7_meetAlong_127 sh146 (by decide) (by omega) (by decide) rfl ?_
    exact xe_ret (r := (some (.int (u.1 146 h)))) dX7_meetAlong_128 trivial (k1 c1)
  · refine xe_aload_n 0 dX7_meetAlong_21 rfl rfl ?_
    refine xr_getR (b := 146) dX7_meetAlong_22 fX7_32 rfl sh74 (by decide) rfl ?_
    refine xe_iload 5 dX7_meetAlong_25 rfl ?_
    refine xe_iconst (v := nI (1)) dX7_meetAlong_27 xc1 ?_
    refine xn_iadd dX7_meetAlong_28 ?_
    refine xe_iconst (v := nI (0)) dX7_meetAlong_29 xc0 ?_
    refine xr_iast (k := i + 1) dX7_meetAlong_30 sh146 (by decide) (by omega) (by decide) ?_
    refine xe_iconst (v := nI (0)) dX7_meetAlong_31 xc0 ?_
    refine xe_istore (L2 := [(0, .ref 74), (1, .ref 3), (2, .ref 5), (3, .int (nI (h))), (4, .int (nI (S))), (5, .int (nI (i))), (6, .int (nI (0)))]) dX7_meetAlong_32 (by decide) rfl ?_
    exact k2 c1

theorem gX7_meetAlong_e (u : xU) (h S i c : Nat) {Q : Option Value → xM → Prop} (hh : h ≤ 6) (hi : i = h) (v1 : u.1 146 h = nI (c))
    (k1 : h ≤ i → Q (some (.int (nI (c)))) (xmm u))
    (k2 : ¬ h ≤ i → xE mX7_meetAlong 34 [(0, .ref 74), (1, .ref 3), (2, .ref 5), (3, .int (nI (h))), (4, .int (nI (S))), (5, .int (nI (i))), (6, .int (nI (0)))] [] (xmm (wi u 146 (i + 1) (nI (0)))) Q) : xE mX7_meetAlong 15 [(0, .ref 74), (1, .ref 3), (2, .ref 5), (3, .int (nI (h))), (4, .int (nI (S))), (5, .int (nI (i)))] [] (xmm u) Q := by
  refine xe_iload 5 dX7_meetAlong_15 rfl ?_
  refine xe_iload_n 3 dX7_meetAlong_17 rfl rfl ?_
  refine xn_icmp_ge 122 dX7_meetAlong_18 (by decide) (by omega) (by omega) (fun c1 => ?_) (fun c1 => ?_)
  · refine xe_aload_n 0 dX7_meetAlong_122 rfl rfl ?_
    refine xr_getR (b := 146) dX7_meetAlong_123 fX7_32 rfl sh74 (by decide) rfl ?_
    refine xe_iload_n 3 dX7_meetAlong_126 rfl rfl ?_
    refine xr_iald (k := h) (v := nI (c)) dX7_meetAlong_127 sh146 (by decide) (by omega) (by decide) v1 ?_
    exact xe_ret (r := (some (.int (nI (c))))) dX7_meetAlong_128 trivial (k1 c1)
  · refine xe_aload_n 0 dX7_meetAlong_21 rfl rfl ?_
    refine xr_getR (b := 146) dX7_meetAlong_22 fX7_32 rfl sh74 (by decide) rfl ?_
    refine xe_iload 5 dX7_meetAlong_25 rfl ?_
    refine xe_iconst (v := nI (1)) dX7_meetAlong_27 xc1 ?_
    refine xn_iadd dX7_meetAlong_28 ?_
    refine xe_iconst (v := nI (0)) dX7_meetAlong_29 xc0 ?_
    refine xr_iast (k := i + 1) dX7_meetAlong_30 sh146 (by decide) (by omega) (by decide) ?_
    refine xe_iconst (v := nI (0)) dX7_meetAlong_31 xc0 ?_
    refine xe_istore (L2 := [(0, .ref 74), (1, .ref 3), (2, .ref 5), (3, .int (nI (h))), (4, .int (nI (S))), (5, .int (nI (i))), (6, .int (nI (0)))]) dX7_meetAlong_32 (by decide) rfl ?_
    exact k2 c1

theorem gX7_meetAlong_34 (u : xU) (h S i k j n : Nat) (x : Int64) {Q : Option Value → xM → Prop} (hh : h ≤ 6) (hi : i < h) (hk : k < 6) (hn : n ≤ 500) (hj : j ≤ 500) (v1 : u.1 5 i = nI (k)) (v2 : u.1 146 i = nI (n)) (v3 : u.2.1 (148 + (i % 2)) j = x)
    (k1 : n ≤ j → xE mX7_meetAlong 15 [(0, .ref 74), (1, .ref 3), (2, .ref 5), (3, .int (nI (h))), (4, .int ((nI (S)) ||| (1 <<< ((nI (k)) &&& 31)))), (5, .int (nI (i + 1)))] [] (xmm u) Q)
    (k2 : ¬ n ≤ j → xC mX7_agree [.ref 74, .ref 3, .long (x), .int (nI (S))] (xmm u) (fun r μ1 => xE mX7_meetAlong 69 [(0, .ref 74), (1, .ref 3), (2, .ref 5), (3, .int (nI (h))), (4, .int (nI (S))), (5, .int (nI (i))), (6, .int (nI (j))), (7, .long (x))] (r.toList ++ []) μ1 Q)) : xE mX7_meetAlong 34 [(0, .ref 74), (1, .ref 3), (2, .ref 5), (3, .int (nI (h))), (4, .int (nI (S))), (5, .int (nI (i))), (6, .int (nI (j)))] [] (xmm u) Q := by
  refine xe_iload 6 dX7_meetAlong_34 rfl ?_
  refine xe_aload_n 0 dX7_meetAlong_36 rfl rfl ?_
  refine xr_getR (b := 146) dX7_meetAlong_37 fX7_32 rfl sh74 (by decide) rfl ?_
  refine xe_iload 5 dX7_meetAlong_40 rfl ?_
  refine xr_iald (k := i) (v := nI (n)) dX7_meetAlong_42 sh146 (by decide) (by omega) (by decide) v2 ?_
  refine xn_icmp_ge 105 dX7_meetAlong_43 (by decide) (by omega) (by omega) (fun c1 => ?_) (fun c1 => ?_)
  · refine xe_iload 4 dX7_meetAlong_105 rfl ?_
    refine xe_iconst (v := nI (1)) dX7_meetAlong_107 xc1 ?_
    refine xe_aload_n 2 dX7_meetAlong_108 rfl rfl ?_
    refine xe_iload 5 dX7_meetAlong_109 rfl ?_
    refine xr_iald (k := i) (v := nI (k)) dX7_meetAlong_111 sh5 (by decide) (by omega) (by decide) v1 ?_
    refine xe_ishl dX7_meetAlong_112 ?_
    refine xe_ior dX7_meetAlong_113 ?_
    refine xe_istore (L2 := [(0, .ref 74), (1, .ref 3), (2, .ref 5), (3, .int (nI (h))), (4, .int ((nI (S)) ||| (1 <<< ((nI (k)) &&& 31)))), (5, .int (nI (i))), (6, .int (nI (j)))]) dX7_meetAlong_114 (by decide) rfl ?_
    refine xn_iinc (c := 1) (L2 := [(0, .ref 74), (1, .ref 3), (2, .ref 5), (3, .int (nI (h))), (4, .int ((nI (S)) ||| (1 <<< ((nI (k)) &&& 31)))), (5, .int (nI (i + 1))), (6, .int (nI (j)))]) 5 dX7_meetAlong_116 rfl (by decide) rfl ?_
    refine xe_goto 15 dX7_meetAlong_119 (by decide) ?_
    refine xE.sub [0, 1, 2, 3, 4, 5] rfl ?_
    exact k1 c1
  · refine xe_aload_n 0 dX7_meetAlong_46 rfl rfl ?_
    refine xr_getR (b := 147) dX7_meetAlong_47 fX7_35 rfl sh74 (by decide) rfl ?_
    refine xe_iload 5 dX7_meetAlong_50 rfl ?_
    refine xe_iconst (v := nI (1)) dX7_meetAlong_52 xc1 ?_
    refine xn_odd dX7_meetAlong_53 ?_
    refine xr_aald (k := i % 2) (b := (148 + (i % 2))) dX7_meetAlong_54 sh147 (by decide) (by decide) (by decide) (by omega) (by decide) (rSL (by omega)) ?_
    refine xe_iload 6 dX7_meetAlong_55 rfl ?_
    refine xr_lald (k := j) (v := x) dX7_meetAlong_57 (shSL _ (by omega)) (by omega) (by omega) (by decide) v3 ?_
    refine xe_lstore (L2 := [(0, .ref 74), (1, .ref 3), (2, .ref 5), (3, .int (nI (h))), (4, .int (nI (S))), (5, .int (nI (i))), (6, .int (nI (j))), (7, .long (x))]) dX7_meetAlong_58 (by decide) rfl ?_
    refine xe_aload_n 0 dX7_meetAlong_60 rfl rfl ?_
    refine xe_aload_n 1 dX7_meetAlong_61 rfl rfl ?_
    refine xe_lload 7 dX7_meetAlong_62 rfl ?_
    refine xe_iload 4 dX7_meetAlong_64 rfl ?_
    refine xe_callV (As := [.ref 3, .long (x), .int (nI (S))]) (rest := []) dX7_meetAlong_66 wX7_agree lX7_136 iX7_agree sX7_agree ⟨by decide, by decide⟩ sh74 rfl (xin_mm (by decide)) rfl rfl (by simp [Value.category]) ?_
    exact k2 c1

theorem gX7_meetAlong_69 (u : xU) (h S i k j : Nat) (x : Int64) {Q : Option Value → xM → Prop} (hh : h ≤ 6) (hi : i < h) (hk : k < 6) (v1 : u.1 5 i = nI (k))
    (k1 : xC mX7_extend [.ref 74, .ref 3, .int (nI (i + 1)), .long (x), .int ((nI (S)) ||| (1 <<< ((nI (k)) &&& 31))), .int (nI (k))] (xmm u) (fun r μ1 => xE mX7_meetAlong 93 [(0, .ref 74), (1, .ref 3), (2, .ref 5), (3, .int (nI (h))), (4, .int (nI (S))), (5, .int (nI (i))), (6, .int (nI (j)))] (r.toList ++ []) μ1 Q)) : xE mX7_meetAlong 69 [(0, .ref 74), (1, .ref 3), (2, .ref 5), (3, .int (nI (h))), (4, .int (nI (S))), (5, .int (nI (i))), (6, .int (nI (j))), (7, .long (x))] [] (xmm u) Q := by
  refine xe_aload_n 0 dX7_meetAlong_69 rfl rfl ?_
  refine xe_aload_n 1 dX7_meetAlong_70 rfl rfl ?_
  refine xe_iload 5 dX7_meetAlong_71 rfl ?_
  refine xe_iconst (v := nI (1)) dX7_meetAlong_73 xc1 ?_
  refine xn_iadd dX7_meetAlong_74 ?_
  refine xe_lload 7 dX7_meetAlong_75 rfl ?_
  refine xe_iload 4 dX7_meetAlong_77 rfl ?_
  refine xe_iconst (v := nI (1)) dX7_meetAlong_79 xc1 ?_
  refine xe_aload_n 2 dX7_meetAlong_80 rfl rfl ?_
  refine xe_iload 5 dX7_meetAlong_81 rfl ?_
  refine xr_iald (k := i) (v := nI (k)) dX7_meetAlong_83 sh5 (by decide) (by omega) (by decide) v1 ?_
  refine xe_ishl dX7_meetAlong_84 ?_
  refine xe_ior dX7_meetAlong_85 ?_
  refine xe_aload_n 2 dX7_meetAlong_86 rfl rfl ?_
  refine xe_iload 5 dX7_meetAlong_87 rfl ?_
  refine xr_iald (k := i) (v := nI (k)) dX7_meetAlong_89 sh5 (by decide) (by omega) (by decide) v1 ?_
  refine xE.sub [0, 1, 2, 3, 4, 5, 6] rfl ?_
  refine xe_callV (As := [.ref 3, .int (nI (i + 1)), .long (x), .int ((nI (S)) ||| (1 <<< ((nI (k)) &&& 31))), .int (nI (k))]) (rest := []) dX7_meetAlong_90 wX7_extend lX7_204 iX7_extend sX7_extend ⟨by decide, by decide⟩ sh74 rfl (xin_mm (by decide)) rfl rfl (by simp [Value.category]) ?_
  exact k1

theorem gX7_meetAlong_t (u : xU) (h S i j : Nat) {Q : Option Value → xM → Prop} (hh : h ≤ 6) (hi : i < h) (hj : j < 500) 
    (k1 : xE mX7_meetAlong 34 [(0, .ref 74), (1, .ref 3), (2, .ref 5), (3, .int (nI (h))), (4, .int (nI (S))), (5, .int (nI (i))), (6, .int (nI (j + 1)))] [] (xmm u) Q) : xE mX7_meetAlong 93 [(0, .ref 74), (1, .ref 3), (2, .ref 5), (3, .int (nI (h))), (4, .int (nI (S))), (5, .int (nI (i))), (6, .int (nI (j)))] [.int (nI (1))] (xmm u) Q := by
  refine xn_if_ne 99 dX7_meetAlong_93 (by decide) (by omega) (fun _ => ?_) (fun q => absurd q (by decide))
  refine xn_iinc (c := 1) (L2 := [(0, .ref 74), (1, .ref 3), (2, .ref 5), (3, .int (nI (h))), (4, .int (nI (S))), (5, .int (nI (i))), (6, .int (nI (j + 1)))]) 6 dX7_meetAlong_99 rfl (by decide) rfl ?_
  refine xe_goto 34 dX7_meetAlong_102 (by decide) ?_
  exact k1

theorem gX7_meetAlong_f (u : xU) (h S i j : Nat) {Q : Option Value → xM → Prop} (hh : h ≤ 6) 
    (k1 : Q (some (.int (-2))) (xmm u)) : xE mX7_meetAlong 93 [(0, .ref 74), (1, .ref 3), (2, .ref 5), (3, .int (nI (h))), (4, .int (nI (S))), (5, .int (nI (i))), (6, .int (nI (j)))] [.int (nI (0))] (xmm u) Q := by
  refine xn_if_ne 99 dX7_meetAlong_93 (by decide) (by omega) (fun q => absurd q (by decide)) (fun _ => ?_)
  refine xe_bipush (v := -2) dX7_meetAlong_96 xcbm2 ?_
  exact xe_ret (r := (some (.int (-2)))) dX7_meetAlong_98 trivial (k1)

theorem gX7_meetAlongb_0 (u : xU) (h : Nat) {Q : Option Value → xM → Prop} (hh : h ≤ 4) 
    (k1 : xE mX7_meetAlong 15 [(0, .ref 74), (1, .ref 3), (2, .ref 155), (3, .int (nI (h))), (4, .int (nI (0))), (5, .int (nI (0)))] [] (xmm (wl u (148 + 0) 0 (0))) Q) : xE mX7_meetAlong 0 [(0, .ref 74), (1, .ref 3), (2, .ref 155), (3, .int (nI (h)))] [] (xmm u) Q := by
  refine xe_iconst (v := nI (0)) dX7_meetAlong_0 xc0 ?_
  refine xe_istore (L2 := [(0, .ref 74), (1, .ref 3), (2, .ref 155), (3, .int (nI (h))), (4, .int (nI (0)))]) dX7_meetAlong_1 (by decide) rfl ?_
  refine xe_aload_n 0 dX7_meetAlong_3 rfl rfl ?_
  refine xr_getR (b := 147) dX7_meetAlong_4 fX7_35 rfl sh74 (by decide) rfl ?_
  refine xe_iconst (v := nI (0)) dX7_meetAlong_7 xc0 ?_
  refine xr_aald (k := 0) (b := (148 + 0)) dX7_meetAlong_8 sh147 (by decide) (by decide) (by decide) (by omega) (by decide) (rSL (by omega)) ?_
  refine xe_iconst (v := nI (0)) dX7_meetAlong_9 xc0 ?_
  refine xe_lconst (v := 0) dX7_meetAlong_10 (by decide) ?_
  refine xr_last (k := 0) dX7_meetAlong_11 (shSL _ (by omega)) (by omega) (by omega) (by decide) ?_
  refine xe_iconst (v := nI (0)) dX7_meetAlong_12 xc0 ?_
  refine xe_istore (L2 := [(0, .ref 74), (1, .ref 3), (2, .ref 155), (3, .int (nI (h))), (4, .int (nI (0))), (5, .int (nI (0)))]) dX7_meetAlong_13 (by decide) rfl ?_
  exact k1

theorem gX7_meetAlongb_15 (u : xU) (h S i : Nat) {Q : Option Value → xM → Prop} (hh : h ≤ 4) (hi : i < h) 
    (k1 : h ≤ i → Q (some (.int (u.1 146 h))) (xmm u))
    (k2 : ¬ h ≤ i → xE mX7_meetAlong 34 [(0, .ref 74), (1, .ref 3), (2, .ref 155), (3, .int (nI (h))), (4, .int (nI (S))), (5, .int (nI (i))), (6, .int (nI (0)))] [] (xmm (wi u 146 (i + 1) (nI (0)))) Q) : xE mX7_meetAlong 15 [(0, .ref 74), (1, .ref 3), (2, .ref 155), (3, .int (nI (h))), (4, .int (nI (S))), (5, .int (nI (i)))] [] (xmm u) Q := by
  refine xe_iload 5 dX7_meetAlong_15 rfl ?_
  refine xe_iload_n 3 dX7_meetAlong_17 rfl rfl ?_
  refine xn_icmp_ge 122 dX7_meetAlong_18 (by decide) (by omega) (by omega) (fun c1 => ?_) (fun c1 => ?_)
  · refine xe_aload_n 0 dX7_meetAlong_122 rfl rfl ?_
    refine xr_getR (b := 146) dX7_meetAlong_123 fX7_32 rfl sh74 (by decide) rfl ?_
    refine xe_iload_n 3 dX7_meetAlong_126 rfl rfl ?_
    refine xr_iald (k := h) (v := u.1 146 h) dX7_meetAlong_127 sh146 (by decide) (by omega) (by decide) rfl ?_
    exact xe_ret (r := (some (.int (u.1 146 h)))) dX7_meetAlong_128 trivial (k1 c1)
  · refine xe_aload_n 0 dX7_meetAlong_21 rfl rfl ?_
    refine xr_getR (b := 146) dX7_meetAlong_22 fX7_32 rfl sh74 (by decide) rfl ?_
    refine xe_iload 5 dX7_meetAlong_25 rfl ?_
    refine xe_iconst (v := nI (1)) dX7_meetAlong_27 xc1 ?_
    refine xn_iadd dX7_meetAlong_28 ?_
    refine xe_iconst (v := nI (0)) dX7_meetAlong_29 xc0 ?_
    refine xr_iast (k := i + 1) dX7_meetAlong_30 sh146 (by decide) (by omega) (by decide) ?_
    refine xe_iconst (v := nI (0)) dX7_meetAlong_31 xc0 ?_
    refine xe_istore (L2 := [(0, .ref 74), (1, .ref 3), (2, .ref 155), (3, .int (nI (h))), (4, .int (nI (S))), (5, .int (nI (i))), (6, .int (nI (0)))]) dX7_meetAlong_32 (by decide) rfl ?_
    exact k2 c1

theorem gX7_meetAlongb_e (u : xU) (h S i c : Nat) {Q : Option Value → xM → Prop} (hh : h ≤ 4) (hi : i = h) (v1 : u.1 146 h = nI (c))
    (k1 : h ≤ i → Q (some (.int (nI (c)))) (xmm u))
    (k2 : ¬ h ≤ i → xE mX7_meetAlong 34 [(0, .ref 74), (1, .ref 3), (2, .ref 155), (3, .int (nI (h))), (4, .int (nI (S))), (5, .int (nI (i))), (6, .int (nI (0)))] [] (xmm (wi u 146 (i + 1) (nI (0)))) Q) : xE mX7_meetAlong 15 [(0, .ref 74), (1, .ref 3), (2, .ref 155), (3, .int (nI (h))), (4, .int (nI (S))), (5, .int (nI (i)))] [] (xmm u) Q := by
  refine xe_iload 5 dX7_meetAlong_15 rfl ?_
  refine xe_iload_n 3 dX7_meetAlong_17 rfl rfl ?_
  refine xn_icmp_ge 122 dX7_meetAlong_18 (by decide) (by omega) (by omega) (fun c1 => ?_) (fun c1 => ?_)
  · refine xe_aload_n 0 dX7_meetAlong_122 rfl rfl ?_
    refine xr_getR (b := 146) dX7_meetAlong_123 fX7_32 rfl sh74 (by decide) rfl ?_
    refine xe_iload_n 3 dX7_meetAlong_126 rfl rfl ?_
    refine xr_iald (k := h) (v := nI (c)) dX7_meetAlong_127 sh146 (by decide) (by omega) (by decide) v1 ?_
    exact xe_ret (r := (some (.int (nI (c))))) dX7_meetAlong_128 trivial (k1 c1)
  · refine xe_aload_n 0 dX7_meetAlong_21 rfl rfl ?_
    refine xr_getR (b := 146) dX7_meetAlong_22 fX7_32 rfl sh74 (by decide) rfl ?_
    refine xe_iload 5 dX7_meetAlong_25 rfl ?_
    refine xe_iconst (v := nI (1)) dX7_meetAlong_27 xc1 ?_
    refine xn_iadd dX7_meetAlong_28 ?_
    refine xe_iconst (v := nI (0)) dX7_meetAlong_29 xc0 ?_
    refine xr_iast (k := i + 1) dX7_meetAlong_30 sh146 (by decide) (by omega) (by decide) ?_
    refine xe_iconst (v := nI (0)) dX7_meetAlong_31 xc0 ?_
    refine xe_istore (L2 := [(0, .ref 74), (1, .ref 3), (2, .ref 155), (3, .int (nI (h))), (4, .int (nI (S))), (5, .int (nI (i))), (6, .int (nI (0)))]) dX7_meetAlong_32 (by decide) rfl ?_
    exact k2 c1

theorem gX7_meetAlongb_34 (u : xU) (h S i k j n : Nat) (x : Int64) {Q : Option Value → xM → Prop} (hh : h ≤ 4) (hi : i < h) (hk : k < 6) (hn : n ≤ 500) (hj : j ≤ 500) (v1 : u.1 155 i = nI (k)) (v2 : u.1 146 i = nI (n)) (v3 : u.2.1 (148 + (i % 2)) j = x)
    (k1 : n ≤ j → xE mX7_meetAlong 15 [(0, .ref 74), (1, .ref 3), (2, .ref 155), (3, .int (nI (h))), (4, .int ((nI (S)) ||| (1 <<< ((nI (k)) &&& 31)))), (5, .int (nI (i + 1)))] [] (xmm u) Q)
    (k2 : ¬ n ≤ j → xC mX7_agree [.ref 74, .ref 3, .long (x), .int (nI (S))] (xmm u) (fun r μ1 => xE mX7_meetAlong 69 [(0, .ref 74), (1, .ref 3), (2, .ref 155), (3, .int (nI (h))), (4, .int (nI (S))), (5, .int (nI (i))), (6, .int (nI (j))), (7, .long (x))] (r.toList ++ []) μ1 Q)) : xE mX7_meetAlong 34 [(0, .ref 74), (1, .ref 3), (2, .ref 155), (3, .int (nI (h))), (4, .int (nI (S))), (5, .int (nI (i))), (6, .int (nI (j)))] [] (xmm u) Q := by
  refine xe_iload 6 dX7_meetAlong_34 rfl ?_
  refine xe_aload_n 0 dX7_meetAlong_36 rfl rfl ?_
  refine xr_getR (b := 146) dX7_meetAlong_37 fX7_32 rfl sh74 (by decide) rfl ?_
  refine xe_iload 5 dX7_meetAlong_40 rfl ?_
  refine xr_iald (k := i) (v := nI (n)) dX7_meetAlong_42 sh146 (by decide) (by omega) (by decide) v2 ?_
  refine xn_icmp_ge 105 dX7_meetAlong_43 (by decide) (by omega) (by omega) (fun c1 => ?_) (fun c1 => ?_)
  · refine xe_iload 4 dX7_meetAlong_105 rfl ?_
    refine xe_iconst (v := nI (1)) dX7_meetAlong_107 xc1 ?_
    refine xe_aload_n 2 dX7_meetAlong_108 rfl rfl ?_
    refine xe_iload 5 dX7_meetAlong_109 rfl ?_
    refine xr_iald (k := i) (v := nI (k)) dX7_meetAlong_111 sh155 (by decide) (by omega) (by decide) v1 ?_
    refine xe_ishl dX7_meetAlong_112 ?_
    refine xe_ior dX7_meetAlong_113 ?_
    refine xe_istore (L2 := [(0, .ref 74), (1, .ref 3), (2, .ref 155), (3, .int (nI (h))), (4, .int ((nI (S)) ||| (1 <<< ((nI (k)) &&& 31)))), (5, .int (nI (i))), (6, .int (nI (j)))]) dX7_meetAlong_114 (by decide) rfl ?_
    refine xn_iinc (c := 1) (L2 := [(0, .ref 74), (1, .ref 3), (2, .ref 155), (3, .int (nI (h))), (4, .int ((nI (S)) ||| (1 <<< ((nI (k)) &&& 31)))), (5, .int (nI (i + 1))), (6, .int (nI (j)))]) 5 dX7_meetAlong_116 rfl (by decide) rfl ?_
    refine xe_goto 15 dX7_meetAlong_119 (by decide) ?_
    refine xE.sub [0, 1, 2, 3, 4, 5] rfl ?_
    exact k1 c1
  · refine xe_aload_n 0 dX7_meetAlong_46 rfl rfl ?_
    refine xr_getR (b := 147) dX7_meetAlong_47 fX7_35 rfl sh74 (by decide) rfl ?_
    refine xe_iload 5 dX7_meetAlong_50 rfl ?_
    refine xe_iconst (v := nI (1)) dX7_meetAlong_52 xc1 ?_
    refine xn_odd dX7_meetAlong_53 ?_
    refine xr_aald (k := i % 2) (b := (148 + (i % 2))) dX7_meetAlong_54 sh147 (by decide) (by decide) (by decide) (by omega) (by decide) (rSL (by omega)) ?_
    refine xe_iload 6 dX7_meetAlong_55 rfl ?_
    refine xr_lald (k := j) (v := x) dX7_meetAlong_57 (shSL _ (by omega)) (by omega) (by omega) (by decide) v3 ?_
    refine xe_lstore (L2 := [(0, .ref 74), (1, .ref 3), (2, .ref 155), (3, .int (nI (h))), (4, .int (nI (S))), (5, .int (nI (i))), (6, .int (nI (j))), (7, .long (x))]) dX7_meetAlong_58 (by decide) rfl ?_
    refine xe_aload_n 0 dX7_meetAlong_60 rfl rfl ?_
    refine xe_aload_n 1 dX7_meetAlong_61 rfl rfl ?_
    refine xe_lload 7 dX7_meetAlong_62 rfl ?_
    refine xe_iload 4 dX7_meetAlong_64 rfl ?_
    refine xe_callV (As := [.ref 3, .long (x), .int (nI (S))]) (rest := []) dX7_meetAlong_66 wX7_agree lX7_136 iX7_agree sX7_agree ⟨by decide, by decide⟩ sh74 rfl (xin_mm (by decide)) rfl rfl (by simp [Value.category]) ?_
    exact k2 c1

theorem gX7_meetAlongb_69 (u : xU) (h S i k j : Nat) (x : Int64) {Q : Option Value → xM → Prop} (hh : h ≤ 4) (hi : i < h) (hk : k < 6) (v1 : u.1 155 i = nI (k))
    (k1 : xC mX7_extend [.ref 74, .ref 3, .int (nI (i + 1)), .long (x), .int ((nI (S)) ||| (1 <<< ((nI (k)) &&& 31))), .int (nI (k))] (xmm u) (fun r μ1 => xE mX7_meetAlong 93 [(0, .ref 74), (1, .ref 3), (2, .ref 155), (3, .int (nI (h))), (4, .int (nI (S))), (5, .int (nI (i))), (6, .int (nI (j)))] (r.toList ++ []) μ1 Q)) : xE mX7_meetAlong 69 [(0, .ref 74), (1, .ref 3), (2, .ref 155), (3, .int (nI (h))), (4, .int (nI (S))), (5, .int (nI (i))), (6, .int (nI (j))), (7, .long (x))] [] (xmm u) Q := by
  refine xe_aload_n 0 dX7_meetAlong_69 rfl rfl ?_
  refine xe_aload_n 1 dX7_meetAlong_70 rfl rfl ?_
  refine xe_iload 5 dX7_meetAlong_71 rfl ?_
  refine xe_iconst (v := nI (1)) dX7_meetAlong_73 xc1 ?_
  refine xn_iadd dX7_meetAlong_74 ?_
  refine xe_lload 7 dX7_meetAlong_75 rfl ?_
  refine xe_iload 4 dX7_meetAlong_77 rfl ?_
  refine xe_iconst (v := nI (1)) dX7_meetAlong_79 xc1 ?_
  refine xe_aload_n 2 dX7_meetAlong_80 rfl rfl ?_
  refine xe_iload 5 dX7_meetAlong_81 rfl ?_
  refine xr_iald (k := i) (v := nI (k)) dX7_meetAlong_83 sh155 (by decide) (by omega) (by decide) v1 ?_
  refine xe_ishl dX7_meetAlong_84 ?_
  refine xe_ior dX7_meetAlong_85 ?_
  refine xe_aload_n 2 dX7_meetAlong_86 rfl rfl ?_
  refine xe_iload 5 dX7_meetAlong_87 rfl ?_
  refine xr_iald (k := i) (v := nI (k)) dX7_meetAlong_89 sh155 (by decide) (by omega) (by decide) v1 ?_
  refine xE.sub [0, 1, 2, 3, 4, 5, 6] rfl ?_
  refine xe_callV (As := [.ref 3, .int (nI (i + 1)), .long (x), .int ((nI (S)) ||| (1 <<< ((nI (k)) &&& 31))), .int (nI (k))]) (rest := []) dX7_meetAlong_90 wX7_extend lX7_204 iX7_extend sX7_extend ⟨by decide, by decide⟩ sh74 rfl (xin_mm (by decide)) rfl rfl (by simp [Value.category]) ?_
  exact k1

theorem gX7_meetAlongb_t (u : xU) (h S i j : Nat) {Q : Option Value → xM → Prop} (hh : h ≤ 4) (hi : i < h) (hj : j < 500) 
    (k1 : xE mX7_meetAlong 34 [(0, .ref 74), (1, .ref 3), (2, .ref 155), (3, .int (nI (h))), (4, .int (nI (S))), (5, .int (nI (i))), (6, .int (nI (j + 1)))] [] (xmm u) Q) : xE mX7_meetAlong 93 [(0, .ref 74), (1, .ref 3), (2, .ref 155), (3, .int (nI (h))), (4, .int (nI (S))), (5, .int (nI (i))), (6, .int (nI (j)))] [.int (nI (1))] (xmm u) Q := by
  refine xn_if_ne 99 dX7_meetAlong_93 (by decide) (by omega) (fun _ => ?_) (fun q => absurd q (by decide))
  refine xn_iinc (c := 1) (L2 := [(0, .ref 74), (1, .ref 3), (2, .ref 155), (3, .int (nI (h))), (4, .int (nI (S))), (5, .int (nI (i))), (6, .int (nI (j + 1)))]) 6 dX7_meetAlong_99 rfl (by decide) rfl ?_
  refine xe_goto 34 dX7_meetAlong_102 (by decide) ?_
  exact k1

theorem gX7_meetAlongb_f (u : xU) (h S i j : Nat) {Q : Option Value → xM → Prop} (hh : h ≤ 4) 
    (k1 : Q (some (.int (-2))) (xmm u)) : xE mX7_meetAlong 93 [(0, .ref 74), (1, .ref 3), (2, .ref 155), (3, .int (nI (h))), (4, .int (nI (S))), (5, .int (nI (i))), (6, .int (nI (j)))] [.int (nI (0))] (xmm u) Q := by
  refine xn_if_ne 99 dX7_meetAlong_93 (by decide) (by omega) (fun q => absurd q (by decide)) (fun _ => ?_)
  refine xe_bipush (v := -2) dX7_meetAlong_96 xcbm2 ?_
  exact xe_ret (r := (some (.int (-2)))) dX7_meetAlong_98 trivial (k1)

