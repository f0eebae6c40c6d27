theorem gX7_extend_0 (u : xU) (i S k : Nat) {Q : Option Value → xM → Prop} (hi : i < 6) (hk : k < 6) 
    (k1 : xE mX7_extend 12 [(0, .ref 74), (1, .ref 3), (2, .int (nI (i))), (3, .int (nI (S))), (4, .int (nI (k))), (5, .int (nI (0)))] [] (xmm (wi u 146 (i + 1) (nI (0)))) Q) : xE mX7_extend 0 [(0, .ref 74), (1, .ref 3), (2, .int (nI (i))), (3, .int (nI (S))), (4, .int (nI (k)))] [] (xmm u) Q := by
  refine xe_aload_n 0 dX7_extend_0 rfl rfl ?_
  refine xr_getR (b := 146) dX7_extend_1 fX7_32 rfl sh74 (by decide) rfl ?_
  refine xe_iload_n 2 dX7_extend_4 rfl rfl ?_
  refine xe_iconst (v := nI (1)) dX7_extend_5 xc1 ?_
  refine xn_iadd dX7_extend_6 ?_
  refine xe_iconst (v := nI (0)) dX7_extend_7 xc0 ?_
  refine xr_iast (k := i + 1) dX7_extend_8 sh146 (by decide) (by omega) (by decide) ?_
  refine xe_iconst (v := nI (0)) dX7_extend_9 xc0 ?_
  refine xe_istore (L2 := [(0, .ref 74), (1, .ref 3), (2, .int (nI (i))), (3, .int (nI (S))), (4, .int (nI (k))), (5, .int (nI (0)))]) dX7_extend_10 (by decide) rfl ?_
  exact k1

theorem gX7_extend_12 (u : xU) (i S k j n : Nat) (x : Int64) {Q : Option Value → xM → Prop} (hi : i < 6) (hk : k < 6) (hn : n ≤ 500) (hj : j ≤ 500) (v1 : u.1 146 i = nI (n)) (v2 : u.2.1 (148 + (i % 2)) j = x)
    (k1 : n ≤ j → Q (some (.int (nI (1)))) (xmm u))
    (k2 : ¬ n ≤ j → xC mX7_agree [.ref 74, .ref 3, .long (x), .int (nI (S))] (xmm u) (fun r μ1 => xE mX7_extend 44 [(0, .ref 74), (1, .ref 3), (2, .int (nI (i))), (3, .int (nI (S))), (4, .int (nI (k))), (5, .int (nI (j))), (6, .long (x))] (r.toList ++ []) μ1 Q)) : xE mX7_extend 12 [(0, .ref 74), (1, .ref 3), (2, .int (nI (i))), (3, .int (nI (S))), (4, .int (nI (k))), (5, .int (nI (j)))] [] (xmm u) Q := by
  refine xe_iload 5 dX7_extend_12 rfl ?_
  refine xe_aload_n 0 dX7_extend_14 rfl rfl ?_
  refine xr_getR (b := 146) dX7_extend_15 fX7_32 rfl sh74 (by decide) rfl ?_
  refine xe_iload_n 2 dX7_extend_18 rfl rfl ?_
  refine xr_iald (k := i) (v := nI (n)) dX7_extend_19 sh146 (by decide) (by omega) (by decide) v1 ?_
  refine xn_icmp_ge 73 dX7_extend_20 (by decide) (by omega) (by omega) (fun c1 => ?_) (fun c1 => ?_)
  · refine xe_iconst (v := nI (1)) dX7_extend_73 xc1 ?_
    exact xe_ret (r := (some (.int (nI (1))))) dX7_extend_74 (Or.inr rfl) (k1 c1)
  · refine xe_aload_n 0 dX7_extend_23 rfl rfl ?_
    refine xr_getR (b := 147) dX7_extend_24 fX7_35 rfl sh74 (by decide) rfl ?_
    refine xe_iload_n 2 dX7_extend_27 rfl rfl ?_
    refine xe_iconst (v := nI (1)) dX7_extend_28 xc1 ?_
    refine xn_odd dX7_extend_29 ?_
    refine xr_aald (k := i % 2) (b := (148 + (i % 2))) dX7_extend_30 sh147 (by decide) (by decide) (by decide) (by omega) (by decide) (rSL (by omega)) ?_
    refine xe_iload 5 dX7_extend_31 rfl ?_
    refine xr_lald (k := j) (v := x) dX7_extend_33 (shSL _ (by omega)) (by omega) (by omega) (by decide) v2 ?_
    refine xe_lstore (L2 := [(0, .ref 74), (1, .ref 3), (2, .int (nI (i))), (3, .int (nI (S))), (4, .int (nI (k))), (5, .int (nI (j))), (6, .long (x))]) dX7_extend_34 (by decide) rfl ?_
    refine xe_aload_n 0 dX7_extend_36 rfl rfl ?_
    refine xe_aload_n 1 dX7_extend_37 rfl rfl ?_
    refine xe_lload 6 dX7_extend_38 rfl ?_
    refine xe_iload_n 3 dX7_extend_40 rfl rfl ?_
    refine xe_callV (As := [.ref 3, .long (x), .int (nI (S))]) (rest := []) dX7_extend_41 wX7_agree lX7_136 iX7_agree sX7_agree ⟨by decide, by decide⟩ sh74 rfl (xin_mm (by decide)) rfl rfl (by simp [Value.category]) ?_
    exact k2 c1

theorem gX7_extend_44 (u : xU) (i S k j : Nat) (x : Int64) {Q : Option Value → xM → Prop} (hi : i < 6) (hk : k < 6) 
    (k1 : xC mX7_extendOne [.ref 74, .ref 3, .int (nI (i + 1)), .long (x), .int ((nI (S)) ||| (1 <<< ((nI (k)) &&& 31))), .int (nI (k))] (xmm u) (fun r μ1 => xE mX7_extend 62 [(0, .ref 74), (1, .ref 3), (2, .int (nI (i))), (3, .int (nI (S))), (4, .int (nI (k))), (5, .int (nI (j)))] (r.toList ++ []) μ1 Q)) : xE mX7_extend 44 [(0, .ref 74), (1, .ref 3), (2, .int (nI (i))), (3, .int (nI (S))), (4, .int (nI (k))), (5, .int (nI (j))), (6, .long (x))] [] (xmm u) Q := by
  refine xe_aload_n 0 dX7_extend_44 rfl rfl ?_
  refine xe_aload_n 1 dX7_extend_45 rfl rfl ?_
  refine xe_iload_n 2 dX7_extend_46 rfl rfl ?_
  refine xe_iconst (v := nI (1)) dX7_extend_47 xc1 ?_
  refine xn_iadd dX7_extend_48 ?_
  refine xe_lload 6 dX7_extend_49 rfl ?_
  refine xe_iload_n 3 dX7_extend_51 rfl rfl ?_
  refine xe_iconst (v := nI (1)) dX7_extend_52 xc1 ?_
  refine xe_iload 4 dX7_extend_53 rfl ?_
  refine xe_ishl dX7_extend_55 ?_
  refine xe_ior dX7_extend_56 ?_
  refine xe_iload 4 dX7_extend_57 rfl ?_
  refine xE.sub [0, 1, 2, 3, 4, 5] rfl ?_
  refine xe_callV (As := [.ref 3, .int (nI (i + 1)), .long (x), .int ((nI (S)) ||| (1 <<< ((nI (k)) &&& 31))), .int (nI (k))]) (rest := []) dX7_extend_59 wX7_extendOne lX7_208 iX7_extendOne sX7_extendOne ⟨by decide, by decide⟩ sh74 rfl (xin_mm (by decide)) rfl rfl (by simp [Value.category]) ?_
  exact k1

theorem gX7_extend_t (u : xU) (i S k j : Nat) {Q : Option Value → xM → Prop} (hi : i < 6) (hk : k < 6) 
    (k1 : xE mX7_extend 12 [(0, .ref 74), (1, .ref 3), (2, .int (nI (i))), (3, .int (nI (S))), (4, .int (nI (k))), (5, .int (nI (j + 1)))] [] (xmm u) Q) : xE mX7_extend 62 [(0, .ref 74), (1, .ref 3), (2, .int (nI (i))), (3, .int (nI (S))), (4, .int (nI (k))), (5, .int (nI (j)))] [.int (nI (1))] (xmm u) Q := by
  refine xn_if_ne 67 dX7_extend_62 (by decide) (by omega) (fun _ => ?_) (fun q => absurd q (by decide))
  refine xn_iinc (c := 1) (L2 := [(0, .ref 74), (1, .ref 3), (2, .int (nI (i))), (3, .int (nI (S))), (4, .int (nI (k))), (5, .int (nI (j + 1)))]) 5 dX7_extend_67 rfl (by decide) rfl ?_
  refine xe_goto 12 dX7_extend_70 (by decide) ?_
  exact k1

theorem gX7_extend_f (u : xU) (i S k j : Nat) {Q : Option Value → xM → Prop} (hi : i < 6) (hk : k < 6) 
    (k1 : Q (some (.int (nI (0)))) (xmm u)) : xE mX7_extend 62 [(0, .ref 74), (1, .ref 3), (2, .int (nI (i))), (3, .int (nI (S))), (4, .int (nI (k))), (5, .int (nI (j)))] [.int (nI (0))] (xmm u) Q := by
  refine xn_if_ne 67 dX7_extend_62 (by decide) (by omega) (fun q => absurd q (by decide)) (fun _ => ?_)
  refine xe_iconst (v := nI (0)) dX7_extend_65 xc0 ?_
  exact xe_ret (r := (some (.int (nI (0))))) dX7_extend_66 (Or.inl rfl) (k1)

theorem gX7_meetAlong_0 (u : xU) (h : Nat) {Q : Option Value → xM → Prop} (hh : h ≤ 6) 
    (k1 : xE mX7_meetAlong 15 [(0, .ref 74), (1, .ref 3), (2, .ref 5), (3, .int (nI (h))), (4, .int (nI (0))), (5, .int (nI (0)))] [] (xmm (wl u (148 + 0) 0 (0))) Q) : xE mX7_meetAlong 0 [(0, .ref 74), (1, .ref 3), (2, .ref 5), (3, .int (nI (h)))] [] (xmm u) Q := by
  refine xe_iconst (v := nI (0)) dX7_meetAlong_0 xc0 ?_
  refine xe_istore (L2 := [(0, .ref 74), (1, .ref 3), (2, .ref 5), (3, .int (nI (h))), (4, .int (nI (0)))]) dX7_meetAlong_1 (by decide) rfl ?_
  refine xe_aload_n 0 dX7_meetAlong_3 rfl rfl ?_
  refine xr_getR (b := 147) dX7_meetAlong_4 fX7_35 rfl sh74 (by decide) rfl ?_
  refine xe_iconst (v := nI (0)) dX7_meetAlong_7 xc0 ?_
  refine xr_aald (k := 0) (b := (148 + 0)) dX7_meetAlong_8 sh147 (by decide) (by decide) (by decide) (by omega) (by decide) (rSL (by omega)) ?_
  refine xe_iconst (v := nI (0)) dX7_meetAlong_9 xc0 ?_
  refine xe_lconst (v := 0) dX7_meetAlong_10 (by decide) ?_
  refine xr_last (k := 0) dX7_meetAlong_11 (shSL _ (by omega)) (by omega) (by omega) (by decide) ?_
  refine xe_iconst (v := nI (0)) dX7_meetAlong_12 xc0 ?_
  refine xe_istore (L2 := [(0, .ref 74), (1, .ref 3), (2, .ref 5), (3, .int (nI (h))), (4, .int (nI (0))), (5, .int (nI (0)))]) dX7_meetAlong_13 (by decide) rfl ?_
  exact k1

theorem gX7_meetAlong_15 (u : xU) (h S i k : Nat) {Q : Option Value → xM → Prop} (hh : h ≤ 6) (hi : i < h) (hk : k < 6) (v1 : u.1 5 i = nI (k))
    (k1 : h ≤ i → Q (some (.int (u.1 146 h))) (xmm u))
    (k2 : ¬ h ≤ i → xC mX7_extend [.ref 74, .ref 3, .int (nI (i)), .int (nI (S)), .int (nI (k))] (xmm u) (fun r μ1 => xE mX7_meetAlong 34 [(0, .ref 74), (1, .ref 3), (2, .ref 5), (3, .int (nI (h))), (4, .int (nI (S))), (5, .int (nI (i)))] (r.toList ++ []) μ1 Q)) : xE mX7_meetAlong 15 [(0, .ref 74), (1, .ref 3), (2, .ref 5), (3, .int (nI (h))), (4, .int (nI (S))), (5, .int (nI (i)))] [] (xmm u) Q := by
  refine xe_iload 5 dX7_meetAlong_15 rfl ?_
  refine xe_iload_n 3 dX7_meetAlong_17 rfl rfl ?_
  refine xn_icmp_ge 57 dX7_meetAlong_18 (by decide) (by omega) (by omega) (fun c1 => ?_) (fun c1 => ?_)
  · refine xe_aload_n 0 dX7_meetAlong_57 rfl rfl ?_
    refine xr_getR (b := 146) dX7_meetAlong_58 fX7_32 rfl sh74 (by decide) rfl ?_
    refine xe_iload_n 3 dX7_meetAlong_61 rfl rfl ?_
    refine xr_iald (k := h) (v := u.1 146 h) dX7_meetAlong_62 sh146 (by decide) (by omega) (by decide) rfl ?_
    exact xe_ret (r := (some (.int (u.1 146 h)))) dX7_meetAlong_63 trivial (k1 c1)
  · refine xe_aload_n 0 dX7_meetAlong_21 rfl rfl ?_
    refine xe_aload_n 1 dX7_meetAlong_22 rfl rfl ?_
    refine xe_iload 5 dX7_meetAlong_23 rfl ?_
    refine xe_iload 4 dX7_meetAlong_25 rfl ?_
    refine xe_aload_n 2 dX7_meetAlong_27 rfl rfl ?_
    refine xe_iload 5 dX7_meetAlong_28 rfl ?_
    refine xr_iald (k := i) (v := nI (k)) dX7_meetAlong_30 sh5 (by decide) (by omega) (by decide) v1 ?_
    refine xe_callV (As := [.ref 3, .int (nI (i)), .int (nI (S)), .int (nI (k))]) (rest := []) dX7_meetAlong_31 wX7_extend lX7_204 iX7_extend sX7_extend ⟨by decide, by decide⟩ sh74 rfl (xin_mm (by decide)) rfl rfl (by simp [Value.category]) ?_
    exact k2 c1

theorem gX7_meetAlong_e (u : xU) (h S i c : Nat) {Q : Option Value → xM → Prop} (hh : h ≤ 6) (hi : i = h) (v1 : u.1 146 h = nI (c))
    (k1 : h ≤ i → Q (some (.int (nI (c)))) (xmm u))
    (k2 : ¬ h ≤ i → xC mX7_extend [.ref 74, .ref 3, .int (nI (i)), .int (nI (S)), .int (u.1 5 i)] (xmm u) (fun r μ1 => xE mX7_meetAlong 34 [(0, .ref 74), (1, .ref 3), (2, .ref 5), (3, .int (nI (h))), (4, .int (nI (S))), (5, .int (nI (i)))] (r.toList ++ []) μ1 Q)) : xE mX7_meetAlong 15 [(0, .ref 74), (1, .ref 3), (2, .ref 5), (3, .int (nI (h))), (4, .int (nI (S))), (5, .int (nI (i)))] [] (xmm u) Q := by
  refine xe_iload 5 dX7_meetAlong_15 rfl ?_
  refine xe_iload_n 3 dX7_meetAlong_17 rfl rfl ?_
  refine xn_icmp_ge 57 dX7_meetAlong_18 (by decide) (by omega) (by omega) (fun c1 => ?_) (fun c1 => ?_)
  · refine xe_aload_n 0 dX7_meetAlong_57 rfl rfl ?_
    refine xr_getR (b := 146) dX7_meetAlong_58 fX7_32 rfl sh74 (by decide) rfl ?_
    refine xe_iload_n 3 dX7_meetAlong_61 rfl rfl ?_
    refine xr_iald (k := h) (v := nI (c)) dX7_meetAlong_62 sh146 (by decide) (by omega) (by decide) v1 ?_
    exact xe_ret (r := (some (.int (nI (c))))) dX7_meetAlong_63 trivial (k1 c1)
  · refine xe_aload_n 0 dX7_meetAlong_21 rfl rfl ?_
    refine xe_aload_n 1 dX7_meetAlong_22 rfl rfl ?_
    refine xe_iload 5 dX7_meetAlong_23 rfl ?_
    refine xe_iload 4 dX7_meetAlong_25 rfl ?_
    refine xe_aload_n 2 dX7_meetAlong_27 rfl rfl ?_
    refine xe_iload 5 dX7_meetAlong_28 rfl ?_
    refine xr_iald (k := i) (v := u.1 5 i) dX7_meetAlong_30 sh5 (by decide) (by omega) (by decide) rfl ?_
    refine xe_callV (As := [.ref 3, .int (nI (i)), .int (nI (S)), .int (u.1 5 i)]) (rest := []) dX7_meetAlong_31 wX7_extend lX7_204 iX7_extend sX7_extend ⟨by decide, by decide⟩ sh74 rfl (xin_mm (by decide)) rfl rfl (by simp [Value.category]) ?_
    exact k2 c1

theorem gX7_meetAlong_t (u : xU) (h S i k : Nat) {Q : Option Value → xM → Prop} (hh : h ≤ 6) (hi : i < h) (hk : k < 6) (v1 : u.1 5 i = nI (k))
    (k1 : xE mX7_meetAlong 15 [(0, .ref 74), (1, .ref 3), (2, .ref 5), (3, .int (nI (h))), (4, .int ((nI (S)) ||| (1 <<< ((nI (k)) &&& 31)))), (5, .int (nI (i + 1)))] [] (xmm u) Q) : xE mX7_meetAlong 34 [(0, .ref 74), (1, .ref 3), (2, .ref 5), (3, .int (nI (h))), (4, .int (nI (S))), (5, .int (nI (i)))] [.int (nI (1))] (xmm u) Q := by
  refine xn_if_ne 40 dX7_meetAlong_34 (by decide) (by omega) (fun _ => ?_) (fun q => absurd q (by decide))
  refine xe_iload 4 dX7_meetAlong_40 rfl ?_
  refine xe_iconst (v := nI (1)) dX7_meetAlong_42 xc1 ?_
  refine xe_aload_n 2 dX7_meetAlong_43 rfl rfl ?_
  refine xe_iload 5 dX7_meetAlong_44 rfl ?_
  refine xr_iald (k := i) (v := nI (k)) dX7_meetAlong_46 sh5 (by decide) (by omega) (by decide) v1 ?_
  refine xe_ishl dX7_meetAlong_47 ?_
  refine xe_ior dX7_meetAlong_48 ?_
  refine xe_istore (L2 := [(0, .ref 74), (1, .ref 3), (2, .ref 5), (3, .int (nI (h))), (4, .int ((nI (S)) ||| (1 <<< ((nI (k)) &&& 31)))), (5, .int (nI (i)))]) dX7_meetAlong_49 (by decide) rfl ?_
  refine xn_iinc (c := 1) (L2 := [(0, .ref 74), (1, .ref 3), (2, .ref 5), (3, .int (nI (h))), (4, .int ((nI (S)) ||| (1 <<< ((nI (k)) &&& 31)))), (5, .int (nI (i + 1)))]) 5 dX7_meetAlong_51 rfl (by decide) rfl ?_
  refine xe_goto 15 dX7_meetAlong_54 (by decide) ?_
  exact k1

theorem gX7_meetAlong_f (u : xU) (h S i : Nat) {Q : Option Value → xM → Prop} (hh : h ≤ 6) 
    (k1 : Q (some (.int (-2))) (xmm u)) : xE mX7_meetAlong 34 [(0, .ref 74), (1, .ref 3), (2, .ref 5), (3, .int (nI (h))), (4, .int (nI (S))), (5, .int (nI (i)))] [.int (nI (0))] (xmm u) Q := by
  refine xn_if_ne 40 dX7_meetAlong_34 (by decide) (by omega) (fun q => absurd q (by decide)) (fun _ => ?_)
  refine xe_bipush (v := -2) dX7_meetAlong_37 xcbm2 ?_
  exact xe_ret (r := (some (.int (-2)))) dX7_meetAlong_39 trivial (k1)

theorem gX7_meetAlongb_0 (u : xU) (h : Nat) {Q : Option Value → xM → Prop} (hh : h ≤ 4) 
    (k1 : xE mX7_meetAlong 15 [(0, .ref 74), (1, .ref 3), (2, .ref 155), (3, .int (nI (h))), (4, .int (nI (0))), (5, .int (nI (0)))] [] (xmm (wl u (148 + 0) 0 (0))) Q) : xE mX7_meetAlong 0 [(0, .ref 74), (1, .ref 3), (2, .ref 155), (3, .int (nI (h)))] [] (xmm u) Q := by
  refine xe_iconst (v := nI (0)) dX7_meetAlong_0 xc0 ?_
  refine xe_istore (L2 := [(0, .ref 74), (1, .ref 3), (2, .ref 155), (3, .int (nI (h))), (4, .int (nI (0)))]) dX7_meetAlong_1 (by decide) rfl ?_
  refine xe_aload_n 0 dX7_meetAlong_3 rfl rfl ?_
  refine xr_getR (b := 147) dX7_meetAlong_4 fX7_35 rfl sh74 (by decide) rfl ?_
  refine xe_iconst (v := nI (0)) dX7_meetAlong_7 xc0 ?_
  refine xr_aald (k := 0) (b := (148 + 0)) dX7_meetAlong_8 sh147 (by decide) (by decide) (by decide) (by omega) (by decide) (rSL (by omega)) ?_
  refine xe_iconst (v := nI (0)) dX7_meetAlong_9 xc0 ?_
  refine xe_lconst (v := 0) dX7_meetAlong_10 (by decide) ?_
  refine xr_last (k := 0) dX7_meetAlong_11 (shSL _ (by omega)) (by omega) (by omega) (by decide) ?_
  refine xe_iconst (v := nI (0)) dX7_meetAlong_12 xc0 ?_
  refine xe_istore (L2 := [(0, .ref 74), (1, .ref 3), (2, .ref 155), (3, .int (nI (h))), (4, .int (nI (0))), (5, .int (nI (0)))]) dX7_meetAlong_13 (by decide) rfl ?_
  exact k1

theorem gX7_meetAlongb_15 (u : xU) (h S i k : Nat) {Q : Option Value → xM → Prop} (hh : h ≤ 4) (hi : i < h) (hk : k < 6) (v1 : u.1 155 i = nI (k))
    (k1 : h ≤ i → Q (some (.int (u.1 146 h))) (xmm u))
    (k2 : ¬ h ≤ i → xC mX7_extend [.ref 74, .ref 3, .int (nI (i)), .int (nI (S)), .int (nI (k))] (xmm u) (fun r μ1 => xE mX7_meetAlong 34 [(0, .ref 74), (1, .ref 3), (2, .ref 155), (3, .int (nI (h))), (4, .int (nI (S))), (5, .int (nI (i)))] (r.toList ++ []) μ1 Q)) : xE mX7_meetAlong 15 [(0, .ref 74), (1, .ref 3), (2, .ref 155), (3, .int (nI (h))), (4, .int (nI (S))), (5, .int (nI (i)))] [] (xmm u) Q := by
  refine xe_iload 5 dX7_meetAlong_15 rfl ?_
  refine xe_iload_n 3 dX7_meetAlong_17 rfl rfl ?_
  refine xn_icmp_ge 57 dX7_meetAlong_18 (by decide) (by omega) (by omega) (fun c1 => ?_) (fun c1 => ?_)
  · refine xe_aload_n 0 dX7_meetAlong_57 rfl rfl ?_
    refine xr_getR (b := 146) dX7_meetAlong_58 fX7_32 rfl sh74 (by decide) rfl ?_
    refine xe_iload_n 3 dX7_meetAlong_61 rfl rfl ?_
    refine xr_iald (k := h) (v := u.1 146 h) dX7_meetAlong_62 sh146 (by decide) (by omega) (by decide) rfl ?_
    exact xe_ret (r := (some (.int (u.1 146 h)))) dX7_meetAlong_63 trivial (k1 c1)
  · refine xe_aload_n 0 dX7_meetAlong_21 rfl rfl ?_
    refine xe_aload_n 1 dX7_meetAlong_22 rfl rfl ?_
    refine xe_iload 5 dX7_meetAlong_23 rfl ?_
    refine xe_iload 4 dX7_meetAlong_25 rfl ?_
    refine xe_aload_n 2 dX7_meetAlong_27 rfl rfl ?_
    refine xe_iload 5 dX7_meetAlong_28 rfl ?_
    refine xr_iald (k := i) (v := nI (k)) dX7_meetAlong_30 sh155 (by decide) (by omega) (by decide) v1 ?_
    refine xe_callV (As := [.ref 3, .int (nI (i)), .int (nI (S)), .int (nI (k))]) (rest := []) dX7_meetAlong_31 wX7_extend lX7_204 iX7_extend sX7_extend ⟨by decide, by decide⟩ sh74 rfl (xin_mm (by decide)) rfl rfl (by simp [Value.category]) ?_
    exact k2 c1

theorem gX7_meetAlongb_e (u : xU) (h S i c : Nat) {Q : Option Value → xM → Prop} (hh : h ≤ 4) (hi : i = h) (v1 : u.1 146 h = nI (c))
    (k1 : h ≤ i → Q (some (.int (nI (c)))) (xmm u))
    (k2 : ¬ h ≤ i → xC mX7_extend [.ref 74, .ref 3, .int (nI (i)), .int (nI (S)), .int (u.1 155 i)] (xmm u) (fun r μ1 => xE mX7_meetAlong 34 [(0, .ref 74), (1, .ref 3), (2, .ref 155), (3, .int (nI (h))), (4, .int (nI (S))), (5, .int (nI (i)))] (r.toList ++ []) μ1 Q)) : xE mX7_meetAlong 15 [(0, .ref 74), (1, .ref 3), (2, .ref 155), (3, .int (nI (h))), (4, .int (nI (S))), (5, .int (nI (i)))] [] (xmm u) Q := by
  refine xe_iload 5 dX7_meetAlong_15 rfl ?_
  refine xe_iload_n 3 dX7_meetAlong_17 rfl rfl ?_
  refine xn_icmp_ge 57 dX7_meetAlong_18 (by decide) (by omega) (by omega) (fun c1 => ?_) (fun c1 => ?_)
  · refine xe_aload_n 0 dX7_meetAlong_57 rfl rfl ?_
    refine xr_getR (b := 146) dX7_meetAlong_58 fX7_32 rfl sh74 (by decide) rfl ?_
    refine xe_iload_n 3 dX7_meetAlong_61 rfl rfl ?_
    refine xr_iald (k := h) (v := nI (c)) dX7_meetAlong_62 sh146 (by decide) (by omega) (by decide) v1 ?_
    exact xe_ret (r := (some (.int (nI (c))))) dX7_meetAlong_63 trivial (k1 c1)
  · refine xe_aload_n 0 dX7_meetAlong_21 rfl rfl ?_
    refine xe_aload_n 1 dX7_meetAlong_22 rfl rfl ?_
    refine xe_iload 5 dX7_meetAlong_23 rfl ?_
    refine xe_iload 4 dX7_meetAlong_25 rfl ?_
    refine xe_aload_n 2 dX7_meetAlong_27 rfl rfl ?_
    refine xe_iload 5 dX7_meetAlong_28 rfl ?_
    refine xr_iald (k := i) (v := u.1 155 i) dX7_meetAlong_30 sh155 (by decide) (by omega) (by decide) rfl ?_
    refine xe_callV (As := [.ref 3, .int (nI (i)), .int (nI (S)), .int (u.1 155 i)]) (rest := []) dX7_meetAlong_31 wX7_extend lX7_204 iX7_extend sX7_extend ⟨by decide, by decide⟩ sh74 rfl (xin_mm (by decide)) rfl rfl (by simp [Value.category]) ?_
    exact k2 c1

theorem gX7_meetAlongb_t (u : xU) (h S i k : Nat) {Q : Option Value → xM → Prop} (hh : h ≤ 4) (hi : i < h) (hk : k < 6) (v1 : u.1 155 i = nI (k))
    (k1 : xE mX7_meetAlong 15 [(0, .ref 74), (1, .ref 3), (2, .ref 155), (3, .int (nI (h))), (4, .int ((nI (S)) ||| (1 <<< ((nI (k)) &&& 31)))), (5, .int (nI (i + 1)))] [] (xmm u) Q) : xE mX7_meetAlong 34 [(0, .ref 74), (1, .ref 3), (2, .ref 155), (3, .int (nI (h))), (4, .int (nI (S))), (5, .int (nI (i)))] [.int (nI (1))] (xmm u) Q := by
  refine xn_if_ne 40 dX7_meetAlong_34 (by decide) (by omega) (fun _ => ?_) (fun q => absurd q (by decide))
  refine xe_iload 4 dX7_meetAlong_40 rfl ?_
  refine xe_iconst (v := nI (1)) dX7_meetAlong_42 xc1 ?_
  refine xe_aload_n 2 dX7_meetAlong_43 rfl rfl ?_
  refine xe_iload 5 dX7_meetAlong_44 rfl ?_
  refine xr_iald (k := i) (v := nI (k)) dX7_meetAlong_46 sh155 (by decide) (by omega) (by decide) v1 ?_
  refine xe_ishl dX7_meetAlong_47 ?_
  refine xe_ior dX7_meetAlong_48 ?_
  refine xe_istore (L2 := [(0, .ref 74), (1, .ref 3), (2, .ref 155), (3, .int (nI (h))), (4, .int ((nI (S)) ||| (1 <<< ((nI (k)) &&& 31)))), (5, .int (nI (i)))]) dX7_meetAlong_49 (by decide) rfl ?_
  refine xn_iinc (c := 1) (L2 := [(0, .ref 74), (1, .ref 3), (2, .ref 155), (3, .int (nI (h))), (4, .int ((nI (S)) ||| (1 <<< ((nI (k)) &&& 31)))), (5, .int (nI (i + 1)))]) 5 dX7_meetAlong_51 rfl (by decide) rfl ?_
  refine xe_goto 15 dX7_meetAlong_54 (by decide) ?_
  exact k1

theorem gX7_meetAlongb_f (u : xU) (h S i : Nat) {Q : Option Value → xM → Prop} (hh : h ≤ 4) 
    (k1 : Q (some (.int (-2))) (xmm u)) : xE mX7_meetAlong 34 [(0, .ref 74), (1, .ref 3), (2, .ref 155), (3, .int (nI (h))), (4, .int (nI (S))), (5, .int (nI (i)))] [.int (nI (0))] (xmm u) Q := by
  refine xn_if_ne 40 dX7_meetAlong_34 (by decide) (by omega) (fun q => absurd q (by decide)) (fun _ => ?_)
  refine xe_bipush (v := -2) dX7_meetAlong_37 xcbm2 ?_
  exact xe_ret (r := (some (.int (-2)))) dX7_meetAlong_39 trivial (k1)

