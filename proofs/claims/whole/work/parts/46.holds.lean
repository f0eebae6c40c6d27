theorem gX7_side_n (u : xU) (p c : Nat) (x : Int32) {Q : Option Value → xM → Prop} (hp : p < 10) (hc : c < 3) (v1 : u.1 (7 + 4 * p) c = (-1)) (v2 : u.1 (8 + 4 * p) c = x)
    (k1 : Q (some (.int (x))) (xmm u)) : xE mX7_side 0 [(0, .ref 74), (1, .ref (6 + 4 * p)), (2, .int (nI (c)))] [] (xmm u) Q := by
  refine xe_aload_n 1 dX7_side_0 rfl rfl ?_
  refine xr_getR (b := (7 + 4 * p)) dX7_side_1 fX7_95 rfl (shP _ (by omega)) (by omega) (rPN (by omega)) ?_
  refine xe_iload_n 2 dX7_side_4 rfl rfl ?_
  refine xr_iald (k := c) (v := (-1)) dX7_side_5 (shPN _ (by omega)) (by omega) (by omega) (by decide) v1 ?_
  refine xe_istore_n (L2 := [(0, .ref 74), (1, .ref (6 + 4 * p)), (2, .int (nI (c))), (3, .int ((-1)))]) dX7_side_6 rfl (by decide) rfl ?_
  refine xe_iload_n 3 dX7_side_7 rfl rfl ?_
  refine xe_iconst (v := -1) dX7_side_8 xcm1 ?_
  refine xe_icmp_ne 21 dX7_side_9 (by decide) (fun q => absurd rfl q) (fun _ => ?_)
  refine xe_aload_n 1 dX7_side_12 rfl rfl ?_
  refine xr_getR (b := (8 + 4 * p)) dX7_side_13 fX7_236 rfl (shP _ (by omega)) (by omega) (rPT (by omega)) ?_
  refine xe_iload_n 2 dX7_side_16 rfl rfl ?_
  refine xr_iald (k := c) (v := x) dX7_side_17 (shPT _ (by omega)) (by omega) (by omega) (by decide) v2 ?_
  refine xe_goto 27 dX7_side_18 (by decide) ?_
  exact xe_ret (r := (some (.int (x)))) dX7_side_27 trivial (k1)

theorem gX7_side_s (u : xU) (p c k : Nat) (x : Int32) {Q : Option Value → xM → Prop} (hp : p < 10) (hc : c < 3) (hk : k < 6) (v1 : u.1 (7 + 4 * p) c = nI (k)) (v2 : u.1 151 k = x)
    (k1 : ¬ (nI (k)) = (-1) → Q (some (.int (x))) (xmm u))
    (k2 : (nI (k)) = (-1) → Q (some (.int (u.1 (8 + 4 * p) c))) (xmm u)) : xE mX7_side 0 [(0, .ref 74), (1, .ref (6 + 4 * p)), (2, .int (nI (c)))] [] (xmm u) Q := by
  refine xe_aload_n 1 dX7_side_0 rfl rfl ?_
  refine xr_getR (b := (7 + 4 * p)) dX7_side_1 fX7_95 rfl (shP _ (by omega)) (by omega) (rPN (by omega)) ?_
  refine xe_iload_n 2 dX7_side_4 rfl rfl ?_
  refine xr_iald (k := c) (v := nI (k)) dX7_side_5 (shPN _ (by omega)) (by omega) (by omega) (by decide) v1 ?_
  refine xe_istore_n (L2 := [(0, .ref 74), (1, .ref (6 + 4 * p)), (2, .int (nI (c))), (3, .int (nI (k)))]) dX7_side_6 rfl (by decide) rfl ?_
  refine xe_iload_n 3 dX7_side_7 rfl rfl ?_
  refine xe_iconst (v := -1) dX7_side_8 xcm1 ?_
  refine xe_icmp_ne 21 dX7_side_9 (by decide) (fun c1 => ?_) (fun c1 => ?_)
  · refine xe_aload_n 0 dX7_side_21 rfl rfl ?_
    refine xr_getR (b := 151) dX7_side_22 fX7_41 rfl sh74 (by decide) rfl ?_
    refine xe_iload_n 3 dX7_side_25 rfl rfl ?_
    refine xr_iald (k := k) (v := x) dX7_side_26 sh151 (by decide) (by omega) (by decide) v2 ?_
    exact xe_ret (r := (some (.int (x)))) dX7_side_27 trivial (k1 c1)
  · refine xe_aload_n 1 dX7_side_12 rfl rfl ?_
    refine xr_getR (b := (8 + 4 * p)) dX7_side_13 fX7_236 rfl (shP _ (by omega)) (by omega) (rPT (by omega)) ?_
    refine xe_iload_n 2 dX7_side_16 rfl rfl ?_
    refine xr_iald (k := c) (v := u.1 (8 + 4 * p) c) dX7_side_17 (shPT _ (by omega)) (by omega) (by omega) (by decide) rfl ?_
    refine xe_goto 27 dX7_side_18 (by decide) ?_
    exact xe_ret (r := (some (.int (u.1 (8 + 4 * p) c)))) dX7_side_27 trivial (k2 c1)

theorem gX7_holds_f (u : xU) (p S k kd m c s : Nat) (y z : Int64) {Q : Option Value → xM → Prop} (hp : p < 10) (hk : k < 6) (hkd : kd ≤ 1) (hm : m < 64) (hc : c < 3) (hsp : s < 64) (hpi : xC mX7_pair [.int (nI p), .int (nI c)] (xmm u) (fun r μ' => r = some (.int (nI (p * 3 + c))) ∧ μ' = xmm u)) (v1 : u.1 (6 + 4 * p) 0 = nI (kd)) (v2 : u.1 (6 + 4 * p) 3 = nI (m)) (v3 : u.2.1 152 p = y) (v4 : u.1 (9 + 4 * p) k = nI (c)) (v5 : u.1 150 k = nI (s)) (v6 : u.2.1 (85 + (p * 3 + c)) s = z)
    (k1 : ¬ ((nI (m)) &&& ((nI (S)) ^^^ (-1))) = 0 → (nI (kd)) = nI 0 → (lg_cmp (y &&& z) 0) = 0 → Q (some (.int (nI (0)))) (xmm u))
    (k2 : ¬ ((nI (m)) &&& ((nI (S)) ^^^ (-1))) = 0 → (nI (kd)) = nI 0 → ¬ (lg_cmp (y &&& z) 0) = 0 → Q (some (.int (nI (1)))) (xmm u))
    (k3 : ¬ ((nI (m)) &&& ((nI (S)) ^^^ (-1))) = 0 → ¬ (nI (kd)) = nI 0 → (nI (kd)) = nI 1 → Q (some (.int (nI (1)))) (xmm u))
    (k4 : ¬ ((nI (m)) &&& ((nI (S)) ^^^ (-1))) = 0 → ¬ (nI (kd)) = nI 0 → ¬ (nI (kd)) = nI 1 → (nI (kd)) = nI 2 → Q (some (.int (nI (1)))) (xmm u))
    (k5 : ¬ ((nI (m)) &&& ((nI (S)) ^^^ (-1))) = 0 → ¬ (nI (kd)) = nI 0 → ¬ (nI (kd)) = nI 1 → ¬ (nI (kd)) = nI 2 → Q (some (.int (nI (1)))) (xmm u))
    (k6 : ((nI (m)) &&& ((nI (S)) ^^^ (-1))) = 0 → (nI (kd)) = nI 0 → (lg_cmp (y &&& z) 0) = 0 → Q (some (.int (nI (0)))) (xmm u))
    (k7 : ((nI (m)) &&& ((nI (S)) ^^^ (-1))) = 0 → (nI (kd)) = nI 0 → ¬ (lg_cmp (y &&& z) 0) = 0 → Q (some (.int (nI (1)))) (xmm u))
    (k8 : ((nI (m)) &&& ((nI (S)) ^^^ (-1))) = 0 → ¬ (nI (kd)) = nI 0 → (nI (kd)) = nI 1 → ¬ (lg_cmp (y &&& z) 0) = 0 → Q (some (.int (nI (0)))) (xmm u))
    (k9 : ((nI (m)) &&& ((nI (S)) ^^^ (-1))) = 0 → ¬ (nI (kd)) = nI 0 → (nI (kd)) = nI 1 → (lg_cmp (y &&& z) 0) = 0 → Q (some (.int (nI (1)))) (xmm u))
    (k10 : ((nI (m)) &&& ((nI (S)) ^^^ (-1))) = 0 → ¬ (nI (kd)) = nI 0 → ¬ (nI (kd)) = nI 1 → (nI (kd)) = nI 2 → xC mX7_side [.ref 74, .ref (6 + 4 * p), .int (nI (0))] (xmm u) (fun r μ1 => xE mX7_holds 148 [(0, .ref 74), (2, .ref (6 + 4 * p))] (r.toList ++ []) μ1 Q))
    (k11 : ((nI (m)) &&& ((nI (S)) ^^^ (-1))) = 0 → ¬ (nI (kd)) = nI 0 → ¬ (nI (kd)) = nI 1 → ¬ (nI (kd)) = nI 2 → xC mX7_side [.ref 74, .ref (6 + 4 * p), .int (nI (0))] (xmm u) (fun r μ1 => xE mX7_holds 174 [(0, .ref 74), (2, .ref (6 + 4 * p))] (r.toList ++ []) μ1 Q)) : xE mX7_holds 0 [(0, .ref 74), (1, .int (nI (p))), (2, .ref (6 + 4 * p)), (3, .int (nI (S))), (4, .int (nI (k)))] [] (xmm u) Q := by
  refine xe_aload_n 2 dX7_holds_0 rfl rfl ?_
  refine xr_getI (v := nI (m)) dX7_holds_1 fX7_79 (shP _ (by omega)) (by omega) v2 ?_
  refine xe_iload_n 3 dX7_holds_4 rfl rfl ?_
  refine xe_iconst (v := -1) dX7_holds_5 xcm1 ?_
  refine xe_ixor dX7_holds_6 ?_
  refine xe_iand dX7_holds_7 ?_
  refine xe_if_ne 15 dX7_holds_8 (by decide) (fun c1 => ?_) (fun c1 => ?_)
  · refine xe_iconst (v := nI (0)) dX7_holds_15 xc0 ?_
    refine xe_istore (L2 := [(0, .ref 74), (1, .int (nI (p))), (2, .ref (6 + 4 * p)), (3, .int (nI (S))), (4, .int (nI (k))), (5, .int (nI (0)))]) dX7_holds_16 (by decide) rfl ?_
    refine xe_aload_n 2 dX7_holds_18 rfl rfl ?_
    refine xr_getI (v := nI (kd)) dX7_holds_19 fX7_82 (shP _ (by omega)) (by omega) v1 ?_
    by_cases c2 : (nI (kd)) = nI 0
    · refine xe_tableIn (off := 26) 48 dX7_holds_22 (by rw [c2]; decide) (by rw [c2]; decide) (by rw [c2]; decide) (by decide) ?_
      refine xe_aload_n 0 dX7_holds_48 rfl rfl ?_
      refine xr_getR (b := 152) dX7_holds_49 fX7_44 rfl sh74 (by decide) rfl ?_
      refine xe_iload_n 1 dX7_holds_52 rfl rfl ?_
      refine xr_lald (k := p) (v := y) dX7_holds_53 sh152 (by decide) (by omega) (by decide) v3 ?_
      refine xe_aload_n 0 dX7_holds_54 rfl rfl ?_
      refine xr_getR (b := 84) dX7_holds_55 fX7_26 rfl sh74 (by decide) rfl ?_
      refine xe_iload_n 1 dX7_holds_58 rfl rfl ?_
      refine xe_aload_n 2 dX7_holds_59 rfl rfl ?_
      refine xr_getR (b := (9 + 4 * p)) dX7_holds_60 fX7_182 rfl (shP _ (by omega)) (by omega) (rPO (by omega)) ?_
      refine xe_iload 4 dX7_holds_63 rfl ?_
      refine xr_iald (k := k) (v := nI (c)) dX7_holds_65 (shPO _ (by omega)) (by omega) (by omega) (by decide) v4 ?_
      refine xe_callS (As := [.int (nI (p)), .int (nI (c))]) (rest := [.ref 84, .long (y)]) dX7_holds_66 wX7_pair lX7_98 tX7_pair ⟨by decide, by decide⟩ rfl rfl (by simp [Value.category]) (xC.pure (v := .int (nI (p * 3 + c))) (hpi) ?_)
      refine xr_aald (k := p * 3 + c) (b := (85 + (p * 3 + c))) dX7_holds_69 sh84 (by decide) (by decide) (by decide) (by omega) (by decide) (rWR (by omega)) ?_
      refine xe_aload_n 0 dX7_holds_70 rfl rfl ?_
      refine xr_getR (b := 150) dX7_holds_71 fX7_38 rfl sh74 (by decide) rfl ?_
      refine xe_iload 4 dX7_holds_74 rfl ?_
      refine xr_iald (k := k) (v := nI (s)) dX7_holds_76 sh150 (by decide) (by omega) (by decide) v5 ?_
      refine xr_lald (k := s) (v := z) dX7_holds_77 (shWR _ (by omega)) (by omega) (by omega) (by decide) v6 ?_
      refine xe_land dX7_holds_78 ?_
      refine xe_lconst (v := 0) dX7_holds_79 (by decide) ?_
      refine xe_lcmp dX7_holds_80 ?_
      refine xe_if_eq 88 dX7_holds_81 (by decide) (fun c3 => ?_) (fun c3 => ?_)
      · refine xe_iconst (v := nI (0)) dX7_holds_88 xc0 ?_
        exact xe_ret (r := (some (.int (nI (0))))) dX7_holds_89 (Or.inl rfl) (k1 c1 c2 c3)
      · refine xe_iconst (v := nI (1)) dX7_holds_84 xc1 ?_
        refine xe_goto 89 dX7_holds_85 (by decide) ?_
        exact xe_ret (r := (some (.int (nI (1))))) dX7_holds_89 (Or.inr rfl) (k2 c1 c2 c3)
    · by_cases c4 : (nI (kd)) = nI 1
      · refine xe_tableIn (off := 68) 90 dX7_holds_22 (by rw [c4]; decide) (by rw [c4]; decide) (by rw [c4]; decide) (by decide) ?_
        refine xe_iload 5 dX7_holds_90 rfl ?_
        refine xn_if_eq 131 dX7_holds_92 (by decide) (by omega) (fun _ => ?_) (fun q => absurd q (by decide))
        refine xe_iconst (v := nI (1)) dX7_holds_131 xc1 ?_
        refine xe_goto 136 dX7_holds_132 (by decide) ?_
        exact xe_ret (r := (some (.int (nI (1))))) dX7_holds_136 (Or.inr rfl) (k3 c1 c2 c4)
      · by_cases c5 : (nI (kd)) = nI 2
        · refine xe_tableIn (off := 115) 137 dX7_holds_22 (by rw [c5]; decide) (by rw [c5]; decide) (by rw [c5]; decide) (by decide) ?_
          refine xe_iload 5 dX7_holds_137 rfl ?_
          refine xn_if_eq 157 dX7_holds_139 (by decide) (by omega) (fun _ => ?_) (fun q => absurd q (by decide))
          refine xe_iconst (v := nI (1)) dX7_holds_157 xc1 ?_
          refine xe_goto 162 dX7_holds_158 (by decide) ?_
          exact xe_ret (r := (some (.int (nI (1))))) dX7_holds_162 (Or.inr rfl) (k4 c1 c2 c4 c5)
        · refine xe_tableOut 163 dX7_holds_22 (by have z0 := lv_neT c2 (show (nI 0).toInt = 0 from by decide); have z1 := lv_neT c4 (show (nI 1).toInt = 1 from by decide); have z2 := lv_neT c5 (show (nI 2).toInt = 2 from by decide); omega) (by decide) ?_
          refine xe_iload 5 dX7_holds_163 rfl ?_
          refine xn_if_eq 186 dX7_holds_165 (by decide) (by omega) (fun _ => ?_) (fun q => absurd q (by decide))
          refine xe_iconst (v := nI (1)) dX7_holds_186 xc1 ?_
          refine xe_goto 191 dX7_holds_187 (by decide) ?_
          exact xe_ret (r := (some (.int (nI (1))))) dX7_holds_191 (Or.inr rfl) (k5 c1 c2 c4 c5)
  · refine xe_iconst (v := nI (1)) dX7_holds_11 xc1 ?_
    refine xe_goto 16 dX7_holds_12 (by decide) ?_
    refine xe_istore (L2 := [(0, .ref 74), (1, .int (nI (p))), (2, .ref (6 + 4 * p)), (3, .int (nI (S))), (4, .int (nI (k))), (5, .int (nI (1)))]) dX7_holds_16 (by decide) rfl ?_
    refine xe_aload_n 2 dX7_holds_18 rfl rfl ?_
    refine xr_getI (v := nI (kd)) dX7_holds_19 fX7_82 (shP _ (by omega)) (by omega) v1 ?_
    by_cases c6 : (nI (kd)) = nI 0
    · refine xe_tableIn (off := 26) 48 dX7_holds_22 (by rw [c6]; decide) (by rw [c6]; decide) (by rw [c6]; decide) (by decide) ?_
      refine xe_aload_n 0 dX7_holds_48 rfl rfl ?_
      refine xr_getR (b := 152) dX7_holds_49 fX7_44 rfl sh74 (by decide) rfl ?_
      refine xe_iload_n 1 dX7_holds_52 rfl rfl ?_
      refine xr_lald (k := p) (v := y) dX7_holds_53 sh152 (by decide) (by omega) (by decide) v3 ?_
      refine xe_aload_n 0 dX7_holds_54 rfl rfl ?_
      refine xr_getR (b := 84) dX7_holds_55 fX7_26 rfl sh74 (by decide) rfl ?_
      refine xe_iload_n 1 dX7_holds_58 rfl rfl ?_
      refine xe_aload_n 2 dX7_holds_59 rfl rfl ?_
      refine xr_getR (b := (9 + 4 * p)) dX7_holds_60 fX7_182 rfl (shP _ (by omega)) (by omega) (rPO (by omega)) ?_
      refine xe_iload 4 dX7_holds_63 rfl ?_
      refine xr_iald (k := k) (v := nI (c)) dX7_holds_65 (shPO _ (by omega)) (by omega) (by omega) (by decide) v4 ?_
      refine xe_callS (As := [.int (nI (p)), .int (nI (c))]) (rest := [.ref 84, .long (y)]) dX7_holds_66 wX7_pair lX7_98 tX7_pair ⟨by decide, by decide⟩ rfl rfl (by simp [Value.category]) (xC.pure (v := .int (nI (p * 3 + c))) (hpi) ?_)
      refine xr_aald (k := p * 3 + c) (b := (85 + (p * 3 + c))) dX7_holds_69 sh84 (by decide) (by decide) (by decide) (by omega) (by decide) (rWR (by omega)) ?_
      refine xe_aload_n 0 dX7_holds_70 rfl rfl ?_
      refine xr_getR (b := 150) dX7_holds_71 fX7_38 rfl sh74 (by decide) rfl ?_
      refine xe_iload 4 dX7_holds_74 rfl ?_
      refine xr_iald (k := k) (v := nI (s)) dX7_holds_76 sh150 (by decide) (by omega) (by decide) v5 ?_
      refine xr_lald (k := s) (v := z) dX7_holds_77 (shWR _ (by omega)) (by omega) (by omega) (by decide) v6 ?_
      refine xe_land dX7_holds_78 ?_
      refine xe_lconst (v := 0) dX7_holds_79 (by decide) ?_
      refine xe_lcmp dX7_holds_80 ?_
      refine xe_if_eq 88 dX7_holds_81 (by decide) (fun c7 => ?_) (fun c7 => ?_)
      · refine xe_iconst (v := nI (0)) dX7_holds_88 xc0 ?_
        exact xe_ret (r := (some (.int (nI (0))))) dX7_holds_89 (Or.inl rfl) (k6 c1 c6 c7)
      · refine xe_iconst (v := nI (1)) dX7_holds_84 xc1 ?_
        refine xe_goto 89 dX7_holds_85 (by decide) ?_
        exact xe_ret (r := (some (.int (nI (1))))) dX7_holds_89 (Or.inr rfl) (k7 c1 c6 c7)
    · by_cases c8 : (nI (kd)) = nI 1
      · refine xe_tableIn (off := 68) 90 dX7_holds_22 (by rw [c8]; decide) (by rw [c8]; decide) (by rw [c8]; decide) (by decide) ?_
        refine xe_iload 5 dX7_holds_90 rfl ?_
        refine xn_if_eq 131 dX7_holds_92 (by decide) (by omega) (fun q => absurd q (by decide)) (fun _ => ?_)
        refine xe_aload_n 0 dX7_holds_95 rfl rfl ?_
        refine xr_getR (b := 152) dX7_holds_96 fX7_44 rfl sh74 (by decide) rfl ?_
        refine xe_iload_n 1 dX7_holds_99 rfl rfl ?_
        refine xr_lald (k := p) (v := y) dX7_holds_100 sh152 (by decide) (by omega) (by decide) v3 ?_
        refine xe_aload_n 0 dX7_holds_101 rfl rfl ?_
        refine xr_getR (b := 84) dX7_holds_102 fX7_26 rfl sh74 (by decide) rfl ?_
        refine xe_iload_n 1 dX7_holds_105 rfl rfl ?_
        refine xe_aload_n 2 dX7_holds_106 rfl rfl ?_
        refine xr_getR (b := (9 + 4 * p)) dX7_holds_107 fX7_182 rfl (shP _ (by omega)) (by omega) (rPO (by omega)) ?_
        refine xe_iload 4 dX7_holds_110 rfl ?_
        refine xr_iald (k := k) (v := nI (c)) dX7_holds_112 (shPO _ (by omega)) (by omega) (by omega) (by decide) v4 ?_
        refine xe_callS (As := [.int (nI (p)), .int (nI (c))]) (rest := [.ref 84, .long (y)]) dX7_holds_113 wX7_pair lX7_98 tX7_pair ⟨by decide, by decide⟩ rfl rfl (by simp [Value.category]) (xC.pure (v := .int (nI (p * 3 + c))) (hpi) ?_)
        refine xr_aald (k := p * 3 + c) (b := (85 + (p * 3 + c))) dX7_holds_116 sh84 (by decide) (by decide) (by decide) (by omega) (by decide) (rWR (by omega)) ?_
        refine xe_aload_n 0 dX7_holds_117 rfl rfl ?_
        refine xr_getR (b := 150) dX7_holds_118 fX7_38 rfl sh74 (by decide) rfl ?_
        refine xe_iload 4 dX7_holds_121 rfl ?_
        refine xr_iald (k := k) (v := nI (s)) dX7_holds_123 sh150 (by decide) (by omega) (by decide) v5 ?_
        refine xr_lald (k := s) (v := z) dX7_holds_124 (shWR _ (by omega)) (by omega) (by omega) (by decide) v6 ?_
        refine xe_land dX7_holds_125 ?_
        refine xe_lconst (v := 0) dX7_holds_126 (by decide) ?_
        refine xe_lcmp dX7_holds_127 ?_
        refine xe_if_ne 135 dX7_holds_128 (by decide) (fun c9 => ?_) (fun c9 => ?_)
        · refine xe_iconst (v := nI (0)) dX7_holds_135 xc0 ?_
          exact xe_ret (r := (some (.int (nI (0))))) dX7_holds_136 (Or.inl rfl) (k8 c1 c6 c8 c9)
        · refine xe_iconst (v := nI (1)) dX7_holds_131 xc1 ?_
          refine xe_goto 136 dX7_holds_132 (by decide) ?_
          exact xe_ret (r := (some (.int (nI (1))))) dX7_holds_136 (Or.inr rfl) (k9 c1 c6 c8 c9)
      · by_cases c10 : (nI (kd)) = nI 2
        · refine xe_tableIn (off := 115) 137 dX7_holds_22 (by rw [c10]; decide) (by rw [c10]; decide) (by rw [c10]; decide) (by decide) ?_
          refine xe_iload 5 dX7_holds_137 rfl ?_
          refine xn_if_eq 157 dX7_holds_139 (by decide) (by omega) (fun q => absurd q (by decide)) (fun _ => ?_)
          refine xe_aload_n 0 dX7_holds_142 rfl rfl ?_
          refine xe_aload_n 2 dX7_holds_143 rfl rfl ?_
          refine xe_iconst (v := nI (0)) dX7_holds_144 xc0 ?_
          refine xE.sub [0, 2] rfl ?_
          refine xe_callV (As := [.ref (6 + 4 * p), .int (nI (0))]) (rest := []) dX7_holds_145 wX7_side lX7_232 iX7_side sX7_side ⟨by decide, by decide⟩ sh74 rfl (xin_mm (by decide)) rfl rfl (by simp [Value.category]) ?_
          exact k10 c1 c6 c8 c10
        · refine xe_tableOut 163 dX7_holds_22 (by have z0 := lv_neT c6 (show (nI 0).toInt = 0 from by decide); have z1 := lv_neT c8 (show (nI 1).toInt = 1 from by decide); have z2 := lv_neT c10 (show (nI 2).toInt = 2 from by decide); omega) (by decide) ?_
          refine xe_iload 5 dX7_holds_163 rfl ?_
          refine xn_if_eq 186 dX7_holds_165 (by decide) (by omega) (fun q => absurd q (by decide)) (fun _ => ?_)
          refine xe_aload_n 0 dX7_holds_168 rfl rfl ?_
          refine xe_aload_n 2 dX7_holds_169 rfl rfl ?_
          refine xe_iconst (v := nI (0)) dX7_holds_170 xc0 ?_
          refine xE.sub [0, 2] rfl ?_
          refine xe_callV (As := [.ref (6 + 4 * p), .int (nI (0))]) (rest := []) dX7_holds_171 wX7_side lX7_232 iX7_side sX7_side ⟨by decide, by decide⟩ sh74 rfl (xin_mm (by decide)) rfl rfl (by simp [Value.category]) ?_
          exact k11 c1 c6 c8 c10

theorem gX7_holds_c (u : xU) (p S k kd m : Nat) (x y : Int32) {Q : Option Value → xM → Prop} (hp : p < 10) (hk : k < 6) (hkd : 2 ≤ kd) (hkd3 : kd ≤ 3) (hm : m < 64) (hs0 : xC mX7_side [.ref 74, .ref (6 + 4 * p), .int (nI (0))] (xmm u) (fun r μ' => r = some (.int x) ∧ μ' = xmm u)) (hs1 : xC mX7_side [.ref 74, .ref (6 + 4 * p), .int (nI (1))] (xmm u) (fun r μ' => r = some (.int y) ∧ μ' = xmm u)) (v1 : u.1 (6 + 4 * p) 0 = nI (kd)) (v2 : u.1 (6 + 4 * p) 3 = nI (m))
    (k1 : ¬ ((nI (m)) &&& ((nI (S)) ^^^ (-1))) = 0 → (nI (kd)) = nI 0 → xC mX7_pair [.int (nI (p)), .int (u.1 (9 + 4 * p) k)] (xmm u) (fun r μ1 => xE mX7_holds 69 [(0, .ref 74), (4, .int (nI (k)))] (r.toList ++ [.ref 84, .long (u.2.1 152 p)]) μ1 Q))
    (k2 : ¬ ((nI (m)) &&& ((nI (S)) ^^^ (-1))) = 0 → ¬ (nI (kd)) = nI 0 → (nI (kd)) = nI 1 → Q (some (.int (nI (1)))) (xmm u))
    (k3 : ¬ ((nI (m)) &&& ((nI (S)) ^^^ (-1))) = 0 → ¬ (nI (kd)) = nI 0 → ¬ (nI (kd)) = nI 1 → (nI (kd)) = nI 2 → Q (some (.int (nI (1)))) (xmm u))
    (k4 : ¬ ((nI (m)) &&& ((nI (S)) ^^^ (-1))) = 0 → ¬ (nI (kd)) = nI 0 → ¬ (nI (kd)) = nI 1 → ¬ (nI (kd)) = nI 2 → Q (some (.int (nI (1)))) (xmm u))
    (k5 : ((nI (m)) &&& ((nI (S)) ^^^ (-1))) = 0 → (nI (kd)) = nI 0 → xC mX7_pair [.int (nI (p)), .int (u.1 (9 + 4 * p) k)] (xmm u) (fun r μ1 => xE mX7_holds 69 [(0, .ref 74), (4, .int (nI (k)))] (r.toList ++ [.ref 84, .long (u.2.1 152 p)]) μ1 Q))
    (k6 : ((nI (m)) &&& ((nI (S)) ^^^ (-1))) = 0 → ¬ (nI (kd)) = nI 0 → (nI (kd)) = nI 1 → xC mX7_pair [.int (nI (p)), .int (u.1 (9 + 4 * p) k)] (xmm u) (fun r μ1 => xE mX7_holds 116 [(0, .ref 74), (4, .int (nI (k)))] (r.toList ++ [.ref 84, .long (u.2.1 152 p)]) μ1 Q))
    (k7 : ((nI (m)) &&& ((nI (S)) ^^^ (-1))) = 0 → ¬ (nI (kd)) = nI 0 → ¬ (nI (kd)) = nI 1 → (nI (kd)) = nI 2 → ¬ x = y → Q (some (.int (nI (0)))) (xmm u))
    (k8 : ((nI (m)) &&& ((nI (S)) ^^^ (-1))) = 0 → ¬ (nI (kd)) = nI 0 → ¬ (nI (kd)) = nI 1 → (nI (kd)) = nI 2 → x = y → Q (some (.int (nI (1)))) (xmm u))
    (k9 : ((nI (m)) &&& ((nI (S)) ^^^ (-1))) = 0 → ¬ (nI (kd)) = nI 0 → ¬ (nI (kd)) = nI 1 → ¬ (nI (kd)) = nI 2 → ¬ (ky x < ky y) → Q (some (.int (nI (0)))) (xmm u))
    (k10 : ((nI (m)) &&& ((nI (S)) ^^^ (-1))) = 0 → ¬ (nI (kd)) = nI 0 → ¬ (nI (kd)) = nI 1 → ¬ (nI (kd)) = nI 2 → ky x < ky y → Q (some (.int (nI (1)))) (xmm u)) : xE mX7_holds 0 [(0, .ref 74), (1, .int (nI (p))), (2, .ref (6 + 4 * p)), (3, .int (nI (S))), (4, .int (nI (k)))] [] (xmm u) Q := by
  refine xe_aload_n 2 dX7_holds_0 rfl rfl ?_
  refine xr_getI (v := nI (m)) dX7_holds_1 fX7_79 (shP _ (by omega)) (by omega) v2 ?_
  refine xe_iload_n 3 dX7_holds_4 rfl rfl ?_
  refine xe_iconst (v := -1) dX7_holds_5 xcm1 ?_
  refine xe_ixor dX7_holds_6 ?_
  refine xe_iand dX7_holds_7 ?_
  refine xe_if_ne 15 dX7_holds_8 (by decide) (fun c1 => ?_) (fun c1 => ?_)
  · refine xe_iconst (v := nI (0)) dX7_holds_15 xc0 ?_
    refine xe_istore (L2 := [(0, .ref 74), (1, .int (nI (p))), (2, .ref (6 + 4 * p)), (3, .int (nI (S))), (4, .int (nI (k))), (5, .int (nI (0)))]) dX7_holds_16 (by decide) rfl ?_
    refine xe_aload_n 2 dX7_holds_18 rfl rfl ?_
    refine xr_getI (v := nI (kd)) dX7_holds_19 fX7_82 (shP _ (by omega)) (by omega) v1 ?_
    by_cases c2 : (nI (kd)) = nI 0
    · refine xe_tableIn (off := 26) 48 dX7_holds_22 (by rw [c2]; decide) (by rw [c2]; decide) (by rw [c2]; decide) (by decide) ?_
      refine xe_aload_n 0 dX7_holds_48 rfl rfl ?_
      refine xr_getR (b := 152) dX7_holds_49 fX7_44 rfl sh74 (by decide) rfl ?_
      refine xe_iload_n 1 dX7_holds_52 rfl rfl ?_
      refine xr_lald (k := p) (v := u.2.1 152 p) dX7_holds_53 sh152 (by decide) (by omega) (by decide) rfl ?_
      refine xe_aload_n 0 dX7_holds_54 rfl rfl ?_
      refine xr_getR (b := 84) dX7_holds_55 fX7_26 rfl sh74 (by decide) rfl ?_
      refine xe_iload_n 1 dX7_holds_58 rfl rfl ?_
      refine xe_aload_n 2 dX7_holds_59 rfl rfl ?_
      refine xr_getR (b := (9 + 4 * p)) dX7_holds_60 fX7_182 rfl (shP _ (by omega)) (by omega) (rPO (by omega)) ?_
      refine xe_iload 4 dX7_holds_63 rfl ?_
      refine xr_iald (k := k) (v := u.1 (9 + 4 * p) k) dX7_holds_65 (shPO _ (by omega)) (by omega) (by omega) (by decide) rfl ?_
      refine xE.sub [0, 4] rfl ?_
      refine xe_callS (As := [.int (nI (p)), .int (u.1 (9 + 4 * p) k)]) (rest := [.ref 84, .long (u.2.1 152 p)]) dX7_holds_66 wX7_pair lX7_98 tX7_pair ⟨by decide, by decide⟩ rfl rfl (by simp [Value.category]) ?_
      exact k1 c1 c2
    · by_cases c3 : (nI (kd)) = nI 1
      · refine xe_tableIn (off := 68) 90 dX7_holds_22 (by rw [c3]; decide) (by rw [c3]; decide) (by rw [c3]; decide) (by decide) ?_
        refine xe_iload 5 dX7_holds_90 rfl ?_
        refine xn_if_eq 131 dX7_holds_92 (by decide) (by omega) (fun _ => ?_) (fun q => absurd q (by decide))
        refine xe_iconst (v := nI (1)) dX7_holds_131 xc1 ?_
        refine xe_goto 136 dX7_holds_132 (by decide) ?_
        exact xe_ret (r := (some (.int (nI (1))))) dX7_holds_136 (Or.inr rfl) (k2 c1 c2 c3)
      · by_cases c4 : (nI (kd)) = nI 2
        · refine xe_tableIn (off := 115) 137 dX7_holds_22 (by rw [c4]; decide) (by rw [c4]; decide) (by rw [c4]; decide) (by decide) ?_
          refine xe_iload 5 dX7_holds_137 rfl ?_
          refine xn_if_eq 157 dX7_holds_139 (by decide) (by omega) (fun _ => ?_) (fun q => absurd q (by decide))
          refine xe_iconst (v := nI (1)) dX7_holds_157 xc1 ?_
          refine xe_goto 162 dX7_holds_158 (by decide) ?_
          exact xe_ret (r := (some (.int (nI (1))))) dX7_holds_162 (Or.inr rfl) (k3 c1 c2 c3 c4)
        · refine xe_tableOut 163 dX7_holds_22 (by have z0 := lv_neT c2 (show (nI 0).toInt = 0 from by decide); have z1 := lv_neT c3 (show (nI 1).toInt = 1 from by decide); have z2 := lv_neT c4 (show (nI 2).toInt = 2 from by decide); omega) (by decide) ?_
          refine xe_iload 5 dX7_holds_163 rfl ?_
          refine xn_if_eq 186 dX7_holds_165 (by decide) (by omega) (fun _ => ?_) (fun q => absurd q (by decide))
          refine xe_iconst (v := nI (1)) dX7_holds_186 xc1 ?_
          refine xe_goto 191 dX7_holds_187 (by decide) ?_
          exact xe_ret (r := (some (.int (nI (1))))) dX7_holds_191 (Or.inr rfl) (k4 c1 c2 c3 c4)
  · refine xe_iconst (v := nI (1)) dX7_holds_11 xc1 ?_
    refine xe_goto 16 dX7_holds_12 (by decide) ?_
    refine xe_istore (L2 := [(0, .ref 74), (1, .int (nI (p))), (2, .ref (6 + 4 * p)), (3, .int (nI (S))), (4, .int (nI (k))), (5, .int (nI (1)))]) dX7_holds_16 (by decide) rfl ?_
    refine xe_aload_n 2 dX7_holds_18 rfl rfl ?_
    refine xr_getI (v := nI (kd)) dX7_holds_19 fX7_82 (shP _ (by omega)) (by omega) v1 ?_
    by_cases c5 : (nI (kd)) = nI 0
    · refine xe_tableIn (off := 26) 48 dX7_holds_22 (by rw [c5]; decide) (by rw [c5]; decide) (by rw [c5]; decide) (by decide) ?_
      refine xe_aload_n 0 dX7_holds_48 rfl rfl ?_
      refine xr_getR (b := 152) dX7_holds_49 fX7_44 rfl sh74 (by decide) rfl ?_
      refine xe_iload_n 1 dX7_holds_52 rfl rfl ?_
      refine xr_lald (k := p) (v := u.2.1 152 p) dX7_holds_53 sh152 (by decide) (by omega) (by decide) rfl ?_
      refine xe_aload_n 0 dX7_holds_54 rfl rfl ?_
      refine xr_getR (b := 84) dX7_holds_55 fX7_26 rfl sh74 (by decide) rfl ?_
      refine xe_iload_n 1 dX7_holds_58 rfl rfl ?_
      refine xe_aload_n 2 dX7_holds_59 rfl rfl ?_
      refine xr_getR (b := (9 + 4 * p)) dX7_holds_60 fX7_182 rfl (shP _ (by omega)) (by omega) (rPO (by omega)) ?_
      refine xe_iload 4 dX7_holds_63 rfl ?_
      refine xr_iald (k := k) (v := u.1 (9 + 4 * p) k) dX7_holds_65 (shPO _ (by omega)) (by omega) (by omega) (by decide) rfl ?_
      refine xE.sub [0, 4] rfl ?_
      refine xe_callS (As := [.int (nI (p)), .int (u.1 (9 + 4 * p) k)]) (rest := [.ref 84, .long (u.2.1 152 p)]) dX7_holds_66 wX7_pair lX7_98 tX7_pair ⟨by decide, by decide⟩ rfl rfl (by simp [Value.category]) ?_
      exact k5 c1 c5
    · by_cases c6 : (nI (kd)) = nI 1
      · refine xe_tableIn (off := 68) 90 dX7_holds_22 (by rw [c6]; decide) (by rw [c6]; decide) (by rw [c6]; decide) (by decide) ?_
        refine xe_iload 5 dX7_holds_90 rfl ?_
        refine xn_if_eq 131 dX7_holds_92 (by decide) (by omega) (fun q => absurd q (by decide)) (fun _ => ?_)
        refine xe_aload_n 0 dX7_holds_95 rfl rfl ?_
        refine xr_getR (b := 152) dX7_holds_96 fX7_44 rfl sh74 (by decide) rfl ?_
        refine xe_iload_n 1 dX7_holds_99 rfl rfl ?_
        refine xr_lald (k := p) (v := u.2.1 152 p) dX7_holds_100 sh152 (by decide) (by omega) (by decide) rfl ?_
        refine xe_aload_n 0 dX7_holds_101 rfl rfl ?_
        refine xr_getR (b := 84) dX7_holds_102 fX7_26 rfl sh74 (by decide) rfl ?_
        refine xe_iload_n 1 dX7_holds_105 rfl rfl ?_
        refine xe_aload_n 2 dX7_holds_106 rfl rfl ?_
        refine xr_getR (b := (9 + 4 * p)) dX7_holds_107 fX7_182 rfl (shP _ (by omega)) (by omega) (rPO (by omega)) ?_
        refine xe_iload 4 dX7_holds_110 rfl ?_
        refine xr_iald (k := k) (v := u.1 (9 + 4 * p) k) dX7_holds_112 (shPO _ (by omega)) (by omega) (by omega) (by decide) rfl ?_
        refine xE.sub [0, 4] rfl ?_
        refine xe_callS (As := [.int (nI (p)), .int (u.1 (9 + 4 * p) k)]) (rest := [.ref 84, .long (u.2.1 152 p)]) dX7_holds_113 wX7_pair lX7_98 tX7_pair ⟨by decide, by decide⟩ rfl rfl (by simp [Value.category]) ?_
        exact k6 c1 c5 c6
      · by_cases c7 : (nI (kd)) = nI 2
        · refine xe_tableIn (off := 115) 137 dX7_holds_22 (by rw [c7]; decide) (by rw [c7]; decide) (by rw [c7]; decide) (by decide) ?_
          refine xe_iload 5 dX7_holds_137 rfl ?_
          refine xn_if_eq 157 dX7_holds_139 (by decide) (by omega) (fun q => absurd q (by decide)) (fun _ => ?_)
          refine xe_aload_n 0 dX7_holds_142 rfl rfl ?_
          refine xe_aload_n 2 dX7_holds_143 rfl rfl ?_
          refine xe_iconst (v := nI (0)) dX7_holds_144 xc0 ?_
          refine xe_callV (As := [.ref (6 + 4 * p), .int (nI (0))]) (rest := []) dX7_holds_145 wX7_side lX7_232 iX7_side sX7_side ⟨by decide, by decide⟩ sh74 rfl (xin_mm (by decide)) rfl rfl (by simp [Value.category]) (xC.pure (v := .int (x)) (hs0) ?_)
          refine xe_aload_n 0 dX7_holds_148 rfl rfl ?_
          refine xe_aload_n 2 dX7_holds_149 rfl rfl ?_
          refine xe_iconst (v := nI (1)) dX7_holds_150 xc1 ?_
          refine xe_callV (As := [.ref (6 + 4 * p), .int (nI (1))]) (rest := [.int (x)]) dX7_holds_151 wX7_side lX7_232 iX7_side sX7_side ⟨by decide, by decide⟩ sh74 rfl (xin_mm (by decide)) rfl rfl (by simp [Value.category]) (xC.pure (v := .int (y)) (hs1) ?_)
          refine xe_icmp_ne 161 dX7_holds_154 (by decide) (fun c8 => ?_) (fun c8 => ?_)
          · refine xe_iconst (v := nI (0)) dX7_holds_161 xc0 ?_
            exact xe_ret (r := (some (.int (nI (0))))) dX7_holds_162 (Or.inl rfl) (k7 c1 c5 c6 c7 c8)
          · refine xe_iconst (v := nI (1)) dX7_holds_157 xc1 ?_
            refine xe_goto 162 dX7_holds_158 (by decide) ?_
            exact xe_ret (r := (some (.int (nI (1))))) dX7_holds_162 (Or.inr rfl) (k8 c1 c5 c6 c7 c8)
        · refine xe_tableOut 163 dX7_holds_22 (by have z0 := lv_neT c5 (show (nI 0).toInt = 0 from by decide); have z1 := lv_neT c6 (show (nI 1).toInt = 1 from by decide); have z2 := lv_neT c7 (show (nI 2).toInt = 2 from by decide); omega) (by decide) ?_
          refine xe_iload 5 dX7_holds_163 rfl ?_
          refine xn_if_eq 186 dX7_holds_165 (by decide) (by omega) (fun q => absurd q (by decide)) (fun _ => ?_)
          refine xe_aload_n 0 dX7_holds_168 rfl rfl ?_
          refine xe_aload_n 2 dX7_holds_169 rfl rfl ?_
          refine xe_iconst (v := nI (0)) dX7_holds_170 xc0 ?_
          refine xe_callV (As := [.ref (6 + 4 * p), .int (nI (0))]) (rest := []) dX7_holds_171 wX7_side lX7_232 iX7_side sX7_side ⟨by decide, by decide⟩ sh74 rfl (xin_mm (by decide)) rfl rfl (by simp [Value.category]) (xC.pure (v := .int (x)) (hs0) ?_)
          refine xe_aload_n 0 dX7_holds_174 rfl rfl ?_
          refine xe_aload_n 2 dX7_holds_175 rfl rfl ?_
          refine xe_iconst (v := nI (1)) dX7_holds_176 xc1 ?_
          refine xe_callV (As := [.ref (6 + 4 * p), .int (nI (1))]) (rest := [.int (x)]) dX7_holds_177 wX7_side lX7_232 iX7_side sX7_side ⟨by decide, by decide⟩ sh74 rfl (xin_mm (by decide)) rfl rfl (by simp [Value.category]) (xC.pure (v := .int (y)) (hs1) ?_)
          refine xe_callSN (As := [.int (x), .int (y)]) (rest := []) dX7_holds_180 wX9_ahead lX7_200 tX9_ahead ⟨by decide, by decide⟩ rfl rfl (by simp [Value.category]) (xC.pure (v := .int (xb (ky x < ky y))) (qX9_ahead u x y) ?_)
          refine xb_if_eq 190 dX7_holds_183 (by decide) (fun c9 => ?_) (fun c9 => ?_)
          · refine xe_iconst (v := nI (0)) dX7_holds_190 xc0 ?_
            exact xe_ret (r := (some (.int (nI (0))))) dX7_holds_191 (Or.inl rfl) (k9 c1 c5 c6 c7 c9)
          · refine xe_iconst (v := nI (1)) dX7_holds_186 xc1 ?_
            refine xe_goto 191 dX7_holds_187 (by decide) ?_
            exact xe_ret (r := (some (.int (nI (1))))) dX7_holds_191 (Or.inr rfl) (k10 c1 c5 c6 c7 c9)

theorem gX7_holds_d (u : xU) (p S k kd m : Nat) {Q : Option Value → xM → Prop} (hp : p < 10) (hk : k < 6) (hkd : 2 ≤ kd) (hkd3 : kd ≤ 3) (hm : m < 64) (v1 : u.1 (6 + 4 * p) 0 = nI (kd)) (v2 : u.1 (6 + 4 * p) 3 = nI (m))
    (k1 : ¬ ((nI (m)) &&& ((nI (S)) ^^^ (-1))) = 0 → (nI (kd)) = nI 0 → xC mX7_pair [.int (nI (p)), .int (u.1 (9 + 4 * p) k)] (xmm u) (fun r μ1 => xE mX7_holds 69 [(0, .ref 74), (4, .int (nI (k)))] (r.toList ++ [.ref 84, .long (u.2.1 152 p)]) μ1 Q))
    (k2 : ¬ ((nI (m)) &&& ((nI (S)) ^^^ (-1))) = 0 → ¬ (nI (kd)) = nI 0 → (nI (kd)) = nI 1 → Q (some (.int (nI (1)))) (xmm u))
    (k3 : ¬ ((nI (m)) &&& ((nI (S)) ^^^ (-1))) = 0 → ¬ (nI (kd)) = nI 0 → ¬ (nI (kd)) = nI 1 → (nI (kd)) = nI 2 → Q (some (.int (nI (1)))) (xmm u))
    (k4 : ¬ ((nI (m)) &&& ((nI (S)) ^^^ (-1))) = 0 → ¬ (nI (kd)) = nI 0 → ¬ (nI (kd)) = nI 1 → ¬ (nI (kd)) = nI 2 → Q (some (.int (nI (1)))) (xmm u))
    (k5 : ((nI (m)) &&& ((nI (S)) ^^^ (-1))) = 0 → (nI (kd)) = nI 0 → xC mX7_pair [.int (nI (p)), .int (u.1 (9 + 4 * p) k)] (xmm u) (fun r μ1 => xE mX7_holds 69 [(0, .ref 74), (4, .int (nI (k)))] (r.toList ++ [.ref 84, .long (u.2.1 152 p)]) μ1 Q))
    (k6 : ((nI (m)) &&& ((nI (S)) ^^^ (-1))) = 0 → ¬ (nI (kd)) = nI 0 → (nI (kd)) = nI 1 → xC mX7_pair [.int (nI (p)), .int (u.1 (9 + 4 * p) k)] (xmm u) (fun r μ1 => xE mX7_holds 116 [(0, .ref 74), (4, .int (nI (k)))] (r.toList ++ [.ref 84, .long (u.2.1 152 p)]) μ1 Q))
    (k7 : ((nI (m)) &&& ((nI (S)) ^^^ (-1))) = 0 → ¬ (nI (kd)) = nI 0 → ¬ (nI (kd)) = nI 1 → (nI (kd)) = nI 2 → xC mX7_side [.ref 74, .ref (6 + 4 * p), .int (nI (0))] (xmm u) (fun r μ1 => xE mX7_holds 148 [(0, .ref 74), (2, .ref (6 + 4 * p))] (r.toList ++ []) μ1 Q))
    (k8 : ((nI (m)) &&& ((nI (S)) ^^^ (-1))) = 0 → ¬ (nI (kd)) = nI 0 → ¬ (nI (kd)) = nI 1 → ¬ (nI (kd)) = nI 2 → xC mX7_side [.ref 74, .ref (6 + 4 * p), .int (nI (0))] (xmm u) (fun r μ1 => xE mX7_holds 174 [(0, .ref 74), (2, .ref (6 + 4 * p))] (r.toList ++ []) μ1 Q)) : xE mX7_holds 0 [(0, .ref 74), (1, .int (nI (p))), (2, .ref (6 + 4 * p)), (3, .int (nI (S))), (4, .int (nI (k)))] [] (xmm u) Q := by
  refine xe_aload_n 2 dX7_holds_0 rfl rfl ?_
  refine xr_getI (v := nI (m)) dX7_holds_1 fX7_79 (shP _ (by omega)) (by omega) v2 ?_
  refine xe_iload_n 3 dX7_holds_4 rfl rfl ?_
  refine xe_iconst (v := -1) dX7_holds_5 xcm1 ?_
  refine xe_ixor dX7_holds_6 ?_
  refine xe_iand dX7_holds_7 ?_
  refine xe_if_ne 15 dX7_holds_8 (by decide) (fun c1 => ?_) (fun c1 => ?_)
  · refine xe_iconst (v := nI (0)) dX7_holds_15 xc0 ?_
    refine xe_istore (L2 := [(0, .ref 74), (1, .int (nI (p))), (2, .ref (6 + 4 * p)), (3, .int (nI (S))), (4, .int (nI (k))), (5, .int (nI (0)))]) dX7_holds_16 (by decide) rfl ?_
    refine xe_aload_n 2 dX7_holds_18 rfl rfl ?_
    refine xr_getI (v := nI (kd)) dX7_holds_19 fX7_82 (shP _ (by omega)) (by omega) v1 ?_
    by_cases c2 : (nI (kd)) = nI 0
    · refine xe_tableIn (off := 26) 48 dX7_holds_22 (by rw [c2]; decide) (by rw [c2]; decide) (by rw [c2]; decide) (by decide) ?_
      refine xe_aload_n 0 dX7_holds_48 rfl rfl ?_
      refine xr_getR (b := 152) dX7_holds_49 fX7_44 rfl sh74 (by decide) rfl ?_
      refine xe_iload_n 1 dX7_holds_52 rfl rfl ?_
      refine xr_lald (k := p) (v := u.2.1 152 p) dX7_holds_53 sh152 (by decide) (by omega) (by decide) rfl ?_
      refine xe_aload_n 0 dX7_holds_54 rfl rfl ?_
      refine xr_getR (b := 84) dX7_holds_55 fX7_26 rfl sh74 (by decide) rfl ?_
      refine xe_iload_n 1 dX7_holds_58 rfl rfl ?_
      refine xe_aload_n 2 dX7_holds_59 rfl rfl ?_
      refine xr_getR (b := (9 + 4 * p)) dX7_holds_60 fX7_182 rfl (shP _ (by omega)) (by omega) (rPO (by omega)) ?_
      refine xe_iload 4 dX7_holds_63 rfl ?_
      refine xr_iald (k := k) (v := u.1 (9 + 4 * p) k) dX7_holds_65 (shPO _ (by omega)) (by omega) (by omega) (by decide) rfl ?_
      refine xE.sub [0, 4] rfl ?_
      refine xe_callS (As := [.int (nI (p)), .int (u.1 (9 + 4 * p) k)]) (rest := [.ref 84, .long (u.2.1 152 p)]) dX7_holds_66 wX7_pair lX7_98 tX7_pair ⟨by decide, by decide⟩ rfl rfl (by simp [Value.category]) ?_
      exact k1 c1 c2
    · by_cases c3 : (nI (kd)) = nI 1
      · refine xe_tableIn (off := 68) 90 dX7_holds_22 (by rw [c3]; decide) (by rw [c3]; decide) (by rw [c3]; decide) (by decide) ?_
        refine xe_iload 5 dX7_holds_90 rfl ?_
        refine xn_if_eq 131 dX7_holds_92 (by decide) (by omega) (fun _ => ?_) (fun q => absurd q (by decide))
        refine xe_iconst (v := nI (1)) dX7_holds_131 xc1 ?_
        refine xe_goto 136 dX7_holds_132 (by decide) ?_
        exact xe_ret (r := (some (.int (nI (1))))) dX7_holds_136 (Or.inr rfl) (k2 c1 c2 c3)
      · by_cases c4 : (nI (kd)) = nI 2
        · refine xe_tableIn (off := 115) 137 dX7_holds_22 (by rw [c4]; decide) (by rw [c4]; decide) (by rw [c4]; decide) (by decide) ?_
          refine xe_iload 5 dX7_holds_137 rfl ?_
          refine xn_if_eq 157 dX7_holds_139 (by decide) (by omega) (fun _ => ?_) (fun q => absurd q (by decide))
          refine xe_iconst (v := nI (1)) dX7_holds_157 xc1 ?_
          refine xe_goto 162 dX7_holds_158 (by decide) ?_
          exact xe_ret (r := (some (.int (nI (1))))) dX7_holds_162 (Or.inr rfl) (k3 c1 c2 c3 c4)
        · refine xe_tableOut 163 dX7_holds_22 (by have z0 := lv_neT c2 (show (nI 0).toInt = 0 from by decide); have z1 := lv_neT c3 (show (nI 1).toInt = 1 from by decide); have z2 := lv_neT c4 (show (nI 2).toInt = 2 from by decide); omega) (by decide) ?_
          refine xe_iload 5 dX7_holds_163 rfl ?_
          refine xn_if_eq 186 dX7_holds_165 (by decide) (by omega) (fun _ => ?_) (fun q => absurd q (by decide))
          refine xe_iconst (v := nI (1)) dX7_holds_186 xc1 ?_
          refine xe_goto 191 dX7_holds_187 (by decide) ?_
          exact xe_ret (r := (some (.int (nI (1))))) dX7_holds_191 (Or.inr rfl) (k4 c1 c2 c3 c4)
  · refine xe_iconst (v := nI (1)) dX7_holds_11 xc1 ?_
    refine xe_goto 16 dX7_holds_12 (by decide) ?_
    refine xe_istore (L2 := [(0, .ref 74), (1, .int (nI (p))), (2, .ref (6 + 4 * p)), (3, .int (nI (S))), (4, .int (nI (k))), (5, .int (nI (1)))]) dX7_holds_16 (by decide) rfl ?_
    refine xe_aload_n 2 dX7_holds_18 rfl rfl ?_
    refine xr_getI (v := nI (kd)) dX7_holds_19 fX7_82 (shP _ (by omega)) (by omega) v1 ?_
    by_cases c5 : (nI (kd)) = nI 0
    · refine xe_tableIn (off := 26) 48 dX7_holds_22 (by rw [c5]; decide) (by rw [c5]; decide) (by rw [c5]; decide) (by decide) ?_
      refine xe_aload_n 0 dX7_holds_48 rfl rfl ?_
      refine xr_getR (b := 152) dX7_holds_49 fX7_44 rfl sh74 (by decide) rfl ?_
      refine xe_iload_n 1 dX7_holds_52 rfl rfl ?_
      refine xr_lald (k := p) (v := u.2.1 152 p) dX7_holds_53 sh152 (by decide) (by omega) (by decide) rfl ?_
      refine xe_aload_n 0 dX7_holds_54 rfl rfl ?_
      refine xr_getR (b := 84) dX7_holds_55 fX7_26 rfl sh74 (by decide) rfl ?_
      refine xe_iload_n 1 dX7_holds_58 rfl rfl ?_
      refine xe_aload_n 2 dX7_holds_59 rfl rfl ?_
      refine xr_getR (b := (9 + 4 * p)) dX7_holds_60 fX7_182 rfl (shP _ (by omega)) (by omega) (rPO (by omega)) ?_
      refine xe_iload 4 dX7_holds_63 rfl ?_
      refine xr_iald (k := k) (v := u.1 (9 + 4 * p) k) dX7_holds_65 (shPO _ (by omega)) (by omega) (by omega) (by decide) rfl ?_
      refine xE.sub [0, 4] rfl ?_
      refine xe_callS (As := [.int (nI (p)), .int (u.1 (9 + 4 * p) k)]) (rest := [.ref 84, .long (u.2.1 152 p)]) dX7_holds_66 wX7_pair lX7_98 tX7_pair ⟨by decide, by decide⟩ rfl rfl (by simp [Value.category]) ?_
      exact k5 c1 c5
    · by_cases c6 : (nI (kd)) = nI 1
      · refine xe_tableIn (off := 68) 90 dX7_holds_22 (by rw [c6]; decide) (by rw [c6]; decide) (by rw [c6]; decide) (by decide) ?_
        refine xe_iload 5 dX7_holds_90 rfl ?_
        refine xn_if_eq 131 dX7_holds_92 (by decide) (by omega) (fun q => absurd q (by decide)) (fun _ => ?_)
        refine xe_aload_n 0 dX7_holds_95 rfl rfl ?_
        refine xr_getR (b := 152) dX7_holds_96 fX7_44 rfl sh74 (by decide) rfl ?_
        refine xe_iload_n 1 dX7_holds_99 rfl rfl ?_
        refine xr_lald (k := p) (v := u.2.1 152 p) dX7_holds_100 sh152 (by decide) (by omega) (by decide) rfl ?_
        refine xe_aload_n 0 dX7_holds_101 rfl rfl ?_
        refine xr_getR (b := 84) dX7_holds_102 fX7_26 rfl sh74 (by decide) rfl ?_
        refine xe_iload_n 1 dX7_holds_105 rfl rfl ?_
        refine xe_aload_n 2 dX7_holds_106 rfl rfl ?_
        refine xr_getR (b := (9 + 4 * p)) dX7_holds_107 fX7_182 rfl (shP _ (by omega)) (by omega) (rPO (by omega)) ?_
        refine xe_iload 4 dX7_holds_110 rfl ?_
        refine xr_iald (k := k) (v := u.1 (9 + 4 * p) k) dX7_holds_112 (shPO _ (by omega)) (by omega) (by omega) (by decide) rfl ?_
        refine xE.sub [0, 4] rfl ?_
        refine xe_callS (As := [.int (nI (p)), .int (u.1 (9 + 4 * p) k)]) (rest := [.ref 84, .long (u.2.1 152 p)]) dX7_holds_113 wX7_pair lX7_98 tX7_pair ⟨by decide, by decide⟩ rfl rfl (by simp [Value.category]) ?_
        exact k6 c1 c5 c6
      · by_cases c7 : (nI (kd)) = nI 2
        · refine xe_tableIn (off := 115) 137 dX7_holds_22 (by rw [c7]; decide) (by rw [c7]; decide) (by rw [c7]; decide) (by decide) ?_
          refine xe_iload 5 dX7_holds_137 rfl ?_
          refine xn_if_eq 157 dX7_holds_139 (by decide) (by omega) (fun q => absurd q (by decide)) (fun _ => ?_)
          refine xe_aload_n 0 dX7_holds_142 rfl rfl ?_
          refine xe_aload_n 2 dX7_holds_143 rfl rfl ?_
          refine xe_iconst (v := nI (0)) dX7_holds_144 xc0 ?_
          refine xE.sub [0, 2] rfl ?_
          refine xe_callV (As := [.ref (6 + 4 * p), .int (nI (0))]) (rest := []) dX7_holds_145 wX7_side lX7_232 iX7_side sX7_side ⟨by decide, by decide⟩ sh74 rfl (xin_mm (by decide)) rfl rfl (by simp [Value.category]) ?_
          exact k7 c1 c5 c6 c7
        · refine xe_tableOut 163 dX7_holds_22 (by have z0 := lv_neT c5 (show (nI 0).toInt = 0 from by decide); have z1 := lv_neT c6 (show (nI 1).toInt = 1 from by decide); have z2 := lv_neT c7 (show (nI 2).toInt = 2 from by decide); omega) (by decide) ?_
          refine xe_iload 5 dX7_holds_163 rfl ?_
          refine xn_if_eq 186 dX7_holds_165 (by decide) (by omega) (fun q => absurd q (by decide)) (fun _ => ?_)
          refine xe_aload_n 0 dX7_holds_168 rfl rfl ?_
          refine xe_aload_n 2 dX7_holds_169 rfl rfl ?_
          refine xe_iconst (v := nI (0)) dX7_holds_170 xc0 ?_
          refine xE.sub [0, 2] rfl ?_
          refine xe_callV (As := [.ref (6 + 4 * p), .int (nI (0))]) (rest := []) dX7_holds_171 wX7_side lX7_232 iX7_side sX7_side ⟨by decide, by decide⟩ sh74 rfl (xin_mm (by decide)) rfl rfl (by simp [Value.category]) ?_
          exact k8 c1 c5 c6 c7

theorem gX7_meets_0 (u : xU) (S k : Nat) {Q : Option Value → xM → Prop}  
    (k1 : xE mX7_meets 3 [(0, .ref 74), (1, .ref 3), (2, .int (nI (S))), (3, .int (nI (k))), (4, .int (nI (0)))] [] (xmm u) Q) : xE mX7_meets 0 [(0, .ref 74), (1, .ref 3), (2, .int (nI (S))), (3, .int (nI (k)))] [] (xmm u) Q := by
  refine xe_iconst (v := nI (0)) dX7_meets_0 xc0 ?_
  refine xe_istore (L2 := [(0, .ref 74), (1, .ref 3), (2, .int (nI (S))), (3, .int (nI (k))), (4, .int (nI (0)))]) dX7_meets_1 (by decide) rfl ?_
  exact k1

theorem gX7_meets_3 (u : xU) (n S k p m : Nat) (b : Bool) {Q : Option Value → xM → Prop} (hn : n ≤ 10) (hp : p < n) (hk : k < 6) (hm : m < 64) (hhd : xC mX7_holds [.ref 74, .int (nI p), .ref (6 + 4 * p), .int (nI S), .int (nI k)] (xmm u) (fun r μ' => r = some (.int (xb (b = true))) ∧ μ' = xmm u)) (v1 : u.1 3 1 = nI (n)) (v2 : u.1 (6 + 4 * p) 3 = nI (m))
    (k1 : n ≤ p → Q (some (.int (nI (1)))) (xmm u))
    (k2 : ¬ n ≤ p → ¬ (m.testBit k = true) → xE mX7_meets 3 [(0, .ref 74), (1, .ref 3), (2, .int (nI (S))), (3, .int (nI (k))), (4, .int (nI (p + 1)))] [] (xmm u) Q)
    (k3 : ¬ n ≤ p → m.testBit k = true → b = true → xE mX7_meets 3 [(0, .ref 74), (1, .ref 3), (2, .int (nI (S))), (3, .int (nI (k))), (4, .int (nI (p + 1)))] [] (xmm u) Q)
    (k4 : ¬ n ≤ p → m.testBit k = true → ¬ (b = true) → Q (some (.int (nI (0)))) (xmm u)) : xE mX7_meets 3 [(0, .ref 74), (1, .ref 3), (2, .int (nI (S))), (3, .int (nI (k))), (4, .int (nI (p)))] [] (xmm u) Q := by
  refine xe_iload 4 dX7_meets_3 rfl ?_
  refine xe_aload_n 1 dX7_meets_5 rfl rfl ?_
  refine xr_getI (v := nI (n)) dX7_meets_6 fX7_56 sh3 (by decide) v1 ?_
  refine xn_icmp_ge 51 dX7_meets_9 (by decide) (by omega) (by omega) (fun c1 => ?_) (fun c1 => ?_)
  · refine xe_iconst (v := nI (1)) dX7_meets_51 xc1 ?_
    exact xe_ret (r := (some (.int (nI (1))))) dX7_meets_52 (Or.inr rfl) (k1 c1)
  · refine xe_aload_n 1 dX7_meets_12 rfl rfl ?_
    refine xr_getR (b := 4) dX7_meets_13 fX7_62 rfl sh3 (by decide) rfl ?_
    refine xe_iload 4 dX7_meets_16 rfl ?_
    refine xr_aald (k := p) (b := (6 + 4 * p)) dX7_meets_18 sh4 (by decide) (by decide) (by decide) (by omega) (by decide) (rParts (by omega)) ?_
    refine xe_astore (L2 := [(0, .ref 74), (1, .ref 3), (2, .int (nI (S))), (3, .int (nI (k))), (4, .int (nI (p))), (5, .ref (6 + 4 * p))]) dX7_meets_19 (by decide) rfl ?_
    refine xe_aload 5 dX7_meets_21 rfl ?_
    refine xe_iload_n 3 dX7_meets_23 rfl rfl ?_
    refine xe_callV (As := [.int (nI (k))]) (rest := []) dX7_meets_24 wX3_carries lX7_178 iX3_carries sX3_carries ⟨by decide, by decide⟩ (shP _ (by omega)) rfl (xin_mm (by omega)) rfl rfl (by simp [Value.category]) (xC.pure (v := .int (xb (m.testBit k = true))) (qX3_carries u p m k (by omega) (by omega) (by omega) v2) ?_)
    refine xb_if_eq 45 dX7_meets_27 (by decide) (fun c2 => ?_) (fun c2 => ?_)
    · refine xn_iinc (c := 1) (L2 := [(0, .ref 74), (1, .ref 3), (2, .int (nI (S))), (3, .int (nI (k))), (4, .int (nI (p + 1))), (5, .ref (6 + 4 * p))]) 4 dX7_meets_45 rfl (by decide) rfl ?_
      refine xe_goto 3 dX7_meets_48 (by decide) ?_
      refine xE.sub [0, 1, 2, 3, 4] rfl ?_
      exact k2 c1 c2
    · refine xe_aload_n 0 dX7_meets_30 rfl rfl ?_
      refine xe_iload 4 dX7_meets_31 rfl ?_
      refine xe_aload 5 dX7_meets_33 rfl ?_
      refine xe_iload_n 2 dX7_meets_35 rfl rfl ?_
      refine xe_iload_n 3 dX7_meets_36 rfl rfl ?_
      refine xe_callV (As := [.int (nI (p)), .ref (6 + 4 * p), .int (nI (S)), .int (nI (k))]) (rest := []) dX7_meets_37 wX7_holds lX7_228 iX7_holds sX7_holds ⟨by decide, by decide⟩ sh74 rfl (xin_mm (by decide)) rfl rfl (by simp [Value.category]) (xC.pure (v := .int (xb (b = true))) (hhd) ?_)
      refine xb_if_ne 45 dX7_meets_40 (by decide) (fun c3 => ?_) (fun c3 => ?_)
      · refine xn_iinc (c := 1) (L2 := [(0, .ref 74), (1, .ref 3), (2, .int (nI (S))), (3, .int (nI (k))), (4, .int (nI (p + 1))), (5, .ref (6 + 4 * p))]) 4 dX7_meets_45 rfl (by decide) rfl ?_
        refine xe_goto 3 dX7_meets_48 (by decide) ?_
        refine xE.sub [0, 1, 2, 3, 4] rfl ?_
        exact k3 c1 c2 c3
      · refine xe_iconst (v := nI (0)) dX7_meets_43 xc0 ?_
        exact xe_ret (r := (some (.int (nI (0))))) dX7_meets_44 (Or.inl rfl) (k4 c1 c2 c3)

theorem gX7_meets_n (u : xU) (n S k p m : Nat) {Q : Option Value → xM → Prop} (hn : n ≤ 10) (hp : p < n) (hk : k < 6) (hm : m < 64) (v1 : u.1 3 1 = nI (n)) (v2 : u.1 (6 + 4 * p) 3 = nI (m))
    (k1 : n ≤ p → Q (some (.int (nI (1)))) (xmm u))
    (k2 : ¬ n ≤ p → ¬ (m.testBit k = true) → xE mX7_meets 3 [(0, .ref 74), (1, .ref 3), (2, .int (nI (S))), (3, .int (nI (k))), (4, .int (nI (p + 1)))] [] (xmm u) Q)
    (k3 : ¬ n ≤ p → m.testBit k = true → xC mX7_holds [.ref 74, .int (nI (p)), .ref (6 + 4 * p), .int (nI (S)), .int (nI (k))] (xmm u) (fun r μ1 => xE mX7_meets 40 [(0, .ref 74), (1, .ref 3), (2, .int (nI (S))), (3, .int (nI (k))), (4, .int (nI (p)))] (r.toList ++ []) μ1 Q)) : xE mX7_meets 3 [(0, .ref 74), (1, .ref 3), (2, .int (nI (S))), (3, .int (nI (k))), (4, .int (nI (p)))] [] (xmm u) Q := by
  refine xe_iload 4 dX7_meets_3 rfl ?_
  refine xe_aload_n 1 dX7_meets_5 rfl rfl ?_
  refine xr_getI (v := nI (n)) dX7_meets_6 fX7_56 sh3 (by decide) v1 ?_
  refine xn_icmp_ge 51 dX7_meets_9 (by decide) (by omega) (by omega) (fun c1 => ?_) (fun c1 => ?_)
  · refine xe_iconst (v := nI (1)) dX7_meets_51 xc1 ?_
    exact xe_ret (r := (some (.int (nI (1))))) dX7_meets_52 (Or.inr rfl) (k1 c1)
  · refine xe_aload_n 1 dX7_meets_12 rfl rfl ?_
    refine xr_getR (b := 4) dX7_meets_13 fX7_62 rfl sh3 (by decide) rfl ?_
    refine xe_iload 4 dX7_meets_16 rfl ?_
    refine xr_aald (k := p) (b := (6 + 4 * p)) dX7_meets_18 sh4 (by decide) (by decide) (by decide) (by omega) (by decide) (rParts (by omega)) ?_
    refine xe_astore (L2 := [(0, .ref 74), (1, .ref 3), (2, .int (nI (S))), (3, .int (nI (k))), (4, .int (nI (p))), (5, .ref (6 + 4 * p))]) dX7_meets_19 (by decide) rfl ?_
    refine xe_aload 5 dX7_meets_21 rfl ?_
    refine xe_iload_n 3 dX7_meets_23 rfl rfl ?_
    refine xe_callV (As := [.int (nI (k))]) (rest := []) dX7_meets_24 wX3_carries lX7_178 iX3_carries sX3_carries ⟨by decide, by decide⟩ (shP _ (by omega)) rfl (xin_mm (by omega)) rfl rfl (by simp [Value.category]) (xC.pure (v := .int (xb (m.testBit k = true))) (qX3_carries u p m k (by omega) (by omega) (by omega) v2) ?_)
    refine xb_if_eq 45 dX7_meets_27 (by decide) (fun c2 => ?_) (fun c2 => ?_)
    · refine xn_iinc (c := 1) (L2 := [(0, .ref 74), (1, .ref 3), (2, .int (nI (S))), (3, .int (nI (k))), (4, .int (nI (p + 1))), (5, .ref (6 + 4 * p))]) 4 dX7_meets_45 rfl (by decide) rfl ?_
      refine xe_goto 3 dX7_meets_48 (by decide) ?_
      refine xE.sub [0, 1, 2, 3, 4] rfl ?_
      exact k2 c1 c2
    · refine xe_aload_n 0 dX7_meets_30 rfl rfl ?_
      refine xe_iload 4 dX7_meets_31 rfl ?_
      refine xe_aload 5 dX7_meets_33 rfl ?_
      refine xe_iload_n 2 dX7_meets_35 rfl rfl ?_
      refine xe_iload_n 3 dX7_meets_36 rfl rfl ?_
      refine xE.sub [0, 1, 2, 3, 4] rfl ?_
      refine xe_callV (As := [.int (nI (p)), .ref (6 + 4 * p), .int (nI (S)), .int (nI (k))]) (rest := []) dX7_meets_37 wX7_holds lX7_228 iX7_holds sX7_holds ⟨by decide, by decide⟩ sh74 rfl (xin_mm (by decide)) rfl rfl (by simp [Value.category]) ?_
      exact k3 c1 c2

theorem gX7_meets_e (u : xU) (n S k p : Nat) {Q : Option Value → xM → Prop} (hn : n ≤ 10) (hp : p = n) (hk : k < 6) (v1 : u.1 3 1 = nI (n))
    (k1 : n ≤ p → Q (some (.int (nI (1)))) (xmm u))
    (k2 : ¬ n ≤ p → xC mX3_carries [.ref (6 + 4 * p), .int (nI (k))] (xmm u) (fun r μ1 => xE mX7_meets 27 [(0, .ref 74), (1, .ref 3), (2, .int (nI (S))), (3, .int (nI (k))), (4, .int (nI (p))), (5, .ref (6 + 4 * p))] (r.toList ++ []) μ1 Q)) : xE mX7_meets 3 [(0, .ref 74), (1, .ref 3), (2, .int (nI (S))), (3, .int (nI (k))), (4, .int (nI (p)))] [] (xmm u) Q := by
  refine xe_iload 4 dX7_meets_3 rfl ?_
  refine xe_aload_n 1 dX7_meets_5 rfl rfl ?_
  refine xr_getI (v := nI (n)) dX7_meets_6 fX7_56 sh3 (by decide) v1 ?_
  refine xn_icmp_ge 51 dX7_meets_9 (by decide) (by omega) (by omega) (fun c1 => ?_) (fun c1 => ?_)
  · refine xe_iconst (v := nI (1)) dX7_meets_51 xc1 ?_
    exact xe_ret (r := (some (.int (nI (1))))) dX7_meets_52 (Or.inr rfl) (k1 c1)
  · refine xe_aload_n 1 dX7_meets_12 rfl rfl ?_
    refine xr_getR (b := 4) dX7_meets_13 fX7_62 rfl sh3 (by decide) rfl ?_
    refine xe_iload 4 dX7_meets_16 rfl ?_
    refine xr_aald (k := p) (b := (6 + 4 * p)) dX7_meets_18 sh4 (by decide) (by decide) (by decide) (by omega) (by decide) (rParts (by omega)) ?_
    refine xe_astore (L2 := [(0, .ref 74), (1, .ref 3), (2, .int (nI (S))), (3, .int (nI (k))), (4, .int (nI (p))), (5, .ref (6 + 4 * p))]) dX7_meets_19 (by decide) rfl ?_
    refine xe_aload 5 dX7_meets_21 rfl ?_
    refine xe_iload_n 3 dX7_meets_23 rfl rfl ?_
    refine xe_callV (As := [.int (nI (k))]) (rest := []) dX7_meets_24 wX3_carries lX7_178 iX3_carries sX3_carries ⟨by decide, by decide⟩ (shP _ (by omega)) rfl (xin_mm (by omega)) rfl rfl (by simp [Value.category]) ?_
    exact k2 c1

