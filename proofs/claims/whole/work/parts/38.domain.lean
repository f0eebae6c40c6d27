theorem gX7_spotFor_0 (u : xU) (k z : Nat) (v : Int32) {Q : Option Value → xM → Prop} (hk : k < 6) (hz : z ≤ 40) (v1 : u.1 75 k = nI (z))
    (k1 : xE mX7_spotFor 10 [(0, .ref 74), (1, .int (nI (k))), (2, .int (v)), (3, .int (nI (0))), (4, .int (nI (z)))] [] (xmm u) Q) : xE mX7_spotFor 0 [(0, .ref 74), (1, .int (nI (k))), (2, .int (v))] [] (xmm u) Q := by
  refine xe_iconst (v := nI (0)) dX7_spotFor_0 xc0 ?_
  refine xe_istore_n (L2 := [(0, .ref 74), (1, .int (nI (k))), (2, .int (v)), (3, .int (nI (0)))]) dX7_spotFor_1 rfl (by decide) rfl ?_
  refine xe_aload_n 0 dX7_spotFor_2 rfl rfl ?_
  refine xr_getR (b := 75) dX7_spotFor_3 fX7_9 rfl sh74 (by decide) rfl ?_
  refine xe_iload_n 1 dX7_spotFor_6 rfl rfl ?_
  refine xr_iald (k := k) (v := nI (z)) dX7_spotFor_7 sh75 (by decide) (by omega) (by decide) v1 ?_
  refine xe_istore (L2 := [(0, .ref 74), (1, .int (nI (k))), (2, .int (v)), (3, .int (nI (0))), (4, .int (nI (z)))]) dX7_spotFor_8 (by decide) rfl ?_
  exact k1

theorem gX7_spotFor_10 (u : xU) (k lo hi : Nat) (v d : Int32) {Q : Option Value → xM → Prop} (hk : k < 6) (hhi : hi ≤ 40) (hlo : lo ≤ hi) (v1 : u.1 (77 + k) ((lo + hi) / 2) = d)
    (k1 : hi ≤ lo → Q (some (.int (nI (lo)))) (xmm u))
    (k2 : ¬ hi ≤ lo → ¬ (ky d < ky v) → xE mX7_spotFor 10 [(0, .ref 74), (1, .int (nI (k))), (2, .int (v)), (3, .int (nI (lo))), (4, .int (nI ((lo + hi) / 2)))] [] (xmm u) Q)
    (k3 : ¬ hi ≤ lo → ky d < ky v → xE mX7_spotFor 10 [(0, .ref 74), (1, .int (nI (k))), (2, .int (v)), (3, .int (nI (((lo + hi) / 2) + 1))), (4, .int (nI (hi)))] [] (xmm u) Q) : xE mX7_spotFor 10 [(0, .ref 74), (1, .int (nI (k))), (2, .int (v)), (3, .int (nI (lo))), (4, .int (nI (hi)))] [] (xmm u) Q := by
  refine xe_iload_n 3 dX7_spotFor_10 rfl rfl ?_
  refine xe_iload 4 dX7_spotFor_11 rfl ?_
  refine xn_icmp_ge 55 dX7_spotFor_13 (by decide) (by omega) (by omega) (fun c1 => ?_) (fun c1 => ?_)
  · refine xe_iload_n 3 dX7_spotFor_55 rfl rfl ?_
    exact xe_ret (r := (some (.int (nI (lo))))) dX7_spotFor_56 trivial (k1 c1)
  · refine xe_iload_n 3 dX7_spotFor_16 rfl rfl ?_
    refine xe_iload 4 dX7_spotFor_17 rfl ?_
    refine xn_iadd dX7_spotFor_19 ?_
    refine xe_iconst (v := nI (1)) dX7_spotFor_20 xc1 ?_
    refine xn_half dX7_spotFor_21 (by omega) ?_
    refine xe_istore (L2 := [(0, .ref 74), (1, .int (nI (k))), (2, .int (v)), (3, .int (nI (lo))), (4, .int (nI (hi))), (5, .int (nI ((lo + hi) / 2)))]) dX7_spotFor_22 (by decide) rfl ?_
    refine xe_aload_n 0 dX7_spotFor_24 rfl rfl ?_
    refine xr_getR (b := 76) dX7_spotFor_25 fX7_17 rfl sh74 (by decide) rfl ?_
    refine xe_iload_n 1 dX7_spotFor_28 rfl rfl ?_
    refine xr_aald (k := k) (b := (77 + k)) dX7_spotFor_29 sh76 (by decide) (by decide) (by decide) (by omega) (by decide) (rWD (by omega)) ?_
    refine xe_iload 5 dX7_spotFor_30 rfl ?_
    refine xr_iald (k := (lo + hi) / 2) (v := d) dX7_spotFor_32 (shWD _ (by omega)) (by omega) (by omega) (by decide) v1 ?_
    refine xe_iload_n 2 dX7_spotFor_33 rfl rfl ?_
    refine xe_callSN (As := [.int (d), .int (v)]) (rest := []) dX7_spotFor_34 wX9_ahead lX7_200 tX9_ahead ⟨by decide, by decide⟩ rfl rfl (by simp [Value.category]) (xC.pure (v := .int (xb (ky d < ky v))) (qX9_ahead u d v) ?_)
    refine xb_if_eq 48 dX7_spotFor_37 (by decide) (fun c2 => ?_) (fun c2 => ?_)
    · refine xe_iload 5 dX7_spotFor_48 rfl ?_
      refine xe_istore (L2 := [(0, .ref 74), (1, .int (nI (k))), (2, .int (v)), (3, .int (nI (lo))), (4, .int (nI ((lo + hi) / 2))), (5, .int (nI ((lo + hi) / 2)))]) dX7_spotFor_50 (by decide) rfl ?_
      refine xe_goto 10 dX7_spotFor_52 (by decide) ?_
      refine xE.sub [0, 1, 2, 3, 4] rfl ?_
      exact k2 c1 c2
    · refine xe_iload 5 dX7_spotFor_40 rfl ?_
      refine xe_iconst (v := nI (1)) dX7_spotFor_42 xc1 ?_
      refine xn_iadd dX7_spotFor_43 ?_
      refine xe_istore_n (L2 := [(0, .ref 74), (1, .int (nI (k))), (2, .int (v)), (3, .int (nI (((lo + hi) / 2) + 1))), (4, .int (nI (hi))), (5, .int (nI ((lo + hi) / 2)))]) dX7_spotFor_44 rfl (by decide) rfl ?_
      refine xe_goto 52 dX7_spotFor_45 (by decide) ?_
      refine xe_goto 10 dX7_spotFor_52 (by decide) ?_
      refine xE.sub [0, 1, 2, 3, 4] rfl ?_
      exact k3 c1 c2

theorem gX7_addToDomain_0 (u : xU) (k z : Nat) (j : Nat) (v d : Int32) {Q : Option Value → xM → Prop} (hk : k < 6) (hz : z < 40) (hj : j ≤ z) (hsp : xC mX7_spotFor [.ref 74, .int (nI k), .int v] (xmm u) (fun r μ' => r = some (.int (nI j)) ∧ μ' = xmm u)) (v1 : u.1 75 k = nI (z)) (v2 : u.1 (77 + k) j = d)
    (k1 : 40 ≤ z → Q none (xmm u))
    (k2 : ¬ 40 ≤ z → z ≤ j → Q none (xmm (wi (wi (wci u (77 + k) (77 + k) j (j + 1) (z - j)) (77 + k) j (v)) 75 k (nI (z + 1)))))
    (k3 : ¬ 40 ≤ z → ¬ z ≤ j → ¬ d = v → Q none (xmm (wi (wi (wci u (77 + k) (77 + k) j (j + 1) (z - j)) (77 + k) j (v)) 75 k (nI (z + 1)))))
    (k4 : ¬ 40 ≤ z → ¬ z ≤ j → d = v → Q none (xmm u)) : xE mX7_addToDomain 0 [(0, .ref 74), (1, .int (nI (k))), (2, .int (v))] [] (xmm u) Q := by
  refine xe_aload_n 0 dX7_addToDomain_0 rfl rfl ?_
  refine xr_getR (b := 76) dX7_addToDomain_1 fX7_17 rfl sh74 (by decide) rfl ?_
  refine xe_iload_n 1 dX7_addToDomain_4 rfl rfl ?_
  refine xr_aald (k := k) (b := (77 + k)) dX7_addToDomain_5 sh76 (by decide) (by decide) (by decide) (by omega) (by decide) (rWD (by omega)) ?_
  refine xe_astore_n (L2 := [(0, .ref 74), (1, .int (nI (k))), (2, .int (v)), (3, .ref (77 + k))]) dX7_addToDomain_6 rfl (by decide) rfl ?_
  refine xe_aload_n 0 dX7_addToDomain_7 rfl rfl ?_
  refine xr_getR (b := 75) dX7_addToDomain_8 fX7_9 rfl sh74 (by decide) rfl ?_
  refine xe_iload_n 1 dX7_addToDomain_11 rfl rfl ?_
  refine xr_iald (k := k) (v := nI (z)) dX7_addToDomain_12 sh75 (by decide) (by omega) (by decide) v1 ?_
  refine xe_istore (L2 := [(0, .ref 74), (1, .int (nI (k))), (2, .int (v)), (3, .ref (77 + k)), (4, .int (nI (z)))]) dX7_addToDomain_13 (by decide) rfl ?_
  refine xe_aload_n 0 dX7_addToDomain_15 rfl rfl ?_
  refine xe_iload_n 1 dX7_addToDomain_16 rfl rfl ?_
  refine xe_iload_n 2 dX7_addToDomain_17 rfl rfl ?_
  refine xe_callV (As := [.int (nI (k)), .int (v)]) (rest := []) dX7_addToDomain_18 wX7_spotFor lX7_191 iX7_spotFor sX7_spotFor ⟨by decide, by decide⟩ sh74 rfl (xin_mm (by decide)) rfl rfl (by simp [Value.category]) (xC.pure (v := .int (nI (j))) (hsp) ?_)
  refine xe_istore (L2 := [(0, .ref 74), (1, .int (nI (k))), (2, .int (v)), (3, .ref (77 + k)), (4, .int (nI (z))), (5, .int (nI (j)))]) dX7_addToDomain_21 (by decide) rfl ?_
  refine xe_iload 4 dX7_addToDomain_23 rfl ?_
  refine xe_bipush (v := nI (40)) dX7_addToDomain_25 xcb40 ?_
  refine xn_icmp_ge 45 dX7_addToDomain_27 (by decide) (by omega) (by omega) (fun c1 => ?_) (fun c1 => ?_)
  · exact xe_ret (r := none) dX7_addToDomain_45 trivial (k1 c1)
  · refine xe_iload 5 dX7_addToDomain_30 rfl ?_
    refine xe_iload 4 dX7_addToDomain_32 rfl ?_
    refine xn_icmp_ge 46 dX7_addToDomain_34 (by decide) (by omega) (by omega) (fun c2 => ?_) (fun c2 => ?_)
    · refine xe_aload_n 3 dX7_addToDomain_46 rfl rfl ?_
      refine xe_iload 5 dX7_addToDomain_47 rfl ?_
      refine xe_aload_n 3 dX7_addToDomain_49 rfl rfl ?_
      refine xe_iload 5 dX7_addToDomain_50 rfl ?_
      refine xe_iconst (v := nI (1)) dX7_addToDomain_52 xc1 ?_
      refine xn_iadd dX7_addToDomain_53 ?_
      refine xe_iload 4 dX7_addToDomain_54 rfl ?_
      refine xe_iload 5 dX7_addToDomain_56 rfl ?_
      refine xn_isub dX7_addToDomain_58 (by omega) ?_
      refine xr_copyi (sp := j) (dp := j + 1) (m9 := z - j) dX7_addToDomain_59 lX7_194 (by decide) (shWD _ (by omega)) (by omega) (shWD _ (by omega)) (by omega) (by omega) (by omega) (by omega) (by omega) (by omega) ?_
      refine xe_aload_n 3 dX7_addToDomain_62 rfl rfl ?_
      refine xe_iload 5 dX7_addToDomain_63 rfl ?_
      refine xe_iload_n 2 dX7_addToDomain_65 rfl rfl ?_
      refine xr_iast (k := j) dX7_addToDomain_66 (shWD _ (by omega)) (by omega) (by omega) (by decide) ?_
      refine xe_aload_n 0 dX7_addToDomain_67 rfl rfl ?_
      refine xr_getR (b := 75) dX7_addToDomain_68 fX7_9 rfl sh74 (by decide) rfl ?_
      refine xe_iload_n 1 dX7_addToDomain_71 rfl rfl ?_
      refine xe_iload 4 dX7_addToDomain_72 rfl ?_
      refine xe_iconst (v := nI (1)) dX7_addToDomain_74 xc1 ?_
      refine xn_iadd dX7_addToDomain_75 ?_
      refine xr_iast (k := k) dX7_addToDomain_76 sh75 (by decide) (by omega) (by decide) ?_
      exact xe_ret (r := none) dX7_addToDomain_77 trivial (k2 c1 c2)
    · refine xe_aload_n 3 dX7_addToDomain_37 rfl rfl ?_
      refine xe_iload 5 dX7_addToDomain_38 rfl ?_
      refine xr_iald (k := j) (v := d) dX7_addToDomain_40 (shWD _ (by omega)) (by omega) (by omega) (by decide) v2 ?_
      refine xe_iload_n 2 dX7_addToDomain_41 rfl rfl ?_
      refine xe_icmp_ne 46 dX7_addToDomain_42 (by decide) (fun c3 => ?_) (fun c3 => ?_)
      · refine xe_aload_n 3 dX7_addToDomain_46 rfl rfl ?_
        refine xe_iload 5 dX7_addToDomain_47 rfl ?_
        refine xe_aload_n 3 dX7_addToDomain_49 rfl rfl ?_
        refine xe_iload 5 dX7_addToDomain_50 rfl ?_
        refine xe_iconst (v := nI (1)) dX7_addToDomain_52 xc1 ?_
        refine xn_iadd dX7_addToDomain_53 ?_
        refine xe_iload 4 dX7_addToDomain_54 rfl ?_
        refine xe_iload 5 dX7_addToDomain_56 rfl ?_
        refine xn_isub dX7_addToDomain_58 (by omega) ?_
        refine xr_copyi (sp := j) (dp := j + 1) (m9 := z - j) dX7_addToDomain_59 lX7_194 (by decide) (shWD _ (by omega)) (by omega) (shWD _ (by omega)) (by omega) (by omega) (by omega) (by omega) (by omega) (by omega) ?_
        refine xe_aload_n 3 dX7_addToDomain_62 rfl rfl ?_
        refine xe_iload 5 dX7_addToDomain_63 rfl ?_
        refine xe_iload_n 2 dX7_addToDomain_65 rfl rfl ?_
        refine xr_iast (k := j) dX7_addToDomain_66 (shWD _ (by omega)) (by omega) (by omega) (by decide) ?_
        refine xe_aload_n 0 dX7_addToDomain_67 rfl rfl ?_
        refine xr_getR (b := 75) dX7_addToDomain_68 fX7_9 rfl sh74 (by decide) rfl ?_
        refine xe_iload_n 1 dX7_addToDomain_71 rfl rfl ?_
        refine xe_iload 4 dX7_addToDomain_72 rfl ?_
        refine xe_iconst (v := nI (1)) dX7_addToDomain_74 xc1 ?_
        refine xn_iadd dX7_addToDomain_75 ?_
        refine xr_iast (k := k) dX7_addToDomain_76 sh75 (by decide) (by omega) (by decide) ?_
        exact xe_ret (r := none) dX7_addToDomain_77 trivial (k3 c1 c2 c3)
      · exact xe_ret (r := none) dX7_addToDomain_45 trivial (k4 c1 c2 c3)

theorem gX7_gatherDomain_0 (u : xU) (k : Nat) {Q : Option Value → xM → Prop} (hk : k < 6) 
    (k1 : xE mX7_gatherDomain 10 [(0, .ref 74), (1, .ref 2), (2, .ref 3), (3, .int (nI (k))), (4, .int (nI (0)))] [] (xmm (wi u 75 k (nI (0)))) Q) : xE mX7_gatherDomain 0 [(0, .ref 74), (1, .ref 2), (2, .ref 3), (3, .int (nI (k)))] [] (xmm u) Q := by
  refine xe_aload_n 0 dX7_gatherDomain_0 rfl rfl ?_
  refine xr_getR (b := 75) dX7_gatherDomain_1 fX7_9 rfl sh74 (by decide) rfl ?_
  refine xe_iload_n 3 dX7_gatherDomain_4 rfl rfl ?_
  refine xe_iconst (v := nI (0)) dX7_gatherDomain_5 xc0 ?_
  refine xr_iast (k := k) dX7_gatherDomain_6 sh75 (by decide) (by omega) (by decide) ?_
  refine xe_iconst (v := nI (0)) dX7_gatherDomain_7 xc0 ?_
  refine xe_istore (L2 := [(0, .ref 74), (1, .ref 2), (2, .ref 3), (3, .int (nI (k))), (4, .int (nI (0)))]) dX7_gatherDomain_8 (by decide) rfl ?_
  exact k1

theorem gX7_gatherDomain_10 (u : xU) (n p kd m k t : Nat) {Q : Option Value → xM → Prop} (hn : n ≤ 10) (hp : p < n) (hk : k < 6) (hkd : kd ≤ 3) (hm : m < 64) (ht : t < 8) (v1 : u.1 3 1 = nI (n)) (v2 : u.1 (6 + 4 * p) 0 = nI (kd)) (v3 : u.1 (6 + 4 * p) 3 = nI (m)) (v4 : u.1 (6 + 4 * p) 1 = nI (t))
    (k1 : n ≤ p → Q none (xmm u))
    (k2 : ¬ n ≤ p → ¬ kd = 0 → xE mX7_gatherDomain 10 [(0, .ref 74), (1, .ref 2), (2, .ref 3), (3, .int (nI (k))), (4, .int (nI (p + 1)))] [] (xmm u) Q)
    (k3 : ¬ n ≤ p → kd = 0 → ¬ (m.testBit k = true) → xE mX7_gatherDomain 10 [(0, .ref 74), (1, .ref 2), (2, .ref 3), (3, .int (nI (k))), (4, .int (nI (p + 1)))] [] (xmm u) Q)
    (k4 : ¬ n ≤ p → kd = 0 → m.testBit k = true → xE mX7_gatherDomain 57 [(0, .ref 74), (3, .int (nI (k))), (5, .ref (6 + 4 * p)), (6, .ref (156 + 2 * t)), (7, .int (nI (0)))] [] (xmm u) Q) : xE mX7_gatherDomain 10 [(0, .ref 74), (1, .ref 2), (2, .ref 3), (3, .int (nI (k))), (4, .int (nI (p)))] [] (xmm u) Q := by
  refine xe_iload 4 dX7_gatherDomain_10 rfl ?_
  refine xe_aload_n 2 dX7_gatherDomain_12 rfl rfl ?_
  refine xr_getI (v := nI (n)) dX7_gatherDomain_13 fX7_56 sh3 (by decide) v1 ?_
  refine xn_icmp_ge 99 dX7_gatherDomain_16 (by decide) (by omega) (by omega) (fun c1 => ?_) (fun c1 => ?_)
  · exact xe_ret (r := none) dX7_gatherDomain_99 trivial (k1 c1)
  · refine xe_aload_n 2 dX7_gatherDomain_19 rfl rfl ?_
    refine xr_getR (b := 4) dX7_gatherDomain_20 fX7_62 rfl sh3 (by decide) rfl ?_
    refine xe_iload 4 dX7_gatherDomain_23 rfl ?_
    refine xr_aald (k := p) (b := (6 + 4 * p)) dX7_gatherDomain_25 sh4 (by decide) (by decide) (by decide) (by omega) (by decide) (rParts (by omega)) ?_
    refine xe_astore (L2 := [(0, .ref 74), (1, .ref 2), (2, .ref 3), (3, .int (nI (k))), (4, .int (nI (p))), (5, .ref (6 + 4 * p))]) dX7_gatherDomain_26 (by decide) rfl ?_
    refine xe_aload 5 dX7_gatherDomain_28 rfl ?_
    refine xr_getI (v := nI (kd)) dX7_gatherDomain_30 fX7_82 (shP _ (by omega)) (by omega) v2 ?_
    refine xn_if_ne 93 dX7_gatherDomain_33 (by decide) (by omega) (fun c2 => ?_) (fun c2 => ?_)
    · refine xn_iinc (c := 1) (L2 := [(0, .ref 74), (1, .ref 2), (2, .ref 3), (3, .int (nI (k))), (4, .int (nI (p + 1))), (5, .ref (6 + 4 * p))]) 4 dX7_gatherDomain_93 rfl (by decide) rfl ?_
      refine xe_goto 10 dX7_gatherDomain_96 (by decide) ?_
      refine xE.sub [0, 1, 2, 3, 4] rfl ?_
      exact k2 c1 c2
    · refine xe_aload 5 dX7_gatherDomain_36 rfl ?_
      refine xe_iload_n 3 dX7_gatherDomain_38 rfl rfl ?_
      refine xe_callV (As := [.int (nI (k))]) (rest := []) dX7_gatherDomain_39 wX3_carries lX7_178 iX3_carries sX3_carries ⟨by decide, by decide⟩ (shP _ (by omega)) rfl (xin_mm (by omega)) rfl rfl (by simp [Value.category]) (xC.pure (v := .int (xb (m.testBit k = true))) (qX3_carries u p m k (by omega) (by omega) (by omega) v3) ?_)
      refine xb_if_eq 93 dX7_gatherDomain_42 (by decide) (fun c3 => ?_) (fun c3 => ?_)
      · refine xn_iinc (c := 1) (L2 := [(0, .ref 74), (1, .ref 2), (2, .ref 3), (3, .int (nI (k))), (4, .int (nI (p + 1))), (5, .ref (6 + 4 * p))]) 4 dX7_gatherDomain_93 rfl (by decide) rfl ?_
        refine xe_goto 10 dX7_gatherDomain_96 (by decide) ?_
        refine xE.sub [0, 1, 2, 3, 4] rfl ?_
        exact k3 c1 c2 c3
      · refine xe_aload_n 1 dX7_gatherDomain_45 rfl rfl ?_
        refine xe_aload 5 dX7_gatherDomain_46 rfl ?_
        refine xr_getI (v := nI (t)) dX7_gatherDomain_48 fX7_72 (shP _ (by omega)) (by omega) v4 ?_
        refine xr_aald (k := t) (b := (156 + 2 * t)) dX7_gatherDomain_51 sh2 (by decide) (by decide) (by decide) (by omega) (by decide) (rTabs (by omega)) ?_
        refine xe_astore (L2 := [(0, .ref 74), (1, .ref 2), (2, .ref 3), (3, .int (nI (k))), (4, .int (nI (p))), (5, .ref (6 + 4 * p)), (6, .ref (156 + 2 * t))]) dX7_gatherDomain_52 (by decide) rfl ?_
        refine xe_iconst (v := nI (0)) dX7_gatherDomain_54 xc0 ?_
        refine xe_istore (L2 := [(0, .ref 74), (1, .ref 2), (2, .ref 3), (3, .int (nI (k))), (4, .int (nI (p))), (5, .ref (6 + 4 * p)), (6, .ref (156 + 2 * t)), (7, .int (nI (0)))]) dX7_gatherDomain_55 (by decide) rfl ?_
        refine xE.sub [0, 3, 5, 6, 7] rfl ?_
        exact k4 c1 c2 c3

theorem gX7_gatherDomain_c (u : xU) (n p kd m k : Nat) {Q : Option Value → xM → Prop} (hn : n ≤ 10) (hp : p < n) (hk : k < 6) (hkd : kd ≤ 3) (hm : m < 64) (v1 : u.1 3 1 = nI (n)) (v2 : u.1 (6 + 4 * p) 0 = nI (kd)) (v3 : u.1 (6 + 4 * p) 3 = nI (m))
    (k1 : n ≤ p → Q none (xmm u))
    (k2 : ¬ n ≤ p → ¬ kd = 0 → xE mX7_gatherDomain 10 [(0, .ref 74), (1, .ref 2), (2, .ref 3), (3, .int (nI (k))), (4, .int (nI (p + 1)))] [] (xmm u) Q)
    (k3 : ¬ n ≤ p → kd = 0 → ¬ (m.testBit k = true) → xE mX7_gatherDomain 10 [(0, .ref 74), (1, .ref 2), (2, .ref 3), (3, .int (nI (k))), (4, .int (nI (p + 1)))] [] (xmm u) Q)
    (k4 : ¬ n ≤ p → kd = 0 → m.testBit k = true → False) : xE mX7_gatherDomain 10 [(0, .ref 74), (1, .ref 2), (2, .ref 3), (3, .int (nI (k))), (4, .int (nI (p)))] [] (xmm u) Q := by
  refine xe_iload 4 dX7_gatherDomain_10 rfl ?_
  refine xe_aload_n 2 dX7_gatherDomain_12 rfl rfl ?_
  refine xr_getI (v := nI (n)) dX7_gatherDomain_13 fX7_56 sh3 (by decide) v1 ?_
  refine xn_icmp_ge 99 dX7_gatherDomain_16 (by decide) (by omega) (by omega) (fun c1 => ?_) (fun c1 => ?_)
  · exact xe_ret (r := none) dX7_gatherDomain_99 trivial (k1 c1)
  · refine xe_aload_n 2 dX7_gatherDomain_19 rfl rfl ?_
    refine xr_getR (b := 4) dX7_gatherDomain_20 fX7_62 rfl sh3 (by decide) rfl ?_
    refine xe_iload 4 dX7_gatherDomain_23 rfl ?_
    refine xr_aald (k := p) (b := (6 + 4 * p)) dX7_gatherDomain_25 sh4 (by decide) (by decide) (by decide) (by omega) (by decide) (rParts (by omega)) ?_
    refine xe_astore (L2 := [(0, .ref 74), (1, .ref 2), (2, .ref 3), (3, .int (nI (k))), (4, .int (nI (p))), (5, .ref (6 + 4 * p))]) dX7_gatherDomain_26 (by decide) rfl ?_
    refine xe_aload 5 dX7_gatherDomain_28 rfl ?_
    refine xr_getI (v := nI (kd)) dX7_gatherDomain_30 fX7_82 (shP _ (by omega)) (by omega) v2 ?_
    refine xn_if_ne 93 dX7_gatherDomain_33 (by decide) (by omega) (fun c2 => ?_) (fun c2 => ?_)
    · refine xn_iinc (c := 1) (L2 := [(0, .ref 74), (1, .ref 2), (2, .ref 3), (3, .int (nI (k))), (4, .int (nI (p + 1))), (5, .ref (6 + 4 * p))]) 4 dX7_gatherDomain_93 rfl (by decide) rfl ?_
      refine xe_goto 10 dX7_gatherDomain_96 (by decide) ?_
      refine xE.sub [0, 1, 2, 3, 4] rfl ?_
      exact k2 c1 c2
    · refine xe_aload 5 dX7_gatherDomain_36 rfl ?_
      refine xe_iload_n 3 dX7_gatherDomain_38 rfl rfl ?_
      refine xe_callV (As := [.int (nI (k))]) (rest := []) dX7_gatherDomain_39 wX3_carries lX7_178 iX3_carries sX3_carries ⟨by decide, by decide⟩ (shP _ (by omega)) rfl (xin_mm (by omega)) rfl rfl (by simp [Value.category]) (xC.pure (v := .int (xb (m.testBit k = true))) (qX3_carries u p m k (by omega) (by omega) (by omega) v3) ?_)
      refine xb_if_eq 93 dX7_gatherDomain_42 (by decide) (fun c3 => ?_) (fun c3 => ?_)
      · refine xn_iinc (c := 1) (L2 := [(0, .ref 74), (1, .ref 2), (2, .ref 3), (3, .int (nI (k))), (4, .int (nI (p + 1))), (5, .ref (6 + 4 * p))]) 4 dX7_gatherDomain_93 rfl (by decide) rfl ?_
        refine xe_goto 10 dX7_gatherDomain_96 (by decide) ?_
        refine xE.sub [0, 1, 2, 3, 4] rfl ?_
        exact k3 c1 c2 c3
      · refine xe_aload_n 1 dX7_gatherDomain_45 rfl rfl ?_
        refine xe_aload 5 dX7_gatherDomain_46 rfl ?_
        refine xr_getI (v := u.1 (6 + 4 * p) 1) dX7_gatherDomain_48 fX7_72 (shP _ (by omega)) (by omega) rfl ?_
        exact (k4 c1 c2 c3).elim

theorem gX7_gatherDomain_57 (u : xU) (p k t i n cols c : Nat) (x : Int32) {Q : Option Value → xM → Prop} (hp : p < 10) (hk : k < 6) (ht : t < 8) (hn : n ≤ 40) (hcols : cols ≤ 3) (hc : c < cols) (hi : i < n) (v1 : u.1 (156 + 2 * t) 0 = nI (cols)) (v2 : u.1 (156 + 2 * t) 1 = nI (n)) (v3 : u.1 (9 + 4 * p) k = nI (c)) (v4 : u.1 (157 + 2 * t) (i * 3 + c) = x)
    (k1 : n ≤ i → Q none (xmm u))
    (k2 : ¬ n ≤ i → xC mX7_addToDomain [.ref 74, .int (nI (k)), .int (x)] (xmm u) (fun r μ1 => xE mX7_gatherDomain 86 [(0, .ref 74), (3, .int (nI (k))), (5, .ref (6 + 4 * p)), (6, .ref (156 + 2 * t)), (7, .int (nI (i)))] (r.toList ++ []) μ1 Q)) : xE mX7_gatherDomain 57 [(0, .ref 74), (3, .int (nI (k))), (5, .ref (6 + 4 * p)), (6, .ref (156 + 2 * t)), (7, .int (nI (i)))] [] (xmm u) Q := by
  refine xe_iload 4 dX7_gatherDomain_57 rfl ?_
  refine xe_aload 3 dX7_gatherDomain_59 rfl ?_
  refine xr_getI (v := nI (n)) dX7_gatherDomain_61 fX7_171 (shT _ (by omega)) (by omega) v2 ?_
  refine xn_icmp_ge 92 dX7_gatherDomain_64 (by decide) (by omega) (by omega) (fun c1 => ?_) (fun c1 => ?_)
  · exact xe_ret (r := none) dX7_gatherDomain_92 trivial (k1 c1)
  · refine xe_aload_n 0 dX7_gatherDomain_67 rfl rfl ?_
    refine xe_iload_n 1 dX7_gatherDomain_68 rfl rfl ?_
    refine xe_aload 3 dX7_gatherDomain_69 rfl ?_
    refine xe_iload 4 dX7_gatherDomain_71 rfl ?_
    refine xe_aload 2 dX7_gatherDomain_73 rfl ?_
    refine xr_getR (b := (9 + 4 * p)) dX7_gatherDomain_75 fX7_182 rfl (shP _ (by omega)) (by omega) (rPO (by omega)) ?_
    refine xe_iload_n 1 dX7_gatherDomain_78 rfl rfl ?_
    refine xr_iald (k := k) (v := nI (c)) dX7_gatherDomain_79 (shPO _ (by omega)) (by omega) (by omega) (by decide) v3 ?_
    refine xe_callV (As := [.int (nI (i)), .int (nI (c))]) (rest := [.int (nI (k)), .ref 74]) dX7_gatherDomain_80 wX6_cell lX7_185 iX6_cell sX6_cell ⟨by decide, by decide⟩ (shT _ (by omega)) rfl (xin_mm (by omega)) rfl rfl (by simp [Value.category]) (xC.pure (v := .int (x)) (qX6_cellV u t n cols i c x (by omega) (by omega) (by omega) (by omega) (by omega) v1 v2 v4) ?_)
    refine xe_callV (As := [.int (nI (k)), .int (x)]) (rest := []) dX7_gatherDomain_83 wX7_addToDomain lX7_188 iX7_addToDomain sX7_addToDomain ⟨by decide, by decide⟩ sh74 rfl (xin_mm (by decide)) rfl rfl (by simp [Value.category]) ?_
    exact k2 c1

theorem gX7_gatherDomain_e (u : xU) (p k t i n : Nat) {Q : Option Value → xM → Prop} (hp : p < 10) (hk : k < 6) (ht : t < 8) (hn : n ≤ 40) (hi : i = n) (v1 : u.1 (156 + 2 * t) 1 = nI (n))
    (k1 : n ≤ i → Q none (xmm u))
    (k2 : ¬ n ≤ i → xC mX6_cell [.ref (156 + 2 * t), .int (nI (i)), .int (u.1 (9 + 4 * p) k)] (xmm u) (fun r μ1 => xE mX7_gatherDomain 83 [(0, .ref 74), (3, .int (nI (k))), (5, .ref (6 + 4 * p)), (6, .ref (156 + 2 * t)), (7, .int (nI (i)))] (r.toList ++ [.int (nI (k)), .ref 74]) μ1 Q)) : xE mX7_gatherDomain 57 [(0, .ref 74), (3, .int (nI (k))), (5, .ref (6 + 4 * p)), (6, .ref (156 + 2 * t)), (7, .int (nI (i)))] [] (xmm u) Q := by
  refine xe_iload 4 dX7_gatherDomain_57 rfl ?_
  refine xe_aload 3 dX7_gatherDomain_59 rfl ?_
  refine xr_getI (v := nI (n)) dX7_gatherDomain_61 fX7_171 (shT _ (by omega)) (by omega) v1 ?_
  refine xn_icmp_ge 92 dX7_gatherDomain_64 (by decide) (by omega) (by omega) (fun c1 => ?_) (fun c1 => ?_)
  · exact xe_ret (r := none) dX7_gatherDomain_92 trivial (k1 c1)
  · refine xe_aload_n 0 dX7_gatherDomain_67 rfl rfl ?_
    refine xe_iload_n 1 dX7_gatherDomain_68 rfl rfl ?_
    refine xe_aload 3 dX7_gatherDomain_69 rfl ?_
    refine xe_iload 4 dX7_gatherDomain_71 rfl ?_
    refine xe_aload 2 dX7_gatherDomain_73 rfl ?_
    refine xr_getR (b := (9 + 4 * p)) dX7_gatherDomain_75 fX7_182 rfl (shP _ (by omega)) (by omega) (rPO (by omega)) ?_
    refine xe_iload_n 1 dX7_gatherDomain_78 rfl rfl ?_
    refine xr_iald (k := k) (v := u.1 (9 + 4 * p) k) dX7_gatherDomain_79 (shPO _ (by omega)) (by omega) (by omega) (by decide) rfl ?_
    refine xe_callV (As := [.int (nI (i)), .int (u.1 (9 + 4 * p) k)]) (rest := [.int (nI (k)), .ref 74]) dX7_gatherDomain_80 wX6_cell lX7_185 iX6_cell sX6_cell ⟨by decide, by decide⟩ (shT _ (by omega)) rfl (xin_mm (by omega)) rfl rfl (by simp [Value.category]) ?_
    exact k2 c1

