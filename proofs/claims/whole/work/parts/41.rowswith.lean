theorem gX7_gatherRowsWith_0 (u : xU) (t c k pr : Nat) {Q : Option Value → xM → Prop} (ht : t < 8) (hk : k < 6) (hpr : pr < 30) 
    (k1 : xE mX7_gatherRowsWith 21 [(0, .ref 74), (1, .ref (156 + 2 * t)), (2, .int (nI (c))), (3, .int (nI (k))), (5, .ref (85 + pr)), (6, .ref (116 + pr)), (7, .int (nI (0)))] [] (xmm u) Q) : xE mX7_gatherRowsWith 0 [(0, .ref 74), (1, .ref (156 + 2 * t)), (2, .int (nI (c))), (3, .int (nI (k))), (4, .int (nI (pr)))] [] (xmm u) Q := by
  refine xe_aload_n 0 dX7_gatherRowsWith_0 rfl rfl ?_
  refine xr_getR (b := 84) dX7_gatherRowsWith_1 fX7_26 rfl sh74 (by decide) rfl ?_
  refine xe_iload 4 dX7_gatherRowsWith_4 rfl ?_
  refine xr_aald (k := pr) (b := (85 + pr)) dX7_gatherRowsWith_6 sh84 (by decide) (by decide) (by decide) (by omega) (by decide) (rWR (by omega)) ?_
  refine xe_astore (L2 := [(0, .ref 74), (1, .ref (156 + 2 * t)), (2, .int (nI (c))), (3, .int (nI (k))), (4, .int (nI (pr))), (5, .ref (85 + pr))]) dX7_gatherRowsWith_7 (by decide) rfl ?_
  refine xe_aload_n 0 dX7_gatherRowsWith_9 rfl rfl ?_
  refine xr_getR (b := 115) dX7_gatherRowsWith_10 fX7_29 rfl sh74 (by decide) rfl ?_
  refine xe_iload 4 dX7_gatherRowsWith_13 rfl ?_
  refine xr_aald (k := pr) (b := (116 + pr)) dX7_gatherRowsWith_15 sh115 (by decide) (by decide) (by decide) (by omega) (by decide) (rWS (by omega)) ?_
  refine xe_astore (L2 := [(0, .ref 74), (1, .ref (156 + 2 * t)), (2, .int (nI (c))), (3, .int (nI (k))), (4, .int (nI (pr))), (5, .ref (85 + pr)), (6, .ref (116 + pr))]) dX7_gatherRowsWith_16 (by decide) rfl ?_
  refine xe_iconst (v := nI (0)) dX7_gatherRowsWith_18 xc0 ?_
  refine xe_istore (L2 := [(0, .ref 74), (1, .ref (156 + 2 * t)), (2, .int (nI (c))), (3, .int (nI (k))), (4, .int (nI (pr))), (5, .ref (85 + pr)), (6, .ref (116 + pr)), (7, .int (nI (0)))]) dX7_gatherRowsWith_19 (by decide) rfl ?_
  refine xE.sub [0, 1, 2, 3, 5, 6, 7] rfl ?_
  exact k1

theorem gX7_gatherRowsWith_21 (u : xU) (t c k pr i z : Nat) {Q : Option Value → xM → Prop} (ht : t < 8) (hk : k < 6) (hpr : pr < 30) (hz : z ≤ 40) (hi : i ≤ z) (v1 : u.1 75 k = nI (z))
    (k1 : z ≤ i → xE mX7_gatherRowsWith 47 [(0, .ref 74), (1, .ref (156 + 2 * t)), (2, .int (nI (c))), (3, .int (nI (k))), (5, .ref (85 + pr)), (6, .ref (116 + pr)), (7, .int (nI (0)))] [] (xmm u) Q)
    (k2 : ¬ z ≤ i → xE mX7_gatherRowsWith 21 [(0, .ref 74), (1, .ref (156 + 2 * t)), (2, .int (nI (c))), (3, .int (nI (k))), (5, .ref (85 + pr)), (6, .ref (116 + pr)), (7, .int (nI (i + 1)))] [] (xmm (wl u (85 + pr) i (0))) Q) : xE mX7_gatherRowsWith 21 [(0, .ref 74), (1, .ref (156 + 2 * t)), (2, .int (nI (c))), (3, .int (nI (k))), (5, .ref (85 + pr)), (6, .ref (116 + pr)), (7, .int (nI (i)))] [] (xmm u) Q := by
  refine xe_iload 6 dX7_gatherRowsWith_21 rfl ?_
  refine xe_aload_n 0 dX7_gatherRowsWith_23 rfl rfl ?_
  refine xr_getR (b := 75) dX7_gatherRowsWith_24 fX7_9 rfl sh74 (by decide) rfl ?_
  refine xe_iload_n 3 dX7_gatherRowsWith_27 rfl rfl ?_
  refine xr_iald (k := k) (v := nI (z)) dX7_gatherRowsWith_28 sh75 (by decide) (by omega) (by decide) v1 ?_
  refine xn_icmp_ge 44 dX7_gatherRowsWith_29 (by decide) (by omega) (by omega) (fun c1 => ?_) (fun c1 => ?_)
  · refine xe_iconst (v := nI (0)) dX7_gatherRowsWith_44 xc0 ?_
    refine xe_istore (L2 := [(0, .ref 74), (1, .ref (156 + 2 * t)), (2, .int (nI (c))), (3, .int (nI (k))), (5, .ref (85 + pr)), (6, .ref (116 + pr)), (7, .int (nI (0)))]) dX7_gatherRowsWith_45 (by decide) rfl ?_
    exact k1 c1
  · refine xe_aload 4 dX7_gatherRowsWith_32 rfl ?_
    refine xe_iload 6 dX7_gatherRowsWith_34 rfl ?_
    refine xe_lconst (v := 0) dX7_gatherRowsWith_36 (by decide) ?_
    refine xr_last (k := i) dX7_gatherRowsWith_37 (shWR _ (by omega)) (by omega) (by omega) (by decide) ?_
    refine xn_iinc (c := 1) (L2 := [(0, .ref 74), (1, .ref (156 + 2 * t)), (2, .int (nI (c))), (3, .int (nI (k))), (5, .ref (85 + pr)), (6, .ref (116 + pr)), (7, .int (nI (i + 1)))]) 6 dX7_gatherRowsWith_38 rfl (by decide) rfl ?_
    refine xe_goto 21 dX7_gatherRowsWith_41 (by decide) ?_
    exact k2 c1

theorem gX7_gatherRowsWith_47 (u : xU) (t c k pr i z n cols j : Nat) (x d : Int32) (y : Int64) {Q : Option Value → xM → Prop} (ht : t < 8) (hk : k < 6) (hpr : pr < 30) (hz : z ≤ 40) (hn : n ≤ 40) (hcols : cols ≤ 3) (hc : c < cols) (hi : i < n) (hj : j ≤ z) (hsp : xC mX7_spotFor [.ref 74, .int (nI k), .int x] (xmm u) (fun r μ' => r = some (.int (nI j)) ∧ μ' = xmm u)) (v1 : u.1 75 k = nI (z)) (v2 : u.1 (156 + 2 * t) 0 = nI (cols)) (v3 : u.1 (156 + 2 * t) 1 = nI (n)) (v4 : u.1 (157 + 2 * t) (i * 3 + c) = x) (v5 : u.1 (77 + k) j = d) (v6 : u.2.1 (85 + pr) j = y)
    (k1 : n ≤ i → Q none (xmm u))
    (k2 : ¬ n ≤ i → z ≤ j → xE mX7_gatherRowsWith 47 [(0, .ref 74), (1, .ref (156 + 2 * t)), (2, .int (nI (c))), (3, .int (nI (k))), (5, .ref (85 + pr)), (6, .ref (116 + pr)), (7, .int (nI (i + 1)))] [] (xmm (wi u (116 + pr) i (-1))) Q)
    (k3 : ¬ n ≤ i → ¬ z ≤ j → ¬ d = x → xE mX7_gatherRowsWith 47 [(0, .ref 74), (1, .ref (156 + 2 * t)), (2, .int (nI (c))), (3, .int (nI (k))), (5, .ref (85 + pr)), (6, .ref (116 + pr)), (7, .int (nI (i + 1)))] [] (xmm (wi u (116 + pr) i (-1))) Q)
    (k4 : ¬ n ≤ i → ¬ z ≤ j → d = x → xE mX7_gatherRowsWith 47 [(0, .ref 74), (1, .ref (156 + 2 * t)), (2, .int (nI (c))), (3, .int (nI (k))), (5, .ref (85 + pr)), (6, .ref (116 + pr)), (7, .int (nI (i + 1)))] [] (xmm (wl (wi u (116 + pr) i (nI (j))) (85 + pr) j (y ||| (1 <<< ((nI (i)).toInt64 &&& 63))))) Q) : xE mX7_gatherRowsWith 47 [(0, .ref 74), (1, .ref (156 + 2 * t)), (2, .int (nI (c))), (3, .int (nI (k))), (5, .ref (85 + pr)), (6, .ref (116 + pr)), (7, .int (nI (i)))] [] (xmm u) Q := by
  refine xe_iload 6 dX7_gatherRowsWith_47 rfl ?_
  refine xe_aload_n 1 dX7_gatherRowsWith_49 rfl rfl ?_
  refine xr_getI (v := nI (n)) dX7_gatherRowsWith_50 fX7_171 (shT _ (by omega)) (by omega) v3 ?_
  refine xn_icmp_ge 145 dX7_gatherRowsWith_53 (by decide) (by omega) (by omega) (fun c1 => ?_) (fun c1 => ?_)
  · exact xe_ret (r := none) dX7_gatherRowsWith_145 trivial (k1 c1)
  · refine xe_aload_n 1 dX7_gatherRowsWith_56 rfl rfl ?_
    refine xe_iload 6 dX7_gatherRowsWith_57 rfl ?_
    refine xe_iload_n 2 dX7_gatherRowsWith_59 rfl rfl ?_
    refine xe_callV (As := [.int (nI (i)), .int (nI (c))]) (rest := []) dX7_gatherRowsWith_60 wX6_cell lX7_185 iX6_cell sX6_cell ⟨by decide, by decide⟩ (shT _ (by omega)) rfl (xin_mm (by omega)) rfl rfl (by simp [Value.category]) (xC.pure (v := .int (x)) (qX6_cellV u t n cols i c x (by omega) (by omega) (by omega) (by omega) (by omega) v2 v3 v4) ?_)
    refine xe_istore (L2 := [(0, .ref 74), (1, .ref (156 + 2 * t)), (2, .int (nI (c))), (3, .int (nI (k))), (5, .ref (85 + pr)), (6, .ref (116 + pr)), (7, .int (nI (i))), (8, .int (x))]) dX7_gatherRowsWith_63 (by decide) rfl ?_
    refine xe_aload_n 0 dX7_gatherRowsWith_65 rfl rfl ?_
    refine xe_iload_n 3 dX7_gatherRowsWith_66 rfl rfl ?_
    refine xe_iload 7 dX7_gatherRowsWith_67 rfl ?_
    refine xe_callV (As := [.int (nI (k)), .int (x)]) (rest := []) dX7_gatherRowsWith_69 wX7_spotFor lX7_191 iX7_spotFor sX7_spotFor ⟨by decide, by decide⟩ sh74 rfl (xin_mm (by decide)) rfl rfl (by simp [Value.category]) (xC.pure (v := .int (nI (j))) (hsp) ?_)
    refine xe_istore (L2 := [(0, .ref 74), (1, .ref (156 + 2 * t)), (2, .int (nI (c))), (3, .int (nI (k))), (5, .ref (85 + pr)), (6, .ref (116 + pr)), (7, .int (nI (i))), (8, .int (x)), (9, .int (nI (j)))]) dX7_gatherRowsWith_72 (by decide) rfl ?_
    refine xe_iload 8 dX7_gatherRowsWith_74 rfl ?_
    refine xe_aload_n 0 dX7_gatherRowsWith_76 rfl rfl ?_
    refine xr_getR (b := 75) dX7_gatherRowsWith_77 fX7_9 rfl sh74 (by decide) rfl ?_
    refine xe_iload_n 3 dX7_gatherRowsWith_80 rfl rfl ?_
    refine xr_iald (k := k) (v := nI (z)) dX7_gatherRowsWith_81 sh75 (by decide) (by omega) (by decide) v1 ?_
    refine xn_icmp_ge 103 dX7_gatherRowsWith_82 (by decide) (by omega) (by omega) (fun c2 => ?_) (fun c2 => ?_)
    · refine xe_iconst (v := nI (0)) dX7_gatherRowsWith_103 xc0 ?_
      refine xe_istore (L2 := [(0, .ref 74), (1, .ref (156 + 2 * t)), (2, .int (nI (c))), (3, .int (nI (k))), (5, .ref (85 + pr)), (6, .ref (116 + pr)), (7, .int (nI (i))), (8, .int (x)), (9, .int (nI (j))), (10, .int (nI (0)))]) dX7_gatherRowsWith_104 (by decide) rfl ?_
      refine xe_aload 5 dX7_gatherRowsWith_106 rfl ?_
      refine xe_iload 6 dX7_gatherRowsWith_108 rfl ?_
      refine xe_iload 9 dX7_gatherRowsWith_110 rfl ?_
      refine xn_if_eq 120 dX7_gatherRowsWith_112 (by decide) (by omega) (fun _ => ?_) (fun q => absurd q (by decide))
      refine xe_iconst (v := -1) dX7_gatherRowsWith_120 xcm1 ?_
      refine xr_iast (k := i) dX7_gatherRowsWith_121 (shWS _ (by omega)) (by omega) (by omega) (by decide) ?_
      refine xe_iload 9 dX7_gatherRowsWith_122 rfl ?_
      refine xn_if_eq 139 dX7_gatherRowsWith_124 (by decide) (by omega) (fun _ => ?_) (fun q => absurd q (by decide))
      refine xn_iinc (c := 1) (L2 := [(0, .ref 74), (1, .ref (156 + 2 * t)), (2, .int (nI (c))), (3, .int (nI (k))), (5, .ref (85 + pr)), (6, .ref (116 + pr)), (7, .int (nI (i + 1))), (8, .int (x)), (9, .int (nI (j))), (10, .int (nI (0)))]) 6 dX7_gatherRowsWith_139 rfl (by decide) rfl ?_
      refine xe_goto 47 dX7_gatherRowsWith_142 (by decide) ?_
      refine xE.sub [0, 1, 2, 3, 4, 5, 6] rfl ?_
      exact k2 c1 c2
    · refine xe_aload_n 0 dX7_gatherRowsWith_85 rfl rfl ?_
      refine xr_getR (b := 76) dX7_gatherRowsWith_86 fX7_17 rfl sh74 (by decide) rfl ?_
      refine xe_iload_n 3 dX7_gatherRowsWith_89 rfl rfl ?_
      refine xr_aald (k := k) (b := (77 + k)) dX7_gatherRowsWith_90 sh76 (by decide) (by decide) (by decide) (by omega) (by decide) (rWD (by omega)) ?_
      refine xe_iload 8 dX7_gatherRowsWith_91 rfl ?_
      refine xr_iald (k := j) (v := d) dX7_gatherRowsWith_93 (shWD _ (by omega)) (by omega) (by omega) (by decide) v5 ?_
      refine xe_iload 7 dX7_gatherRowsWith_94 rfl ?_
      refine xe_icmp_ne 103 dX7_gatherRowsWith_96 (by decide) (fun c3 => ?_) (fun c3 => ?_)
      · refine xe_iconst (v := nI (0)) dX7_gatherRowsWith_103 xc0 ?_
        refine xe_istore (L2 := [(0, .ref 74), (1, .ref (156 + 2 * t)), (2, .int (nI (c))), (3, .int (nI (k))), (5, .ref (85 + pr)), (6, .ref (116 + pr)), (7, .int (nI (i))), (8, .int (x)), (9, .int (nI (j))), (10, .int (nI (0)))]) dX7_gatherRowsWith_104 (by decide) rfl ?_
        refine xe_aload 5 dX7_gatherRowsWith_106 rfl ?_
        refine xe_iload 6 dX7_gatherRowsWith_108 rfl ?_
        refine xe_iload 9 dX7_gatherRowsWith_110 rfl ?_
        refine xn_if_eq 120 dX7_gatherRowsWith_112 (by decide) (by omega) (fun _ => ?_) (fun q => absurd q (by decide))
        refine xe_iconst (v := -1) dX7_gatherRowsWith_120 xcm1 ?_
        refine xr_iast (k := i) dX7_gatherRowsWith_121 (shWS _ (by omega)) (by omega) (by omega) (by decide) ?_
        refine xe_iload 9 dX7_gatherRowsWith_122 rfl ?_
        refine xn_if_eq 139 dX7_gatherRowsWith_124 (by decide) (by omega) (fun _ => ?_) (fun q => absurd q (by decide))
        refine xn_iinc (c := 1) (L2 := [(0, .ref 74), (1, .ref (156 + 2 * t)), (2, .int (nI (c))), (3, .int (nI (k))), (5, .ref (85 + pr)), (6, .ref (116 + pr)), (7, .int (nI (i + 1))), (8, .int (x)), (9, .int (nI (j))), (10, .int (nI (0)))]) 6 dX7_gatherRowsWith_139 rfl (by decide) rfl ?_
        refine xe_goto 47 dX7_gatherRowsWith_142 (by decide) ?_
        refine xE.sub [0, 1, 2, 3, 4, 5, 6] rfl ?_
        exact k3 c1 c2 c3
      · refine xe_iconst (v := nI (1)) dX7_gatherRowsWith_99 xc1 ?_
        refine xe_goto 104 dX7_gatherRowsWith_100 (by decide) ?_
        refine xe_istore (L2 := [(0, .ref 74), (1, .ref (156 + 2 * t)), (2, .int (nI (c))), (3, .int (nI (k))), (5, .ref (85 + pr)), (6, .ref (116 + pr)), (7, .int (nI (i))), (8, .int (x)), (9, .int (nI (j))), (10, .int (nI (1)))]) dX7_gatherRowsWith_104 (by decide) rfl ?_
        refine xe_aload 5 dX7_gatherRowsWith_106 rfl ?_
        refine xe_iload 6 dX7_gatherRowsWith_108 rfl ?_
        refine xe_iload 9 dX7_gatherRowsWith_110 rfl ?_
        refine xn_if_eq 120 dX7_gatherRowsWith_112 (by decide) (by omega) (fun q => absurd q (by decide)) (fun _ => ?_)
        refine xe_iload 8 dX7_gatherRowsWith_115 rfl ?_
        refine xe_goto 121 dX7_gatherRowsWith_117 (by decide) ?_
        refine xr_iast (k := i) dX7_gatherRowsWith_121 (shWS _ (by omega)) (by omega) (by omega) (by decide) ?_
        refine xe_iload 9 dX7_gatherRowsWith_122 rfl ?_
        refine xn_if_eq 139 dX7_gatherRowsWith_124 (by decide) (by omega) (fun q => absurd q (by decide)) (fun _ => ?_)
        refine xe_aload 4 dX7_gatherRowsWith_127 rfl ?_
        refine xe_iload 8 dX7_gatherRowsWith_129 rfl ?_
        refine xe_dup2 dX7_gatherRowsWith_131 rfl rfl ?_
        refine xr_lald (k := j) (v := y) dX7_gatherRowsWith_132 (shWR _ (by omega)) (by omega) (by omega) (by decide) (wi_l.trans v6) ?_
        refine xe_lconst (v := 1) dX7_gatherRowsWith_133 (by decide) ?_
        refine xe_iload 6 dX7_gatherRowsWith_134 rfl ?_
        refine xe_lshl dX7_gatherRowsWith_136 ?_
        refine xe_lor dX7_gatherRowsWith_137 ?_
        refine xr_last (k := j) dX7_gatherRowsWith_138 (shWR _ (by omega)) (by omega) (by omega) (by decide) ?_
        refine xn_iinc (c := 1) (L2 := [(0, .ref 74), (1, .ref (156 + 2 * t)), (2, .int (nI (c))), (3, .int (nI (k))), (5, .ref (85 + pr)), (6, .ref (116 + pr)), (7, .int (nI (i + 1))), (8, .int (x)), (9, .int (nI (j))), (10, .int (nI (1)))]) 6 dX7_gatherRowsWith_139 rfl (by decide) rfl ?_
        refine xe_goto 47 dX7_gatherRowsWith_142 (by decide) ?_
        refine xE.sub [0, 1, 2, 3, 4, 5, 6] rfl ?_
        exact k4 c1 c2 c3

theorem gX7_gatherRowsWith_e (u : xU) (t c k pr i n : Nat) {Q : Option Value → xM → Prop} (ht : t < 8) (hk : k < 6) (hpr : pr < 30) (hn : n ≤ 40) (hi : i = n) (v1 : u.1 (156 + 2 * t) 1 = nI (n))
    (k1 : n ≤ i → Q none (xmm u))
    (k2 : ¬ n ≤ i → xC mX6_cell [.ref (156 + 2 * t), .int (nI (i)), .int (nI (c))] (xmm u) (fun r μ1 => xE mX7_gatherRowsWith 63 [(0, .ref 74), (1, .ref (156 + 2 * t)), (2, .int (nI (c))), (3, .int (nI (k))), (5, .ref (85 + pr)), (6, .ref (116 + pr)), (7, .int (nI (i)))] (r.toList ++ []) μ1 Q)) : xE mX7_gatherRowsWith 47 [(0, .ref 74), (1, .ref (156 + 2 * t)), (2, .int (nI (c))), (3, .int (nI (k))), (5, .ref (85 + pr)), (6, .ref (116 + pr)), (7, .int (nI (i)))] [] (xmm u) Q := by
  refine xe_iload 6 dX7_gatherRowsWith_47 rfl ?_
  refine xe_aload_n 1 dX7_gatherRowsWith_49 rfl rfl ?_
  refine xr_getI (v := nI (n)) dX7_gatherRowsWith_50 fX7_171 (shT _ (by omega)) (by omega) v1 ?_
  refine xn_icmp_ge 145 dX7_gatherRowsWith_53 (by decide) (by omega) (by omega) (fun c1 => ?_) (fun c1 => ?_)
  · exact xe_ret (r := none) dX7_gatherRowsWith_145 trivial (k1 c1)
  · refine xe_aload_n 1 dX7_gatherRowsWith_56 rfl rfl ?_
    refine xe_iload 6 dX7_gatherRowsWith_57 rfl ?_
    refine xe_iload_n 2 dX7_gatherRowsWith_59 rfl rfl ?_
    refine xe_callV (As := [.int (nI (i)), .int (nI (c))]) (rest := []) dX7_gatherRowsWith_60 wX6_cell lX7_185 iX6_cell sX6_cell ⟨by decide, by decide⟩ (shT _ (by omega)) rfl (xin_mm (by omega)) rfl rfl (by simp [Value.category]) ?_
    exact k2 c1

/-- the rows with each value of a column, and each row's spot -/
def RW (T : TBL) (Q : QST) (p c z : Nat) (D : Nat → Int32) (pr : Nat) (u : xU) : Prop := (∀ s, s < z → ∃ m, u.2.1 (85 + pr) s = nL m ∧ BO (fun r => cel T Q p r c = D s) (rwN T Q p) m) ∧ ∀ r, r < rwN T Q p → (∃ s, s < z ∧ D s = cel T Q p r c ∧ u.1 (116 + pr) r = nI s) ∨ ((∀ s, s < z → D s ≠ cel T Q p r c) ∧ u.1 (116 + pr) r = -1)
def frW (pr : Nat) (u u' : xU) : Prop := (∀ x, x ≠ 116 + pr → u'.1 x = u.1 x) ∧ (∀ x, x ≠ 85 + pr → u'.2.1 x = u.2.1 x) ∧ u'.2.2 = u.2.2
theorem frW.rf {pr : Nat} {u : xU} : frW pr u u := ⟨fun _ _ => rfl, fun _ _ => rfl, rfl⟩
theorem frW.tr {pr : Nat} {u v w : xU} (a : frW pr u v) (b : frW pr v w) : frW pr u w := ⟨fun x h1 => (b.1 x h1).trans (a.1 x h1), fun x h1 => (b.2.1 x h1).trans (a.2.1 x h1), b.2.2.trans a.2.2⟩
theorem CT.W {T : TBL} {pr : Nat} {u u' : xU} (hk : pr < 30) (h : CT T u) (f : frW pr u u') : CT T u' := h.keep (fun x a b => f.1 x (by omega))
theorem DSp.W {k z pr : Nat} {D : Nat → Int32} {u u' : xU} (hk : k < 6) (h : DSp k z D u) (f : frW pr u u') : DSp k z D u' := by
  unfold DSp at *
  rw [f.1 75 (by omega), f.1 (77 + k) (by omega)]
  exact h
theorem qX7_gatherRowsWith {u : xU} {T : TBL} {Q : QST} (hT : TI T) (hQ : QI T Q) (hC : CT T u) {p c k z pr : Nat} {D : Nat → Int32} (hp : p < qP Q) (hkd : qK Q p ≤ 1) (hc : c < qL Q p) (hk : k < 6) (hpr : pr < 30) (hD : DO z D) (hs : DSp k z D u) : xC mX7_gatherRowsWith [.ref 74, .ref (156 + 2 * qOf Q p), .int (nI c), .int (nI k), .int (nI pr)] (xmm u) (fun r μ' => ∃ u', μ' = xmm u' ∧ r = none ∧ RW T Q p c z D pr u' ∧ frW pr u u') := by
  obtain ⟨o1, o2, o3⟩ := (hQ.2.2.2.2.1 _ hp).2.1 hkd
  obtain ⟨i1, i2, -⟩ := hT _ o1
  have hz := hD.1
  refine xC.of xpl7 (Nat.le_of_ble_eq_true rfl) (gX7_gatherRowsWith_0 u (qOf Q p) c k pr o1 hk hpr ?_)
  have rows : ∀ d i v, rwN T Q p - i = d → i ≤ rwN T Q p → frW pr u v → (∀ s, s < z → ∃ m, v.2.1 (85 + pr) s = nL m ∧ BO (fun r => cel T Q p r c = D s) i m) → (∀ r, r < i → (∃ s, s < z ∧ D s = cel T Q p r c ∧ v.1 (116 + pr) r = nI s) ∨ ((∀ s, s < z → D s ≠ cel T Q p r c) ∧ v.1 (116 + pr) r = -1)) → xE mX7_gatherRowsWith 47 [(0, .ref 74), (1, .ref (156 + 2 * qOf Q p)), (2, .int (nI c)), (3, .int (nI k)), (5, .ref (85 + pr)), (6, .ref (116 + pr)), (7, .int (nI i))] [] (xmm v) (fun r μ' => ∃ u', μ' = xmm u' ∧ r = none ∧ RW T Q p c z D pr u' ∧ frW pr u u') := by
    intro d
    induction d with
    | zero =>
      intro i v hd hi f h1 h2
      obtain ⟨g1, g2, g3⟩ := hC.W hpr f _ o1
      have hie : i = rwN T Q p := by omega
      exact gX7_gatherRowsWith_e v (qOf Q p) c k pr i (T.2.1 (qOf Q p)) o1 hk hpr i2 hie g2 (fun _ => ⟨v, rfl, rfl, ⟨by rw [← hie]; exact h1, by rw [← hie]; exact h2⟩, f⟩) (fun q => absurd (Nat.le_of_eq hie.symm) q)
    | succ d ih =>
      intro i v hd hi f h1 h2
      obtain ⟨g1, g2, g3⟩ := hC.W hpr f _ o1
      have hil : i < rwN T Q p := by omega
      have hil' : i < T.2.1 (qOf Q p) := hil
      have hsv := hs.W hk f
      have hle : sptF D z (cel T Q p i c) ≤ z := fstB_le
      have hsp := qX7_spotFor hk hD hsv (cel T Q p i c)
      have cv : v.1 (157 + 2 * qOf Q p) (i * 3 + c) = cel T Q p i c := g3 i c hil' (by omega)
      have lo := sptF_lo (D := D) (z := z) (v := cel T Q p i c)
      have hi' := sptF_hi (v := cel T Q p i c) hD
      -- a value that the name has not
      have unk : (∀ s, s < z → D s ≠ cel T Q p i c) → xE mX7_gatherRowsWith 47 [(0, .ref 74), (1, .ref (156 + 2 * qOf Q p)), (2, .int (nI c)), (3, .int (nI k)), (5, .ref (85 + pr)), (6, .ref (116 + pr)), (7, .int (nI (i + 1)))] [] (xmm (wi v (116 + pr) i (-1))) (fun r μ' => ∃ u', μ' = xmm u' ∧ r = none ∧ RW T Q p c z D pr u' ∧ frW pr u u') := fun hn => by
        refine ih (i + 1) _ (by omega) hil (f.tr ⟨fun x hx => wi_row hx, fun _ _ => rfl, rfl⟩) (fun s hsz => ?_) (fun r hr => ?_)
        · obtain ⟨m, m1, m2⟩ := h1 s hsz
          exact ⟨m, m1, BO_f m2 (fun e => hn s hsz e.symm)⟩
        · by_cases e : r = i
          · subst e
            exact Or.inr ⟨hn, wi_self⟩
          · rw [wi_nek e]
            exact h2 r (by omega)
      by_cases hsz : sptF D z (cel T Q p i c) < z
      · obtain ⟨m, m1, m2⟩ := h1 _ hsz
        have unq : ∀ s, s < z → D s = cel T Q p i c → s = sptF D z (cel T Q p i c) := fun s hs' e => by
          rw [← e, sptF_hit hD hs']
        refine gX7_gatherRowsWith_47 v (qOf Q p) c k pr i z (T.2.1 (qOf Q p)) (T.1 (qOf Q p)) (sptF D z (cel T Q p i c)) _ (D (sptF D z (cel T Q p i c))) (nL m) o1 hk hpr hz i2 i1 (by omega) hil' hle hsp hsv.1 g1 g2 cv (hsv.2 _ hsz) m1 (fun q => by omega) (fun _ q => by omega) (fun _ _ q => unk (fun s hs' e => q (by rw [← unq s hs' e]; exact e))) (fun _ _ q => ?_)
        have hm := m2.1
        have h40 : 2 ^ i ≤ 2 ^ 40 := Nat.pow_le_pow_right (by decide) (by omega)
        rw [one_shl (by omega), nL_or (by omega) (by omega)]
        refine ih (i + 1) _ (by omega) hil (f.tr ⟨fun x hx => wi_row hx, fun x hx => wl_row hx, rfl⟩) (fun s hs' => ?_) (fun r hr => ?_)
        · by_cases e : s = sptF D z (cel T Q p i c)
          · rw [e]
            exact ⟨m ||| 2 ^ i, wl_self, BO_t m2 q.symm⟩
          · obtain ⟨m', m1', m2'⟩ := h1 s hs'
            exact ⟨m', by rw [wl_nek e]; exact m1', BO_f m2' (fun y => e (unq s hs' y.symm))⟩
        · by_cases e : r = i
          · subst e
            exact Or.inl ⟨_, hsz, q, wi_self⟩
          · have e2 : (wl (wi v (116 + pr) i (nI (sptF D z (cel T Q p i c)))) (85 + pr) (sptF D z (cel T Q p i c)) (nL (m ||| 2 ^ i))).1 (116 + pr) r = v.1 (116 + pr) r := wi_nek e
            rw [e2]
            exact h2 r (by omega)
      · refine gX7_gatherRowsWith_47 v (qOf Q p) c k pr i z (T.2.1 (qOf Q p)) (T.1 (qOf Q p)) (sptF D z (cel T Q p i c)) _ _ _ o1 hk hpr hz i2 i1 (by omega) hil' hle hsp hsv.1 g1 g2 cv rfl rfl (fun q => by omega) (fun _ _ => unk (fun s hs' e => ?_)) (fun _ q => absurd (by omega) q) (fun _ q => absurd (by omega) q)
        have := lo s (by omega)
        rw [e] at this
        omega
  have clear : ∀ d i v, z - i = d → i ≤ z → frW pr u v → (∀ s, s < i → v.2.1 (85 + pr) s = nL 0) → xE mX7_gatherRowsWith 21 [(0, .ref 74), (1, .ref (156 + 2 * qOf Q p)), (2, .int (nI c)), (3, .int (nI k)), (5, .ref (85 + pr)), (6, .ref (116 + pr)), (7, .int (nI i))] [] (xmm v) (fun r μ' => ∃ u', μ' = xmm u' ∧ r = none ∧ RW T Q p c z D pr u' ∧ frW pr u u') := by
    intro d
    induction d with
    | zero =>
      intro i v hd hi f h0
      refine gX7_gatherRowsWith_21 v (qOf Q p) c k pr i z o1 hk hpr hz hi (hs.W hk f).1 (fun _ => ?_) (fun q => by omega)
      exact rows _ 0 v rfl (Nat.zero_le _) f (fun s hs' => ⟨0, h0 s (by omega), BO_zero⟩) (fun r hr => absurd hr (Nat.not_lt_zero r))
    | succ d ih =>
      intro i v hd hi f h0
      refine gX7_gatherRowsWith_21 v (qOf Q p) c k pr i z o1 hk hpr hz hi (hs.W hk f).1 (fun q => by omega) (fun _ => ?_)
      refine ih (i + 1) _ (by omega) (by omega) (f.tr ⟨fun _ _ => rfl, fun x hx => wl_row hx, rfl⟩) (fun s hs' => ?_)
      by_cases e : s = i
      · subst e; exact wl_self
      · rw [wl_nek e]; exact h0 s (by omega)
  exact clear _ 0 u rfl (Nat.zero_le _) frW.rf (fun s hs' => absurd hs' (Nat.not_lt_zero s))

