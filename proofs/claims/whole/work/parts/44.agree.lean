/-- the spot of a name in a meeting -/
def spN (m k : Nat) : Nat := m / 2 ^ ((5 - k) * 6) % 64
theorem spN_lt (m k : Nat) : spN m k < 64 := Nat.mod_lt _ (by decide)
theorem qX9_shift (u : xU) {k : Nat} (hk : k < 6) : xC mX9_shift [.int (nI k)] (xmm u) (fun r μ' => r = some (.int (nI ((5 - k) * 6))) ∧ μ' = xmm u) := xC.of xpl9 (Nat.le_of_ble_eq_true rfl) (gX9_shift_0 u k hk ⟨rfl, rfl⟩)
theorem qX9_spotIn (u : xU) {m k : Nat} (hk : k < 6) (hm : m < 2 ^ 36) : xC mX9_spotIn [.long (nL m), .int (nI k)] (xmm u) (fun r μ' => r = some (.int (nI (spN m k))) ∧ μ' = xmm u) := by
  refine xC.of xpl9 (Nat.le_of_ble_eq_true rfl) (gX9_spotIn_0 u k _ hk (qX9_shift u hk) ?_)
  rw [nL_ushr (by omega) (by omega), nL_l2i, and63]
  exact ⟨rfl, rfl⟩
theorem spN_inj {m m' : Nat} (hm : m < 2 ^ 36) (hm' : m' < 2 ^ 36) (h : ∀ k, k < 6 → spN m k = spN m' k) : m = m' := by
  have h0 := h 0 (by decide)
  have h1 := h 1 (by decide)
  have h2 := h 2 (by decide)
  have h3 := h 3 (by decide)
  have h4 := h 4 (by decide)
  have h5 := h 5 (by decide)
  unfold spN at h0 h1 h2 h3 h4 h5
  simp only [Nat.reduceSub, Nat.reduceMul, Nat.reducePow] at h0 h1 h2 h3 h4 h5
  omega
/-- the order of meetings is that of their spots, name by name -/
theorem spN_lex {m m' k : Nat} (hm : m < 2 ^ 36) (hm' : m' < 2 ^ 36) (hk : k < 6) (h : ∀ j, j < k → spN m j = spN m' j) (hl : spN m k < spN m' k) : m < m' := by
  rcases (show k = 0 ∨ k = 1 ∨ k = 2 ∨ k = 3 ∨ k = 4 ∨ k = 5 by omega) with rfl | rfl | rfl | rfl | rfl | rfl
  · unfold spN at hl
    simp only [Nat.reduceSub, Nat.reduceMul, Nat.reducePow] at hl
    omega
  · have h0 := h 0 (by decide)
    unfold spN at hl h0
    simp only [Nat.reduceSub, Nat.reduceMul, Nat.reducePow] at hl h0
    omega
  · have h0 := h 0 (by decide)
    have h1 := h 1 (by decide)
    unfold spN at hl h0 h1
    simp only [Nat.reduceSub, Nat.reduceMul, Nat.reducePow] at hl h0 h1
    omega
  · have h0 := h 0 (by decide)
    have h1 := h 1 (by decide)
    have h2 := h 2 (by decide)
    unfold spN at hl h0 h1 h2
    simp only [Nat.reduceSub, Nat.reduceMul, Nat.reducePow] at hl h0 h1 h2
    omega
  · have h0 := h 0 (by decide)
    have h1 := h 1 (by decide)
    have h2 := h 2 (by decide)
    have h3 := h 3 (by decide)
    unfold spN at hl h0 h1 h2 h3
    simp only [Nat.reduceSub, Nat.reduceMul, Nat.reducePow] at hl h0 h1 h2 h3
    omega
  · have h0 := h 0 (by decide)
    have h1 := h 1 (by decide)
    have h2 := h 2 (by decide)
    have h3 := h 3 (by decide)
    have h4 := h 4 (by decide)
    unfold spN at hl h0 h1 h2 h3 h4
    simp only [Nat.reduceSub, Nat.reduceMul, Nat.reducePow] at hl h0 h1 h2 h3 h4
    omega

theorem gX7_agree_0 (u : xU) (seen : Nat) (x : Int64) {Q : Option Value → xM → Prop}  
    (k1 : xE mX7_agree 3 [(0, .ref 74), (1, .ref 3), (2, .long (x)), (4, .int (nI (seen))), (5, .int (nI (0)))] [] (xmm u) Q) : xE mX7_agree 0 [(0, .ref 74), (1, .ref 3), (2, .long (x)), (4, .int (nI (seen)))] [] (xmm u) Q := by
  refine xe_iconst (v := nI (0)) dX7_agree_0 xc0 ?_
  refine xe_istore (L2 := [(0, .ref 74), (1, .ref 3), (2, .long (x)), (4, .int (nI (seen))), (5, .int (nI (0)))]) dX7_agree_1 (by decide) rfl ?_
  exact k1

theorem gX7_agree_3 (u : xU) (nn n seen k sp : Nat) (x : Int64) {Q : Option Value → xM → Prop} (hnn : nn ≤ 6) (hn : n ≤ 10) (hk : k < nn) (hsp : sp < 64) (hsi : xC mX9_spotIn [.long x, .int (nI k)] (xmm u) (fun r μ' => r = some (.int (nI sp)) ∧ μ' = xmm u)) (v1 : u.1 3 0 = nI (nn)) (v2 : u.1 3 1 = nI (n))
    (k1 : nn ≤ k → xE mX7_agree 56 [(0, .ref 74), (1, .ref 3), (4, .int (nI (seen))), (5, .int (nI (0)))] [] (xmm u) Q)
    (k2 : ¬ nn ≤ k → xE mX7_agree 3 [(0, .ref 74), (1, .ref 3), (2, .long (x)), (4, .int (nI (seen))), (5, .int (nI (k + 1)))] [] (xmm (wi (wi u 150 k (nI (sp))) 151 k (u.1 (77 + k) sp))) Q) : xE mX7_agree 3 [(0, .ref 74), (1, .ref 3), (2, .long (x)), (4, .int (nI (seen))), (5, .int (nI (k)))] [] (xmm u) Q := by
  refine xe_iload 4 dX7_agree_3 rfl ?_
  refine xe_aload_n 1 dX7_agree_5 rfl rfl ?_
  refine xr_getI (v := nI (nn)) dX7_agree_6 fX7_85 sh3 (by decide) v1 ?_
  refine xn_icmp_ge 53 dX7_agree_9 (by decide) (by omega) (by omega) (fun c1 => ?_) (fun c1 => ?_)
  · refine xe_iconst (v := nI (0)) dX7_agree_53 xc0 ?_
    refine xe_istore (L2 := [(0, .ref 74), (1, .ref 3), (2, .long (x)), (4, .int (nI (seen))), (5, .int (nI (0)))]) dX7_agree_54 (by decide) rfl ?_
    refine xE.sub [0, 1, 3, 4] rfl ?_
    exact k1 c1
  · refine xe_aload_n 0 dX7_agree_12 rfl rfl ?_
    refine xr_getR (b := 150) dX7_agree_13 fX7_38 rfl sh74 (by decide) rfl ?_
    refine xe_iload 4 dX7_agree_16 rfl ?_
    refine xe_lload_n 2 dX7_agree_18 rfl rfl ?_
    refine xe_iload 4 dX7_agree_19 rfl ?_
    refine xe_callSN (As := [.long (x), .int (nI (k))]) (rest := [.int (nI (k)), .ref 150]) dX7_agree_21 wX9_spotIn lX7_239 tX9_spotIn ⟨by decide, by decide⟩ rfl rfl (by simp [Value.category]) (xC.pure (v := .int (nI (sp))) (hsi) ?_)
    refine xr_iast (k := k) dX7_agree_24 sh150 (by decide) (by omega) (by decide) ?_
    refine xe_aload_n 0 dX7_agree_25 rfl rfl ?_
    refine xr_getR (b := 151) dX7_agree_26 fX7_41 rfl sh74 (by decide) rfl ?_
    refine xe_iload 4 dX7_agree_29 rfl ?_
    refine xe_aload_n 0 dX7_agree_31 rfl rfl ?_
    refine xr_getR (b := 76) dX7_agree_32 fX7_17 rfl sh74 (by decide) rfl ?_
    refine xe_iload 4 dX7_agree_35 rfl ?_
    refine xr_aald (k := k) (b := (77 + k)) dX7_agree_37 sh76 (by decide) (by decide) (by decide) (by omega) (by decide) (rWD (by omega)) ?_
    refine xe_aload_n 0 dX7_agree_38 rfl rfl ?_
    refine xr_getR (b := 150) dX7_agree_39 fX7_38 rfl sh74 (by decide) rfl ?_
    refine xe_iload 4 dX7_agree_42 rfl ?_
    refine xr_iald (k := k) (v := nI (sp)) dX7_agree_44 sh150 (by decide) (by omega) (by decide) wi_self ?_
    refine xr_iald (k := sp) (v := u.1 (77 + k) sp) dX7_agree_45 (shWD _ (by omega)) (by omega) (by omega) (by decide) ((wi_ne (by omega))) ?_
    refine xr_iast (k := k) dX7_agree_46 sh151 (by decide) (by omega) (by decide) ?_
    refine xn_iinc (c := 1) (L2 := [(0, .ref 74), (1, .ref 3), (2, .long (x)), (4, .int (nI (seen))), (5, .int (nI (k + 1)))]) 4 dX7_agree_47 rfl (by decide) rfl ?_
    refine xe_goto 3 dX7_agree_50 (by decide) ?_
    exact k2 c1

theorem gX7_agree_e (u : xU) (nn n seen k : Nat) (x : Int64) {Q : Option Value → xM → Prop} (hnn : nn ≤ 6) (hn : n ≤ 10) (hk : k = nn) (v1 : u.1 3 0 = nI (nn)) (v2 : u.1 3 1 = nI (n))
    (k1 : nn ≤ k → xE mX7_agree 56 [(0, .ref 74), (1, .ref 3), (4, .int (nI (seen))), (5, .int (nI (0)))] [] (xmm u) Q)
    (k2 : ¬ nn ≤ k → xC mX9_spotIn [.long (x), .int (nI (k))] (xmm u) (fun r μ1 => xE mX7_agree 24 [(0, .ref 74), (1, .ref 3), (2, .long (x)), (4, .int (nI (seen))), (5, .int (nI (k)))] (r.toList ++ [.int (nI (k)), .ref 150]) μ1 Q)) : xE mX7_agree 3 [(0, .ref 74), (1, .ref 3), (2, .long (x)), (4, .int (nI (seen))), (5, .int (nI (k)))] [] (xmm u) Q := by
  refine xe_iload 4 dX7_agree_3 rfl ?_
  refine xe_aload_n 1 dX7_agree_5 rfl rfl ?_
  refine xr_getI (v := nI (nn)) dX7_agree_6 fX7_85 sh3 (by decide) v1 ?_
  refine xn_icmp_ge 53 dX7_agree_9 (by decide) (by omega) (by omega) (fun c1 => ?_) (fun c1 => ?_)
  · refine xe_iconst (v := nI (0)) dX7_agree_53 xc0 ?_
    refine xe_istore (L2 := [(0, .ref 74), (1, .ref 3), (2, .long (x)), (4, .int (nI (seen))), (5, .int (nI (0)))]) dX7_agree_54 (by decide) rfl ?_
    refine xE.sub [0, 1, 3, 4] rfl ?_
    exact k1 c1
  · refine xe_aload_n 0 dX7_agree_12 rfl rfl ?_
    refine xr_getR (b := 150) dX7_agree_13 fX7_38 rfl sh74 (by decide) rfl ?_
    refine xe_iload 4 dX7_agree_16 rfl ?_
    refine xe_lload_n 2 dX7_agree_18 rfl rfl ?_
    refine xe_iload 4 dX7_agree_19 rfl ?_
    refine xe_callSN (As := [.long (x), .int (nI (k))]) (rest := [.int (nI (k)), .ref 150]) dX7_agree_21 wX9_spotIn lX7_239 tX9_spotIn ⟨by decide, by decide⟩ rfl rfl (by simp [Value.category]) ?_
    exact k2 c1

theorem gX7_agree_56 (u : xU) (nn n seen p : Nat) (y : Int64) {Q : Option Value → xM → Prop} (hnn : nn ≤ 6) (hn : n ≤ 10) (hp : p ≤ n) (v1 : u.1 3 0 = nI (nn)) (v2 : u.1 3 1 = nI (n)) (v3 : u.2.1 83 p = y)
    (k1 : n ≤ p → Q none (xmm u))
    (k2 : ¬ n ≤ p → xE mX7_agree 86 [(0, .ref 74), (1, .ref 3), (4, .int (nI (seen))), (5, .int (nI (p))), (6, .ref (6 + 4 * p)), (7, .long (y)), (9, .int (nI (0)))] [] (xmm u) Q) : xE mX7_agree 56 [(0, .ref 74), (1, .ref 3), (4, .int (nI (seen))), (5, .int (nI (p)))] [] (xmm u) Q := by
  refine xe_iload 3 dX7_agree_56 rfl ?_
  refine xe_aload_n 1 dX7_agree_58 rfl rfl ?_
  refine xr_getI (v := nI (n)) dX7_agree_59 fX7_56 sh3 (by decide) v2 ?_
  refine xn_icmp_ge 176 dX7_agree_62 (by decide) (by omega) (by omega) (fun c1 => ?_) (fun c1 => ?_)
  · exact xe_ret (r := none) dX7_agree_176 trivial (k1 c1)
  · refine xe_aload_n 1 dX7_agree_65 rfl rfl ?_
    refine xr_getR (b := 4) dX7_agree_66 fX7_62 rfl sh3 (by decide) rfl ?_
    refine xe_iload 3 dX7_agree_69 rfl ?_
    refine xr_aald (k := p) (b := (6 + 4 * p)) dX7_agree_71 sh4 (by decide) (by decide) (by decide) (by omega) (by decide) (rParts (by omega)) ?_
    refine xe_astore (L2 := [(0, .ref 74), (1, .ref 3), (4, .int (nI (seen))), (5, .int (nI (p))), (6, .ref (6 + 4 * p))]) dX7_agree_72 (by decide) rfl ?_
    refine xe_aload_n 0 dX7_agree_74 rfl rfl ?_
    refine xr_getR (b := 83) dX7_agree_75 fX7_20 rfl sh74 (by decide) rfl ?_
    refine xe_iload 3 dX7_agree_78 rfl ?_
    refine xr_lald (k := p) (v := y) dX7_agree_80 sh83 (by decide) (by omega) (by decide) v3 ?_
    refine xe_lstore (L2 := [(0, .ref 74), (1, .ref 3), (4, .int (nI (seen))), (5, .int (nI (p))), (6, .ref (6 + 4 * p)), (7, .long (y))]) dX7_agree_81 (by decide) rfl ?_
    refine xe_iconst (v := nI (0)) dX7_agree_83 xc0 ?_
    refine xe_istore (L2 := [(0, .ref 74), (1, .ref 3), (4, .int (nI (seen))), (5, .int (nI (p))), (6, .ref (6 + 4 * p)), (7, .long (y)), (9, .int (nI (0)))]) dX7_agree_84 (by decide) rfl ?_
    exact k2 c1

theorem gX7_agree_s (u : xU) (seen p c kd l k sp : Nat) (y z : Int64) {Q : Option Value → xM → Prop} (hp : p < 10) (hkd : kd ≤ 3) (hl : l ≤ 3) (hc : c < l) (hk : k < 6) (hsp : sp < 64) (hpi : xC mX7_pair [.int (nI p), .int (nI c)] (xmm u) (fun r μ' => r = some (.int (nI (p * 3 + c))) ∧ μ' = xmm u)) (v1 : u.1 (6 + 4 * p) 0 = nI (kd)) (v2 : u.1 (6 + 4 * p) 2 = nI (l)) (v3 : u.1 (7 + 4 * p) c = nI (k)) (v4 : u.1 150 k = nI (sp)) (v5 : u.2.1 (85 + (p * 3 + c)) sp = z)
    (k1 : ¬ (kd ≤ 1) → xE mX7_agree 56 [(0, .ref 74), (1, .ref 3), (4, .int (nI (seen))), (5, .int (nI (p + 1)))] [] (xmm (wl u 152 p (y))) Q)
    (k2 : kd ≤ 1 → l ≤ c → xE mX7_agree 56 [(0, .ref 74), (1, .ref 3), (4, .int (nI (seen))), (5, .int (nI (p + 1)))] [] (xmm (wl u 152 p (y))) Q)
    (k3 : kd ≤ 1 → ¬ l ≤ c → (nI (k)) = (-1) → xE mX7_agree 86 [(0, .ref 74), (1, .ref 3), (4, .int (nI (seen))), (5, .int (nI (p))), (6, .ref (6 + 4 * p)), (7, .long (y)), (9, .int (nI (c + 1)))] [] (xmm u) Q)
    (k4 : kd ≤ 1 → ¬ l ≤ c → ¬ (nI (k)) = (-1) → (((nI (seen)) >>> ((nI (k)) &&& 31)) &&& 1) = 0 → xE mX7_agree 86 [(0, .ref 74), (1, .ref 3), (4, .int (nI (seen))), (5, .int (nI (p))), (6, .ref (6 + 4 * p)), (7, .long (y)), (9, .int (nI (c + 1)))] [] (xmm u) Q)
    (k5 : kd ≤ 1 → ¬ l ≤ c → ¬ (nI (k)) = (-1) → ¬ (((nI (seen)) >>> ((nI (k)) &&& 31)) &&& 1) = 0 → xE mX7_agree 86 [(0, .ref 74), (1, .ref 3), (4, .int (nI (seen))), (5, .int (nI (p))), (6, .ref (6 + 4 * p)), (7, .long (y &&& z)), (9, .int (nI (c + 1)))] [] (xmm u) Q) : xE mX7_agree 86 [(0, .ref 74), (1, .ref 3), (4, .int (nI (seen))), (5, .int (nI (p))), (6, .ref (6 + 4 * p)), (7, .long (y)), (9, .int (nI (c)))] [] (xmm u) Q := by
  refine xe_aload 4 dX7_agree_86 rfl ?_
  refine xe_callV (As := []) (rest := []) dX7_agree_88 wX3_isFact lX7_66 iX3_isFact sX3_isFact ⟨by decide, by decide⟩ (shP _ (by omega)) rfl (xin_mm (by omega)) rfl rfl (by simp [Value.category]) (xC.pure (v := .int (xb (kd ≤ 1))) (qX3_isFact u p kd (by omega) (by omega) v1) ?_)
  refine xb_if_eq 161 dX7_agree_91 (by decide) (fun c1 => ?_) (fun c1 => ?_)
  · refine xe_aload_n 0 dX7_agree_161 rfl rfl ?_
    refine xr_getR (b := 152) dX7_agree_162 fX7_44 rfl sh74 (by decide) rfl ?_
    refine xe_iload 3 dX7_agree_165 rfl ?_
    refine xe_lload 5 dX7_agree_167 rfl ?_
    refine xr_last (k := p) dX7_agree_169 sh152 (by decide) (by omega) (by decide) ?_
    refine xn_iinc (c := 1) (L2 := [(0, .ref 74), (1, .ref 3), (4, .int (nI (seen))), (5, .int (nI (p + 1))), (6, .ref (6 + 4 * p)), (7, .long (y)), (9, .int (nI (c)))]) 3 dX7_agree_170 rfl (by decide) rfl ?_
    refine xe_goto 56 dX7_agree_173 (by decide) ?_
    refine xE.sub [0, 1, 2, 3] rfl ?_
    exact k1 c1
  · refine xe_iload 6 dX7_agree_94 rfl ?_
    refine xe_aload 4 dX7_agree_96 rfl ?_
    refine xr_getI (v := nI (l)) dX7_agree_98 fX7_92 (shP _ (by omega)) (by omega) v2 ?_
    refine xn_icmp_ge 161 dX7_agree_101 (by decide) (by omega) (by omega) (fun c2 => ?_) (fun c2 => ?_)
    · refine xe_aload_n 0 dX7_agree_161 rfl rfl ?_
      refine xr_getR (b := 152) dX7_agree_162 fX7_44 rfl sh74 (by decide) rfl ?_
      refine xe_iload 3 dX7_agree_165 rfl ?_
      refine xe_lload 5 dX7_agree_167 rfl ?_
      refine xr_last (k := p) dX7_agree_169 sh152 (by decide) (by omega) (by decide) ?_
      refine xn_iinc (c := 1) (L2 := [(0, .ref 74), (1, .ref 3), (4, .int (nI (seen))), (5, .int (nI (p + 1))), (6, .ref (6 + 4 * p)), (7, .long (y)), (9, .int (nI (c)))]) 3 dX7_agree_170 rfl (by decide) rfl ?_
      refine xe_goto 56 dX7_agree_173 (by decide) ?_
      refine xE.sub [0, 1, 2, 3] rfl ?_
      exact k2 c1 c2
    · refine xe_aload 4 dX7_agree_104 rfl ?_
      refine xr_getR (b := (7 + 4 * p)) dX7_agree_106 fX7_95 rfl (shP _ (by omega)) (by omega) (rPN (by omega)) ?_
      refine xe_iload 6 dX7_agree_109 rfl ?_
      refine xr_iald (k := c) (v := nI (k)) dX7_agree_111 (shPN _ (by omega)) (by omega) (by omega) (by decide) v3 ?_
      refine xe_istore (L2 := [(0, .ref 74), (1, .ref 3), (4, .int (nI (seen))), (5, .int (nI (p))), (6, .ref (6 + 4 * p)), (7, .long (y)), (9, .int (nI (c))), (10, .int (nI (k)))]) dX7_agree_112 (by decide) rfl ?_
      refine xe_iload 7 dX7_agree_114 rfl ?_
      refine xe_iconst (v := -1) dX7_agree_116 xcm1 ?_
      refine xe_icmp_eq 155 dX7_agree_117 (by decide) (fun c3 => ?_) (fun c3 => ?_)
      · refine xn_iinc (c := 1) (L2 := [(0, .ref 74), (1, .ref 3), (4, .int (nI (seen))), (5, .int (nI (p))), (6, .ref (6 + 4 * p)), (7, .long (y)), (9, .int (nI (c + 1))), (10, .int (nI (k)))]) 6 dX7_agree_155 rfl (by decide) rfl ?_
        refine xe_goto 86 dX7_agree_158 (by decide) ?_
        refine xE.sub [0, 1, 2, 3, 4, 5, 6] rfl ?_
        exact k3 c1 c2 c3
      · refine xe_iload 2 dX7_agree_120 rfl ?_
        refine xe_iload 7 dX7_agree_122 rfl ?_
        refine xe_ishr dX7_agree_124 ?_
        refine xe_iconst (v := nI (1)) dX7_agree_125 xc1 ?_
        refine xe_iand dX7_agree_126 ?_
        refine xe_if_eq 155 dX7_agree_127 (by decide) (fun c4 => ?_) (fun c4 => ?_)
        · refine xn_iinc (c := 1) (L2 := [(0, .ref 74), (1, .ref 3), (4, .int (nI (seen))), (5, .int (nI (p))), (6, .ref (6 + 4 * p)), (7, .long (y)), (9, .int (nI (c + 1))), (10, .int (nI (k)))]) 6 dX7_agree_155 rfl (by decide) rfl ?_
          refine xe_goto 86 dX7_agree_158 (by decide) ?_
          refine xE.sub [0, 1, 2, 3, 4, 5, 6] rfl ?_
          exact k4 c1 c2 c3 c4
        · refine xe_lload 5 dX7_agree_130 rfl ?_
          refine xe_aload_n 0 dX7_agree_132 rfl rfl ?_
          refine xr_getR (b := 84) dX7_agree_133 fX7_26 rfl sh74 (by decide) rfl ?_
          refine xe_iload 3 dX7_agree_136 rfl ?_
          refine xe_iload 6 dX7_agree_138 rfl ?_
          refine xe_callS (As := [.int (nI (p)), .int (nI (c))]) (rest := [.ref 84, .long (y)]) dX7_agree_140 wX7_pair lX7_98 tX7_pair ⟨by decide, by decide⟩ rfl rfl (by simp [Value.category]) (xC.pure (v := .int (nI (p * 3 + c))) (hpi) ?_)
          refine xr_aald (k := p * 3 + c) (b := (85 + (p * 3 + c))) dX7_agree_143 sh84 (by decide) (by decide) (by decide) (by omega) (by decide) (rWR (by omega)) ?_
          refine xe_aload_n 0 dX7_agree_144 rfl rfl ?_
          refine xr_getR (b := 150) dX7_agree_145 fX7_38 rfl sh74 (by decide) rfl ?_
          refine xe_iload 7 dX7_agree_148 rfl ?_
          refine xr_iald (k := k) (v := nI (sp)) dX7_agree_150 sh150 (by decide) (by omega) (by decide) v4 ?_
          refine xr_lald (k := sp) (v := z) dX7_agree_151 (shWR _ (by omega)) (by omega) (by omega) (by decide) v5 ?_
          refine xe_land dX7_agree_152 ?_
          refine xe_lstore (L2 := [(0, .ref 74), (1, .ref 3), (4, .int (nI (seen))), (5, .int (nI (p))), (6, .ref (6 + 4 * p)), (7, .long (y &&& z)), (9, .int (nI (c))), (10, .int (nI (k)))]) dX7_agree_153 (by decide) rfl ?_
          refine xn_iinc (c := 1) (L2 := [(0, .ref 74), (1, .ref 3), (4, .int (nI (seen))), (5, .int (nI (p))), (6, .ref (6 + 4 * p)), (7, .long (y &&& z)), (9, .int (nI (c + 1))), (10, .int (nI (k)))]) 6 dX7_agree_155 rfl (by decide) rfl ?_
          refine xe_goto 86 dX7_agree_158 (by decide) ?_
          refine xE.sub [0, 1, 2, 3, 4, 5, 6] rfl ?_
          exact k5 c1 c2 c3 c4

theorem gX7_agree_n (u : xU) (seen p c kd l : Nat) (y : Int64) {Q : Option Value → xM → Prop} (hp : p < 10) (hkd : kd ≤ 3) (hl : l ≤ 3) (hc : c < l) (v1 : u.1 (6 + 4 * p) 0 = nI (kd)) (v2 : u.1 (6 + 4 * p) 2 = nI (l)) (v3 : u.1 (7 + 4 * p) c = (-1))
    (k1 : ¬ (kd ≤ 1) → xE mX7_agree 56 [(0, .ref 74), (1, .ref 3), (4, .int (nI (seen))), (5, .int (nI (p + 1)))] [] (xmm (wl u 152 p (y))) Q)
    (k2 : kd ≤ 1 → l ≤ c → xE mX7_agree 56 [(0, .ref 74), (1, .ref 3), (4, .int (nI (seen))), (5, .int (nI (p + 1)))] [] (xmm (wl u 152 p (y))) Q)
    (k3 : kd ≤ 1 → ¬ l ≤ c → xE mX7_agree 86 [(0, .ref 74), (1, .ref 3), (4, .int (nI (seen))), (5, .int (nI (p))), (6, .ref (6 + 4 * p)), (7, .long (y)), (9, .int (nI (c + 1)))] [] (xmm u) Q) : xE mX7_agree 86 [(0, .ref 74), (1, .ref 3), (4, .int (nI (seen))), (5, .int (nI (p))), (6, .ref (6 + 4 * p)), (7, .long (y)), (9, .int (nI (c)))] [] (xmm u) Q := by
  refine xe_aload 4 dX7_agree_86 rfl ?_
  refine xe_callV (As := []) (rest := []) dX7_agree_88 wX3_isFact lX7_66 iX3_isFact sX3_isFact ⟨by decide, by decide⟩ (shP _ (by omega)) rfl (xin_mm (by omega)) rfl rfl (by simp [Value.category]) (xC.pure (v := .int (xb (kd ≤ 1))) (qX3_isFact u p kd (by omega) (by omega) v1) ?_)
  refine xb_if_eq 161 dX7_agree_91 (by decide) (fun c1 => ?_) (fun c1 => ?_)
  · refine xe_aload_n 0 dX7_agree_161 rfl rfl ?_
    refine xr_getR (b := 152) dX7_agree_162 fX7_44 rfl sh74 (by decide) rfl ?_
    refine xe_iload 3 dX7_agree_165 rfl ?_
    refine xe_lload 5 dX7_agree_167 rfl ?_
    refine xr_last (k := p) dX7_agree_169 sh152 (by decide) (by omega) (by decide) ?_
    refine xn_iinc (c := 1) (L2 := [(0, .ref 74), (1, .ref 3), (4, .int (nI (seen))), (5, .int (nI (p + 1))), (6, .ref (6 + 4 * p)), (7, .long (y)), (9, .int (nI (c)))]) 3 dX7_agree_170 rfl (by decide) rfl ?_
    refine xe_goto 56 dX7_agree_173 (by decide) ?_
    refine xE.sub [0, 1, 2, 3] rfl ?_
    exact k1 c1
  · refine xe_iload 6 dX7_agree_94 rfl ?_
    refine xe_aload 4 dX7_agree_96 rfl ?_
    refine xr_getI (v := nI (l)) dX7_agree_98 fX7_92 (shP _ (by omega)) (by omega) v2 ?_
    refine xn_icmp_ge 161 dX7_agree_101 (by decide) (by omega) (by omega) (fun c2 => ?_) (fun c2 => ?_)
    · refine xe_aload_n 0 dX7_agree_161 rfl rfl ?_
      refine xr_getR (b := 152) dX7_agree_162 fX7_44 rfl sh74 (by decide) rfl ?_
      refine xe_iload 3 dX7_agree_165 rfl ?_
      refine xe_lload 5 dX7_agree_167 rfl ?_
      refine xr_last (k := p) dX7_agree_169 sh152 (by decide) (by omega) (by decide) ?_
      refine xn_iinc (c := 1) (L2 := [(0, .ref 74), (1, .ref 3), (4, .int (nI (seen))), (5, .int (nI (p + 1))), (6, .ref (6 + 4 * p)), (7, .long (y)), (9, .int (nI (c)))]) 3 dX7_agree_170 rfl (by decide) rfl ?_
      refine xe_goto 56 dX7_agree_173 (by decide) ?_
      refine xE.sub [0, 1, 2, 3] rfl ?_
      exact k2 c1 c2
    · refine xe_aload 4 dX7_agree_104 rfl ?_
      refine xr_getR (b := (7 + 4 * p)) dX7_agree_106 fX7_95 rfl (shP _ (by omega)) (by omega) (rPN (by omega)) ?_
      refine xe_iload 6 dX7_agree_109 rfl ?_
      refine xr_iald (k := c) (v := (-1)) dX7_agree_111 (shPN _ (by omega)) (by omega) (by omega) (by decide) v3 ?_
      refine xe_istore (L2 := [(0, .ref 74), (1, .ref 3), (4, .int (nI (seen))), (5, .int (nI (p))), (6, .ref (6 + 4 * p)), (7, .long (y)), (9, .int (nI (c))), (10, .int ((-1)))]) dX7_agree_112 (by decide) rfl ?_
      refine xe_iload 7 dX7_agree_114 rfl ?_
      refine xe_iconst (v := -1) dX7_agree_116 xcm1 ?_
      refine xe_icmp_eq 155 dX7_agree_117 (by decide) (fun _ => ?_) (fun q => absurd rfl q)
      refine xn_iinc (c := 1) (L2 := [(0, .ref 74), (1, .ref 3), (4, .int (nI (seen))), (5, .int (nI (p))), (6, .ref (6 + 4 * p)), (7, .long (y)), (9, .int (nI (c + 1))), (10, .int ((-1)))]) 6 dX7_agree_155 rfl (by decide) rfl ?_
      refine xe_goto 86 dX7_agree_158 (by decide) ?_
      refine xE.sub [0, 1, 2, 3, 4, 5, 6] rfl ?_
      exact k3 c1 c2

theorem gX7_agree_f (u : xU) (seen p c kd l : Nat) (y : Int64) {Q : Option Value → xM → Prop} (hp : p < 10) (hkd : kd ≤ 3) (hl : l ≤ 3) (hc : kd ≤ 1 → c = l) (v1 : u.1 (6 + 4 * p) 0 = nI (kd)) (v2 : u.1 (6 + 4 * p) 2 = nI (l))
    (k1 : ¬ (kd ≤ 1) → xE mX7_agree 56 [(0, .ref 74), (1, .ref 3), (4, .int (nI (seen))), (5, .int (nI (p + 1)))] [] (xmm (wl u 152 p (y))) Q)
    (k2 : kd ≤ 1 → l ≤ c → xE mX7_agree 56 [(0, .ref 74), (1, .ref 3), (4, .int (nI (seen))), (5, .int (nI (p + 1)))] [] (xmm (wl u 152 p (y))) Q)
    (k3 : kd ≤ 1 → ¬ l ≤ c → (u.1 (7 + 4 * p) c) = (-1) → xE mX7_agree 86 [(0, .ref 74), (1, .ref 3), (4, .int (nI (seen))), (5, .int (nI (p))), (6, .ref (6 + 4 * p)), (7, .long (y)), (9, .int (nI (c + 1)))] [] (xmm u) Q)
    (k4 : kd ≤ 1 → ¬ l ≤ c → ¬ (u.1 (7 + 4 * p) c) = (-1) → (((nI (seen)) >>> ((u.1 (7 + 4 * p) c) &&& 31)) &&& 1) = 0 → xE mX7_agree 86 [(0, .ref 74), (1, .ref 3), (4, .int (nI (seen))), (5, .int (nI (p))), (6, .ref (6 + 4 * p)), (7, .long (y)), (9, .int (nI (c + 1)))] [] (xmm u) Q)
    (k5 : kd ≤ 1 → ¬ l ≤ c → ¬ (u.1 (7 + 4 * p) c) = (-1) → ¬ (((nI (seen)) >>> ((u.1 (7 + 4 * p) c) &&& 31)) &&& 1) = 0 → xC mX7_pair [.int (nI (p)), .int (nI (c))] (xmm u) (fun r μ1 => xE mX7_agree 143 [(0, .ref 74), (1, .ref 3), (4, .int (nI (seen))), (5, .int (nI (p))), (6, .ref (6 + 4 * p)), (9, .int (nI (c))), (10, .int (u.1 (7 + 4 * p) c))] (r.toList ++ [.ref 84, .long (y)]) μ1 Q)) : xE mX7_agree 86 [(0, .ref 74), (1, .ref 3), (4, .int (nI (seen))), (5, .int (nI (p))), (6, .ref (6 + 4 * p)), (7, .long (y)), (9, .int (nI (c)))] [] (xmm u) Q := by
  refine xe_aload 4 dX7_agree_86 rfl ?_
  refine xe_callV (As := []) (rest := []) dX7_agree_88 wX3_isFact lX7_66 iX3_isFact sX3_isFact ⟨by decide, by decide⟩ (shP _ (by omega)) rfl (xin_mm (by omega)) rfl rfl (by simp [Value.category]) (xC.pure (v := .int (xb (kd ≤ 1))) (qX3_isFact u p kd (by omega) (by omega) v1) ?_)
  refine xb_if_eq 161 dX7_agree_91 (by decide) (fun c1 => ?_) (fun c1 => ?_)
  · refine xe_aload_n 0 dX7_agree_161 rfl rfl ?_
    refine xr_getR (b := 152) dX7_agree_162 fX7_44 rfl sh74 (by decide) rfl ?_
    refine xe_iload 3 dX7_agree_165 rfl ?_
    refine xe_lload 5 dX7_agree_167 rfl ?_
    refine xr_last (k := p) dX7_agree_169 sh152 (by decide) (by omega) (by decide) ?_
    refine xn_iinc (c := 1) (L2 := [(0, .ref 74), (1, .ref 3), (4, .int (nI (seen))), (5, .int (nI (p + 1))), (6, .ref (6 + 4 * p)), (7, .long (y)), (9, .int (nI (c)))]) 3 dX7_agree_170 rfl (by decide) rfl ?_
    refine xe_goto 56 dX7_agree_173 (by decide) ?_
    refine xE.sub [0, 1, 2, 3] rfl ?_
    exact k1 c1
  · refine xe_iload 6 dX7_agree_94 rfl ?_
    refine xe_aload 4 dX7_agree_96 rfl ?_
    refine xr_getI (v := nI (l)) dX7_agree_98 fX7_92 (shP _ (by omega)) (by omega) v2 ?_
    refine xn_icmp_ge 161 dX7_agree_101 (by decide) (by omega) (by omega) (fun c2 => ?_) (fun c2 => ?_)
    · refine xe_aload_n 0 dX7_agree_161 rfl rfl ?_
      refine xr_getR (b := 152) dX7_agree_162 fX7_44 rfl sh74 (by decide) rfl ?_
      refine xe_iload 3 dX7_agree_165 rfl ?_
      refine xe_lload 5 dX7_agree_167 rfl ?_
      refine xr_last (k := p) dX7_agree_169 sh152 (by decide) (by omega) (by decide) ?_
      refine xn_iinc (c := 1) (L2 := [(0, .ref 74), (1, .ref 3), (4, .int (nI (seen))), (5, .int (nI (p + 1))), (6, .ref (6 + 4 * p)), (7, .long (y)), (9, .int (nI (c)))]) 3 dX7_agree_170 rfl (by decide) rfl ?_
      refine xe_goto 56 dX7_agree_173 (by decide) ?_
      refine xE.sub [0, 1, 2, 3] rfl ?_
      exact k2 c1 c2
    · refine xe_aload 4 dX7_agree_104 rfl ?_
      refine xr_getR (b := (7 + 4 * p)) dX7_agree_106 fX7_95 rfl (shP _ (by omega)) (by omega) (rPN (by omega)) ?_
      refine xe_iload 6 dX7_agree_109 rfl ?_
      refine xr_iald (k := c) (v := u.1 (7 + 4 * p) c) dX7_agree_111 (shPN _ (by omega)) (by omega) (by omega) (by decide) rfl ?_
      refine xe_istore (L2 := [(0, .ref 74), (1, .ref 3), (4, .int (nI (seen))), (5, .int (nI (p))), (6, .ref (6 + 4 * p)), (7, .long (y)), (9, .int (nI (c))), (10, .int (u.1 (7 + 4 * p) c))]) dX7_agree_112 (by decide) rfl ?_
      refine xe_iload 7 dX7_agree_114 rfl ?_
      refine xe_iconst (v := -1) dX7_agree_116 xcm1 ?_
      refine xe_icmp_eq 155 dX7_agree_117 (by decide) (fun c3 => ?_) (fun c3 => ?_)
      · refine xn_iinc (c := 1) (L2 := [(0, .ref 74), (1, .ref 3), (4, .int (nI (seen))), (5, .int (nI (p))), (6, .ref (6 + 4 * p)), (7, .long (y)), (9, .int (nI (c + 1))), (10, .int (u.1 (7 + 4 * p) c))]) 6 dX7_agree_155 rfl (by decide) rfl ?_
        refine xe_goto 86 dX7_agree_158 (by decide) ?_
        refine xE.sub [0, 1, 2, 3, 4, 5, 6] rfl ?_
        exact k3 c1 c2 c3
      · refine xe_iload 2 dX7_agree_120 rfl ?_
        refine xe_iload 7 dX7_agree_122 rfl ?_
        refine xe_ishr dX7_agree_124 ?_
        refine xe_iconst (v := nI (1)) dX7_agree_125 xc1 ?_
        refine xe_iand dX7_agree_126 ?_
        refine xe_if_eq 155 dX7_agree_127 (by decide) (fun c4 => ?_) (fun c4 => ?_)
        · refine xn_iinc (c := 1) (L2 := [(0, .ref 74), (1, .ref 3), (4, .int (nI (seen))), (5, .int (nI (p))), (6, .ref (6 + 4 * p)), (7, .long (y)), (9, .int (nI (c + 1))), (10, .int (u.1 (7 + 4 * p) c))]) 6 dX7_agree_155 rfl (by decide) rfl ?_
          refine xe_goto 86 dX7_agree_158 (by decide) ?_
          refine xE.sub [0, 1, 2, 3, 4, 5, 6] rfl ?_
          exact k4 c1 c2 c3 c4
        · refine xe_lload 5 dX7_agree_130 rfl ?_
          refine xe_aload_n 0 dX7_agree_132 rfl rfl ?_
          refine xr_getR (b := 84) dX7_agree_133 fX7_26 rfl sh74 (by decide) rfl ?_
          refine xe_iload 3 dX7_agree_136 rfl ?_
          refine xe_iload 6 dX7_agree_138 rfl ?_
          refine xE.sub [0, 1, 2, 3, 4, 6, 7] rfl ?_
          refine xe_callS (As := [.int (nI (p)), .int (nI (c))]) (rest := [.ref 84, .long (y)]) dX7_agree_140 wX7_pair lX7_98 tX7_pair ⟨by decide, by decide⟩ rfl rfl (by simp [Value.category]) ?_
          exact k5 c1 c2 c3 c4

