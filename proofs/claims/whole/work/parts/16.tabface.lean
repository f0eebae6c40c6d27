theorem gX10_drop_23m (u : xU) (t n cols : Nat) {Q : Option Value → xM → Prop} (ht : t < 8) (hcols : cols ≤ 3) (hn : n ≤ 40) (v1 : u.1 173 t = nI (cols)) (v2 : u.1 174 t = nI (n))
    (k1 : Q (some (.int (nI (0)))) (xmm u)) : xE mX10_drop 23 [(0, .ref 172), (1, .int (nI (t))), (5, .int ((-1)))] [] (xmm u) Q := by
  refine xe_iload 2 dX10_drop_23 rfl ?_
  refine xe_iconst (v := -1) dX10_drop_25 xcm1 ?_
  refine xe_icmp_ne 31 dX10_drop_26 (by decide) (fun q => absurd rfl q) (fun _ => ?_)
  refine xe_iconst (v := nI (0)) dX10_drop_29 xc0 ?_
  exact xe_ret (r := (some (.int (nI (0))))) dX10_drop_30 (Or.inl rfl) (k1)

/-- the loop of drop: rows below k are in place, those from k on are one further -/
theorem mdrop_in {u : xU} {T : TBL} (hT : TI T) (h : MT T u) (t : Nat) (a b c : Int32) (ht : t < 8) (h0 : T.1 t ≠ 0) : xC mX10_drop [.ref 172, .int (nI t), .int a, .int b, .int c] (xmm u) (pM u (.int (xb ((tDrop T t (nrm (T.1 t) a b c)).1 = true))) (tDrop T t (nrm (T.1 t) a b c)).2) := by
  obtain ⟨h1, h2, h3⟩ := h t ht
  obtain ⟨i1, i2, i3, i4, i5⟩ := hT t ht
  have hfin := qX10_find hT h t a b c ht h0
  generalize nrm (T.1 t) a b c = r at hfin
  have sle : tpos T t r ≤ T.2.1 t := cntlt_le (T.2.2 t) r (T.2.1 t)
  refine xC.of xpl10 (Nat.le_of_ble_eq_true rfl) (gX10_drop_0 u t (T.2.1 t) (T.1 t) a b c (tFind T t r) ht i1 i2 hfin h1 h2 (fun q => by omega) (fun q => ?_))
  by_cases hh : tHas T t r = true
  · have hlt : tpos T t r < T.2.1 t := by simp only [tHas, Bool.and_eq_true, decide_eq_true_eq] at hh; exact hh.1
    have e : tDrop T t r = (true, tDel T t r) := by unfold tDrop; rw [if_pos hh]
    rw [e]
    unfold tFind
    rw [if_pos hh]
    refine gX10_drop_23 u t (T.2.1 t) (T.1 t) (tpos T t r) ht i1 i2 hlt h1 h2 (fun z => ?_) (fun z => ?_)
    · have loop : ∀ d k (v : xU), T.2.1 t - 1 - k = d → tpos T t r ≤ k → k ≤ T.2.1 t - 1 → (∀ j c, j < k → c < T.1 t → v.1 175 (120 * t + 3 * j + c) = delX (T.2.2 t) (tpos T t r) j c) → (∀ j c, k < j → j < T.2.1 t → c < T.1 t → v.1 175 (120 * t + 3 * j + c) = T.2.2 t j c) → (∀ x, ¬ (120 * t ≤ x ∧ x < 120 * t + 120) → v.1 175 x = u.1 175 x) → v.1 174 t = nI (T.2.1 t - 1) → (∀ j, j ≠ t → v.1 174 j = u.1 174 j) → (∀ x, x ≠ 174 → x ≠ 175 → v.1 x = u.1 x) → v.2 = u.2 → xE mX10_drop 45 [(0, .ref 172), (1, .int (nI (t))), (6, .int (nI (k)))] [] (xmm v) (pM u (.int (xb ((true, tDel T t r).1 = true))) (tDel T t r)) := by
        intro d
        induction d with
        | zero =>
          intro k v hd hk hkn c1 c2 c3 c4 c5 c6 c7
          refine gX10_drop_45 v t (T.2.1 t - 1) (T.1 t) k ht (by omega) (by omega) c4 (fun y => ?_) (fun y => by omega)
          refine ⟨v, rfl, by rw [xb_t rfl]; rfl, fun m hm => ?_, ⟨fun x x1 x2 x3 => c6 x x2 x3, c7⟩⟩
          by_cases hmt : m = t
          · subst hmt
            simp only [tDel, setT_at]
            exact ⟨by rw [c6 _ (by omega) (by omega)]; exact h1, c4, fun i j hi hj => c1 i j (by omega) hj⟩
          · simp only [tDel, setT_ne hmt]
            obtain ⟨g1, g2, g3⟩ := h m hm
            have i2' := (hT m hm).2.1
            have i1' := (hT m hm).1
            exact ⟨by rw [c6 _ (by omega) (by omega)]; exact g1, by rw [c5 m hmt]; exact g2, fun i j hi hj => by rw [c3 _ (by omega)]; exact g3 i j hi hj⟩
        | succ d ih =>
          intro k v hd hk hkn c1 c2 c3 c4 c5 c6 c7
          refine gX10_drop_45 v t (T.2.1 t - 1) (T.1 t) k ht (by omega) (by omega) c4 (fun y => by omega) (fun y => ?_)
          refine (qX10_moves v t (k + 1) k ht (by omega) (by omega) (by omega)).mono ?_
          rintro r0 μ1 ⟨v', rfl, rfl, m1, m2, m3, m4⟩
          refine gX10_drop_67 v' t k ?_
          refine ih (k + 1) v' (by omega) (by omega) (by omega) (fun j c hj hc => ?_) (fun j c hj hj2 hc => ?_) (fun x hx => ?_) (by rw [m3 _ (by omega)]; exact c4) (fun j hj => by rw [m3 _ (by omega)]; exact c5 j hj) (fun x x1 x2 => (m3 x x2).trans (c6 x x1 x2)) (m4.trans c7)
          · by_cases hjk : j = k
            · subst hjk
              rw [m1 c (by omega), c2 (j + 1) c (by omega) (by omega) hc]
              unfold delX
              rw [if_neg (by omega)]
            · rw [m2 _ (by omega)]
              exact c1 j c (by omega) hc
          · rw [m2 _ (by omega)]
            exact c2 j c (by omega) hj2 hc
          · rw [m2 _ (by omega)]
            exact c3 x hx
      exact loop _ (tpos T t r) _ rfl (Nat.le_refl _) (by omega) (fun j c hj hc => by rw [wi_ne (by omega)]; unfold delX; rw [if_pos hj]; exact h3 j c (by omega) hc) (fun j c hj hj2 hc => by rw [wi_ne (by omega)]; exact h3 j c hj2 hc) (fun x _ => wi_ne (by omega)) wi_self (fun j hj => wi_nek hj) (fun x x1 _ => wi_row x1) rfl
    · have := congrArg Int32.toInt z
      rw [nI_toI (by omega), show (-1 : Int32).toInt = -1 from by decide] at this
      omega
  · have e : tDrop T t r = (false, T) := by unfold tDrop; rw [if_neg hh]
    rw [e]
    unfold tFind
    rw [if_neg hh]
    refine gX10_drop_23m u t (T.2.1 t) (T.1 t) ht i1 i2 h1 h2 ?_
    exact ⟨u, rfl, by rw [xb_f (fun z => by cases z)]; rfl, h, frM.rf⟩

theorem gX9_tableAt_0 (u : xU) (t n cols : Nat) {Q : Option Value → xM → Prop} (ht : t < 8) (hcols : cols ≤ 3) (hn : n ≤ 40) (v1 : u.1 (156 + 2 * t) 0 = nI (cols)) (v2 : u.1 (156 + 2 * t) 1 = nI (n))
    (k1 : 8 ≤ t → Q (some (.null)) (xmm u))
    (k2 : ¬ 8 ≤ t → ¬ cols = 0 → Q (some (.ref (156 + 2 * t))) (xmm u))
    (k3 : ¬ 8 ≤ t → cols = 0 → Q (some (.null)) (xmm u)) : xE mX9_tableAt 0 [(0, .ref 1), (1, .int (nI (t)))] [] (xmm u) Q := by
  refine xe_iload_n 1 dX9_tableAt_0 rfl rfl ?_
  refine xn_if_lt 22 dX9_tableAt_1 (by decide) (by omega) (fun q => absurd q (by omega)) (fun _ => ?_)
  refine xe_iload_n 1 dX9_tableAt_4 rfl rfl ?_
  refine xe_bipush (v := nI (8)) dX9_tableAt_5 xcb8 ?_
  refine xn_icmp_ge 22 dX9_tableAt_7 (by decide) (by omega) (by omega) (fun c1 => ?_) (fun c1 => ?_)
  · refine xe_null dX9_tableAt_22 ?_
    exact xe_ret (r := (some (.null))) dX9_tableAt_23 trivial (k1 c1)
  · refine xe_aload_n 0 dX9_tableAt_10 rfl rfl ?_
    refine xr_getR (b := 2) dX9_tableAt_11 fX9_11 rfl sh1 (by decide) rfl ?_
    refine xe_iload_n 1 dX9_tableAt_14 rfl rfl ?_
    refine xr_aald (k := t) (b := (156 + 2 * t)) dX9_tableAt_15 sh2 (by decide) (by decide) (by decide) (by omega) (by decide) (rTabs (by omega)) ?_
    refine xr_getI (v := nI (cols)) dX9_tableAt_16 fX9_97 (shT _ (by omega)) (by omega) v1 ?_
    refine xn_if_ne 24 dX9_tableAt_19 (by decide) (by omega) (fun c2 => ?_) (fun c2 => ?_)
    · refine xe_aload_n 0 dX9_tableAt_24 rfl rfl ?_
      refine xr_getR (b := 2) dX9_tableAt_25 fX9_11 rfl sh1 (by decide) rfl ?_
      refine xe_iload_n 1 dX9_tableAt_28 rfl rfl ?_
      refine xr_aald (k := t) (b := (156 + 2 * t)) dX9_tableAt_29 sh2 (by decide) (by decide) (by decide) (by omega) (by decide) (rTabs (by omega)) ?_
      exact xe_ret (r := (some (.ref (156 + 2 * t)))) dX9_tableAt_30 trivial (k2 c1 c2)
    · refine xe_null dX9_tableAt_22 ?_
      exact xe_ret (r := (some (.null))) dX9_tableAt_23 trivial (k3 c1 c2)

theorem gX9_tableAt_I (u : xU) (t : Int32) {Q : Option Value → xM → Prop}  
    (k1 : t < 0 → Q (some (.null)) (xmm u))
    (k2 : ¬ t < 0 → 8 ≤ t → Q (some (.null)) (xmm u))
    (k3 : ¬ t < 0 → ¬ 8 ≤ t → False) : xE mX9_tableAt 0 [(0, .ref 1), (1, .int (t))] [] (xmm u) Q := by
  refine xe_iload_n 1 dX9_tableAt_0 rfl rfl ?_
  refine xe_if_lt 22 dX9_tableAt_1 (by decide) (fun c1 => ?_) (fun c1 => ?_)
  · refine xe_null dX9_tableAt_22 ?_
    exact xe_ret (r := (some (.null))) dX9_tableAt_23 trivial (k1 c1)
  · refine xe_iload_n 1 dX9_tableAt_4 rfl rfl ?_
    refine xe_bipush (v := nI (8)) dX9_tableAt_5 xcb8 ?_
    refine xe_icmp_ge 22 dX9_tableAt_7 (by decide) (fun c2 => ?_) (fun c2 => ?_)
    · refine xe_null dX9_tableAt_22 ?_
      exact xe_ret (r := (some (.null))) dX9_tableAt_23 trivial (k2 c1 c2)
    · refine xe_aload_n 0 dX9_tableAt_10 rfl rfl ?_
      refine xr_getR (b := 2) dX9_tableAt_11 fX9_11 rfl sh1 (by decide) rfl ?_
      refine xe_iload_n 1 dX9_tableAt_14 rfl rfl ?_
      exact (k3 c1 c2).elim

/-- there is such a table -/
def tIs (T : TBL) (t : Int32) : Bool := decide (0 ≤ t) && decide (t ≤ 7) && decide (0 < T.1 t.toNatClampNeg)
theorem tIs_t {T : TBL} {t : Int32} (h : tIs T t = true) : ∃ k, k < 8 ∧ t = nI k ∧ t.toNatClampNeg = k ∧ T.1 k ≠ 0 := by
  simp only [tIs, Bool.and_eq_true, decide_eq_true_eq] at h
  obtain ⟨k, hk, rfl⟩ := tOk_iff.mp h.1
  have e : (nI k).toNatClampNeg = k := nI_nat (by omega)
  rw [e] at h
  exact ⟨k, hk, rfl, e, by omega⟩
theorem tIs_f {T : TBL} {t : Int32} (h : ¬ tIs T t = true) : ¬ tOk t ∨ ∃ k, k < 8 ∧ t = nI k ∧ T.1 k = 0 := by
  by_cases ho : tOk t
  · obtain ⟨k, hk, rfl⟩ := tOk_iff.mp ho
    right
    refine ⟨k, hk, rfl, ?_⟩
    simp only [tIs, Bool.and_eq_true, decide_eq_true_eq, not_and] at h
    have := h ho
    rw [nI_nat (by omega)] at this
    omega
  · exact Or.inl ho
theorem tIs_n {T : TBL} {k : Nat} (hk : k < 8) : tIs T (nI k) = true ↔ T.1 k ≠ 0 := by
  constructor
  · intro h
    obtain ⟨k', hk', e, -, h0⟩ := tIs_t h
    have := (nI_inj (by omega) (by omega)).mp e
    subst this
    exact h0
  · intro h
    simp only [tIs, Bool.and_eq_true, decide_eq_true_eq]
    rw [nI_nat (by omega)]
    exact ⟨tOk_iff.mpr ⟨k, hk, rfl⟩, by omega⟩
theorem qX9_tableAt_t {u : xU} {T : TBL} (hT : TI T) (h : CT T u) {k : Nat} (hk : k < 8) (h0 : T.1 k ≠ 0) : xC mX9_tableAt [.ref 1, .int (nI k)] (xmm u) (fun r μ' => r = some (.ref (156 + 2 * k)) ∧ μ' = xmm u) := by
  obtain ⟨h1, h2, h3⟩ := h k hk
  obtain ⟨i1, i2, i3, i4, i5⟩ := hT k hk
  exact xC.of xpl9 (Nat.le_of_ble_eq_true rfl) (gX9_tableAt_0 u k (T.2.1 k) (T.1 k) hk i1 i2 h1 h2 (fun q => by omega) (fun q z => ⟨rfl, rfl⟩) (fun q z => absurd z h0))
theorem qX9_tableAt_f {u : xU} {T : TBL} (hT : TI T) (h : CT T u) {t : Int32} (hf : ¬ tIs T t = true) : xC mX9_tableAt [.ref 1, .int t] (xmm u) (fun r μ' => r = some .null ∧ μ' = xmm u) := by
  rcases tIs_f hf with ho | ⟨k, hk, rfl, h0⟩
  · refine xC.of xpl9 (Nat.le_of_ble_eq_true rfl) (gX9_tableAt_I u t (fun q => ⟨rfl, rfl⟩) (fun q z => ⟨rfl, rfl⟩) (fun q z => ho ?_))
    unfold tOk
    simp only [Int32.le_iff_toInt_le, Int32.lt_iff_toInt_lt] at q z ⊢
    have e1 : (0 : Int32).toInt = 0 := by decide
    have e2 : (7 : Int32).toInt = 7 := by decide
    have e3 : (8 : Int32).toInt = 8 := by decide
    omega
  · obtain ⟨h1, h2, h3⟩ := h k hk
    obtain ⟨i1, i2, i3, i4, i5⟩ := hT k hk
    exact xC.of xpl9 (Nat.le_of_ble_eq_true rfl) (gX9_tableAt_0 u k (T.2.1 k) (T.1 k) hk i1 i2 h1 h2 (fun q => by omega) (fun q z => absurd h0 z) (fun q z => ⟨rfl, rfl⟩))

theorem gX9_put_T (u : xU) (t : Int32) (k n cols : Nat) (a b c : Int32) {Q : Option Value → xM → Prop} (hk : k < 8) (hta : xC mX9_tableAt [.ref 1, .int t] (xmm u) (fun r μ' => r = some (.ref (156 + 2 * k)) ∧ μ' = xmm u)) (v1 : u.1 (156 + 2 * k) 0 = nI (cols)) (v2 : u.1 (156 + 2 * k) 1 = nI (n))
    (k1 : xC mX6_insert [.ref (156 + 2 * k), .int (a), .int (b), .int (c)] (xmm u) (fun r μ1 => xE mX9_put 25 [] (r.toList ++ []) μ1 Q)) : xE mX9_put 0 [(0, .ref 1), (1, .int (t)), (2, .int (a)), (3, .int (b)), (4, .int (c))] [] (xmm u) Q := by
  refine xe_aload_n 0 dX9_put_0 rfl rfl ?_
  refine xe_iload_n 1 dX9_put_1 rfl rfl ?_
  refine xe_callV (As := [.int (t)]) (rest := []) dX9_put_2 wX9_tableAt lX9_73 iX9_tableAt sX9_tableAt ⟨by decide, by decide⟩ sh1 rfl (xin_mm (by decide)) rfl rfl (by simp [Value.category]) (xC.pure (v := .ref (156 + 2 * k)) (hta) ?_)
  refine xe_astore (L2 := [(0, .ref 1), (1, .int (t)), (2, .int (a)), (3, .int (b)), (4, .int (c)), (5, .ref (156 + 2 * k))]) dX9_put_5 (by decide) rfl ?_
  refine xe_aload 5 dX9_put_7 rfl ?_
  refine xe_ifnonnull_r 16 dX9_put_9 (by decide) ?_
  refine xe_aload 5 dX9_put_16 rfl ?_
  refine xe_iload_n 2 dX9_put_18 rfl rfl ?_
  refine xe_iload_n 3 dX9_put_19 rfl rfl ?_
  refine xe_iload 4 dX9_put_20 rfl ?_
  refine xE.sub [] rfl ?_
  refine xe_callV (As := [.int (a), .int (b), .int (c)]) (rest := []) dX9_put_22 wX6_insert lX9_77 iX6_insert sX6_insert ⟨by decide, by decide⟩ (shT _ (by omega)) rfl (xin_mm (by omega)) rfl rfl (by simp [Value.category]) ?_
  exact k1

theorem gX9_put_Z (u : xU) (t : Int32) (a b c : Int32) {Q : Option Value → xM → Prop} (hta : xC mX9_tableAt [.ref 1, .int t] (xmm u) (fun r μ' => r = some .null ∧ μ' = xmm u)) 
    (k1 : Q (some (.int (-1))) (xmm u)) : xE mX9_put 0 [(0, .ref 1), (1, .int (t)), (2, .int (a)), (3, .int (b)), (4, .int (c))] [] (xmm u) Q := by
  refine xe_aload_n 0 dX9_put_0 rfl rfl ?_
  refine xe_iload_n 1 dX9_put_1 rfl rfl ?_
  refine xe_callV (As := [.int (t)]) (rest := []) dX9_put_2 wX9_tableAt lX9_73 iX9_tableAt sX9_tableAt ⟨by decide, by decide⟩ sh1 rfl (xin_mm (by decide)) rfl rfl (by simp [Value.category]) (xC.pure (v := .null) (hta) ?_)
  refine xe_astoreN (L2 := [(0, .ref 1), (1, .int (t)), (2, .int (a)), (3, .int (b)), (4, .int (c)), (5, .null)]) dX9_put_5 (by decide) rfl ?_
  refine xe_aloadN 5 dX9_put_7 rfl ?_
  refine xe_ifnonnull_n dX9_put_9 ?_
  refine xe_iconst (v := -1) dX9_put_12 xcm1 ?_
  refine xe_goto 25 dX9_put_13 (by decide) ?_
  exact xe_ret (r := (some (.int (-1)))) dX9_put_25 trivial (k1)

theorem gX9_drop_T (u : xU) (t : Int32) (k n cols : Nat) (a b c : Int32) {Q : Option Value → xM → Prop} (hk : k < 8) (hta : xC mX9_tableAt [.ref 1, .int t] (xmm u) (fun r μ' => r = some (.ref (156 + 2 * k)) ∧ μ' = xmm u)) (v1 : u.1 (156 + 2 * k) 0 = nI (cols)) (v2 : u.1 (156 + 2 * k) 1 = nI (n))
    (k1 : xC mX6_remove [.ref (156 + 2 * k), .int (a), .int (b), .int (c)] (xmm u) (fun r μ1 => xE mX9_drop 21 [] (r.toList ++ []) μ1 Q)) : xE mX9_drop 0 [(0, .ref 1), (1, .int (t)), (2, .int (a)), (3, .int (b)), (4, .int (c))] [] (xmm u) Q := by
  refine xe_aload_n 0 dX9_drop_0 rfl rfl ?_
  refine xe_iload_n 1 dX9_drop_1 rfl rfl ?_
  refine xe_callV (As := [.int (t)]) (rest := []) dX9_drop_2 wX9_tableAt lX9_73 iX9_tableAt sX9_tableAt ⟨by decide, by decide⟩ sh1 rfl (xin_mm (by decide)) rfl rfl (by simp [Value.category]) (xC.pure (v := .ref (156 + 2 * k)) (hta) ?_)
  refine xe_astore (L2 := [(0, .ref 1), (1, .int (t)), (2, .int (a)), (3, .int (b)), (4, .int (c)), (5, .ref (156 + 2 * k))]) dX9_drop_5 (by decide) rfl ?_
  refine xe_aload 5 dX9_drop_7 rfl ?_
  refine xe_ifnull_r dX9_drop_9 ?_
  refine xe_aload 5 dX9_drop_12 rfl ?_
  refine xe_iload_n 2 dX9_drop_14 rfl rfl ?_
  refine xe_iload_n 3 dX9_drop_15 rfl rfl ?_
  refine xe_iload 4 dX9_drop_16 rfl ?_
  refine xE.sub [] rfl ?_
  refine xe_callV (As := [.int (a), .int (b), .int (c)]) (rest := []) dX9_drop_18 wX6_remove lX9_81 iX6_remove sX6_remove ⟨by decide, by decide⟩ (shT _ (by omega)) rfl (xin_mm (by omega)) rfl rfl (by simp [Value.category]) ?_
  exact k1

theorem gX9_drop_Z (u : xU) (t : Int32) (a b c : Int32) {Q : Option Value → xM → Prop} (hta : xC mX9_tableAt [.ref 1, .int t] (xmm u) (fun r μ' => r = some .null ∧ μ' = xmm u)) 
    (k1 : Q (some (.int (nI (0)))) (xmm u)) : xE mX9_drop 0 [(0, .ref 1), (1, .int (t)), (2, .int (a)), (3, .int (b)), (4, .int (c))] [] (xmm u) Q := by
  refine xe_aload_n 0 dX9_drop_0 rfl rfl ?_
  refine xe_iload_n 1 dX9_drop_1 rfl rfl ?_
  refine xe_callV (As := [.int (t)]) (rest := []) dX9_drop_2 wX9_tableAt lX9_73 iX9_tableAt sX9_tableAt ⟨by decide, by decide⟩ sh1 rfl (xin_mm (by decide)) rfl rfl (by simp [Value.category]) (xC.pure (v := .null) (hta) ?_)
  refine xe_astoreN (L2 := [(0, .ref 1), (1, .int (t)), (2, .int (a)), (3, .int (b)), (4, .int (c)), (5, .null)]) dX9_drop_5 (by decide) rfl ?_
  refine xe_aloadN 5 dX9_drop_7 rfl ?_
  refine xe_ifnull_n 28 dX9_drop_9 (by decide) ?_
  refine xe_iconst (v := nI (0)) dX9_drop_28 xc0 ?_
  exact xe_ret (r := (some (.int (nI (0))))) dX9_drop_29 (Or.inl rfl) (k1)

theorem gX9_rows_T (u : xU) (t : Int32) (k n cols : Nat) {Q : Option Value → xM → Prop} (hk : k < 8) (hta : xC mX9_tableAt [.ref 1, .int t] (xmm u) (fun r μ' => r = some (.ref (156 + 2 * k)) ∧ μ' = xmm u)) (v1 : u.1 (156 + 2 * k) 0 = nI (cols)) (v2 : u.1 (156 + 2 * k) 1 = nI (n))
    (k1 : Q (some (.int (nI (n)))) (xmm u)) : xE mX9_rows 0 [(0, .ref 1), (1, .int (t))] [] (xmm u) Q := by
  refine xe_aload_n 0 dX9_rows_0 rfl rfl ?_
  refine xe_iload_n 1 dX9_rows_1 rfl rfl ?_
  refine xe_callV (As := [.int (t)]) (rest := []) dX9_rows_2 wX9_tableAt lX9_73 iX9_tableAt sX9_tableAt ⟨by decide, by decide⟩ sh1 rfl (xin_mm (by decide)) rfl rfl (by simp [Value.category]) (xC.pure (v := .ref (156 + 2 * k)) (hta) ?_)
  refine xe_astore_n (L2 := [(0, .ref 1), (1, .int (t)), (2, .ref (156 + 2 * k))]) dX9_rows_5 rfl (by decide) rfl ?_
  refine xe_aload_n 2 dX9_rows_6 rfl rfl ?_
  refine xe_ifnonnull_r 14 dX9_rows_7 (by decide) ?_
  refine xe_aload_n 2 dX9_rows_14 rfl rfl ?_
  refine xr_getI (v := nI (n)) dX9_rows_15 fX9_85 (shT _ (by omega)) (by omega) v2 ?_
  exact xe_ret (r := (some (.int (nI (n))))) dX9_rows_18 trivial (k1)

theorem gX9_rows_Z (u : xU) (t : Int32) {Q : Option Value → xM → Prop} (hta : xC mX9_tableAt [.ref 1, .int t] (xmm u) (fun r μ' => r = some .null ∧ μ' = xmm u)) 
    (k1 : Q (some (.int (-1))) (xmm u)) : xE mX9_rows 0 [(0, .ref 1), (1, .int (t))] [] (xmm u) Q := by
  refine xe_aload_n 0 dX9_rows_0 rfl rfl ?_
  refine xe_iload_n 1 dX9_rows_1 rfl rfl ?_
  refine xe_callV (As := [.int (t)]) (rest := []) dX9_rows_2 wX9_tableAt lX9_73 iX9_tableAt sX9_tableAt ⟨by decide, by decide⟩ sh1 rfl (xin_mm (by decide)) rfl rfl (by simp [Value.category]) (xC.pure (v := .null) (hta) ?_)
  refine xe_astoreN_n (L2 := [(0, .ref 1), (1, .int (t)), (2, .null)]) dX9_rows_5 rfl (by decide) rfl ?_
  refine xe_aloadN_n 2 dX9_rows_6 rfl rfl ?_
  refine xe_ifnonnull_n dX9_rows_7 ?_
  refine xe_iconst (v := -1) dX9_rows_10 xcm1 ?_
  refine xe_goto 18 dX9_rows_11 (by decide) ?_
  exact xe_ret (r := (some (.int (-1)))) dX9_rows_18 trivial (k1)

theorem gX9_row_T (u : xU) (t : Int32) (k n cols : Nat) (i c : Int32) {Q : Option Value → xM → Prop} (hk : k < 8) (hta : xC mX9_tableAt [.ref 1, .int t] (xmm u) (fun r μ' => r = some (.ref (156 + 2 * k)) ∧ μ' = xmm u)) (v1 : u.1 (156 + 2 * k) 0 = nI (cols)) (v2 : u.1 (156 + 2 * k) 1 = nI (n))
    (k1 : xC mX6_cell [.ref (156 + 2 * k), .int (i), .int (c)] (xmm u) (fun r μ1 => xE mX9_row 23 [] (r.toList ++ []) μ1 Q)) : xE mX9_row 0 [(0, .ref 1), (1, .int (t)), (2, .int (i)), (3, .int (c))] [] (xmm u) Q := by
  refine xe_aload_n 0 dX9_row_0 rfl rfl ?_
  refine xe_iload_n 1 dX9_row_1 rfl rfl ?_
  refine xe_callV (As := [.int (t)]) (rest := []) dX9_row_2 wX9_tableAt lX9_73 iX9_tableAt sX9_tableAt ⟨by decide, by decide⟩ sh1 rfl (xin_mm (by decide)) rfl rfl (by simp [Value.category]) (xC.pure (v := .ref (156 + 2 * k)) (hta) ?_)
  refine xe_astore (L2 := [(0, .ref 1), (1, .int (t)), (2, .int (i)), (3, .int (c)), (4, .ref (156 + 2 * k))]) dX9_row_5 (by decide) rfl ?_
  refine xe_aload 4 dX9_row_7 rfl ?_
  refine xe_ifnonnull_r 16 dX9_row_9 (by decide) ?_
  refine xe_aload 4 dX9_row_16 rfl ?_
  refine xe_iload_n 2 dX9_row_18 rfl rfl ?_
  refine xe_iload_n 3 dX9_row_19 rfl rfl ?_
  refine xE.sub [] rfl ?_
  refine xe_callV (As := [.int (i), .int (c)]) (rest := []) dX9_row_20 wX6_cell lX9_89 iX6_cell sX6_cell ⟨by decide, by decide⟩ (shT _ (by omega)) rfl (xin_mm (by omega)) rfl rfl (by simp [Value.category]) ?_
  exact k1

theorem gX9_row_Z (u : xU) (t : Int32) (i c : Int32) {Q : Option Value → xM → Prop} (hta : xC mX9_tableAt [.ref 1, .int t] (xmm u) (fun r μ' => r = some .null ∧ μ' = xmm u)) 
    (k1 : Q (some (.int (nI (0)))) (xmm u)) : xE mX9_row 0 [(0, .ref 1), (1, .int (t)), (2, .int (i)), (3, .int (c))] [] (xmm u) Q := by
  refine xe_aload_n 0 dX9_row_0 rfl rfl ?_
  refine xe_iload_n 1 dX9_row_1 rfl rfl ?_
  refine xe_callV (As := [.int (t)]) (rest := []) dX9_row_2 wX9_tableAt lX9_73 iX9_tableAt sX9_tableAt ⟨by decide, by decide⟩ sh1 rfl (xin_mm (by decide)) rfl rfl (by simp [Value.category]) (xC.pure (v := .null) (hta) ?_)
  refine xe_astoreN (L2 := [(0, .ref 1), (1, .int (t)), (2, .int (i)), (3, .int (c)), (4, .null)]) dX9_row_5 (by decide) rfl ?_
  refine xe_aloadN 4 dX9_row_7 rfl ?_
  refine xe_ifnonnull_n dX9_row_9 ?_
  refine xe_iconst (v := nI (0)) dX9_row_12 xc0 ?_
  refine xe_goto 23 dX9_row_13 (by decide) ?_
  exact xe_ret (r := (some (.int (nI (0))))) dX9_row_23 trivial (k1)

theorem gX9_drop_21 (u : xU) (b : Int32) {Q : Option Value → xM → Prop}  
    (k1 : b = 0 → Q (some (.int (nI (0)))) (xmm u))
    (k2 : ¬ b = 0 → Q (some (.int (nI (1)))) (xmm u)) : xE mX9_drop 21 [] [.int (b)] (xmm u) Q := by
  refine xe_if_eq 28 dX9_drop_21 (by decide) (fun c1 => ?_) (fun c1 => ?_)
  · refine xe_iconst (v := nI (0)) dX9_drop_28 xc0 ?_
    exact xe_ret (r := (some (.int (nI (0))))) dX9_drop_29 (Or.inl rfl) (k1 c1)
  · refine xe_iconst (v := nI (1)) dX9_drop_24 xc1 ?_
    refine xe_goto 29 dX9_drop_25 (by decide) ?_
    exact xe_ret (r := (some (.int (nI (1))))) dX9_drop_29 (Or.inr rfl) (k2 c1)

theorem gX6_cell_I (u : xU) (t : Nat) (i c : Int32) {Q : Option Value → xM → Prop} (ht : t < 8) 
    (k1 : i < 0 → Q (some (.int (nI (0)))) (xmm u))
    (k2 : ¬ i < 0 → (u.1 (156 + 2 * t) 1) ≤ i → Q (some (.int (nI (0)))) (xmm u))
    (k3 : ¬ i < 0 → ¬ (u.1 (156 + 2 * t) 1) ≤ i → c < 0 → Q (some (.int (nI (0)))) (xmm u))
    (k4 : ¬ i < 0 → ¬ (u.1 (156 + 2 * t) 1) ≤ i → ¬ c < 0 → c < (u.1 (156 + 2 * t) 0) → False)
    (k5 : ¬ i < 0 → ¬ (u.1 (156 + 2 * t) 1) ≤ i → ¬ c < 0 → ¬ c < (u.1 (156 + 2 * t) 0) → Q (some (.int (nI (0)))) (xmm u)) : xE mX6_cell 0 [(0, .ref (156 + 2 * t)), (1, .int (i)), (2, .int (c))] [] (xmm u) Q := by
  refine xe_iload_n 1 dX6_cell_0 rfl rfl ?_
  refine xe_if_lt 24 dX6_cell_1 (by decide) (fun c1 => ?_) (fun c1 => ?_)
  · refine xe_iconst (v := nI (0)) dX6_cell_24 xc0 ?_
    exact xe_ret (r := (some (.int (nI (0))))) dX6_cell_25 trivial (k1 c1)
  · refine xe_iload_n 1 dX6_cell_4 rfl rfl ?_
    refine xe_aload_n 0 dX6_cell_5 rfl rfl ?_
    refine xr_getI (v := u.1 (156 + 2 * t) 1) dX6_cell_6 fX6_19 (shT _ (by omega)) (by omega) rfl ?_
    refine xe_icmp_ge 24 dX6_cell_9 (by decide) (fun c2 => ?_) (fun c2 => ?_)
    · refine xe_iconst (v := nI (0)) dX6_cell_24 xc0 ?_
      exact xe_ret (r := (some (.int (nI (0))))) dX6_cell_25 trivial (k2 c1 c2)
    · refine xe_iload_n 2 dX6_cell_12 rfl rfl ?_
      refine xe_if_lt 24 dX6_cell_13 (by decide) (fun c3 => ?_) (fun c3 => ?_)
      · refine xe_iconst (v := nI (0)) dX6_cell_24 xc0 ?_
        exact xe_ret (r := (some (.int (nI (0))))) dX6_cell_25 trivial (k3 c1 c2 c3)
      · refine xe_iload_n 2 dX6_cell_16 rfl rfl ?_
        refine xe_aload_n 0 dX6_cell_17 rfl rfl ?_
        refine xr_getI (v := u.1 (156 + 2 * t) 0) dX6_cell_18 fX6_15 (shT _ (by omega)) (by omega) rfl ?_
        refine xe_icmp_lt 26 dX6_cell_21 (by decide) (fun c4 => ?_) (fun c4 => ?_)
        · refine xe_aload_n 0 dX6_cell_26 rfl rfl ?_
          refine xr_getR (b := (157 + 2 * t)) dX6_cell_27 fX6_9 rfl (shT _ (by omega)) (by omega) (rT (by omega)) ?_
          refine xe_iload_n 1 dX6_cell_30 rfl rfl ?_
          refine xe_iconst (v := nI (3)) dX6_cell_31 xc3 ?_
          refine xe_imul dX6_cell_32 ?_
          refine xe_iload_n 2 dX6_cell_33 rfl rfl ?_
          refine xe_iadd dX6_cell_34 ?_
          exact (k4 c1 c2 c3 c4).elim
        · refine xe_iconst (v := nI (0)) dX6_cell_24 xc0 ?_
          exact xe_ret (r := (some (.int (nI (0))))) dX6_cell_25 trivial (k5 c1 c2 c3 c4)

theorem gX6_cell_J (u : xU) (t n cols : Nat) (i : Nat) (c : Int32) {Q : Option Value → xM → Prop} (ht : t < 8) (hcols : cols ≤ 3) (hn : n ≤ 40) (hi : i < 2147483648) (v1 : u.1 (156 + 2 * t) 0 = nI (cols)) (v2 : u.1 (156 + 2 * t) 1 = nI (n))
    (k1 : n ≤ i → Q (some (.int (nI (0)))) (xmm u))
    (k2 : ¬ n ≤ i → c < 0 → Q (some (.int (nI (0)))) (xmm u))
    (k3 : ¬ n ≤ i → ¬ c < 0 → c < (nI (cols)) → False)
    (k4 : ¬ n ≤ i → ¬ c < 0 → ¬ c < (nI (cols)) → Q (some (.int (nI (0)))) (xmm u)) : xE mX6_cell 0 [(0, .ref (156 + 2 * t)), (1, .int (nI (i))), (2, .int (c))] [] (xmm u) Q := by
  refine xe_iload_n 1 dX6_cell_0 rfl rfl ?_
  refine xn_if_lt 24 dX6_cell_1 (by decide) (by omega) (fun q => absurd q (by omega)) (fun _ => ?_)
  refine xe_iload_n 1 dX6_cell_4 rfl rfl ?_
  refine xe_aload_n 0 dX6_cell_5 rfl rfl ?_
  refine xr_getI (v := nI (n)) dX6_cell_6 fX6_19 (shT _ (by omega)) (by omega) v2 ?_
  refine xn_icmp_ge 24 dX6_cell_9 (by decide) (by omega) (by omega) (fun c1 => ?_) (fun c1 => ?_)
  · refine xe_iconst (v := nI (0)) dX6_cell_24 xc0 ?_
    exact xe_ret (r := (some (.int (nI (0))))) dX6_cell_25 trivial (k1 c1)
  · refine xe_iload_n 2 dX6_cell_12 rfl rfl ?_
    refine xe_if_lt 24 dX6_cell_13 (by decide) (fun c2 => ?_) (fun c2 => ?_)
    · refine xe_iconst (v := nI (0)) dX6_cell_24 xc0 ?_
      exact xe_ret (r := (some (.int (nI (0))))) dX6_cell_25 trivial (k2 c1 c2)
    · refine xe_iload_n 2 dX6_cell_16 rfl rfl ?_
      refine xe_aload_n 0 dX6_cell_17 rfl rfl ?_
      refine xr_getI (v := nI (cols)) dX6_cell_18 fX6_15 (shT _ (by omega)) (by omega) v1 ?_
      refine xe_icmp_lt 26 dX6_cell_21 (by decide) (fun c3 => ?_) (fun c3 => ?_)
      · refine xe_aload_n 0 dX6_cell_26 rfl rfl ?_
        refine xr_getR (b := (157 + 2 * t)) dX6_cell_27 fX6_9 rfl (shT _ (by omega)) (by omega) (rT (by omega)) ?_
        refine xe_iload_n 1 dX6_cell_30 rfl rfl ?_
        refine xe_iconst (v := nI (3)) dX6_cell_31 xc3 ?_
        refine xn_imul dX6_cell_32 ?_
        refine xe_iload_n 2 dX6_cell_33 rfl rfl ?_
        refine xe_iadd dX6_cell_34 ?_
        exact (k3 c1 c2 c3).elim
      · refine xe_iconst (v := nI (0)) dX6_cell_24 xc0 ?_
        exact xe_ret (r := (some (.int (nI (0))))) dX6_cell_25 trivial (k4 c1 c2 c3)

noncomputable def aPut (T : TBL) (t a b c : Int32) : Int32 × TBL := if tIs T t = true then tPut T t.toNatClampNeg (nrm (T.1 t.toNatClampNeg) a b c) else (-1, T)
noncomputable def aDrop (T : TBL) (t a b c : Int32) : Bool × TBL := if tIs T t = true then tDrop T t.toNatClampNeg (nrm (T.1 t.toNatClampNeg) a b c) else (false, T)
def aRows (T : TBL) (t : Int32) : Int32 := if tIs T t = true then nI (T.2.1 t.toNatClampNeg) else -1
def aCell (T : TBL) (k : Nat) (i c : Int32) : Int32 := if 0 ≤ i ∧ i < nI (T.2.1 k) ∧ 0 ≤ c ∧ c < nI (T.1 k) then T.2.2 k i.toNatClampNeg c.toNatClampNeg else 0
def aRow (T : TBL) (t i c : Int32) : Int32 := if tIs T t = true then aCell T t.toNatClampNeg i c else 0
theorem aPut_TI {T : TBL} (hT : TI T) (t a b c : Int32) : TI (aPut T t a b c).2 := by
  unfold aPut
  split
  · rename_i h
    obtain ⟨k, hk, -, e, h0⟩ := tIs_t h
    rw [e]
    exact tPut_TI hT hk h0 (nrm_z h0)
  · exact hT
theorem aDrop_TI {T : TBL} (hT : TI T) (t a b c : Int32) : TI (aDrop T t a b c).2 := by
  unfold aDrop
  split
  · rename_i h
    obtain ⟨k, hk, -, e, h0⟩ := tIs_t h
    rw [e]
    exact tDrop_TI hT hk
  · exact hT
theorem nI_nn {k : Nat} (hk : k < 2147483648) : (0 : Int32) ≤ nI k := (nI_len (a := 0) (by decide) hk).mpr (Nat.zero_le _)
theorem neg_nn {x : Int32} (h : x < 0) : ¬ 0 ≤ x := by
  rw [Int32.lt_iff_toInt_lt] at h
  rw [Int32.le_iff_toInt_le]
  omega
theorem aCell_N {T : TBL} (hT : TI T) {k i c : Nat} (hk : k < 8) (hi : i < 2147483648) (hc : c < 2147483648) : aCell T k (nI i) (nI c) = if i < T.2.1 k ∧ c < T.1 k then T.2.2 k i c else 0 := by
  obtain ⟨i1, i2, -⟩ := hT k hk
  unfold aCell
  by_cases h : i < T.2.1 k ∧ c < T.1 k
  · rw [if_pos h, if_pos ⟨nI_nn hi, (nI_ltn hi (by omega)).mpr h.1, nI_nn hc, (nI_ltn hc (by omega)).mpr h.2⟩, nI_nat hi, nI_nat hc]
  · rw [if_neg h, if_neg (fun q => h ⟨(nI_ltn hi (by omega)).mp q.2.1, (nI_ltn hc (by omega)).mp q.2.2.2⟩)]
theorem qX6_cell {u : xU} {T : TBL} (hT : TI T) (h : CT T u) (k : Nat) (i c : Int32) (hk : k < 8) : xC mX6_cell [.ref (156 + 2 * k), .int i, .int c] (xmm u) (fun r μ' => r = some (.int (aCell T k i c)) ∧ μ' = xmm u) := by
  obtain ⟨h1, h2, h3⟩ := h k hk
  obtain ⟨i1, i2, -⟩ := hT k hk
  rcases xspl i with hi | ⟨i, hi, rfl⟩
  · refine xC.of xpl6 (Nat.le_of_ble_eq_true rfl) (gX6_cell_I u k i c hk (fun _ => ⟨?_, rfl⟩) (fun q => absurd hi q) (fun q => absurd hi q) (fun q => absurd hi q) (fun q => absurd hi q))
    unfold aCell
    rw [if_neg (fun q => neg_nn hi q.1)]
    rfl
  · rcases xspl c with hc | ⟨c, hc, rfl⟩
    · have e : aCell T k (nI i) c = 0 := by
        unfold aCell
        rw [if_neg (fun q => neg_nn hc q.2.2.1)]
      refine xC.of xpl6 (Nat.le_of_ble_eq_true rfl) (gX6_cell_J u k (T.2.1 k) (T.1 k) i c hk i1 i2 hi h1 h2 (fun q => ⟨by rw [e]; rfl, rfl⟩) (fun q z => ⟨by rw [e]; rfl, rfl⟩) (fun q z => absurd hc z) (fun q z => absurd hc z))
    · rw [aCell_N hT hk hi hc]
      refine xC.of xpl6 (Nat.le_of_ble_eq_true rfl) (gX6_cell_0 u k (T.2.1 k) (T.1 k) i c hk i1 i2 hi hc h1 h2 (fun q => ⟨by rw [if_neg (by omega)]; rfl, rfl⟩) (fun q z => ⟨?_, rfl⟩) (fun q z => ⟨by rw [if_neg (by omega)]; rfl, rfl⟩))
      rw [if_pos (by omega), h3 i c (by omega) (by omega)]
theorem qX9_put {u : xU} {T : TBL} (hT : TI T) (h : CT T u) (t a b c : Int32) : xC mX9_put [.ref 1, .int t, .int a, .int b, .int c] (xmm u) (pT u (.int (aPut T t a b c).1) (aPut T t a b c).2) := by
  unfold aPut
  by_cases hi : tIs T t = true
  · obtain ⟨k, hk, rfl, e, h0⟩ := tIs_t hi
    rw [if_pos hi, e]
    refine xC.of xpl9 (Nat.le_of_ble_eq_true rfl) (gX9_put_T u _ k (T.2.1 k) (T.1 k) a b c hk (qX9_tableAt_t hT h hk h0) (h k hk).1 (h k hk).2.1 ?_)
    refine (qX6_insert hT h k a b c hk).mono ?_
    rintro r μ' ⟨u', rfl, rfl, c1, c2⟩
    exact xe_ret (r := some (.int _)) dX9_put_25 trivial ⟨u', rfl, rfl, c1, c2⟩
  · rw [if_neg hi]
    exact xC.of xpl9 (Nat.le_of_ble_eq_true rfl) (gX9_put_Z u t a b c (qX9_tableAt_f hT h hi) ⟨u, rfl, rfl, h, frT.rf⟩)
theorem qX9_drop {u : xU} {T : TBL} (hT : TI T) (h : CT T u) (t a b c : Int32) : xC mX9_drop [.ref 1, .int t, .int a, .int b, .int c] (xmm u) (pT u (.int (xb ((aDrop T t a b c).1 = true))) (aDrop T t a b c).2) := by
  unfold aDrop
  by_cases hi : tIs T t = true
  · obtain ⟨k, hk, rfl, e, h0⟩ := tIs_t hi
    rw [if_pos hi, e]
    refine xC.of xpl9 (Nat.le_of_ble_eq_true rfl) (gX9_drop_T u _ k (T.2.1 k) (T.1 k) a b c hk (qX9_tableAt_t hT h hk h0) (h k hk).1 (h k hk).2.1 ?_)
    refine (qX6_remove hT h k a b c hk).mono ?_
    rintro r μ' ⟨u', rfl, rfl, c1, c2⟩
    refine gX9_drop_21 u' _ (fun q => ⟨u', rfl, ?_, c1, c2⟩) (fun q => ⟨u', rfl, ?_, c1, c2⟩)
    · rw [q]; rfl
    · rw [(xb_ok _).resolve_left q]; rfl
  · rw [if_neg hi]
    exact xC.of xpl9 (Nat.le_of_ble_eq_true rfl) (gX9_drop_Z u t a b c (qX9_tableAt_f hT h hi) ⟨u, rfl, by rw [xb_f (fun z => by cases z)]; rfl, h, frT.rf⟩)
theorem qX9_rows {u : xU} {T : TBL} (hT : TI T) (h : CT T u) (t : Int32) : xC mX9_rows [.ref 1, .int t] (xmm u) (fun r μ' => r = some (.int (aRows T t)) ∧ μ' = xmm u) := by
  unfold aRows
  by_cases hi : tIs T t = true
  · obtain ⟨k, hk, rfl, e, h0⟩ := tIs_t hi
    rw [if_pos hi, e]
    exact xC.of xpl9 (Nat.le_of_ble_eq_true rfl) (gX9_rows_T u _ k (T.2.1 k) (T.1 k) hk (qX9_tableAt_t hT h hk h0) (h k hk).1 (h k hk).2.1 ⟨rfl, rfl⟩)
  · rw [if_neg hi]
    exact xC.of xpl9 (Nat.le_of_ble_eq_true rfl) (gX9_rows_Z u t (qX9_tableAt_f hT h hi) ⟨rfl, rfl⟩)
theorem qX9_row {u : xU} {T : TBL} (hT : TI T) (h : CT T u) (t i c : Int32) : xC mX9_row [.ref 1, .int t, .int i, .int c] (xmm u) (fun r μ' => r = some (.int (aRow T t i c)) ∧ μ' = xmm u) := by
  unfold aRow
  by_cases hi : tIs T t = true
  · obtain ⟨k, hk, rfl, e, h0⟩ := tIs_t hi
    rw [if_pos hi, e]
    refine xC.of xpl9 (Nat.le_of_ble_eq_true rfl) (gX9_row_T u _ k (T.2.1 k) (T.1 k) i c hk (qX9_tableAt_t hT h hk h0) (h k hk).1 (h k hk).2.1 ?_)
    refine (qX6_cell hT h k i c hk).mono ?_
    rintro r μ' ⟨rfl, rfl⟩
    exact xe_ret (r := some (.int _)) dX9_row_23 trivial ⟨rfl, rfl⟩
  · rw [if_neg hi]
    exact xC.of xpl9 (Nat.le_of_ble_eq_true rfl) (gX9_row_Z u t i c (qX9_tableAt_f hT h hi) ⟨rfl, rfl⟩)

