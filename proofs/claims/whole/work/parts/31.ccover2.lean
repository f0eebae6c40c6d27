theorem hvs_le {Q : QST} {s : Nat → Nat} {k : Nat} (hs : ∀ p, s p ≤ 2) : ∀ p, hvs Q s k p ≤ 2 * hx Q p
  | 0 => Nat.le_refl 0
  | p + 1 => by
    have ih := hvs_le (Q := Q) (k := k) hs p
    have h2 := hs p
    show hvs Q s k p + (if (isC Q p && pHas Q p k) = true then s p else 0) ≤ 2 * (hx Q p + if isC Q p = true then 1 else 0)
    by_cases hc : isC Q p = true
    · rw [if_pos hc]
      split <;> omega
    · rw [if_neg hc, if_neg (by rw [Bool.and_eq_true]; exact fun z => hc z.1)]
      omega
theorem cov_iff {Q : QST} {s : Nat → Nat} : cov Q s = true ↔ ∀ k, k < qN Q → 2 ≤ hvs Q s k (qP Q) := by
  unfold cov
  rw [allN_iff]
  simp only [decide_eq_true_eq]
theorem qX1_coversAllNames {u : xU} {T : TBL} {Q : QST} (hT : TI T) (hQ : QI T Q) (h : CQ T Q u) (hc : CVR Q u) {w : Nat} (hs : SHR Q w u) : xC mX1_coversAllNames [.ref 71, .ref 3] (xmm u) (fun r μ' => r = some (.int (xb (cov Q (shr Q w) = true))) ∧ μ' = xmm u) := by
  have hc5 := cN_le hQ
  have hn6 := hQ.1
  have hp10 := hQ.2.1
  refine xC.of xpl1 (Nat.le_of_ble_eq_true rfl) (gX1_coversAllNames_0 u ?_)
  have inner : ∀ d k i p, k < qN Q → cN Q - i = d → p ≤ qP Q → hx Q p = i → (2 ≤ hvs Q (shr Q w) k (qP Q) → xE mX1_coversAllNames 2 [(0, .ref 71), (1, .ref 3), (2, .int (nI (k + 1)))] [] (xmm u) (fun r μ' => r = some (.int (xb (cov Q (shr Q w) = true))) ∧ μ' = xmm u)) → xE mX1_coversAllNames 15 [(0, .ref 71), (1, .ref 3), (2, .int (nI k)), (3, .int (nI (hvs Q (shr Q w) k p))), (4, .int (nI i))] [] (xmm u) (fun r μ' => r = some (.int (xb (cov Q (shr Q w) = true))) ∧ μ' = xmm u) := by
    intro d
    induction d with
    | zero =>
      intro k i p hk hd hp hi next
      have hle := hx_le hp
      have hi' : i = cN Q := by omega
      have hb := hvs_le (Q := Q) (k := k) (s := shr Q w) (fun _ => shr_le) p
      have e : hvs Q (shr Q w) k p = hvs Q (shr Q w) k (qP Q) := hvs_hx hp (hi.trans hi')
      refine gX1_coversAllNames_e u (qN Q) (qP Q) (cN Q) k _ i hn6 hp10 hc5 hk (by omega) hi' h.1 h.2.1 hc.1 (fun _ z => next (by omega)) (fun _ z => ⟨ret_f (fun y => ?_), rfl⟩) (fun z => by omega)
      have := cov_iff.mp y k hk
      omega
    | succ d ih =>
      intro k i p hk hd hp hi next
      have hil : i < cN Q := by omega
      obtain ⟨q, q1, q2, q3⟩ := hx_ex hil
      have hpq : p ≤ q := Classical.byContradiction fun z => by
        have a := hx_t q2
        have b : hx Q (q + 1) ≤ hx Q p := cntB_mono (by omega)
        omega
      have e : hvs Q (shr Q w) k p = hvs Q (shr Q w) k q := hvs_hx hpq (by omega)
      have hb := hvs_le (Q := Q) (k := k) (s := shr Q w) (fun _ => shr_le) p
      have sv := hs q q1 q2
      have cv := hc.2 q q1 q2
      rw [q3] at sv cv
      have ex := hx_t q2
      have hsl := shr_le (Q := Q) (w := w) (p := q)
      have ev : hvs Q (shr Q w) k (q + 1) = hvs Q (shr Q w) k q + if (isC Q q && pHas Q q k) = true then shr Q w q else 0 := rfl
      refine gX1_coversAllNames_15 u (qN Q) (qP Q) (cN Q) k _ i q (shr Q w q) (msk (qM Q q) (qL Q q)) hn6 hp10 hc5 hk (by omega) hil q1 hsl (msk_q hQ q1) h.1 h.2.1 hc.1 cv sv (h.2.2.2.2 q q1).2.2.2.1 (fun z => by omega) (fun z => by omega) (fun _ z => ?_) (fun _ z => ?_)
      · rw [if_neg (by rw [Bool.and_eq_true]; exact fun y => z (pHas_msk.mp y.2)), Nat.add_zero, ← e] at ev
        rw [show hvs Q (shr Q w) k p = hvs Q (shr Q w) k (q + 1) from ev.symm]
        exact ih k (i + 1) (q + 1) hk (by omega) q1 (by omega) next
      · rw [if_pos (by rw [Bool.and_eq_true]; exact ⟨q2, pHas_msk.mpr z⟩), ← e] at ev
        rw [← ev]
        exact ih k (i + 1) (q + 1) hk (by omega) q1 (by omega) next
  have outer : ∀ d k, qN Q - k = d → k ≤ qN Q → (∀ j, j < k → 2 ≤ hvs Q (shr Q w) j (qP Q)) → xE mX1_coversAllNames 2 [(0, .ref 71), (1, .ref 3), (2, .int (nI k))] [] (xmm u) (fun r μ' => r = some (.int (xb (cov Q (shr Q w) = true))) ∧ μ' = xmm u) := by
    intro d
    induction d with
    | zero =>
      intro k hd hk hj
      exact gX1_coversAllNames_2 u (qN Q) (qP Q) 0 k hn6 hp10 hk h.1 h.2.1 (fun _ => ⟨ret_t (cov_iff.mpr (fun j hjn => hj j (by omega))), rfl⟩) (fun z => by omega)
    | succ d ih =>
      intro k hd hk hj
      refine gX1_coversAllNames_2 u (qN Q) (qP Q) 0 k hn6 hp10 hk h.1 h.2.1 (fun z => by omega) (fun _ => ?_)
      exact inner _ k 0 0 (by omega) rfl (Nat.zero_le _) rfl (fun z => ih (k + 1) (by omega) (by omega) (fun j hjk => by
        by_cases e : j = k
        · subst e; exact z
        · exact hj j (by omega)))
  exact outer _ 0 rfl (Nat.zero_le _) (fun j hj => absurd hj (Nat.not_lt_zero j))
theorem qX1_productOfShares {u : xU} {T : TBL} {Q : QST} (hT : TI T) (hQ : QI T Q) (hC : CT T u) (h : CQ T Q u) (hc : CVR Q u) {w : Nat} (hs : SHR Q w u) : xC mX1_productOfShares [.ref 71, .ref 2, .ref 3] (xmm u) (fun r μ' => r = some (.long (prd T Q (shr Q w) (qP Q))) ∧ μ' = xmm u) := by
  have hc5 := cN_le hQ
  have hn6 := hQ.1
  have hp10 := hQ.2.1
  have nc : ∀ p, ¬ isC Q p = true → shr Q w p = 0 := fun p z => shr_nc z
  refine xC.of xpl1 (Nat.le_of_ble_eq_true rfl) (gX1_productOfShares_0 u ?_)
  have inner : ∀ d i q j (a : Int64), shr Q w q - j = d → j ≤ shr Q w q → q < qP Q → isC Q q = true → hx Q q = i →
      xE mX1_productOfShares 5 [(0, .ref 71), (1, .ref 2), (2, .ref 3), (3, .long (mulN (nI (T.2.1 (qOf Q q))).toInt64 a (shr Q w q))), (5, .int (nI (i + 1)))] [] (xmm u) (fun r μ' => r = some (.long (prd T Q (shr Q w) (qP Q))) ∧ μ' = xmm u) →
      xE mX1_productOfShares 31 [(0, .ref 71), (1, .ref 2), (2, .ref 3), (3, .long (mulN (nI (T.2.1 (qOf Q q))).toInt64 a j)), (5, .int (nI i)), (6, .ref (6 + 4 * q)), (7, .int (nI j))] [] (xmm u) (fun r μ' => r = some (.long (prd T Q (shr Q w) (qP Q))) ∧ μ' = xmm u) := by
    intro d
    induction d with
    | zero =>
      intro i q j a hd hj hq hcq hi next
      have hil := hx_lt hq hcq
      have k0 := (isC_iff.mp hcq).1
      obtain ⟨o1, o2, o3⟩ := (hQ.2.2.2.2.1 q hq).2.1 (by omega)
      have tb := (h.2.2.2.2 q hq).2.1
      unfold qTb at tb
      rw [if_pos (by omega)] at tb
      have sv := hs q hq hcq
      rw [hi] at sv
      refine gX1_productOfShares_31 u (qN Q) (qP Q) (cN Q) _ i q (shr Q w q) j (qOf Q q) (T.2.1 (qOf Q q)) hn6 hp10 hc5 (by omega) hq shr_le hj o1 h.1 h.2.1 hc.1 sv tb (hC _ o1).2.1 (fun _ => ?_) (fun z => by omega)
      rw [show j = shr Q w q by omega]
      exact next
    | succ d ih =>
      intro i q j a hd hj hq hcq hi next
      have hil := hx_lt hq hcq
      have k0 := (isC_iff.mp hcq).1
      obtain ⟨o1, o2, o3⟩ := (hQ.2.2.2.2.1 q hq).2.1 (by omega)
      have tb := (h.2.2.2.2 q hq).2.1
      unfold qTb at tb
      rw [if_pos (by omega)] at tb
      have sv := hs q hq hcq
      rw [hi] at sv
      refine gX1_productOfShares_31 u (qN Q) (qP Q) (cN Q) _ i q (shr Q w q) j (qOf Q q) (T.2.1 (qOf Q q)) hn6 hp10 hc5 (by omega) hq shr_le hj o1 h.1 h.2.1 hc.1 sv tb (hC _ o1).2.1 (fun z => by omega) (fun _ => ?_)
      exact ih i q (j + 1) a (by omega) (by omega) hq hcq hi next
  have outer : ∀ d i p, cN Q - i = d → p ≤ qP Q → hx Q p = i → xE mX1_productOfShares 5 [(0, .ref 71), (1, .ref 2), (2, .ref 3), (3, .long (prd T Q (shr Q w) p)), (5, .int (nI i))] [] (xmm u) (fun r μ' => r = some (.long (prd T Q (shr Q w) (qP Q))) ∧ μ' = xmm u) := by
    intro d
    induction d with
    | zero =>
      intro i p hd hp hi
      have hle := hx_le hp
      have hi' : i = cN Q := by omega
      have e : prd T Q (shr Q w) p = prd T Q (shr Q w) (qP Q) := prd_hx nc hp (hi.trans hi')
      exact gX1_productOfShares_e u (qN Q) (qP Q) (cN Q) _ i hn6 hp10 hc5 hi' h.1 h.2.1 hc.1 (fun _ => ⟨by rw [e], rfl⟩) (fun z => by omega)
    | succ d ih =>
      intro i p hd hp hi
      have hil : i < cN Q := by omega
      obtain ⟨q, q1, q2, q3⟩ := hx_ex hil
      have hpq : p ≤ q := Classical.byContradiction fun z => by
        have a := hx_t q2
        have b : hx Q (q + 1) ≤ hx Q p := cntB_mono (by omega)
        omega
      have e : prd T Q (shr Q w) p = prd T Q (shr Q w) q := prd_hx nc hpq (by omega)
      have cv := hc.2 q q1 q2
      rw [q3] at cv
      have ex := hx_t q2
      refine gX1_productOfShares_5 u (qN Q) (qP Q) (cN Q) _ i q hn6 hp10 hc5 hil q1 h.1 h.2.1 hc.1 cv (fun z => by omega) (fun _ => ?_)
      rw [e]
      exact inner _ i q 0 _ rfl (Nat.zero_le _) q1 q2 q3 (ih (i + 1) (q + 1) (by omega) q1 (by omega))
  exact outer _ 0 0 rfl (Nat.zero_le _) rfl
theorem lg_gt1 {a b : Int64} (h : b < a) : lg_cmp a b = 1 := if_pos h
theorem lg_eq0 {a b : Int64} (h : a = b) : lg_cmp a b = 0 := by
  subst h
  unfold lg_cmp
  rw [if_neg (fun z => Int64.lt_irrefl z), if_pos rfl]
theorem lg_ltm {a b : Int64} (h : a < b) : lg_cmp a b = -1 := by
  have h1 := Int64.lt_iff_toInt_lt.mp h
  unfold lg_cmp
  rw [if_neg (fun z => by have := Int64.lt_iff_toInt_lt.mp z; omega), if_neg (fun z => by rw [z] at h1; omega)]
theorem lg_trich (a b : Int64) : a < b ∨ a = b ∨ b < a := by
  rcases Int.lt_trichotomy a.toInt b.toInt with h | h | h
  · exact Or.inl (Int64.lt_iff_toInt_lt.mpr h)
  · exact Or.inr (Or.inl (Int64.toInt_inj.mp h))
  · exact Or.inr (Or.inr (Int64.lt_iff_toInt_lt.mpr h))
theorem lg_irr {a b : Int64} (h : a < b) (h2 : b < a) : False := by
  have h1 := Int64.lt_iff_toInt_lt.mp h
  have h3 := Int64.lt_iff_toInt_lt.mp h2
  omega
theorem lg_lt {a b : Int64} : ¬ 0 ≤ lg_cmp a b ↔ a < b := by
  rcases lg_trich a b with h | h | h
  · rw [lg_ltm h]
    exact ⟨fun _ => h, fun _ => by decide⟩
  · rw [lg_eq0 h]
    exact ⟨fun z => absurd (by decide) z, fun z => by subst h; exact absurd z Int64.lt_irrefl⟩
  · rw [lg_gt1 h]
    exact ⟨fun z => absurd (by decide) z, fun z => (lg_irr z h).elim⟩
theorem lg_eq {a b : Int64} : lg_cmp a b = 0 ↔ a = b := by
  rcases lg_trich a b with h | h | h
  · rw [lg_ltm h]
    exact ⟨fun z => absurd z (by decide), fun z => by subst z; exact absurd h Int64.lt_irrefl⟩
  · rw [lg_eq0 h]
    exact ⟨fun _ => h, fun _ => rfl⟩
  · rw [lg_gt1 h]
    exact ⟨fun z => absurd z (by decide), fun z => by subst z; exact absurd h Int64.lt_irrefl⟩
theorem qX1_find {u : xU} {T : TBL} {Q : QST} (hT : TI T) (hQ : QI T Q) (hC : CT T u) (h : CQ T Q u) : xC mX1_find [.ref 71, .ref 2, .ref 3] (xmm u) (fun r μ' => ∃ u', μ' = xmm u' ∧ r = none ∧ CVR Q u' ∧ SHR Q (lst T Q (3 ^ cN Q)).2 u' ∧ u'.2.1 71 0 = (lst T Q (3 ^ cN Q)).1 ∧ frC u u') := by
  have hc5 := cN_le hQ
  have h3 := pow3 hc5
  refine xC.of xpl1 (Nat.le_of_ble_eq_true rfl) (gX1_find_0 u ?_)
  refine (qX1_gatherCarriers hT hQ h).mono ?_
  rintro r μ' ⟨u1, rfl, rfl, c1, f1, -⟩
  refine gX1_find_5 u1 _ ?_
  have loop : ∀ d w v, 3 ^ cN Q - w = d → w ≤ 3 ^ cN Q → CVR Q v → v.2.1 71 0 = (lst T Q w).1 → frC u v → xE mX1_find 19 [(0, .ref 71), (1, .ref 2), (2, .ref 3), (3, .int (nI (3 ^ cN Q))), (4, .int (nI (lst T Q w).2)), (5, .int (nI w))] [] (xmm v) (fun r μ' => ∃ u', μ' = xmm u' ∧ r = none ∧ CVR Q u' ∧ SHR Q (lst T Q (3 ^ cN Q)).2 u' ∧ u'.2.1 71 0 = (lst T Q (3 ^ cN Q)).1 ∧ frC u u') := by
    intro d
    induction d with
    | zero =>
      intro w v hd hw cv pv f
      have hl := lst_lt (T := T) (Q := Q) w
      have hwe : w = 3 ^ cN Q := by omega
      refine gX1_find_19 v _ _ w h3 (by omega) hw (fun _ => ?_) (fun z => by omega)
      refine (qX1_takeTrial hQ cv _ (by omega)).mono ?_
      rintro r μ' ⟨u2, rfl, rfl, s2, f2⟩
      refine gX1_find_90 u2 ⟨u2, rfl, rfl, cv.S f2, ?_, ?_, f.tr f2.C⟩
      · rw [← hwe]; exact s2
      · rw [f2.2, ← hwe]; exact pv
    | succ d ih =>
      intro w v hd hw cv pv f
      have hl := lst_lt (T := T) (Q := Q) w
      refine gX1_find_19 v _ _ w h3 (by omega) hw (fun z => by omega) (fun _ => ?_)
      refine (qX1_takeTrial hQ cv w (by omega)).mono ?_
      rintro r μ' ⟨u2, rfl, rfl, s2, f2⟩
      have f3 := f.tr f2.C
      have h2 := h.C hQ f3
      have hC2 := hC.C f3
      have cv2 := cv.S f2
      have pv2 : u2.2.1 71 0 = (lst T Q w).1 := by rw [f2.2]; exact pv
      have stay : ¬ (cov Q (shr Q w) = true ∧ ((lst T Q w).1 = -1 ∨ prd T Q (shr Q w) (qP Q) < (lst T Q w).1)) → xE mX1_find 19 [(0, .ref 71), (1, .ref 2), (2, .ref 3), (3, .int (nI (3 ^ cN Q))), (4, .int (nI (lst T Q w).2)), (5, .int (nI (w + 1)))] [] (xmm u2) (fun r μ' => ∃ u', μ' = xmm u' ∧ r = none ∧ CVR Q u' ∧ SHR Q (lst T Q (3 ^ cN Q)).2 u' ∧ u'.2.1 71 0 = (lst T Q (3 ^ cN Q)).1 ∧ frC u u') := fun z => by
        have e := lst_f z
        have q := ih (w + 1) u2 (by omega) (by omega) cv2 (by rw [e]; exact pv2) f3
        rw [e] at q
        exact q
      have take : cov Q (shr Q w) = true → ((lst T Q w).1 = -1 ∨ prd T Q (shr Q w) (qP Q) < (lst T Q w).1) → xE mX1_find 19 [(0, .ref 71), (1, .ref 2), (2, .ref 3), (3, .int (nI (3 ^ cN Q))), (4, .int (nI w)), (5, .int (nI (w + 1)))] [] (xmm (wl u2 71 0 (prd T Q (shr Q w) (qP Q)))) (fun r μ' => ∃ u', μ' = xmm u' ∧ r = none ∧ CVR Q u' ∧ SHR Q (lst T Q (3 ^ cN Q)).2 u' ∧ u'.2.1 71 0 = (lst T Q (3 ^ cN Q)).1 ∧ frC u u') := fun z y => by
        have e := lst_t z y
        have q := ih (w + 1) (wl u2 71 0 (prd T Q (shr Q w) (qP Q))) (by omega) (by omega) cv2 (by rw [e]; exact wl_self) (f3.tr ⟨fun _ _ _ _ => rfl, fun x hx => wl_row hx, rfl⟩)
        rw [e] at q
        exact q
      refine gX1_find_31 u2 _ _ w (cov Q (shr Q w)) h3 (by omega) (by omega) (qX1_coversAllNames hT hQ h2 cv2 s2) (fun z => stay (fun y => z y.1)) (fun z => ?_)
      refine (qX1_productOfShares hT hQ hC2 h2 cv2 s2).mono ?_
      rintro r μ' ⟨rfl, rfl⟩
      exact gX1_find_45 u2 _ _ w _ _ h3 (by omega) (by omega) pv2 (fun y => take z (Or.inl (lg_eq.mp y))) (fun y x => stay (fun q => q.2.elim (fun e => y (lg_eq.mpr e)) (fun e => lg_lt.mpr e x))) (fun y x => take z (Or.inr (lg_lt.mp x)))
  exact loop _ 0 _ rfl (Nat.zero_le _) c1 wl_self (f1.tr ⟨fun _ _ _ _ => rfl, fun x hx => wl_row hx, rfl⟩)
/-! the face -/
def aBound (T : TBL) (Q : QST) : Int64 := if aStands T Q = true then (lst T Q (3 ^ cN Q)).1 else -1
def isCar (Q : QST) (p : Int32) : Bool := decide (0 ≤ p) && decide (p < nI (qP Q)) && isC Q p.toNatClampNeg
def aCover (T : TBL) (Q : QST) (p : Int32) : Int32 := if (aStands T Q && isCar Q p) = true then nI (shr Q (lst T Q (3 ^ cN Q)).2 p.toNatClampNeg) else -1
theorem isCar_t {T : TBL} {Q : QST} (hQ : QI T Q) {p : Int32} (h : isCar Q p = true) : ∃ j, j < qP Q ∧ p = nI j ∧ p.toNatClampNeg = j ∧ isC Q j = true := by
  have hp10 := hQ.2.1
  simp only [isCar, Bool.and_eq_true, decide_eq_true_eq] at h
  rcases xspl p with z | ⟨j, hj, rfl⟩
  · exact absurd h.1.1 (neg_nn z)
  · have e : (nI j).toNatClampNeg = j := nI_nat hj
    rw [e] at h
    exact ⟨j, (nI_ltn hj (by omega)).mp h.1.2, rfl, e, h.2⟩
theorem isCar_n {T : TBL} {Q : QST} (hQ : QI T Q) {j : Nat} (hj : j < qP Q) (h : isC Q j = true) : isCar Q (nI j) = true := by
  have hp10 := hQ.2.1
  simp only [isCar, Bool.and_eq_true, decide_eq_true_eq]
  rw [nI_nat (by omega)]
  exact ⟨⟨nI_nn (by omega), (nI_ltn (by omega) (by omega)).mpr hj⟩, h⟩
theorem qX9_bound {u : xU} {T : TBL} {Q : QST} (hT : TI T) (hQ : QI T Q) (hC : CT T u) (h : CQ T Q u) : xC mX9_bound [.ref 1] (xmm u) (fun r μ' => ∃ u', μ' = xmm u' ∧ r = some (.long (aBound T Q)) ∧ frC u u') := by
  unfold aBound
  refine xC.of xpl9 (Nat.le_of_ble_eq_true rfl) (gX9_bound_0 u (aStands T Q) (qX4_stands hT hQ h) (fun z => ?_) (fun z => ?_))
  · rw [if_pos z]
    refine (qX1_find hT hQ hC h).mono ?_
    rintro r μ' ⟨u1, rfl, rfl, c1, s1, p1, f1⟩
    exact gX9_bound_29 u1 _ p1 ⟨u1, rfl, rfl, f1⟩
  · rw [if_neg z]
    exact ⟨u, rfl, rfl, frC.rf⟩
theorem qX9_cover {u : xU} {T : TBL} {Q : QST} (hT : TI T) (hQ : QI T Q) (hC : CT T u) (h : CQ T Q u) (p : Int32) : xC mX9_cover [.ref 1, .int p] (xmm u) (fun r μ' => ∃ u', μ' = xmm u' ∧ r = some (.int (aCover T Q p)) ∧ frC u u') := by
  have hc5 := cN_le hQ
  have hp10 := hQ.2.1
  refine xC.of xpl9 (Nat.le_of_ble_eq_true rfl) (gX9_cover_0 u p (aStands T Q) (qX4_stands hT hQ h) (fun z => ?_) (fun z => ?_))
  · refine (qX1_find hT hQ hC h).mono ?_
    rintro r μ' ⟨u1, rfl, rfl, c1, s1, p1, f1⟩
    refine gX9_cover_27 u1 p ?_
    have srch : xC mX1_shareOf [.ref 71, .int p] (xmm u1) (fun r μ' => r = some (.int (aCover T Q p)) ∧ μ' = xmm u1) := by
      refine xC.of xpl1 (Nat.le_of_ble_eq_true rfl) (gX1_shareOf_0 u1 p ?_)
      have loop : ∀ d i, cN Q - i = d → i ≤ cN Q → (∀ j, j < qP Q → isC Q j = true → hx Q j < i → nI j ≠ p) → xE mX1_shareOf 2 [(0, .ref 71), (1, .int p), (2, .int (nI i))] [] (xmm u1) (fun r μ' => r = some (.int (aCover T Q p)) ∧ μ' = xmm u1) := by
        intro d
        induction d with
        | zero =>
          intro i hd hi hj
          refine gX1_shareOf_e u1 (cN Q) i p hc5 (by omega) c1.1 (fun _ => ⟨?_, rfl⟩) (fun y => by omega) (fun y => by omega)
          unfold aCover
          rw [if_neg]
          rw [Bool.and_eq_true]
          rintro ⟨-, y⟩
          obtain ⟨j, j1, rfl, j2, j3⟩ := isCar_t hQ y
          exact hj j j1 j3 (by have := hx_lt j1 j3; omega) rfl
        | succ d ih =>
          intro i hd hi hj
          have hil : i < cN Q := by omega
          obtain ⟨q, q1, q2, q3⟩ := hx_ex hil
          have cv := c1.2 q q1 q2
          have sv := s1 q q1 q2
          rw [q3] at cv sv
          refine gX1_shareOf_2 u1 (cN Q) i q _ p hc5 hil (by omega) shr_le c1.1 cv sv (fun y => by omega) (fun _ y => ih (i + 1) (by omega) (by omega) (fun j j1 j2 j3 => ?_)) (fun _ y => ⟨?_, rfl⟩)
          · by_cases e : hx Q j < i
            · exact hj j j1 j2 e
            · have ej : j = q := by
                rcases Nat.lt_trichotomy j q with w | w | w
                · have a := hx_t j2
                  have b : hx Q (j + 1) ≤ hx Q q := cntB_mono (by omega)
                  omega
                · exact w
                · have a := hx_t q2
                  have b : hx Q (q + 1) ≤ hx Q j := cntB_mono (by omega)
                  omega
              rw [ej]
              exact y
          · unfold aCover
            rw [← y, if_pos (by rw [Bool.and_eq_true]; exact ⟨z, isCar_n hQ q1 q2⟩), nI_nat (by omega)]
      exact loop _ 0 rfl (Nat.zero_le _) (fun j _ _ hj => absurd hj (Nat.not_lt_zero _))
    refine srch.mono ?_
    rintro r μ' ⟨rfl, rfl⟩
    exact xe_ret (r := some (.int _)) dX9_cover_35 trivial ⟨u1, rfl, rfl, f1⟩
  · unfold aCover
    rw [if_neg (by rw [Bool.and_eq_true]; exact fun y => z y.1)]
    exact ⟨u, rfl, rfl, frC.rf⟩

