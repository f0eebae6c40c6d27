theorem lg_ng {a b : Int64} (h : lg_cmp a b < 0) : a < b := lg_lt.mp (fun z => le_not_lt z h)
theorem lg_gn {a b : Int64} (h : a < b) : lg_cmp a b < 0 := not_le_lt (lg_lt.mpr h)

def frL (u u' : xU) : Prop := (∀ x, x ≠ 191 → x ≠ 192 → u'.1 x = u.1 x) ∧ u'.2 = u.2
theorem frL.rf {u : xU} : frL u u := ⟨fun _ _ _ => rfl, rfl⟩
theorem frL.tr {u v w : xU} (a : frL u v) (b : frL v w) : frL u w := ⟨fun x h1 h2 => (b.1 x h1 h2).trans (a.1 x h1 h2), b.2.trans a.2⟩
theorem KQ.L {Q : QST} {u u' : xU} (h : KQ Q u) (f : frL u u') : KQ Q u' := h.keep (by rw [f.1 172 (by decide) (by decide)]) (by rw [f.1 172 (by decide) (by decide)]) (fun x a b => f.1 x (by omega) (by omega))
theorem MT.L {T : TBL} {u u' : xU} (h : MT T u) (f : frL u u') : MT T u' := h.keep (f.1 173 (by decide) (by decide)) (f.1 174 (by decide) (by decide)) (f.1 175 (by decide) (by decide))
def MSH (Q : QST) (w : Nat) (u : xU) : Prop := ∀ p, p < qP Q → u.1 191 p = nI (shr Q w p)
theorem qX10_covers {u : xU} {T : TBL} {Q : QST} (hT : TI T) (hQ : QI T Q) (h : KQ Q u) {w : Nat} (hs : MSH Q w u) : xC mX10_covers [.ref 172] (xmm u) (fun r μ' => r = some (.int (xb (cov Q (shr Q w) = true))) ∧ μ' = xmm u) := by
  have hn6 := hQ.1
  have hp10 := hQ.2.1
  refine xC.of xpl10 (Nat.le_of_ble_eq_true rfl) (gX10_covers_0 u ?_)
  have hxp : ∀ p, hx Q p ≤ p := fun p => cntB_le
  have inner : ∀ d k p, k < qN Q → qP Q - p = d → p ≤ qP Q → (2 ≤ hvs Q (shr Q w) k (qP Q) → xE mX10_covers 2 [(0, .ref 172), (1, .int (nI (k + 1)))] [] (xmm u) (fun r μ' => r = some (.int (xb (cov Q (shr Q w) = true))) ∧ μ' = xmm u)) → xE mX10_covers 14 [(0, .ref 172), (1, .int (nI k)), (2, .int (nI (hvs Q (shr Q w) k p))), (3, .int (nI p))] [] (xmm u) (fun r μ' => r = some (.int (xb (cov Q (shr Q w) = true))) ∧ μ' = xmm u) := by
    intro d
    induction d with
    | zero =>
      intro k p hk hd hp next
      have hb := hvs_le (Q := Q) (k := k) (s := shr Q w) (fun _ => shr_le) p
      have := hxp p
      have hpe : p = qP Q := by omega
      refine gX10_covers_e u (qN Q) (qP Q) k _ p hn6 hp10 hk (by omega) hpe h.1 h.2.1 (fun _ z => next (by rw [hpe] at z; exact z)) (fun _ z => ⟨ret_f (fun y => z ?_), rfl⟩) (fun z => by omega) (fun z => by omega)
      rw [hpe]
      exact cov_iff.mp y k hk
    | succ d ih =>
      intro k p hk hd hp next
      have hpl : p < qP Q := by omega
      have hb := hvs_le (Q := Q) (k := k) (s := shr Q w) (fun _ => shr_le) p
      have := hxp p
      have ev : hvs Q (shr Q w) k (p + 1) = hvs Q (shr Q w) k p + if (isC Q p && pHas Q p k) = true then shr Q w p else 0 := rfl
      have q := ih k (p + 1) hk (by omega) hpl next
      rw [ev] at q
      refine gX10_covers_14 u (qN Q) (qP Q) k _ p (qK Q p) (shr Q w p) (pHas Q p k) hn6 hp10 hk (by omega) hpl (hQ.2.2.2.2.1 p hpl).1 shr_le (qX10_hasName hT hQ h hpl (by omega)) h.1 h.2.1 (h.2.2.2 p hpl).1 (hs p hpl) (fun z => by omega) (fun z => by omega) (fun _ z => ?_) (fun _ _ z => ?_) (fun _ y z => ?_)
      · rw [if_neg (by rw [Bool.and_eq_true]; exact fun y => z (isC_iff.mp y.1).1)] at q
        exact q
      · rw [if_neg (by rw [Bool.and_eq_true]; exact fun y => z y.2)] at q
        exact q
      · rw [if_pos (by rw [Bool.and_eq_true]; exact ⟨isC_iff.mpr ⟨y, pHas_nmd z⟩, z⟩)] at q
        exact q
  have outer : ∀ d k, qN Q - k = d → k ≤ qN Q → (∀ j, j < k → 2 ≤ hvs Q (shr Q w) j (qP Q)) → xE mX10_covers 2 [(0, .ref 172), (1, .int (nI k))] [] (xmm u) (fun r μ' => r = some (.int (xb (cov Q (shr Q w) = true))) ∧ μ' = xmm u) := by
    intro d
    induction d with
    | zero =>
      intro k hd hk hj
      exact gX10_covers_2 u (qN Q) (qP Q) k hn6 hp10 hk h.1 h.2.1 (fun _ => ⟨ret_t (cov_iff.mpr (fun j hjn => hj j (by omega))), rfl⟩) (fun z => by omega)
    | succ d ih =>
      intro k hd hk hj
      refine gX10_covers_2 u (qN Q) (qP Q) k hn6 hp10 hk h.1 h.2.1 (fun z => by omega) (fun _ => ?_)
      exact inner _ k 0 (by omega) rfl (Nat.zero_le _) (fun z => ih (k + 1) (by omega) (by omega) (fun j hjk => by
        by_cases e : j = k
        · subst e; exact z
        · exact hj j (by omega)))
  exact outer _ 0 rfl (Nat.zero_le _) (fun j hj => absurd hj (Nat.not_lt_zero j))
theorem qX10_product {u : xU} {T : TBL} {Q : QST} (hT : TI T) (hQ : QI T Q) (hC : MT T u) (h : KQ Q u) {w : Nat} (hs : MSH Q w u) : xC mX10_product [.ref 172] (xmm u) (fun r μ' => r = some (.long (prd T Q (shr Q w) (qP Q))) ∧ μ' = xmm u) := by
  have hn6 := hQ.1
  have hp10 := hQ.2.1
  refine xC.of xpl10 (Nat.le_of_ble_eq_true rfl) (gX10_product_0 u ?_)
  have outer : ∀ d p, qP Q - p = d → p ≤ qP Q → xE mX10_product 4 [(0, .ref 172), (1, .long (prd T Q (shr Q w) p)), (3, .int (nI p))] [] (xmm u) (fun r μ' => r = some (.long (prd T Q (shr Q w) (qP Q))) ∧ μ' = xmm u) := by
    intro d
    induction d with
    | zero =>
      intro p hd hp
      exact gX10_product_4 u (qN Q) (qP Q) p _ hn6 hp10 hp h.1 h.2.1 (fun _ => ⟨by rw [show p = qP Q by omega], rfl⟩) (fun z => by omega)
    | succ d ih =>
      intro p hd hp
      have hpl : p < qP Q := by omega
      have nx := ih (p + 1) (by omega) hpl
      refine gX10_product_4 u (qN Q) (qP Q) p _ hn6 hp10 hp h.1 h.2.1 (fun z => by omega) (fun _ => ?_)
      have sv := hs p hpl
      by_cases hc : isC Q p = true
      · have k0 := (isC_iff.mp hc).1
        obtain ⟨o1, o2, o3⟩ := (hQ.2.2.2.2.1 p hpl).2.1 (by omega)
        have tv := (h.2.2.2 p hpl).2.1 (by omega)
        have inner : ∀ d j, shr Q w p - j = d → j ≤ shr Q w p → xE mX10_product 15 [(0, .ref 172), (1, .long (mulN (nI (T.2.1 (qOf Q p))).toInt64 (prd T Q (shr Q w) p) j)), (3, .int (nI p)), (4, .int (nI j))] [] (xmm u) (fun r μ' => r = some (.long (prd T Q (shr Q w) (qP Q))) ∧ μ' = xmm u) := by
          intro d
          induction d with
          | zero =>
            intro j hd hj
            have hje : j = shr Q w p := by omega
            refine gX10_product_15 u (qN Q) (qP Q) p j (shr Q w p) (qOf Q p) (T.2.1 (qOf Q p)) _ hn6 hp10 hpl shr_le hj o1 sv tv (hC _ o1).2.1 (fun _ => ?_) (fun z => by omega)
            rw [hje]
            exact nx
          | succ d ih =>
            intro j hd hj
            refine gX10_product_15 u (qN Q) (qP Q) p j (shr Q w p) (qOf Q p) (T.2.1 (qOf Q p)) _ hn6 hp10 hpl shr_le hj o1 sv tv (hC _ o1).2.1 (fun z => by omega) (fun _ => ?_)
            exact ih (j + 1) (by omega) (by omega)
        exact inner _ 0 rfl (Nat.zero_le _)
      · have e0 := shr_nc (w := w) hc
        rw [e0] at sv
        have ep : prd T Q (shr Q w) (p + 1) = prd T Q (shr Q w) p := by
          show mulN _ (prd T Q (shr Q w) p) (shr Q w p) = _
          rw [e0]
          rfl
        rw [ep] at nx
        exact gX10_product_n u (qN Q) (qP Q) p _ hn6 hp10 hpl sv nx
  exact outer _ 0 rfl (Nat.zero_le _)
theorem lst_ex {T : TBL} {Q : QST} : ∀ {w : Nat}, (lst T Q w).1 ≠ -1 → ∃ v, v < w ∧ cov Q (shr Q v) = true
  | 0, h => absurd rfl h
  | w + 1, h => by
    by_cases z : cov Q (shr Q w) = true
    · exact ⟨w, by omega, z⟩
    · rw [lst_f (fun y => z y.1)] at h
      obtain ⟨v, v1, v2⟩ := lst_ex h
      exact ⟨v, by omega, v2⟩
theorem dig2 : ∀ c, c ≤ 5 → ∀ j, j < c → (3 ^ c - 1) / 3 ^ j % 3 = 2 := by decide
theorem cov_last {T : TBL} {Q : QST} (hQ : QI T Q) (h : aStands T Q = true) : cov Q (shr Q (3 ^ cN Q - 1)) = true := by
  have hc5 := cN_le hQ
  obtain ⟨-, -, h3⟩ := aStands_iff.mp h
  refine cov_iff.mpr (fun k hk => ?_)
  obtain ⟨p, p1, p2, p3⟩ := h3 k hk
  have hc : isC Q p = true := isC_iff.mpr ⟨p2, pHas_nmd p3⟩
  have hlt := hx_lt p1 hc
  have hsh : shr Q (3 ^ cN Q - 1) p = 2 := by
    unfold shr
    rw [if_pos hc]
    exact dig2 _ hc5 _ (by omega)
  have up : ∀ q, p < q → q ≤ qP Q → 2 ≤ hvs Q (shr Q (3 ^ cN Q - 1)) k q := by
    intro q
    induction q with
    | zero => intro a; omega
    | succ q ih =>
      intro a b
      show 2 ≤ hvs Q (shr Q (3 ^ cN Q - 1)) k q + if (isC Q q && pHas Q q k) = true then shr Q (3 ^ cN Q - 1) q else 0
      by_cases e : p = q
      · subst e
        rw [if_pos (by rw [Bool.and_eq_true]; exact ⟨hc, p3⟩), hsh]
        omega
      · have := ih (by omega) (by omega)
        omega
  exact up _ p1 (Nat.le_refl _)
theorem hx_tail {Q : QST} {p : Nat} (hp : p < qP Q) : hx Q (p + 1) ≤ cN Q := cntB_mono hp
theorem qX10_least {u : xU} {T : TBL} {Q : QST} (hT : TI T) (hQ : QI T Q) (hC : MT T u) (h : KQ Q u) (hst : aStands T Q = true) : xC mX10_least [.ref 172] (xmm u) (fun r μ' => ∃ u', μ' = xmm u' ∧ r = some (.long (lst T Q (3 ^ cN Q)).1) ∧ (∀ p, p < qP Q → u'.1 192 p = nI (shr Q (lst T Q (3 ^ cN Q)).2 p)) ∧ frL u u') := by
  have hn6 := hQ.1
  have hp10 := hQ.2.1
  have hc5 := cN_le hQ
  have h3 := pow3 hc5
  have hn1 : 1 ≤ qP Q := by
    obtain ⟨h0, -, hk⟩ := aStands_iff.mp hst
    obtain ⟨p, hp, -⟩ := hk 0 (by omega)
    omega
  refine xC.of xpl10 (Nat.le_of_ble_eq_true rfl) (gX10_least_0 u ?_)
  -- the trials
  have trials : ∀ d w v, 3 ^ cN Q - w = d → w ≤ 3 ^ cN Q → frL u v → (∀ p, p < qP Q → ¬ isC Q p = true → v.1 191 p = nI 0) → ((∃ x, x < w ∧ cov Q (shr Q x) = true) → ∀ p, p < qP Q → v.1 192 p = nI (shr Q (lst T Q w).2 p)) → xE mX10_least 57 [(0, .ref 172), (1, .int (nI (3 ^ cN Q))), (2, .long (lst T Q w).1), (4, .int (nI w))] [] (xmm v) (fun r μ' => ∃ u', μ' = xmm u' ∧ r = some (.long (lst T Q (3 ^ cN Q)).1) ∧ (∀ p, p < qP Q → u'.1 192 p = nI (shr Q (lst T Q (3 ^ cN Q)).2 p)) ∧ frL u u') := by
    intro d
    induction d with
    | zero =>
      intro w v hd hw f z0 cv
      have hq := h.L f
      have hwe : w = 3 ^ cN Q := by omega
      refine gX10_least_57 v (qN Q) (qP Q) _ w _ hn6 hp10 hn1 h3 hw hq.1 hq.2.1 (fun _ => ⟨v, rfl, by rw [hwe], ?_, f⟩) (fun z => by omega)
      have hpos : 0 < 3 ^ cN Q := Nat.pow_pos (by decide)
      have := cv ⟨3 ^ cN Q - 1, by omega, cov_last hQ hst⟩
      rw [hwe] at this
      exact this
    | succ d ih =>
      intro w v hd hw f z0 cv
      have hq := h.L f
      have hwl : w < 3 ^ cN Q := by omega
      refine gX10_least_57 v (qN Q) (qP Q) _ w _ hn6 hp10 hn1 h3 hw hq.1 hq.2.1 (fun z => by omega) (fun _ => ?_)
      -- behind the digits
      have behind : ∀ (v' : xU) (r0 : Nat) (i : Int32), i < 0 → r0 ≤ 243 → frL u v' → MSH Q w v' → v'.1 192 = v.1 192 → xE mX10_least 75 [(0, .ref 172), (1, .int (nI (3 ^ cN Q))), (2, .long (lst T Q w).1), (4, .int (nI w)), (5, .int (nI r0)), (6, .int i)] [] (xmm v') (fun r μ' => ∃ u', μ' = xmm u' ∧ r = some (.long (lst T Q (3 ^ cN Q)).1) ∧ (∀ p, p < qP Q → u'.1 192 p = nI (shr Q (lst T Q (3 ^ cN Q)).2 p)) ∧ frL u u') := by
        intro v' r0 i hi hr f' sh e192
        have hq' := h.L f'
        have hC' := hC.L f'
        have z0' : ∀ p, p < qP Q → ¬ isC Q p = true → v'.1 191 p = nI 0 := fun p hp hnc => by rw [sh p hp, shr_nc hnc]
        have stay : ¬ (cov Q (shr Q w) = true ∧ ((lst T Q w).1 = -1 ∨ prd T Q (shr Q w) (qP Q) < (lst T Q w).1)) → xE mX10_least 57 [(0, .ref 172), (1, .int (nI (3 ^ cN Q))), (2, .long (lst T Q w).1), (4, .int (nI (w + 1)))] [] (xmm v') (fun r μ' => ∃ u', μ' = xmm u' ∧ r = some (.long (lst T Q (3 ^ cN Q)).1) ∧ (∀ p, p < qP Q → u'.1 192 p = nI (shr Q (lst T Q (3 ^ cN Q)).2 p)) ∧ frL u u') := fun z => by
          have e := lst_f z
          have q := ih (w + 1) v' (by omega) (by omega) f' z0' (by
            rw [e, e192]
            rintro ⟨x, x1, x2⟩
            by_cases exw : x = w
            · subst exw
              by_cases e1 : (lst T Q x).1 = -1
              · exact absurd ⟨x2, Or.inl e1⟩ z
              · exact cv (lst_ex e1)
            · exact cv ⟨x, by omega, x2⟩)
          rw [e] at q
          exact q
        refine gX10_least_75n v' _ w r0 i _ (cov Q (shr Q w)) hi hr hwl h3 (qX10_covers hT hQ hq' sh) (fun _ z => ?_) (fun _ z => stay (fun y => z y.1)) (fun z => absurd hi z)
        refine (qX10_product hT hQ hC' hq' sh).mono ?_
        rintro r μ' ⟨rfl, rfl⟩
        have take : ((lst T Q w).1 = -1 ∨ prd T Q (shr Q w) (qP Q) < (lst T Q w).1) → xE mX10_least 165 [(0, .ref 172), (1, .int (nI (3 ^ cN Q))), (2, .long (prd T Q (shr Q w) (qP Q))), (4, .int (nI w)), (8, .int (nI 0))] [] (xmm v') (fun r μ' => ∃ u', μ' = xmm u' ∧ r = some (.long (lst T Q (3 ^ cN Q)).1) ∧ (∀ p, p < qP Q → u'.1 192 p = nI (shr Q (lst T Q (3 ^ cN Q)).2 p)) ∧ frL u u') := fun y => by
          have e := lst_t (T := T) z y
          have copy : ∀ d p v2, qP Q - p = d → p ≤ qP Q → frL u v2 → MSH Q w v2 → (∀ j, j < p → v2.1 192 j = nI (shr Q w j)) → xE mX10_least 165 [(0, .ref 172), (1, .int (nI (3 ^ cN Q))), (2, .long (prd T Q (shr Q w) (qP Q))), (4, .int (nI w)), (8, .int (nI p))] [] (xmm v2) (fun r μ' => ∃ u', μ' = xmm u' ∧ r = some (.long (lst T Q (3 ^ cN Q)).1) ∧ (∀ p, p < qP Q → u'.1 192 p = nI (shr Q (lst T Q (3 ^ cN Q)).2 p)) ∧ frL u u') := by
            intro d
            induction d with
            | zero =>
              intro p v2 hd hp f2 s2 c2
              have hq2 := h.L f2
              refine gX10_least_165e v2 (qN Q) (qP Q) _ w p _ hn6 hp10 hwl h3 (by omega) hq2.1 hq2.2.1 (fun _ => ?_) (fun z => by omega)
              have q := ih (w + 1) v2 (by omega) (by omega) f2 (fun p hp hnc => by rw [s2 p hp, shr_nc hnc]) (fun _ j hj => by
                rw [e]
                exact c2 j (by omega))
              rw [e] at q
              exact q
            | succ d ih2 =>
              intro p v2 hd hp f2 s2 c2
              have hq2 := h.L f2
              have hpl : p < qP Q := by omega
              refine gX10_least_165 v2 (qN Q) (qP Q) _ w p _ _ hn6 hp10 hwl h3 hpl hq2.1 hq2.2.1 (s2 p hpl) (fun z => by omega) (fun _ => ?_)
              refine ih2 (p + 1) _ (by omega) hpl (f2.tr ⟨fun x x1 x2 => wi_row x2, rfl⟩) (fun j hj => by rw [wi_ne (by decide)]; exact s2 j hj) (fun j hj => ?_)
              by_cases ej : j = p
              · subst ej; exact wi_self
              · rw [wi_nek ej]; exact c2 j (by omega)
          exact copy _ 0 v' rfl (Nat.zero_le _) f' sh (fun j hj => absurd hj (Nat.not_lt_zero j))
        exact gX10_least_139 v' _ w _ _ hwl h3 (fun y => take (Or.inl (lg_eq.mp y))) (fun _ y => take (Or.inr (lg_ng y))) (fun y x => stay (fun q => q.2.elim (fun e => y (lg_eq.mpr e)) (fun e => x (lg_gn e))))
      -- the digits
      have digits : ∀ p v', p < qP Q → frL u v' → (∀ j, p < j → j < qP Q → v'.1 191 j = nI (shr Q w j)) → (∀ j, j ≤ p → ¬ isC Q j = true → v'.1 191 j = nI 0) → v'.1 192 = v.1 192 → xE mX10_least 75 [(0, .ref 172), (1, .int (nI (3 ^ cN Q))), (2, .long (lst T Q w).1), (4, .int (nI w)), (5, .int (nI (w / 3 ^ (cN Q - hx Q (p + 1))))), (6, .int (nI p))] [] (xmm v') (fun r μ' => ∃ u', μ' = xmm u' ∧ r = some (.long (lst T Q (3 ^ cN Q)).1) ∧ (∀ p, p < qP Q → u'.1 192 p = nI (shr Q (lst T Q (3 ^ cN Q)).2 p)) ∧ frL u u') := by
        intro p
        have rle : ∀ q, w / 3 ^ q ≤ 243 := fun q => Nat.le_trans (Nat.div_le_self _ _) (by omega)
        have dg : ∀ p, p < qP Q → isC Q p = true → w / 3 ^ (cN Q - hx Q (p + 1)) % 3 = shr Q w p ∧ w / 3 ^ (cN Q - hx Q (p + 1)) / 3 = w / 3 ^ (cN Q - hx Q p) := fun p hp hc => by
          have a := hx_t hc
          have b := hx_tail hp
          constructor
          · unfold shr
            rw [if_pos hc, a]
            congr 3
            omega
          · rw [Nat.div_div_eq_div_mul, ← Nat.pow_succ]
            congr 2
            omega
        induction p with
        | zero =>
          intro v' hp f' hi lo e192
          have hq' := h.L f'
          have nc : ¬ isC Q 0 = true → xE mX10_least 75 [(0, .ref 172), (1, .int (nI (3 ^ cN Q))), (2, .long (lst T Q w).1), (4, .int (nI w)), (5, .int (nI (w / 3 ^ (cN Q - hx Q (0 + 1))))), (6, .int (0 + Int32.ofInt (-1)))] [] (xmm v') (fun r μ' => ∃ u', μ' = xmm u' ∧ r = some (.long (lst T Q (3 ^ cN Q)).1) ∧ (∀ p, p < qP Q → u'.1 192 p = nI (shr Q (lst T Q (3 ^ cN Q)).2 p)) ∧ frL u u') := fun z => behind v' _ _ (by decide) (rle _) f' (fun j hj => by
            by_cases ej : j = 0
            · subst ej; rw [lo 0 (Nat.le_refl _) z, shr_nc z]
            · exact hi j (by omega) hj) e192
          refine gX10_least_75z v' (qN Q) (qP Q) _ w _ (qK Q 0) _ (pNmd Q 0) hn6 hp10 (rle _) hn1 (hQ.2.2.2.2.1 0 hp).1 (qX10_isNamed hT hQ hq' hp) hq'.1 hq'.2.1 (hq'.2.2.2 0 hp).1 (fun z => nc (fun y => z (isC_iff.mp y).1)) (fun z y => ?_) (fun _ z => nc (fun y => z (isC_iff.mp y).2))
          have hc : isC Q 0 = true := isC_iff.mpr ⟨z, y⟩
          obtain ⟨d1, d2⟩ := dg 0 hp hc
          rw [d1, d2]
          refine behind _ _ _ (by decide) (rle _) (f'.tr ⟨fun x x1 x2 => wi_row x1, rfl⟩) (fun j hj => ?_) (by rw [wi_row (by decide)]; exact e192)
          by_cases ej : j = 0
          · subst ej; exact wi_self
          · rw [wi_nek ej]; exact hi j (by omega) hj
        | succ p ihp =>
          intro v' hp f' hi lo e192
          have hq' := h.L f'
          have nc : ¬ isC Q (p + 1) = true → xE mX10_least 75 [(0, .ref 172), (1, .int (nI (3 ^ cN Q))), (2, .long (lst T Q w).1), (4, .int (nI w)), (5, .int (nI (w / 3 ^ (cN Q - hx Q (p + 1 + 1))))), (6, .int (nI (p + 1 - 1)))] [] (xmm v') (fun r μ' => ∃ u', μ' = xmm u' ∧ r = some (.long (lst T Q (3 ^ cN Q)).1) ∧ (∀ p, p < qP Q → u'.1 192 p = nI (shr Q (lst T Q (3 ^ cN Q)).2 p)) ∧ frL u u') := fun z => by
            have q := ihp v' (by omega) f' (fun j a b => by
              by_cases ej : j = p + 1
              · subst ej; rw [lo _ (Nat.le_refl _) z, shr_nc z]
              · exact hi j (by omega) b) (fun j a b => lo j (by omega) b) e192
            rw [← hx_f z] at q
            exact q
          refine gX10_least_75 v' (qN Q) (qP Q) _ w _ (p + 1) (qK Q (p + 1)) _ (pNmd Q (p + 1)) hn6 hp10 (rle _) (by omega) hp (hQ.2.2.2.2.1 _ hp).1 (qX10_isNamed hT hQ hq' hp) hq'.1 hq'.2.1 (hq'.2.2.2 _ hp).1 (fun z => nc (fun y => z (isC_iff.mp y).1)) (fun z y => ?_) (fun _ z => nc (fun y => z (isC_iff.mp y).2))
          have hc : isC Q (p + 1) = true := isC_iff.mpr ⟨z, y⟩
          obtain ⟨d1, d2⟩ := dg (p + 1) hp hc
          rw [d1, d2]
          refine ihp _ (by omega) (f'.tr ⟨fun x x1 x2 => wi_row x1, rfl⟩) (fun j a b => ?_) (fun j a b => ?_) (by rw [wi_row (by decide)]; exact e192)
          · by_cases ej : j = p + 1
            · subst ej; exact wi_self
            · rw [wi_nek ej]; exact hi j (by omega) b
          · rw [wi_nek (by omega)]; exact lo j (by omega) b
      have q := digits (qP Q - 1) v (by omega) f (fun j a b => by omega) (fun j a b => z0 j (by omega) b) rfl
      have e : qP Q - 1 + 1 = qP Q := by omega
      rw [e] at q
      have e2 : cN Q - hx Q (qP Q) = 0 := Nat.sub_self _
      rw [e2, Nat.pow_zero, Nat.div_one] at q
      exact q
  -- the start
  have init : ∀ d p v, qP Q - p = d → p ≤ qP Q → frL u v → (∀ j, j < p → v.1 191 j = nI 0) → xE mX10_least 4 [(0, .ref 172), (1, .int (nI (3 ^ hx Q p))), (2, .int (nI p))] [] (xmm v) (fun r μ' => ∃ u', μ' = xmm u' ∧ r = some (.long (lst T Q (3 ^ cN Q)).1) ∧ (∀ p, p < qP Q → u'.1 192 p = nI (shr Q (lst T Q (3 ^ cN Q)).2 p)) ∧ frL u u') := by
    intro d
    induction d with
    | zero =>
      intro p v hd hp f z
      have hq := h.L f
      have hpe : p = qP Q := by omega
      have hh := hx_le hp
      refine gX10_least_4e v (qN Q) (qP Q) _ p hn6 hp10 (pow3 (by omega)) hpe hq.1 hq.2.1 (fun _ => ?_) (fun z => by omega) (fun z => by omega)
      rw [hpe]
      exact trials _ 0 v rfl (Nat.zero_le _) f (fun j hj _ => z j (by omega)) (fun ⟨x, hx, _⟩ => absurd hx (Nat.not_lt_zero x))
    | succ d ih =>
      intro p v hd hp f z
      have hq := h.L f
      have hpl : p < qP Q := by omega
      have hh := hx_le hp
      have f' : frL u (wi v 191 p (nI 0)) := f.tr ⟨fun x x1 x2 => wi_row x1, rfl⟩
      have q := ih (p + 1) (wi v 191 p (nI 0)) (by omega) hpl f' (fun j hj => by
        by_cases ej : j = p
        · subst ej; exact wi_self
        · rw [wi_nek ej]; exact z j (by omega))
      refine gX10_least_4 v (qN Q) (qP Q) _ p (qK Q p) (pNmd Q p) hn6 hp10 (pow3 (by omega)) hpl (hQ.2.2.2.2.1 p hpl).1 (qX10_isNamed hT hQ (h.L f') hpl) hq.1 hq.2.1 (hq.2.2.2 p hpl).1 (fun y => by omega) (fun _ y => ?_) (fun _ _ y => ?_) (fun _ y x => ?_)
      · rw [hx_f (fun x => y (isC_iff.mp x).1)] at q
        rw [Nat.mul_one]
        exact q
      · rw [hx_f (fun x => y (isC_iff.mp x).2)] at q
        rw [Nat.mul_one]
        exact q
      · rw [hx_t (isC_iff.mpr ⟨y, x⟩), Nat.pow_succ] at q
        exact q
  exact init _ 0 u rfl (Nat.zero_le _) frL.rf (fun j hj => absurd hj (Nat.not_lt_zero j))
theorem qX10_bound {u : xU} {T : TBL} {Q : QST} (hT : TI T) (hQ : QI T Q) (hC : MT T u) (h : KQ Q u) : xC mX10_bound [.ref 172] (xmm u) (fun r μ' => ∃ u', μ' = xmm u' ∧ r = some (.long (aBound T Q)) ∧ frL u u') := by
  unfold aBound
  refine xC.of xpl10 (Nat.le_of_ble_eq_true rfl) (gX10_bound_0 u (aStands T Q) (qX10_holds hT hQ hC h) (fun z => ?_) (fun z => ?_))
  · rw [if_neg z]
    exact ⟨u, rfl, rfl, frL.rf⟩
  · rw [if_pos z]
    refine (qX10_least hT hQ hC h z).mono ?_
    rintro r μ' ⟨u1, rfl, rfl, c1, f1⟩
    exact gX10_bound_11 u1 _ ⟨u1, rfl, rfl, f1⟩
theorem qX10_cover {u : xU} {T : TBL} {Q : QST} (hT : TI T) (hQ : QI T Q) (hC : MT T u) (h : KQ Q u) (p : Int32) : xC mX10_cover [.ref 172, .int p] (xmm u) (fun r μ' => ∃ u', μ' = xmm u' ∧ r = some (.int (aCover T Q p)) ∧ frL u u') := by
  have hp10 := hQ.2.1
  have no : ¬ (aStands T Q = true ∧ isCar Q p = true) → ∃ u', xmm u = xmm u' ∧ some (Value.int (-1)) = some (.int (aCover T Q p)) ∧ frL u u' := fun z => by
    unfold aCover
    rw [if_neg (by rw [Bool.and_eq_true]; exact z)]
    exact ⟨u, rfl, rfl, frL.rf⟩
  by_cases hst : aStands T Q = true
  · have hn1 : 1 ≤ qP Q := by
      obtain ⟨h0, -, hk⟩ := aStands_iff.mp hst
      obtain ⟨p, hp, -⟩ := hk 0 (by omega)
      omega
    by_cases hr : 0 ≤ p ∧ p ≤ nI (qP Q - 1)
    · rcases xspl p with y | ⟨j, hj, rfl⟩
      · exact absurd hr.1 (neg_nn y)
      have hjl : j < qP Q := by
        have := (nI_len hj (by omega)).mp hr.2
        omega
      refine xC.of xpl10 (Nat.le_of_ble_eq_true rfl) (gX10_cover_N u (qN Q) (qP Q) j (qK Q j) (aStands T Q) (pNmd Q j) hQ.1 hp10 hn1 (hQ.2.2.2.2.1 j hjl).1 hjl (qX10_holds hT hQ hC h) (qX10_isNamed hT hQ h hjl) h.1 h.2.1 (h.2.2.2 j hjl).1 (fun z => absurd hst z) (fun _ z => absurd ⟨Nat.zero_le _, by omega⟩ z) (fun _ _ z => no (fun y => ?_)) (fun _ _ z y => ?_) (fun _ _ _ z => no (fun y => ?_)))
      · obtain ⟨i, i1, e, -, i2⟩ := isCar_t hQ y.2
        have := (nI_inj (by omega) (by omega)).mp e
        subst this
        exact z (isC_iff.mp i2).1
      · have hc : isC Q j = true := isC_iff.mpr ⟨z, y⟩
        refine (qX10_least hT hQ hC h hst).mono ?_
        rintro r μ' ⟨u1, rfl, rfl, c1, f1⟩
        refine gX10_cover_44 u1 j _ _ (by omega) (c1 j hjl) ⟨u1, rfl, ?_, f1⟩
        unfold aCover
        rw [if_pos (by rw [Bool.and_eq_true]; exact ⟨hst, isCar_n hQ hjl hc⟩), nI_nat (by omega)]
      · obtain ⟨i, i1, e, -, i2⟩ := isCar_t hQ y.2
        have := (nI_inj (by omega) (by omega)).mp e
        subst this
        exact z (isC_iff.mp i2).2
    · refine xC.of xpl10 (Nat.le_of_ble_eq_true rfl) (gX10_cover_I u (qN Q) (qP Q) p (aStands T Q) hQ.1 hp10 hn1 (qX10_holds hT hQ hC h) h.1 h.2.1 (fun z => absurd hst z) (fun _ _ => no (fun y => ?_)) (fun _ z => absurd z hr))
      obtain ⟨i, i1, rfl, -, i2⟩ := isCar_t hQ y.2
      exact hr ⟨nI_nn (by omega), (nI_len (by omega) (by omega)).mpr (by omega)⟩
  · have hh := qX10_holds hT hQ hC h
    rw [xb_eq (show aStands T Q = true ↔ False from ⟨hst, fun z => z.elim⟩)] at hh
    exact xC.of xpl10 (Nat.le_of_ble_eq_true rfl) (gX10_cover_0 u p hh (fun _ => no (fun y => hst y.1)) (fun z => z.elim) (fun z => z.elim))

