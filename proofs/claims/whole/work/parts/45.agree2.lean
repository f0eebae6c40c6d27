/-- what agree leaves alone -/
def frA (u u' : xU) : Prop := (∀ x, x ≠ 150 → x ≠ 151 → u'.1 x = u.1 x) ∧ (∀ x, x ≠ 152 → u'.2.1 x = u.2.1 x) ∧ u'.2.2 = u.2.2
theorem frA.rf {u : xU} : frA u u := ⟨fun _ _ _ => rfl, fun _ _ => rfl, rfl⟩
theorem frA.tr {u v w : xU} (a : frA u v) (b : frA v w) : frA u w := ⟨fun x h1 h2 => (b.1 x h1 h2).trans (a.1 x h1 h2), fun x h1 => (b.2.1 x h1).trans (a.2.1 x h1), b.2.2.trans a.2.2⟩
theorem frA.X {u u' : xU} (h : frA u u') : frX u u' := ⟨fun x hx => h.1 x (by omega) (by omega), fun x hx => h.2.1 x (by omega), h.2.2⟩
/-- prepare's findings hold on -/
theorem PRE.keep {T : TBL} {Q : QST} (hT : TI T) (hQ : QI T Q) {Z : Nat → Nat} {D : Nat → Nat → Int32} {u u' : xU} (h : PRE T Q Z D u) (f1 : ∀ x, x = 75 ∨ (77 ≤ x ∧ x < 83) ∨ (116 ≤ x ∧ x < 146) → u'.1 x = u.1 x) (f2 : ∀ x, x = 83 ∨ (85 ≤ x ∧ x < 115) → u'.2.1 x = u.2.1 x) : PRE T Q Z D u' := by
  have hn6 := hQ.1
  have hp10 := hQ.2.1
  obtain ⟨h1, h2, h3⟩ := h
  refine ⟨fun p hp hk => by rw [f2 83 (Or.inl rfl)]; exact h1 p hp hk, fun k hk => ?_, fun p hp c hc hcl k hk => ?_⟩
  · obtain ⟨a1, ⟨a2, a3⟩, a4⟩ := h2 k hk
    exact ⟨a1, ⟨by rw [f1 75 (Or.inl rfl)]; exact a2, fun i hi => by rw [f1 (77 + k) (by omega)]; exact a3 i hi⟩, a4⟩
  · have hpp : p < qP Q := by omega
    have := qL_3 hT hQ hpp
    have := h3 p hp c hc hcl k hk
    unfold RW at this ⊢
    rw [f1 (116 + (p * 3 + c)) (by omega), f2 (85 + (p * 3 + c)) (by omega)]
    exact this
theorem PRE.A {T : TBL} {Q : QST} (hT : TI T) (hQ : QI T Q) {Z : Nat → Nat} {D : Nat → Nat → Int32} {u u' : xU} (h : PRE T Q Z D u) (f : frA u u') : PRE T Q Z D u' := h.keep hT hQ (fun x hx => f.1 x (by omega) (by omega)) (fun x hx => f.2.1 x (by omega))
/-- the meeting m gives the names of S the values of a -/
def SPT (Q : QST) (Z : Nat → Nat) (D : Nat → Nat → Int32) (S m : Nat) (a : Nat → Int32) : Prop := ∀ k, S.testBit k = true → k < qN Q ∧ spN m k < Z k ∧ D k (spN m k) = a k
def AGS (T : TBL) (Q : QST) (S : Nat) (a : Nat → Int32) (m : Nat) (u : xU) : Prop := (∀ k, k < qN Q → u.1 150 k = nI (spN m k) ∧ u.1 151 k = u.1 (77 + k) (spN m k)) ∧ ∀ p, p < qP Q → qK Q p ≤ 1 → ∃ w, u.2.1 152 p = nL w ∧ BO (agR T Q p S a) (rwN T Q p) w
theorem BO_and {P R : Nat → Prop} {n m m' : Nat} (h : BO P n m) (h' : BO R n m') : BO (fun i => P i ∧ R i) n (m &&& m') := ⟨Nat.and_lt_two_pow _ h'.1, fun i => by
  rw [Nat.testBit_and, Bool.and_eq_true, h.2 i, h'.2 i]
  constructor
  · rintro ⟨⟨a, b⟩, -, c⟩
    exact ⟨a, b, c⟩
  · rintro ⟨a, b, c⟩
    exact ⟨⟨a, b⟩, a, c⟩⟩
theorem BO_congr {P R : Nat → Prop} {n m : Nat} (h : BO P n m) (e : ∀ i, i < n → (P i ↔ R i)) : BO R n m := ⟨h.1, fun i => by
  rw [h.2 i]
  constructor
  · rintro ⟨a, b⟩
    exact ⟨a, (e i a).mp b⟩
  · rintro ⟨a, b⟩
    exact ⟨a, (e i a).mpr b⟩⟩
theorem qX7_agree {u : xU} {T : TBL} {Q : QST} (hT : TI T) (hQ : QI T Q) (hC : CT T u) (h : CQ T Q u) {Z : Nat → Nat} {D : Nat → Nat → Int32} (hpre : PRE T Q Z D u) {S m : Nat} {a : Nat → Int32} (hS : S < 64) (hm : m < 2 ^ 36) (hs : SPT Q Z D S m a) : xC mX7_agree [.ref 74, .ref 3, .long (nL m), .int (nI S)] (xmm u) (fun r μ' => ∃ u', μ' = xmm u' ∧ r = none ∧ AGS T Q S a m u' ∧ frA u u') := by
  have hn6 := hQ.1
  have hp10 := hQ.2.1
  refine xC.of xpl7 (Nat.le_of_ble_eq_true rfl) (gX7_agree_0 u S _ ?_)
  have parts : ∀ d p v, qP Q - p = d → p ≤ qP Q → frA u v → (∀ k, k < qN Q → v.1 150 k = nI (spN m k) ∧ v.1 151 k = v.1 (77 + k) (spN m k)) → (∀ j, j < p → qK Q j ≤ 1 → ∃ w, v.2.1 152 j = nL w ∧ BO (agR T Q j S a) (rwN T Q j) w) → xE mX7_agree 56 [(0, .ref 74), (1, .ref 3), (4, .int (nI S)), (5, .int (nI p))] [] (xmm v) (fun r μ' => ∃ u', μ' = xmm u' ∧ r = none ∧ AGS T Q S a m u' ∧ frA u u') := by
    intro d
    induction d with
    | zero =>
      intro p v hd hp f h1 h2
      have hq := h.X hQ f.X
      exact gX7_agree_56 v (qN Q) (qP Q) S p _ hn6 hp10 hp hq.1 hq.2.1 rfl (fun _ => ⟨v, rfl, rfl, ⟨h1, fun j hj => h2 j (by omega)⟩, f⟩) (fun z => by omega)
    | succ d ih =>
      intro p v hd hp f h1 h2
      have hq := h.X hQ f.X
      have hpl : p < qP Q := by omega
      have hpv := hpre.A hT hQ f
      have cp := hq.2.2.2.2 p hpl
      have hl3 := qL_3 hT hQ hpl
      have hk3 := (hQ.2.2.2.2.1 p hpl).1
      have put : ∀ y, (qK Q p ≤ 1 → ∃ w, y = nL w ∧ BO (agR T Q p S a) (rwN T Q p) w) → xE mX7_agree 56 [(0, .ref 74), (1, .ref 3), (4, .int (nI S)), (5, .int (nI (p + 1)))] [] (xmm (wl v 152 p y)) (fun r μ' => ∃ u', μ' = xmm u' ∧ r = none ∧ AGS T Q S a m u' ∧ frA u u') := fun y hy => by
        refine ih (p + 1) _ (by omega) hpl (f.tr ⟨fun _ _ _ => rfl, fun x hx => wl_row hx, rfl⟩) h1 (fun j hj hk => ?_)
        by_cases e : j = p
        · subst e
          rw [wl_self]
          exact hy hk
        · rw [wl_nek e]
          exact h2 j (by omega) hk
      refine gX7_agree_56 v (qN Q) (qP Q) S p _ hn6 hp10 hp hq.1 hq.2.1 rfl (fun z => by omega) (fun _ => ?_)
      by_cases hk1 : qK Q p ≤ 1
      · obtain ⟨w0, w1, w2⟩ := hpv.1 p hpl hk1
        rw [w1]
        have h40 : 2 ^ rwN T Q p ≤ 2 ^ 40 := Nat.pow_le_pow_right (by decide) (hT _ ((hQ.2.2.2.2.1 p hpl).2.1 hk1).1).2.1
        have cols : ∀ e c w, qL Q p - c = e → c ≤ qL Q p → BO (fun r => fitR T Q p r ∧ ∀ i, i < c → ∀ n, qM Q p i = some n → S.testBit n = true → cel T Q p r i = a n) (rwN T Q p) w → xE mX7_agree 86 [(0, .ref 74), (1, .ref 3), (4, .int (nI S)), (5, .int (nI p)), (6, .ref (6 + 4 * p)), (7, .long (nL w)), (9, .int (nI c))] [] (xmm v) (fun r μ' => ∃ u', μ' = xmm u' ∧ r = none ∧ AGS T Q S a m u' ∧ frA u u') := by
          intro e
          induction e with
          | zero =>
            intro c w he hc hb
            have hce : c = qL Q p := by omega
            have fin := put (nL w) (fun _ => ⟨w, rfl, BO_congr hb (fun r _ => ⟨fun z => ⟨z.1, fun i hi => z.2 i (by omega)⟩, fun z => ⟨z.1, fun i hi => z.2 i (by omega)⟩⟩)⟩)
            exact gX7_agree_f v S p c (qK Q p) (qL Q p) _ (by omega) hk3 hl3 (fun _ => hce) cp.1 cp.2.2.1 (fun z => absurd hk1 z) (fun _ _ => fin) (fun _ z => absurd (by omega) z) (fun _ z => absurd (by omega) z) (fun _ z => absurd (by omega) z)
          | succ e ihe =>
            intro c w he hc hb
            have hcl : c < qL Q p := by omega
            have n5 := cp.2.2.2.2.2.1 c hcl
            have skip : (∀ n, qM Q p c = some n → ¬ S.testBit n = true) → xE mX7_agree 86 [(0, .ref 74), (1, .ref 3), (4, .int (nI S)), (5, .int (nI p)), (6, .ref (6 + 4 * p)), (7, .long (nL w)), (9, .int (nI (c + 1)))] [] (xmm v) (fun r μ' => ∃ u', μ' = xmm u' ∧ r = none ∧ AGS T Q S a m u' ∧ frA u u') := fun hn => ihe (c + 1) w (by omega) hcl (BO_congr hb (fun r _ => ⟨fun z => ⟨z.1, fun i hi n hin hns => by
              by_cases ei : i = c
              · subst ei; exact absurd hns (hn n hin)
              · exact z.2 i (by omega) n hin hns⟩, fun z => ⟨z.1, fun i hi => z.2 i (by omega)⟩⟩))
            cases hm' : qM Q p c with
            | none =>
              rw [hm'] at n5
              exact gX7_agree_n v S p c (qK Q p) (qL Q p) _ (by omega) hk3 hl3 hcl cp.1 cp.2.2.1 n5 (fun z => absurd hk1 z) (fun _ z => by omega) (fun _ _ => skip (fun n hn => by rw [hm'] at hn; cases hn))
            | some k =>
              rw [hm'] at n5
              have hkn := qM_lt hQ hpl hcl hm'
              have bi := bitI S hS k (by omega)
              have hpi : xC mX7_pair [.int (nI p), .int (nI c)] (xmm v) (fun r μ' => r = some (.int (nI (p * 3 + c))) ∧ μ' = xmm v) := xC.of xpl7 (Nat.le_of_ble_eq_true rfl) (gX7_pair_0 v p c (by omega) (by omega) ⟨rfl, rfl⟩)
              by_cases hSk : S.testBit k = true
              · obtain ⟨s1, s2, s3⟩ := hs k hSk
                obtain ⟨⟨b, b1, b2⟩, -⟩ := (⟨(hpv.2.2 p hk1 c (Or.inl hpl) hcl k hm').1 _ s2, trivial⟩ : (∃ m', v.2.1 (85 + (p * 3 + c)) (spN m k) = nL m' ∧ BO (fun r => cel T Q p r c = D k (spN m k)) (rwN T Q p) m') ∧ True)
                refine gX7_agree_s v S p c (qK Q p) (qL Q p) k (spN m k) _ _ (by omega) hk3 hl3 hcl (by omega) (spN_lt m k) hpi cp.1 cp.2.2.1 n5 (h1 k hkn).1 b1 (fun z => absurd hk1 z) (fun _ z => by omega) (fun _ _ z => absurd z (nIm1 (by omega))) (fun _ _ _ z => ?_) (fun _ _ _ _ => ?_)
                · rw [bi, if_pos hSk] at z
                  exact absurd z (by decide)
                · have lw := hb.1
                  have lb := b2.1
                  rw [nL_and (by omega) (by omega)]
                  refine ihe (c + 1) _ (by omega) hcl (BO_congr (BO_and hb b2) (fun r _ => ⟨fun z => ⟨z.1.1, fun i hi n hin hns => ?_⟩, fun z => ⟨⟨z.1, fun i hi => z.2 i (by omega)⟩, ?_⟩⟩))
                  · by_cases ei : i = c
                    · subst ei
                      rw [hm'] at hin
                      cases hin
                      rw [← s3]
                      exact z.2
                    · exact z.1.2 i (by omega) n hin hns
                  · rw [s3]
                    exact z.2 c (by omega) k hm' hSk
              · refine gX7_agree_s v S p c (qK Q p) (qL Q p) k (spN m k) _ _ (by omega) hk3 hl3 hcl (by omega) (spN_lt m k) hpi cp.1 cp.2.2.1 n5 (h1 k hkn).1 rfl (fun z => absurd hk1 z) (fun _ z => by omega) (fun _ _ z => absurd z (nIm1 (by omega))) (fun _ _ _ _ => skip (fun n hn => by rw [hm'] at hn; cases hn; exact hSk)) (fun _ _ _ z => ?_)
                rw [bi, if_neg hSk] at z
                exact absurd rfl z
        exact cols _ 0 w0 rfl (Nat.zero_le _) (BO_congr w2 (fun r _ => ⟨fun z => ⟨z, fun i hi => absurd hi (Nat.not_lt_zero i)⟩, fun z => z.1⟩))
      · have fin := put (v.2.1 83 p) (fun z => absurd z hk1)
        exact gX7_agree_f v S p 0 (qK Q p) (qL Q p) _ (by omega) hk3 hl3 (fun z => absurd z hk1) cp.1 cp.2.2.1 (fun _ => fin) (fun z => absurd z hk1) (fun z => absurd z hk1) (fun z => absurd z hk1) (fun z => absurd z hk1)
  have names : ∀ d k v, qN Q - k = d → k ≤ qN Q → frA u v → (∀ j, j < k → v.1 150 j = nI (spN m j) ∧ v.1 151 j = v.1 (77 + j) (spN m j)) → xE mX7_agree 3 [(0, .ref 74), (1, .ref 3), (2, .long (nL m)), (4, .int (nI S)), (5, .int (nI k))] [] (xmm v) (fun r μ' => ∃ u', μ' = xmm u' ∧ r = none ∧ AGS T Q S a m u' ∧ frA u u') := by
    intro d
    induction d with
    | zero =>
      intro k v hd hk f h1
      have hq := h.X hQ f.X
      refine gX7_agree_e v (qN Q) (qP Q) S k _ hn6 hp10 (by omega) hq.1 hq.2.1 (fun _ => ?_) (fun z => by omega)
      exact parts _ 0 v rfl (Nat.zero_le _) f (fun j hj => h1 j (by omega)) (fun j hj => absurd hj (Nat.not_lt_zero j))
    | succ d ih =>
      intro k v hd hk f h1
      have hq := h.X hQ f.X
      have hkl : k < qN Q := by omega
      refine gX7_agree_3 v (qN Q) (qP Q) S k (spN m k) _ hn6 hp10 hkl (spN_lt m k) (qX9_spotIn v (by omega) hm) hq.1 hq.2.1 (fun z => by omega) (fun _ => ?_)
      refine ih (k + 1) _ (by omega) hkl (f.tr ⟨fun x x1 x2 => by rw [wi_row x2, wi_row x1], fun _ _ => rfl, rfl⟩) (fun j hj => ?_)
      by_cases e : j = k
      · subst e
        refine ⟨by rw [wi_ne (by decide)]; exact wi_self, ?_⟩
        rw [wi_self, wi_ne (by omega), wi_ne (by omega)]
      · obtain ⟨a1, a2⟩ := h1 j (by omega)
        refine ⟨by rw [wi_ne (by decide), wi_nek e]; exact a1, ?_⟩
        rw [wi_nek e, wi_ne (by decide), wi_ne (by omega), wi_ne (by omega)]
        exact a2
  exact names _ 0 u rfl (Nat.zero_le _) frA.rf (fun j hj => absurd hj (Nat.not_lt_zero j))

