theorem subI : ∀ m, m < 64 → ∀ S, S < 64 → ((nI m &&& (nI S ^^^ (-1))) = 0 ↔ m &&& S = m) := by decide +kernel
theorem whl_msk {Q : QST} {p S : Nat} : whl Q p S ↔ msk (qM Q p) (qL Q p) &&& S = msk (qM Q p) (qL Q p) := by
  constructor
  · intro h
    apply Nat.eq_of_testBit_eq
    intro i
    rw [Nat.testBit_and]
    by_cases hb : (msk (qM Q p) (qL Q p)).testBit i = true
    · obtain ⟨j, hj, hn⟩ := msk_bit.mp hb
      rw [hb, h j hj i hn]
      rfl
    · simp only [Bool.not_eq_true] at hb
      rw [hb]
      rfl
  · intro h i hi n hn
    have hb : (msk (qM Q p) (qL Q p)).testBit n = true := msk_bit.mpr ⟨i, hi, hn⟩
    rw [← h, Nat.testBit_and, Bool.and_eq_true] at hb
    exact hb.2
/-- a row that agrees with one name more -/
theorem agR_ext {T : TBL} {Q : QST} {p S k r : Nat} {a : Nat → Int32} {v : Int32} (hk : ¬ S.testBit k = true) (hh : pHas Q p k = true) : agR T Q p (S ||| 2 ^ k) (setT a k v) r ↔ agR T Q p S a r ∧ cel T Q p r (fC Q p k) = v := by
  obtain ⟨c1, c2⟩ := fC_lt hh
  constructor
  · intro h
    refine ⟨⟨h.1, fun i hi n hn hs => ?_⟩, ?_⟩
    · rw [h.2 i hi n hn (bit_add.mpr (Or.inl hs)), setT_bit hk n hs]
    · rw [h.2 _ c1 k c2 (bit_add.mpr (Or.inr rfl)), setT_at]
  · rintro ⟨h1, h2⟩
    refine ⟨h1.1, fun i hi n hn hs => ?_⟩
    by_cases e : n = k
    · subst e
      rw [setT_at, ← h2]
      exact (fitR_iff.mp h1.1 i hi).2 n hn
    · rw [setT_ne e]
      exact h1.2 i hi n hn ((bit_add.mp hs).resolve_right e)
theorem trP_has {T : TBL} {Q : QST} {p S k : Nat} {b : Nat → Int32} (h0 : qK Q p = 0) (hh : pHas Q p k = true) : trP T Q p (S ||| 2 ^ k) b ↔ hasR T Q p (S ||| 2 ^ k) b := by
  obtain ⟨c1, c2⟩ := fC_lt hh
  constructor
  · intro q
    rcases q.1 h0 with ⟨-, z⟩ | z
    · exact absurd ⟨_, c1, k, c2, bit_add.mpr (Or.inr rfl)⟩ z
    · exact z
  · intro q
    exact ⟨fun _ => Or.inr q, fun z => by omega, fun z => by omega, fun z => by omega⟩
theorem trP_not {T : TBL} {Q : QST} {p S : Nat} {b : Nat → Int32} (h1 : qK Q p = 1) : trP T Q p S b ↔ (whl Q p S → ¬ hasR T Q p S b) := ⟨fun q => q.2.1 h1, fun q => ⟨fun z => by omega, fun _ => q, fun z => by omega, fun z => by omega⟩⟩
theorem trP_same {T : TBL} {Q : QST} {p S : Nat} {b : Nat → Int32} (h1 : qK Q p = 2) : trP T Q p S b ↔ (whl Q p S → tld Q b p 0 = tld Q b p 1) := ⟨fun q => q.2.2.1 h1, fun q => ⟨fun z => by omega, fun z => by omega, fun _ => q, fun z => by omega⟩⟩
theorem trP_less {T : TBL} {Q : QST} {p S : Nat} {b : Nat → Int32} (h1 : 3 ≤ qK Q p) : trP T Q p S b ↔ (whl Q p S → ky (tld Q b p 0) < ky (tld Q b p 1)) := ⟨fun q => q.2.2.2 h1, fun q => ⟨fun z => by omega, fun z => by omega, fun z => by omega, fun _ => q⟩⟩
/-- the weaver looks at value v, spot s, of name k behind the meeting a of S -/
def EXT (T : TBL) (Q : QST) (Z : Nat → Nat) (D : Nat → Nat → Int32) (S k s : Nat) (a : Nat → Int32) (v : Int32) (u : xU) : Prop := u.1 150 k = nI s ∧ s < Z k ∧ D k s = v ∧ (∀ j, (S ||| 2 ^ k).testBit j = true → u.1 151 j = setT a k v j) ∧ ∀ p, p < qP Q → qK Q p ≤ 1 → ∃ w, u.2.1 152 p = nL w ∧ BO (agR T Q p S a) (rwN T Q p) w
theorem qX7_side {u : xU} {T : TBL} {Q : QST} (hQ : QI T Q) (h : CQ T Q u) {p c S : Nat} {b : Nat → Int32} (hp : p < qP Q) (h2 : 2 ≤ qK Q p) (hc : c < 2) (hw : whl Q p S) (hv : ∀ j, S.testBit j = true → u.1 151 j = b j) : xC mX7_side [.ref 74, .ref (6 + 4 * p), .int (nI c)] (xmm u) (fun r μ' => r = some (.int (tld Q b p c)) ∧ μ' = xmm u) := by
  have hp10 := hQ.2.1
  have hn6 := hQ.1
  have hl := ((hQ.2.2.2.2.1 p hp).2.2.1 h2).1
  have cp := h.2.2.2.2 p hp
  have n5 := cp.2.2.2.2.2.1 c (by omega)
  cases hm : qM Q p c with
  | none =>
    rw [hm] at n5
    have t5 := cp.2.2.2.2.2.2.1 c (by omega) hm
    refine xC.of xpl7 (Nat.le_of_ble_eq_true rfl) (gX7_side_n u p c _ (by omega) (by omega) n5 t5 ⟨?_, rfl⟩)
    unfold tld
    rw [hm]
  | some k =>
    rw [hm] at n5
    have hkn := qM_lt hQ hp (by omega) hm
    refine xC.of xpl7 (Nat.le_of_ble_eq_true rfl) (gX7_side_s u p c k (b k) (by omega) (by omega) (by omega) n5 (hv k (hw c (by omega) k hm)) (fun _ => ⟨?_, rfl⟩) (fun z => absurd z (nIm1 (by omega))))
    unfold tld
    rw [hm]
theorem qX7_holds {u : xU} {T : TBL} {Q : QST} (hT : TI T) (hQ : QI T Q) (h : CQ T Q u) {Z : Nat → Nat} {D : Nat → Nat → Int32} (hpre : PRE T Q Z D u) {S k s p : Nat} {a : Nat → Int32} {v : Int32} (hS : S < 64) (hk : k < qN Q) (hSk : ¬ S.testBit k = true) (hx : EXT T Q Z D S k s a v u) (hp : p < qP Q) (hh : pHas Q p k = true) : xC mX7_holds [.ref 74, .int (nI p), .ref (6 + 4 * p), .int (nI (S ||| 2 ^ k)), .int (nI k)] (xmm u) (fun r μ' => r = some (.int (xb (bP (trP T Q p (S ||| 2 ^ k) (setT a k v)) = true))) ∧ μ' = xmm u) := by
  have hp10 := hQ.2.1
  have hn6 := hQ.1
  obtain ⟨x1, x2, x3, x4, x5⟩ := hx
  have cp := h.2.2.2.2 p hp
  have hm := msk_q hQ hp
  have hS' : S ||| 2 ^ k < 64 := Nat.or_lt_two_pow (n := 6) hS (Nat.pow_lt_pow_right (by decide) (by omega))
  have hwm : ((nI (msk (qM Q p) (qL Q p)) &&& (nI (S ||| 2 ^ k) ^^^ (-1))) = 0) ↔ whl Q p (S ||| 2 ^ k) := (subI _ hm _ hS').trans whl_msk.symm
  have hk3 := (hQ.2.2.2.2.1 p hp).1
  have ne : ∀ i j : Nat, i < 4 → j < 4 → i ≠ j → ¬ nI i = nI j := fun i j hi hj hij e => hij ((nI_inj (by omega) (by omega)).mp e)
  have tt : trP T Q p (S ||| 2 ^ k) (setT a k v) → some (Value.int (nI 1)) = some (.int (xb (bP (trP T Q p (S ||| 2 ^ k) (setT a k v)) = true))) := fun z => ret_t (bP_iff.mpr z)
  have ff : ¬ trP T Q p (S ||| 2 ^ k) (setT a k v) → some (Value.int (nI 0)) = some (.int (xb (bP (trP T Q p (S ||| 2 ^ k) (setT a k v)) = true))) := fun z => ret_f (fun y => z (bP_iff.mp y))
  obtain ⟨c1, c2⟩ := fC_lt hh
  have hl3 := qL_3 hT hQ hp
  by_cases hk1 : qK Q p ≤ 1
  · obtain ⟨w, w1, w2⟩ := x5 p hp hk1
    obtain ⟨b, b1, b2⟩ := (hpre.2.2 p hk1 _ (Or.inl hp) c1 k c2).1 s x2
    have pv := cp.2.2.2.2.2.2.2 k (pHas_msk.mp hh)
    have hz := (hpre.2.1 k hk).1.1
    have hpi : xC mX7_pair [.int (nI p), .int (nI (fC Q p k))] (xmm u) (fun r μ' => r = some (.int (nI (p * 3 + fC Q p k))) ∧ μ' = xmm u) := xC.of xpl7 (Nat.le_of_ble_eq_true rfl) (gX7_pair_0 u p _ (by omega) (by omega) ⟨rfl, rfl⟩)
    have h40 : 2 ^ rwN T Q p ≤ 2 ^ 40 := Nat.pow_le_pow_right (by decide) (hT _ ((hQ.2.2.2.2.1 p hp).2.1 hk1).1).2.1
    have lw := w2.1
    have lb := b2.1
    have hz0 : lg_cmp (nL w &&& nL b) 0 = 0 ↔ ¬ hasR T Q p (S ||| 2 ^ k) (setT a k v) := by
      rw [nL_and (by omega) (by omega), lg_eq, show (0 : Int64) = nL 0 from rfl, nL_inj (by have := (BO_and w2 b2).1; omega) (by decide), BO_nz (BO_and w2 b2)]
      constructor
      · rintro z ⟨r, r1, r2⟩
        exact z ⟨r, r1, by rw [x3]; exact (agR_ext hSk hh).mp r2⟩
      · rintro z ⟨r, r1, r2⟩
        exact z ⟨r, r1, (agR_ext hSk hh).mpr (by rw [x3] at r2; exact r2)⟩
    refine xC.of xpl7 (Nat.le_of_ble_eq_true rfl) (gX7_holds_f u p (S ||| 2 ^ k) k (qK Q p) _ (fC Q p k) s (nL w) (nL b) (by omega) (by omega) hk1 hm (by omega) (by omega) hpi cp.1 cp.2.2.2.1 w1 pv x1 b1 ?_ ?_ ?_ ?_ ?_ ?_ ?_ ?_ ?_ ?_ ?_)
    · intro y1 y2 y3
      have e0 := (nI_inj (by omega) (by omega)).mp y2
      exact ⟨ff (fun q => hz0.mp y3 ((trP_has e0 hh).mp q)), rfl⟩
    · intro y1 y2 y3
      have e0 := (nI_inj (by omega) (by omega)).mp y2
      exact ⟨tt ((trP_has e0 hh).mpr (Classical.byContradiction fun q => y3 (hz0.mpr q))), rfl⟩
    · intro y1 y2 y3
      have e0 := (nI_inj (by omega) (by omega)).mp y3
      exact ⟨tt ((trP_not e0).mpr (fun q => absurd (hwm.mpr q) y1)), rfl⟩
    · intro y1 y2 y3 y4
      have e0 := (nI_inj (by omega) (by omega)).mp y4
      omega
    · intro y1 y2 y3 y4
      exact absurd (show nI (qK Q p) = nI 0 ∨ nI (qK Q p) = nI 1 from (by rcases (show qK Q p = 0 ∨ qK Q p = 1 by omega) with e | e <;> rw [e] <;> simp)) (fun z => z.elim y2 y3)
    · intro y1 y2 y3
      have e0 := (nI_inj (by omega) (by omega)).mp y2
      exact ⟨ff (fun q => hz0.mp y3 ((trP_has e0 hh).mp q)), rfl⟩
    · intro y1 y2 y3
      have e0 := (nI_inj (by omega) (by omega)).mp y2
      exact ⟨tt ((trP_has e0 hh).mpr (Classical.byContradiction fun q => y3 (hz0.mpr q))), rfl⟩
    · intro y1 y2 y3 y4
      have e0 := (nI_inj (by omega) (by omega)).mp y3
      exact ⟨ff (fun q => y4 (hz0.mpr ((trP_not e0).mp q (hwm.mp y1)))), rfl⟩
    · intro y1 y2 y3 y4
      have e0 := (nI_inj (by omega) (by omega)).mp y3
      exact ⟨tt ((trP_not e0).mpr (fun _ => hz0.mp y4)), rfl⟩
    · intro y1 y2 y3 y4
      have e0 := (nI_inj (by omega) (by omega)).mp y4
      omega
    · intro y1 y2 y3 y4
      exact absurd (show nI (qK Q p) = nI 0 ∨ nI (qK Q p) = nI 1 from (by rcases (show qK Q p = 0 ∨ qK Q p = 1 by omega) with e | e <;> rw [e] <;> simp)) (fun z => z.elim y2 y3)
  · have h2 : 2 ≤ qK Q p := by omega
    have n0 := ne (qK Q p) 0 (by omega) (by decide) (by omega)
    have n1 := ne (qK Q p) 1 (by omega) (by decide) (by omega)
    by_cases hw : whl Q p (S ||| 2 ^ k)
    · have y0 := hwm.mpr hw
      refine xC.of xpl7 (Nat.le_of_ble_eq_true rfl) (gX7_holds_c u p (S ||| 2 ^ k) k (qK Q p) _ _ _ (by omega) (by omega) h2 hk3 hm (qX7_side hQ h hp h2 (by decide) hw x4) (qX7_side hQ h hp h2 (by decide) hw x4) cp.1 cp.2.2.2.1 (fun y => absurd y0 y) (fun y => absurd y0 y) (fun y => absurd y0 y) (fun y => absurd y0 y) (fun _ y => absurd y n0) (fun _ _ y => absurd y n1) (fun _ _ _ e y => ?_) (fun _ _ _ e y => ?_) (fun _ _ _ e y => ?_) (fun _ _ _ e y => ?_))
      · have e0 := (nI_inj (by omega) (by omega)).mp e
        exact ⟨ff (fun q => y ((trP_same e0).mp q hw)), rfl⟩
      · have e0 := (nI_inj (by omega) (by omega)).mp e
        exact ⟨tt ((trP_same e0).mpr (fun _ => y)), rfl⟩
      · have e0 : 3 ≤ qK Q p := Classical.byContradiction fun q => e (by rw [show qK Q p = 2 by omega])
        exact ⟨ff (fun q => y ((trP_less e0).mp q hw)), rfl⟩
      · have e0 : 3 ≤ qK Q p := Classical.byContradiction fun q => e (by rw [show qK Q p = 2 by omega])
        exact ⟨tt ((trP_less e0).mpr (fun _ => y)), rfl⟩
    · have tr : trP T Q p (S ||| 2 ^ k) (setT a k v) := ⟨fun z => by omega, fun z => by omega, fun _ z => absurd z hw, fun _ z => absurd z hw⟩
      have y0 : ¬ (nI (msk (qM Q p) (qL Q p)) &&& (nI (S ||| 2 ^ k) ^^^ (-1))) = 0 := fun z => hw (hwm.mp z)
      exact xC.of xpl7 (Nat.le_of_ble_eq_true rfl) (gX7_holds_d u p (S ||| 2 ^ k) k (qK Q p) _ (by omega) (by omega) h2 hk3 hm cp.1 cp.2.2.2.1 (fun _ y => absurd y n0) (fun _ _ y => absurd y n1) (fun _ _ _ _ => ⟨tt tr, rfl⟩) (fun _ _ _ _ => ⟨tt tr, rfl⟩) (fun y => absurd y y0) (fun y => absurd y y0) (fun y => absurd y y0) (fun y => absurd y y0))
theorem qX7_meets {u : xU} {T : TBL} {Q : QST} (hT : TI T) (hQ : QI T Q) (h : CQ T Q u) {Z : Nat → Nat} {D : Nat → Nat → Int32} (hpre : PRE T Q Z D u) {S k s : Nat} {a : Nat → Int32} {v : Int32} (hS : S < 64) (hk : k < qN Q) (hSk : ¬ S.testBit k = true) (hx : EXT T Q Z D S k s a v u) : xC mX7_meets [.ref 74, .ref 3, .int (nI (S ||| 2 ^ k)), .int (nI k)] (xmm u) (fun r μ' => r = some (.int (xb (bP (∀ p, p < qP Q → pHas Q p k = true → trP T Q p (S ||| 2 ^ k) (setT a k v)) = true))) ∧ μ' = xmm u) := by
  have hp10 := hQ.2.1
  have hn6 := hQ.1
  refine xC.of xpl7 (Nat.le_of_ble_eq_true rfl) (gX7_meets_0 u (S ||| 2 ^ k) k ?_)
  have loop : ∀ d p, qP Q - p = d → p ≤ qP Q → (∀ j, j < p → pHas Q j k = true → trP T Q j (S ||| 2 ^ k) (setT a k v)) → xE mX7_meets 3 [(0, .ref 74), (1, .ref 3), (2, .int (nI (S ||| 2 ^ k))), (3, .int (nI k)), (4, .int (nI p))] [] (xmm u) (fun r μ' => r = some (.int (xb (bP (∀ p, p < qP Q → pHas Q p k = true → trP T Q p (S ||| 2 ^ k) (setT a k v)) = true))) ∧ μ' = xmm u) := by
    intro d
    induction d with
    | zero =>
      intro p hd hp hj
      exact gX7_meets_e u (qP Q) (S ||| 2 ^ k) k p hp10 (by omega) (by omega) h.2.1 (fun _ => ⟨ret_t (bP_iff.mpr (fun j hjl => hj j (by omega))), rfl⟩) (fun z => by omega)
    | succ d ih =>
      intro p hd hp hj
      have hpl : p < qP Q := by omega
      have cp := h.2.2.2.2 p hpl
      have nx : (pHas Q p k = true → trP T Q p (S ||| 2 ^ k) (setT a k v)) → xE mX7_meets 3 [(0, .ref 74), (1, .ref 3), (2, .int (nI (S ||| 2 ^ k))), (3, .int (nI k)), (4, .int (nI (p + 1)))] [] (xmm u) (fun r μ' => r = some (.int (xb (bP (∀ p, p < qP Q → pHas Q p k = true → trP T Q p (S ||| 2 ^ k) (setT a k v)) = true))) ∧ μ' = xmm u) := fun z => ih (p + 1) (by omega) hpl (fun j hjp => by
        by_cases e : j = p
        · subst e; exact z
        · exact hj j (by omega))
      by_cases hh : pHas Q p k = true
      · exact gX7_meets_3 u (qP Q) (S ||| 2 ^ k) k p _ _ hp10 hpl (by omega) (msk_q hQ hpl) (qX7_holds hT hQ h hpre hS hk hSk hx hpl hh) h.2.1 cp.2.2.2.1 (fun z => by omega) (fun _ z => absurd (pHas_msk.mp hh) z) (fun _ _ z => nx (fun _ => bP_iff.mp z)) (fun _ _ z => ⟨ret_f (fun y => z (bP_iff.mpr (bP_iff.mp y p hpl hh))), rfl⟩)
      · exact gX7_meets_n u (qP Q) (S ||| 2 ^ k) k p _ hp10 hpl (by omega) (msk_q hQ hpl) h.2.1 cp.2.2.2.1 (fun z => by omega) (fun _ _ => nx (fun z => absurd z hh)) (fun _ z => absurd (pHas_msk.mpr z) hh)
  exact loop _ 0 rfl (Nat.zero_le _) (fun j hj => absurd hj (Nat.not_lt_zero j))

