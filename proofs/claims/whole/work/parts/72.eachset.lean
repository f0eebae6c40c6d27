theorem qJ6_bitCount (u : xU) {S : Nat} (hS : S < 16) : xC mJ6_bitCount_0f7a4 [.int (nI S)] (xmm u) (fun r μ' => r = some (.int (nI (pcS S))) ∧ μ' = xmm u) := by
  refine xC.of xplJ6 (Nat.le_of_ble_eq_true rfl) (gJ6_bitCount_0f7a4_0 u _ ?_)
  refine gJ6_bitCount_0f7a4_10 u _ ?_
  refine gJ6_bitCount_0f7a4_24 u _ ?_
  refine gJ6_bitCount_0f7a4_34 u _ ?_
  refine gJ6_bitCount_0f7a4_41 u _ ?_
  refine gJ6_bitCount_0f7a4_48 u _ ?_
  refine ⟨congrArg (fun x => some (Value.int x)) ?_, rfl⟩
  revert S
  decide +kernel
theorem mnI : ∀ n, n ≤ 4 → (if (1 : Int32) <<< (nI n &&& 31) < 16 then (1 : Int32) <<< (nI n &&& 31) else 16) = nI (2 ^ n) := by decide +kernel
/-- what meeting each set leaves alone -/
def frJ (u u' : xU) : Prop := (∀ x, x ≠ 146 → x ≠ 150 → x ≠ 151 → ¬ (153 ≤ x ∧ x < 156) → u'.1 x = u.1 x) ∧ u'.1 146 0 = u.1 146 0 ∧ (∀ x, x ≠ 148 → x ≠ 149 → x ≠ 152 → u'.2.1 x = u.2.1 x) ∧ u'.2.2 = u.2.2
theorem frJ.rf {u : xU} : frJ u u := ⟨fun _ _ _ _ _ => rfl, rfl, fun _ _ _ _ => rfl, rfl⟩
theorem frJ.tr {u v w : xU} (a : frJ u v) (b : frJ v w) : frJ u w := ⟨fun x h1 h2 h3 h4 => (b.1 x h1 h2 h3 h4).trans (a.1 x h1 h2 h3 h4), b.2.1.trans a.2.1, fun x h1 h2 h3 => (b.2.2.1 x h1 h2 h3).trans (a.2.2.1 x h1 h2 h3), b.2.2.2.trans a.2.2.2⟩
theorem frH.J {u v : xU} (a : frH u v) : frJ u v := ⟨fun x h1 h2 h3 _ => a.1 x h1 h2 h3, a.2.1, a.2.2.1, a.2.2.2⟩
theorem frJ.X {u u' : xU} (h : frJ u u') : frX u u' := ⟨fun x hx => h.1 x (by omega) (by omega) (by omega) (by omega), fun x hx => h.2.2.1 x (by omega) (by omega) (by omega), h.2.2.2⟩
theorem PRE.J {T : TBL} {Q : QST} (hT : TI T) (hQ : QI T Q) {Z : Nat → Nat} {D : Nat → Nat → Int32} {u u' : xU} (h : PRE T Q Z D u) (f : frJ u u') : PRE T Q Z D u' := h.keep hT hQ (fun x hx => f.1 x (by omega) (by omega) (by omega) (by omega)) (fun x hx => f.2.2.1 x (by omega) (by omega) (by omega))
theorem frJ.wi {u : xU} {a k : Nat} {x : Int32} (h : 153 ≤ a ∧ a < 156) : frJ u (wi u a k x) := ⟨fun y _ _ _ h4 => wi_row (by omega), wi_ne (by omega), fun _ _ _ _ => rfl, rfl⟩
theorem qX7_meetEachSet {u : xU} {T : TBL} {Q : QST} (hT : TI T) (hQ : QI T Q) (hC : CT T u) (h : CQ T Q u) (hst : aStands T Q = true) (hn : qN Q ≤ 4) {Z : Nat → Nat} {D : Nat → Nat → Int32} (hpre : PRE T Q Z D u) (h0 : u.1 146 0 = xb (bP (nlH T Q (qP Q)) = true)) : xC mX7_meetEachSet [.ref 74, .ref 3] (xmm u) (fun r μ' => ∃ u', μ' = xmm u' ∧ r = none ∧ frX u u' ∧ SMT T Q (2 ^ qN Q) u') := by
  have h16 : 2 ^ qN Q ≤ 16 := Nat.pow_le_pow_right (n := 2) (by decide) hn
  refine xC.of xpl7 (Nat.le_of_ble_eq_true rfl) (gX7_meetEachSet_0 u (qN Q) hn h.1 ?_)
  rw [mnI _ hn]
  obtain ⟨c0, c1, c2, c3⟩ := cnt0 (T := T) hQ
  have h0' := h0.trans c3
  refine gX7_meetEachSet_12 u (2 ^ qN Q) (nI c0) h0' ?_
  have loop : ∀ d S (v : xU), 2 ^ qN Q - S = d → 1 ≤ S → S ≤ 2 ^ qN Q → frJ u v → SMT T Q S v → LOF T Q S v → xE mX7_meetEachSet 26 [(0, .ref 74), (1, .ref 3), (2, .int (nI (2 ^ qN Q))), (3, .int (nI S))] [] (xmm v) (fun r μ' => ∃ u', μ' = xmm u' ∧ r = none ∧ frX u u' ∧ SMT T Q (2 ^ qN Q) u') := by
    intro d
    induction d with
    | zero =>
      intro S v hd h1 hS fr hs hl
      have e : S = 2 ^ qN Q := by omega
      refine gX7_meetEachSet_e v (2 ^ qN Q) S h16 e (fun _ => ⟨v, rfl, rfl, fr.X, by rw [← e]; exact hs⟩) (fun z => absurd (by omega) z)
    | succ d ih =>
      intro S v hd h1 hS fr hs hl
      have hSl : S < 2 ^ qN Q := by omega
      have hS16 : S < 16 := by omega
      have hqv := h.X hQ fr.X
      -- the next set
      have nx : ∀ (w : xU), frJ u w → (∀ R, R < S → w.1 153 R = v.1 153 R) → (∀ R, R < S → w.1 154 R = v.1 154 R) → ((w.1 153 S = -2 ∧ ¬ rch T Q S) ∨ ∃ k, k ≤ 500 ∧ cntS T Q S = some k ∧ w.1 153 S = nI k ∧ rch T Q S) → (rch T Q S → ∃ k, k < qN Q ∧ S.testBit k = true ∧ w.1 154 S = nI k ∧ rch T Q (rm S k)) → xE mX7_meetEachSet 26 [(0, .ref 74), (1, .ref 3), (2, .int (nI (2 ^ qN Q))), (3, .int (nI (S + 1)))] [] (xmm w) (fun r μ' => ∃ u', μ' = xmm u' ∧ r = none ∧ frX u u' ∧ SMT T Q (2 ^ qN Q) u') := fun w fw w1 w2 w3 w4 => by
        refine ih (S + 1) w (by omega) (by omega) hSl fw (fun R hR => ?_) (fun R hR0 hR hr => ?_)
        · by_cases e : R = S
          · subst e; exact w3
          · rw [w1 R (by omega)]
            exact hs R (by omega)
        · by_cases e : R = S
          · subst e; exact w4 hr
          · rw [w2 R (by omega)]
            exact hl R hR0 (by omega) hr
      by_cases hex : ∃ k, k < qN Q ∧ S.testBit k = true ∧ rch T Q (rm S k)
      · -- it may be reached
        have hln := qX7_lastNameFor hqv hn hS16 hs
        obtain ⟨r, μ', ⟨hr, hμ⟩, hm⟩ := hln
        rcases hr with ⟨k, k1, k2, k3, rfl⟩ | ⟨rfl, hno⟩
        · have hln' : xC mX7_lastNameFor [.ref 74, .ref 3, .int (nI S)] (xmm v) (fun r μ' => r = some (.int (nI k)) ∧ μ' = xmm v) := ⟨_, μ', ⟨rfl, hμ⟩, hm⟩
          refine gX7_meetEachSet_t v (2 ^ qN Q) S k h16 hSl (by omega) hln' (fun z => absurd hSl (by omega)) (fun _ _ => ?_) (fun _ z => absurd z (nIm1 (by omega)))
          have f1 : frJ v (wi v 154 S (nI k)) := frJ.wi (by decide)
          have hl1 : LOF T Q S (wi v 154 S (nI k)) := fun R r0 r1 r2 => by
            rw [wi_nek (by omega)]
            exact hl R r0 r1 r2
          refine (qX7_lineUp (u := wi v 154 S (nI k)) hn hS16 (qJ6_bitCount _ hS16) hl1 k1 k2 wi_self k3).mono ?_
          rintro r μ' ⟨w, o, rfl, rfl, w1, w2, w3, w4, w5, w6, w7⟩
          refine gX7_meetEachSet_74 w (2 ^ qN Q) S (pcS S) h16 hSl ?_
          have f2 : frJ (wi v 154 S (nI k)) w := ⟨fun x _ _ _ h4 => w1 x (by omega), by rw [w1 146 (by decide)], fun _ _ _ _ => by rw [w2], by rw [w2]⟩
          have fw := (fr.tr f1).tr f2
          have hqw := h.X hQ fw.X
          have hcw := hC.X fw.X
          have hpw := hpre.J hT hQ fw
          refine (qX7_meetAlongb hT hQ hcw hqw hst hpw (pc_4 S hS16) w4 w5 w3 (fw.2.1.trans h0)).mono ?_
          rintro r μ' ⟨y, rfl, fy, ⟨rfl, i, i1, i2, i3⟩ | ⟨l, rfl, nd, mem, l5, sl, cs⟩⟩
          · refine gX7_meetEachSet_77 y (2 ^ qN Q) S _ h16 hSl ?_
            have ei : i = pcS S := Classical.byContradiction fun q => w7 i (by omega) i3
            rw [ei, w6] at i3
            have nr : ¬ rch T Q S := fun q => rch_cnt q i3
            refine nx _ ((fw.tr fy.J).tr (frJ.wi (by decide))) (fun R hR => ?_) (fun R hR => ?_) (Or.inl ⟨wi_self, nr⟩) (fun q => absurd q nr)
            · rw [wi_nek (by omega), fy.1 153 (by decide) (by decide) (by decide), w1 153 (by decide), wi_ne (by decide)]
            · rw [wi_ne (by decide), fy.1 154 (by decide) (by decide) (by decide), w1 154 (by decide), wi_nek (by omega)]
          · refine gX7_meetEachSet_77 y (2 ^ qN Q) S _ h16 hSl ?_
            rw [w6] at mem
            have ec : cntS T Q S = some l.length := cntS_of ⟨l5, l, nd, mem, rfl⟩
            have hrc : rch T Q S := by
              obtain ⟨q1, q2, q3, q4⟩ := rm_t S hS16 k (by omega) k2
              have := rch_ext k3 k1 (by rw [q3]; simp) (by rw [q2, ec]; simp)
              rw [q2] at this
              exact this
            refine nx _ ((fw.tr fy.J).tr (frJ.wi (by decide))) (fun R hR => ?_) (fun R hR => ?_) (Or.inr ⟨l.length, l5, ec, wi_self, hrc⟩) (fun _ => ⟨k, k1, k2, ?_, k3⟩)
            · rw [wi_nek (by omega), fy.1 153 (by decide) (by decide) (by decide), w1 153 (by decide), wi_ne (by decide)]
            · rw [wi_ne (by decide), fy.1 154 (by decide) (by decide) (by decide), w1 154 (by decide), wi_nek (by omega)]
            · rw [wi_ne (by decide), fy.1 154 (by decide) (by decide) (by decide), w1 154 (by decide), wi_self]
        · obtain ⟨k, k1, k2, k3⟩ := hex
          exact absurd k3 (hno k k1 k2)
      · have hln := qX7_lastNameFor hqv hn hS16 hs
        obtain ⟨r, μ', ⟨hr, hμ⟩, hm⟩ := hln
        rcases hr with ⟨k, k1, k2, k3, -⟩ | ⟨rfl, hno⟩
        · exact absurd ⟨k, k1, k2, k3⟩ hex
        · have hln' : xC mX7_lastNameFor [.ref 74, .ref 3, .int (nI S)] (xmm v) (fun r μ' => r = some (.int (-1)) ∧ μ' = xmm v) := ⟨_, μ', ⟨rfl, hμ⟩, hm⟩
          have nr : ¬ rch T Q S := fun q => hex (rch_sub hn q (by omega))
          refine gX7_meetEachSet_n v (2 ^ qN Q) S h16 hSl hln' (fun z => absurd hSl (by omega)) (fun _ => nx _ ((fr.tr (frJ.wi (by decide))).tr (frJ.wi (by decide))) (fun R hR => ?_) (fun R hR => ?_) (Or.inl ⟨wi_self, nr⟩) (fun q => absurd q nr))
          · rw [wi_nek (by omega), wi_ne (by decide)]
          · rw [wi_ne (by decide), wi_nek (by omega)]
  refine loop _ 1 _ rfl (Nat.le_refl _) (Nat.one_le_two_pow) (frJ.wi (by decide)) (fun S hS => ?_) (fun S h1 h2 => by omega)
  have : S = 0 := by omega
  subst this
  exact Or.inr ⟨c0, c1, c2, wi_self, rch_0 hQ⟩

