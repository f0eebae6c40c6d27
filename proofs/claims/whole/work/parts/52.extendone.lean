theorem qX7_extendOne {u : xU} {T : TBL} {Q : QST} (hT : TI T) (hQ : QI T Q) (h : CQ T Q u) {Z : Nat → Nat} {D : Nat → Nat → Int32} (hpre : PRE T Q Z D u) {S m k i : Nat} {a : Nat → Int32} (hS : S < 64) (hm : m < 2 ^ 36) (hk : k < qN Q) (hSk : ¬ S.testBit k = true) (hh : fH Q k < qP Q) (hs : SPT Q Z D S m a) (hz : ∀ j, j < 6 → ¬ S.testBit j = true → spN m j = 0) (ha : MEM T Q S a) (hag : AGS T Q S a m u) (hi : i ≤ 6) {l : List (Nat → Int32)} (hn : l.Nodup) (hl : ∀ b, b ∈ l → MEM T Q (S ||| 2 ^ k) b ∧ setT b k 0 ≠ a) (h5 : l.length ≤ 500) (hc : u.1 146 i = nI l.length) (hsl : SLT Q Z D (S ||| 2 ^ k) (i % 2) l u) : xC mX7_extendOne [.ref 74, .ref 3, .int (nI i), .long (nL m), .int (nI (S ||| 2 ^ k)), .int (nI k)] (xmm u) (eoP T Q Z D S k i a l u) := by
  have hp10 := hQ.2.1
  have hn6 := hQ.1
  refine xC.of xpl7 (Nat.le_of_ble_eq_true rfl) (gX7_extendOne_0 u i (S ||| 2 ^ k) k _ (by omega) ?_)
  refine (qX7_narrowest hT hQ h hk hh hag.2).mono ?_
  rintro r μ' ⟨p, p1, p2, p3, rfl, rfl⟩
  have hl3 := qL_3 hT hQ p1
  obtain ⟨c1, c2⟩ := fC_lt p3
  have cp := h.2.2.2.2 p p1
  have pv := cp.2.2.2.2.2.2.2 k (pHas_msk.mp p3)
  have hk1 : qK Q p ≤ 1 := by omega
  obtain ⟨w0, w1, w2⟩ := hag.2 p p1 hk1
  have hpi : xC mX7_pair [.int (nI p), .int (nI (fC Q p k))] (xmm u) (fun r μ' => r = some (.int (nI (p * 3 + fC Q p k))) ∧ μ' = xmm u) := xC.of xpl7 (Nat.le_of_ble_eq_true rfl) (gX7_pair_0 u p _ (by omega) (by omega) ⟨rfl, rfl⟩)
  refine gX7_extendOne_7 u i (S ||| 2 ^ k) k p (fC Q p k) (nL m) (nL w0) (by omega) (by omega) (by omega) hpi pv w1 (fun _ => ?_) (fun z => absurd z (nIm1 (by omega)))
  have hrw := hpre.2.2 p hk1 _ (Or.inl p1) c1 k c2
  obtain ⟨dO, dS, dM⟩ := hpre.2.1 k hk
  have hn40 : rwN T Q p ≤ 40 := (hT _ ((hQ.2.2.2.2.1 p p1).2.1 hk1).1).2.1
  have h40 : 2 ^ rwN T Q p ≤ 2 ^ 40 := Nat.pow_le_pow_right (by decide) hn40
  have hS' : S ||| 2 ^ k < 64 := Nat.or_lt_two_pow (n := 6) hS (Nat.pow_lt_pow_right (by decide) (by omega))
  have ak : a k = 0 := ha.1 k hSk
  have loop : ∀ d j y (v : xU) (P : Int32 → Prop) (e : List (Nat → Int32)), 40 - j = d → j ≤ 40 → y < 2 ^ 40 → (∀ r, y.testBit r = true → j ≤ r ∧ r < rwN T Q p ∧ agR T Q p S a r ∧ ¬ P (cel T Q p r (fC Q p k))) → (∀ r, r < rwN T Q p → agR T Q p S a r → y.testBit r = true ∨ P (cel T Q p r (fC Q p k)) ∨ ¬ Dm T Q k (cel T Q p r (fC Q p k))) → (∀ b, b ∈ e ↔ ∃ w, P w ∧ b = setT a k w ∧ MEM T Q (S ||| 2 ^ k) b) → (l ++ e).Nodup → (l ++ e).length ≤ 500 → v.1 146 i = nI (l ++ e).length → SLT Q Z D (S ||| 2 ^ k) (i % 2) (l ++ e) v → frE i u v → (∀ j, j ≠ k → v.1 151 j = u.1 151 j) → xE mX7_extendOne 49 [(0, .ref 74), (1, .ref 3), (2, .int (nI i)), (3, .long (nL m)), (5, .int (nI (S ||| 2 ^ k))), (6, .int (nI k)), (8, .int (nI (p * 3 + fC Q p k))), (9, .long (nL y)), (11, .int (nI j))] [] (xmm v) (eoP T Q Z D S k i a l u) := by
    have done : ∀ (v : xU) (P : Int32 → Prop) (e : List (Nat → Int32)), (∀ r, r < rwN T Q p → agR T Q p S a r → P (cel T Q p r (fC Q p k)) ∨ ¬ Dm T Q k (cel T Q p r (fC Q p k))) → (∀ b, b ∈ e ↔ ∃ w, P w ∧ b = setT a k w ∧ MEM T Q (S ||| 2 ^ k) b) → (l ++ e).Nodup → (l ++ e).length ≤ 500 → v.1 146 i = nI (l ++ e).length → SLT Q Z D (S ||| 2 ^ k) (i % 2) (l ++ e) v → frE i u v → eoP T Q Z D S k i a l u (some (.int (nI 1))) (xmm v) := fun v P e h2 h3 h4 h6 h7 h8 h9 => by
      refine ⟨v, rfl, h9, Or.inl ⟨rfl, e, h4, fun b => ⟨fun hb => ?_, fun ⟨hb, hba⟩ => ?_⟩, h6, h7, h8⟩⟩
      · obtain ⟨w, y1, rfl, y2⟩ := (h3 b).mp hb
        exact ⟨y2, setT_back ak⟩
      · have e0 : b = setT a k (b k) := by rw [← hba]; exact setT_fix.symm
        refine (h3 b).mpr ⟨b k, ?_, e0, hb⟩
        obtain ⟨r, r1, r2⟩ := (trP_has p2 p3).mp (hb.2.2 p p1)
        rw [e0] at r2
        obtain ⟨g1, g2⟩ := (agR_ext hSk p3).mp r2
        rcases h2 r r1 g1 with z | z
        · rw [g2] at z; exact z
        · rw [g2] at z
          exact absurd (hb.2.1 k (bit_add.mpr (Or.inr rfl))) z
    intro d
    induction d with
    | zero =>
      intro j y v P e hd hj hy i1 i2 i3 i4 i5 i6 i7 i8 i9
      have hfin := done v P e (fun r hr hg => (i2 r hr hg).resolve_left (fun z => by have := i1 r z; omega)) i3 i4 i5 i6 i7 i8
      exact gX7_extendOne_z v i (S ||| 2 ^ k) k (p * 3 + fC Q p k) j _ _ (by omega) (by omega) hi hj (fun _ => hfin) (fun z => absurd (by omega) z) (fun z => absurd (by omega) z)
    | succ d ih =>
      intro j y v P e hd hj hy i1 i2 i3 i4 i5 i6 i7 i8 i9
      have hd' : 40 - (j + 1) = d := by omega
      have hj' : j < 40 := by omega
      have hpr : p * 3 + fC Q p k < 30 := by omega
      have hq := h.keep hQ.2.1 (u' := v) (fun x hx => i8.1 x (by omega) (by omega) (by omega))
      have hpv := hpre.keep hT hQ (u' := v) (fun x hx => i8.1 x (by omega) (by omega) (by omega)) (fun x hx => i8.2.2.1 x (by omega))
      have hrv := hpv.2.2 p hk1 _ (Or.inl p1) c1 k c2
      obtain ⟨-, dSv, -⟩ := hpv.2.1 k hk
      have y0 : lg_cmp (nL y) 0 = 0 ↔ y = 0 := by
        rw [lg_eq, show (0 : Int64) = nL 0 from rfl, nL_inj (by omega) (by decide)]
      refine gX7_extendOne_z v i (S ||| 2 ^ k) k (p * 3 + fC Q p k) j _ _ (by omega) hpr hi hj (fun z => absurd z (by omega)) (fun _ z => ?_) (fun _ z => ?_)
      · have hy0 := y0.mp z
        refine done v P e (fun r hr hg => (i2 r hr hg).resolve_left (fun q => ?_)) i3 i4 i5 i6 i7 i8
        rw [hy0] at q
        simp at q
      have hne : y ≠ 0 := fun q => z (y0.mpr q)
      obtain ⟨t1, t2, t3, -⟩ := lowb_bits hne hy
      obtain ⟨b1, b2, b3, b4⟩ := i1 _ t1
      refine (qX9_lowestPlace v hne hy).mono ?_
      rintro r μ' ⟨rfl, rfl⟩
      have clrlt : y &&& (y - 1) < 2 ^ 40 := Nat.lt_of_le_of_lt Nat.and_le_left hy
      rcases hrv.2 (lowb y) b2 with ⟨s, s1, s2, s3⟩ | ⟨s1, s2⟩
      · -- a value that the name has
        sorry
      · -- none
        refine gX7_extendOne_m v i (S ||| 2 ^ k) k (p * 3 + fC Q p k) j (lowb y) _ _ (by omega) hpr hi hj' (by omega) s2 ?_
        rw [nL_clr hne hy]
        refine ih (j + 1) _ v P e hd' (by omega) clrlt (fun r hr => ?_) (fun r hr hg => ?_) i3 i4 i5 i6 i7 i8 i9
        · obtain ⟨q1, q2⟩ := (clr_bits hne hy r).mp hr
          obtain ⟨e1, e2, e3, e4⟩ := i1 r q1
          refine ⟨?_, e2, e3, e4⟩
          have : ¬ r < lowb y := fun q => t2 r q q1
          omega
        · by_cases er : r = lowb y
          · refine Or.inr (Or.inr (fun q => ?_))
            rw [er] at q
            obtain ⟨s, sz, se⟩ := (dM _).mpr q
            exact s1 s sz se
          · exact (i2 r hr hg).imp (fun q => (clr_bits hne hy r).mpr ⟨q, er⟩) id
  exact loop _ 0 w0 u (fun _ => False) [] rfl (by omega) (by have := w2.1; omega) (fun r hr => ⟨Nat.zero_le _, ((w2.2 r).mp hr).1, ((w2.2 r).mp hr).2, fun z => z⟩) (fun r hr hg => Or.inl ((w2.2 r).mpr ⟨hr, hg⟩)) (fun b => ⟨fun z => (by cases z), fun ⟨w, z, _⟩ => z.elim⟩) (by rw [List.append_nil]; exact hn) (by rw [List.append_nil]; exact h5) (by rw [List.append_nil]; exact hc) (by rw [List.append_nil]; exact hsl) frE.rf (fun _ _ => rfl)

