theorem nod_snoc {l : List (Nat → Int32)} {a : Nat → Int32} (h : l.Nodup) (q : a ∉ l) : (l ++ [a]).Nodup := by
  rw [List.nodup_append]
  refine ⟨h, List.nodup_cons.mpr ⟨List.not_mem_nil, List.nodup_nil⟩, fun x hx y hy e => q ?_⟩
  rw [← List.mem_singleton.mp hy, ← e]
  exact hx
theorem qX7_extend {u : xU} {T : TBL} {Q : QST} (hT : TI T) (hQ : QI T Q) (h : CQ T Q u) {Z : Nat → Nat} {D : Nat → Nat → Int32} (hpre : PRE T Q Z D u) {S m k i : Nat} {a : Nat → Int32} (hS : S < 64) (hm : m < 2 ^ 36) (hk : k < qN Q) (hSk : ¬ S.testBit k = true) (hh : fH Q k < qP Q) (hs : SPT Q Z D S m a) (hz : ∀ j, j < 6 → ¬ S.testBit j = true → spN m j = 0) (ha : MEM T Q S a) (hag : AGS T Q S a m u) (hi : i ≤ 6) {l : List (Nat → Int32)} (hn : l.Nodup) (hl : ∀ b, b ∈ l → MEM T Q (S ||| 2 ^ k) b ∧ setT b k 0 ≠ a) (h5 : l.length ≤ 500) (hc : u.1 146 i = nI l.length) (hsl : SLT Q Z D (S ||| 2 ^ k) (i % 2) l u) : xC mX7_extend [.ref 74, .ref 3, .int (nI i), .long (nL m), .int (nI (S ||| 2 ^ k)), .int (nI k)] (xmm u) (eoP T Q Z D S k i a l u) := by
  have hp10 := hQ.2.1
  have hn6 := hQ.1
  refine xC.of xpl7 (Nat.le_of_ble_eq_true rfl) (gX7_extend_0 u i (S ||| 2 ^ k) k _ (by omega) ?_)
  refine (qX7_narrowest hT hQ h hk hh hag.2).mono ?_
  rintro r μ' ⟨p, p1, p2, p3, rfl, rfl⟩
  have hl3 := qL_3 hT hQ p1
  obtain ⟨c1, c2⟩ := fC_lt p3
  have cp := h.2.2.2.2 p p1
  have pv := cp.2.2.2.2.2.2.2 k (pHas_msk.mp p3)
  have hk1 : qK Q p ≤ 1 := by omega
  obtain ⟨w0, w1, w2⟩ := hag.2 p p1 hk1
  have hpi : xC mX7_pair [.int (nI p), .int (nI (fC Q p k))] (xmm u) (fun r μ' => r = some (.int (nI (p * 3 + fC Q p k))) ∧ μ' = xmm u) := xC.of xpl7 (Nat.le_of_ble_eq_true rfl) (gX7_pair_0 u p _ (by omega) (by omega) ⟨rfl, rfl⟩)
  refine gX7_extend_7 u i (S ||| 2 ^ k) k p (fC Q p k) (nL m) (nL w0) (by omega) (by omega) (by omega) hpi pv w1 (fun _ => ?_) (fun z => absurd z (nIm1 (by omega)))
  have hrw := hpre.2.2 p hk1 _ (Or.inl p1) c1 k c2
  obtain ⟨dO, dS, dM⟩ := hpre.2.1 k hk
  have hn40 : rwN T Q p ≤ 40 := (hT _ ((hQ.2.2.2.2.1 p p1).2.1 hk1).1).2.1
  have h40 : 2 ^ rwN T Q p ≤ 2 ^ 40 := Nat.pow_le_pow_right (by decide) hn40
  have hS' : S ||| 2 ^ k < 64 := Nat.or_lt_two_pow (n := 6) hS (Nat.pow_lt_pow_right (by decide) (by omega))
  have ak : a k = 0 := ha.1 k hSk
  have loop : ∀ d j y (v : xU) (P : Int32 → Prop) (e : List (Nat → Int32)), 40 - j = d → j ≤ 40 → y < 2 ^ 40 → (∀ r, y.testBit r = true → j ≤ r ∧ r < rwN T Q p ∧ agR T Q p S a r ∧ ¬ P (cel T Q p r (fC Q p k))) → (∀ r, r < rwN T Q p → agR T Q p S a r → y.testBit r = true ∨ P (cel T Q p r (fC Q p k)) ∨ ¬ Dm T Q k (cel T Q p r (fC Q p k))) → (∀ b, b ∈ e ↔ ∃ w, P w ∧ b = setT a k w ∧ MEM T Q (S ||| 2 ^ k) b) → (l ++ e).Nodup → (l ++ e).length ≤ 500 → v.1 146 i = nI (l ++ e).length → SLT Q Z D (S ||| 2 ^ k) (i % 2) (l ++ e) v → frE i u v → (∀ j, j ≠ k → v.1 151 j = u.1 151 j) → xE mX7_extend 49 [(0, .ref 74), (1, .ref 3), (2, .int (nI i)), (3, .long (nL m)), (5, .int (nI (S ||| 2 ^ k))), (6, .int (nI k)), (8, .int (nI (p * 3 + fC Q p k))), (9, .long (nL y)), (11, .int (nI j))] [] (xmm v) (eoP T Q Z D S k i a l u) := by
    have done : ∀ (v : xU) (P : Int32 → Prop) (e : List (Nat → Int32)), (∀ r, r < rwN T Q p → agR T Q p S a r → P (cel T Q p r (fC Q p k)) ∨ ¬ Dm T Q k (cel T Q p r (fC Q p k))) → (∀ b, b ∈ e ↔ ∃ w, P w ∧ b = setT a k w ∧ MEM T Q (S ||| 2 ^ k) b) → (l ++ e).Nodup → (l ++ e).length ≤ 500 → v.1 146 i = nI (l ++ e).length → SLT Q Z D (S ||| 2 ^ k) (i % 2) (l ++ e) v → frE i u v → eoP T Q Z D S k i a l u (some (.int (nI 1))) (xmm v) := fun v P e h2 h3 h4 h6 h7 h8 h9 => by
      refine ⟨v, rfl, h9, Or.inl ⟨rfl, e, h4, fun b => ⟨fun hb => ?_, fun ⟨hb, hba⟩ => ?_⟩, h6, h7, h8⟩⟩
      · obtain ⟨w, y1, rfl, y2⟩ := (h3 b).mp hb
        exact ⟨y2, setT_back ak⟩
      · have e0 : b = setT a k (b k) := by rw [← hba]; exact setT_fix.symm
        refine (h3 b).mpr ⟨b k, ?_, e0, hb⟩
        obtain ⟨r, r1, r2⟩ := (trP_has p2 p3).mp (hb.2.2 p p1)
        rw [e0] at r2
        obtain ⟨g1, g2⟩ := (agR_ext hSk p3).mp r2
        rcases h2 r r1 g1 with z | z
        · rw [g2] at z; exact z
        · rw [g2] at z
          exact absurd (hb.2.1 k (bit_add.mpr (Or.inr rfl))) z
    intro d
    induction d with
    | zero =>
      intro j y v P e hd hj hy i1 i2 i3 i4 i5 i6 i7 i8 i9
      have hfin := done v P e (fun r hr hg => (i2 r hr hg).resolve_left (fun z => by have := i1 r z; omega)) i3 i4 i5 i6 i7 i8
      exact gX7_extend_z v i (S ||| 2 ^ k) k (p * 3 + fC Q p k) j _ _ (by omega) (by omega) hi hj (fun _ => hfin) (fun z => absurd (by omega) z) (fun z => absurd (by omega) z)
    | succ d ih =>
      intro j y v P e hd hj hy i1 i2 i3 i4 i5 i6 i7 i8 i9
      have hd' : 40 - (j + 1) = d := by omega
      have hj' : j < 40 := by omega
      have hpr : p * 3 + fC Q p k < 30 := by omega
      have hq := h.keep hQ.2.1 (u' := v) (fun x hx => i8.1 x (by omega) (by omega) (by omega))
      have hpv := hpre.keep hT hQ (u' := v) (fun x hx => i8.1 x (by omega) (by omega) (by omega)) (fun x hx => i8.2.2.1 x (by omega))
      have hrv := hpv.2.2 p hk1 _ (Or.inl p1) c1 k c2
      obtain ⟨-, dSv, -⟩ := hpv.2.1 k hk
      have y0 : lg_cmp (nL y) 0 = 0 ↔ y = 0 := by
        rw [lg_eq, show (0 : Int64) = nL 0 from rfl, nL_inj (by omega) (by decide)]
      refine gX7_extend_z v i (S ||| 2 ^ k) k (p * 3 + fC Q p k) j _ _ (by omega) hpr hi hj (fun z => absurd z (by omega)) (fun _ z => ?_) (fun _ z => ?_)
      · have hy0 := y0.mp z
        refine done v P e (fun r hr hg => (i2 r hr hg).resolve_left (fun q => ?_)) i3 i4 i5 i6 i7 i8
        rw [hy0] at q
        simp at q
      have hne : y ≠ 0 := fun q => z (y0.mpr q)
      obtain ⟨t1, t2, t3, -⟩ := lowb_bits hne hy
      obtain ⟨b1, b2, b3, b4⟩ := i1 _ t1
      refine (qX9_lowestPlace v hne hy).mono ?_
      rintro r μ' ⟨rfl, rfl⟩
      have clrlt : y &&& (y - 1) < 2 ^ 40 := Nat.lt_of_le_of_lt Nat.and_le_left hy
      rcases hrv.2 (lowb y) b2 with ⟨s, s1, s2, s3⟩ | ⟨s1, s2⟩
      · -- a value that the name has
        have hs40 : s < 40 := by have := dO.1; omega
        obtain ⟨z, z1, z2⟩ := hrv.1 s s1
        have hz40 : z < 2 ^ 40 := by have := z2.1; omega
        have hd3 : v.1 (77 + k) s = cel T Q p (lowb y) (fC Q p k) := by rw [dSv.2 s s1, s2]
        have hDm : Dm T Q k (cel T Q p (lowb y) (fC Q p k)) := (dM _).mp ⟨s, s1, s2⟩
        refine gX7_extend_k v i (S ||| 2 ^ k) k (p * 3 + fC Q p k) j (lowb y) s (nL m) (nL y) (nL z) _ (by omega) hpr hi hj' (by omega) hs40 s3 z1 hd3 (fun q => absurd q (nIm1 (by omega))) (fun _ => ?_)
        rw [nL_clr hne hy, nL_off clrlt hz40]
        generalize hwd : wi (wi v 150 k (nI s)) 151 k (cel T Q p (lowb y) (fC Q p k)) = w
        have wrow : ∀ x, x ≠ 150 → x ≠ 151 → w.1 x = v.1 x := fun x h1 h2 => by rw [← hwd, wi_row h2, wi_row h1]
        have wl2 : w.2 = v.2 := by rw [← hwd]; rfl
        have fv : frE i v w := ⟨fun x h1 h2 h3 => wrow x h2 h3, fun jj _ => by rw [wrow 146 (by decide) (by decide)], fun x _ => by rw [wl2], by rw [wl2]⟩
        have fw : frE i u w := i8.tr fv
        have w151 : ∀ jj, jj ≠ k → w.1 151 jj = u.1 151 jj := fun jj hjj => by rw [← hwd, wi_nek hjj, wi_ne (by decide)]; exact i9 jj hjj
        have hqw := h.keep hQ.2.1 (u' := w) (fun x hx => fw.1 x (by omega) (by omega) (by omega))
        have hpw := hpre.keep hT hQ (u' := w) (fun x hx => fw.1 x (by omega) (by omega) (by omega)) (fun x hx => fw.2.2.1 x (by omega))
        have hx : EXT T Q Z D S k s a (cel T Q p (lowb y) (fC Q p k)) w := by
          refine ⟨by rw [← hwd, wi_ne (by decide), wi_self], s1, s2, fun jj hjj => ?_, fun q hq1 hq2 => ?_⟩
          · by_cases e1 : jj = k
            · subst e1
              rw [setT_at, ← hwd, wi_self]
            · obtain ⟨y1, y2, y3⟩ := hs jj ((bit_add.mp hjj).resolve_right e1)
              rw [setT_ne e1, w151 jj e1, (hag.1 jj y1).2, (hpre.2.1 jj y1).2.1.2 _ y2, y3]
          · rw [fw.2.2.1 152 (by omega)]
            exact hag.2 q hq1 hq2
        refine (qX7_meets hT hQ hqw hpw hS hk hSk hx).mono ?_
        rintro r μ' ⟨rfl, rfl⟩
        have hMEM : MEM T Q (S ||| 2 ^ k) (setT a k (cel T Q p (lowb y) (fC Q p k))) ↔ bP (∀ p_1, p_1 < qP Q → pHas Q p_1 k = true → trP T Q p_1 (S ||| 2 ^ k) (setT a k (cel T Q p (lowb y) (fC Q p k)))) = true := by
          rw [bP_iff, MEM_ext hQ hSk]
          constructor
          · rintro ⟨_, _, -, -, -, q⟩
            exact q
          · intro q
            exact ⟨a, _, ha, hDm, rfl, q⟩
        have hy' : y &&& (y - 1) &&& (2 ^ 64 - (z + 1)) < 2 ^ 40 := Nat.lt_of_le_of_lt Nat.and_le_left clrlt
        have n1 : ∀ r, (y &&& (y - 1) &&& (2 ^ 64 - (z + 1))).testBit r = true → j + 1 ≤ r ∧ r < rwN T Q p ∧ agR T Q p S a r ∧ ¬ (P (cel T Q p r (fC Q p k)) ∨ cel T Q p r (fC Q p k) = cel T Q p (lowb y) (fC Q p k)) := fun r hr => by
          obtain ⟨q1, q2⟩ := (off_bits clrlt hz40).mp hr
          obtain ⟨q3, q4⟩ := (clr_bits hne hy r).mp q1
          obtain ⟨e1, e2, e3, e4⟩ := i1 r q3
          have : ¬ r < lowb y := fun q => t2 r q q3
          refine ⟨by omega, e2, e3, fun q => q.elim e4 (fun q5 => q2 ((z2.2 r).mpr ⟨e2, q5.trans s2.symm⟩))⟩
        have n2 : ∀ r, r < rwN T Q p → agR T Q p S a r → (y &&& (y - 1) &&& (2 ^ 64 - (z + 1))).testBit r = true ∨ (P (cel T Q p r (fC Q p k)) ∨ cel T Q p r (fC Q p k) = cel T Q p (lowb y) (fC Q p k)) ∨ ¬ Dm T Q k (cel T Q p r (fC Q p k)) := fun r hr hg => by
          by_cases er : cel T Q p r (fC Q p k) = cel T Q p (lowb y) (fC Q p k)
          · exact Or.inr (Or.inl (Or.inr er))
          · rcases i2 r hr hg with q | q | q
            · refine Or.inl ((off_bits clrlt hz40).mpr ⟨(clr_bits hne hy r).mpr ⟨q, fun e0 => er (by rw [e0])⟩, fun q0 => er ?_⟩)
              rw [((z2.2 r).mp q0).2, s2]
            · exact Or.inr (Or.inl (Or.inl q))
            · exact Or.inr (Or.inr q)
        have w146 : w.1 146 i = nI (l ++ e).length := by rw [wrow 146 (by decide) (by decide)]; exact i6
        have nin : setT a k (cel T Q p (lowb y) (fC Q p k)) ∉ l ++ e := fun q => by
          rcases List.mem_append.mp q with q | q
          · exact (hl _ q).2 (setT_back ak)
          · obtain ⟨x, x1, x2, -⟩ := (i3 _).mp q
            have := congrFun x2 k
            rw [setT_at, setT_at] at this
            exact b4 (by rw [this]; exact x1)
        have nod : ((l ++ e) ++ [setT a k (cel T Q p (lowb y) (fC Q p k))]).Nodup := nod_snoc i4 nin
        refine gX7_extend_147 w i (S ||| 2 ^ k) k (p * 3 + fC Q p k) j s (l ++ e).length (nL m) _ _ (by omega) hpr hi hj' hs40 i5 (qX9_shift w (by omega)) w146 (fun q => ?_) (fun q q5 => ?_) (fun q q5 => ?_)
        · -- not met
          refine ih (j + 1) _ w (fun x => P x ∨ x = cel T Q p (lowb y) (fC Q p k)) e hd' (by omega) hy' n1 n2 (fun b => ?_) i4 i5 w146 (fun jj b hb => by rw [wl2]; exact i7 jj b hb) fw w151
          constructor
          · intro q0
            obtain ⟨x, x1, x2⟩ := (i3 b).mp q0
            exact ⟨x, Or.inl x1, x2⟩
          · rintro ⟨x, x1 | x1, x2, x3⟩
            · exact (i3 b).mpr ⟨x, x1, x2, x3⟩
            · rw [x2, x1] at x3
              exact absurd (hMEM.mp x3) q
        · -- met, and there is room
          rw [xtm_L hm (by omega) (by omega)]
          generalize hw2 : wi (wl w (148 + i % 2) (l ++ e).length (nL (xtm m s k))) 146 i (nI ((l ++ e).length + 1)) = w2
          have r1 : ∀ x, x ≠ 146 → w2.1 x = w.1 x := fun x h1 => by rw [← hw2, wi_row h1]; rfl
          have f2 : frE i w w2 := ⟨fun x h1 h2 h3 => r1 x h1, fun jj hjj => by rw [← hw2, wi_nek hjj]; rfl, fun x h1 => by rw [← hw2]; exact wl_row h1, by rw [← hw2]; rfl⟩
          have hlen : (l ++ (e ++ [setT a k (cel T Q p (lowb y) (fC Q p k))])).length = (l ++ e).length + 1 := by
            rw [← List.append_assoc, List.length_append]; rfl
          refine ih (j + 1) _ w2 (fun x => P x ∨ x = cel T Q p (lowb y) (fC Q p k)) (e ++ [setT a k (cel T Q p (lowb y) (fC Q p k))]) hd' (by omega) hy' n1 n2 (fun b => ?_) (by rw [← List.append_assoc]; exact nod) (by rw [hlen]; omega) (by rw [hlen, ← hw2, wi_self]) (fun jj b hb => ?_) (fw.tr f2) (fun jj hjj => by rw [r1 151 (by decide)]; exact w151 jj hjj)
          · rw [List.mem_append, List.mem_singleton]
            constructor
            · rintro (q0 | q0)
              · obtain ⟨x, x1, x2⟩ := (i3 b).mp q0
                exact ⟨x, Or.inl x1, x2⟩
              · exact ⟨_, Or.inr rfl, q0, by rw [q0]; exact hMEM.mpr q⟩
            · rintro ⟨x, x1 | x1, x2, x3⟩
              · exact Or.inl ((i3 b).mpr ⟨x, x1, x2, x3⟩)
              · rw [x1] at x2
                exact Or.inr x2
          · rw [← List.append_assoc] at hb
            by_cases e1 : jj = (l ++ e).length
            · rw [e1, List.getElem?_append_right (Nat.le_refl _), Nat.sub_self] at hb
              have hb' := Option.some.inj hb
              obtain ⟨g1, g2, g3⟩ := xtm_sp hm (show s < 64 by omega) (show k < 6 by omega) (hz k (by omega) hSk)
              refine ⟨xtm m s k, by rw [e1, ← hw2, wi_l, wl_self], g1, ?_, fun k' hk' hn' => ?_⟩
              · rw [← hb']
                exact SPT_ext hs hm hn6 hk hSk (by omega) s1 s2 (hz k (by omega) hSk)
              · have ne : k' ≠ k := fun q0 => hn' (bit_add.mpr (Or.inr q0))
                rw [g3 k' hk' ne]
                exact hz k' hk' (fun q0 => hn' (bit_add.mpr (Or.inl q0)))
            · have hlt : jj < (l ++ e).length := by
                have := (List.getElem?_eq_some_iff.mp hb).1
                rw [List.length_append] at this
                simp only [List.length_cons, List.length_nil] at this
                omega
              rw [List.getElem?_append_left hlt] at hb
              rw [← hw2, wi_l, wl_nek e1, wl2]
              exact i7 jj b hb
        · -- too many
          refine ⟨w, rfl, fw, Or.inr ⟨rfl, _, nod, ?_, fun b hb => ?_⟩⟩
          · rw [List.length_append]
            simp only [List.length_cons, List.length_nil]
            omega
          · rcases List.mem_append.mp hb with q0 | q0
            · rcases List.mem_append.mp q0 with q1 | q1
              · exact (hl b q1).1
              · obtain ⟨x, -, -, x3⟩ := (i3 b).mp q1
                exact x3
            · rw [List.mem_singleton.mp q0]
              exact hMEM.mpr q
      · -- none
        refine gX7_extend_m v i (S ||| 2 ^ k) k (p * 3 + fC Q p k) j (lowb y) _ _ (by omega) hpr hi hj' (by omega) s2 ?_
        rw [nL_clr hne hy]
        refine ih (j + 1) _ v P e hd' (by omega) clrlt (fun r hr => ?_) (fun r hr hg => ?_) i3 i4 i5 i6 i7 i8 i9
        · obtain ⟨q1, q2⟩ := (clr_bits hne hy r).mp hr
          obtain ⟨e1, e2, e3, e4⟩ := i1 r q1
          refine ⟨?_, e2, e3, e4⟩
          have : ¬ r < lowb y := fun q => t2 r q q1
          omega
        · by_cases er : r = lowb y
          · refine Or.inr (Or.inr (fun q => ?_))
            rw [er] at q
            obtain ⟨s, sz, se⟩ := (dM _).mpr q
            exact s1 s sz se
          · exact (i2 r hr hg).imp (fun q => (clr_bits hne hy r).mpr ⟨q, er⟩) id
  exact loop _ 0 w0 u (fun _ => False) [] rfl (by omega) (by have := w2.1; omega) (fun r hr => ⟨Nat.zero_le _, ((w2.2 r).mp hr).1, ((w2.2 r).mp hr).2, fun z => z⟩) (fun r hr hg => Or.inl ((w2.2 r).mpr ⟨hr, hg⟩)) (fun b => ⟨fun z => (by cases z), fun ⟨w, z, _⟩ => z.elim⟩) (by rw [List.append_nil]; exact hn) (by rw [List.append_nil]; exact h5) (by rw [List.append_nil]; exact hc) (by rw [List.append_nil]; exact hsl) frE.rf (fun _ _ => rfl)

