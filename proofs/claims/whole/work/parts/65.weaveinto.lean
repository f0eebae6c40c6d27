/-- what weaving leaves alone in the class -/
def frY (u u' : xU) : Prop := (∀ x, x < 46 ∨ 59 ≤ x ∧ x < 74 ∨ 156 ≤ x → u'.1 x = u.1 x) ∧ (∀ x, x < 55 ∨ 56 ≤ x ∧ x < 74 ∨ 156 ≤ x → u'.2.1 x = u.2.1 x) ∧ u'.2.2 = u.2.2
theorem frX.Y {u v : xU} (a : frX u v) : frY u v := ⟨fun x hx => a.1 x (by omega), fun x hx => a.2.1 x (by omega), a.2.2⟩
theorem frY.tr {u v w : xU} (a : frY u v) (b : frY v w) : frY u w := ⟨fun x h1 => (b.1 x h1).trans (a.1 x h1), fun x h1 => (b.2.1 x h1).trans (a.2.1 x h1), b.2.2.trans a.2.2⟩
/-- behind the sort -/
def frZ (u u' : xU) : Prop := (∀ x, x < 46 ∨ 59 ≤ x → x ≠ 150 → x ≠ 151 → u'.1 x = u.1 x) ∧ (∀ x, x ≠ 55 → x ≠ 152 → u'.2.1 x = u.2.1 x) ∧ u'.2.2 = u.2.2
theorem frZ.tr {u v w : xU} (a : frZ u v) (b : frZ v w) : frZ u w := ⟨fun x h1 h2 h3 => (b.1 x h1 h2 h3).trans (a.1 x h1 h2 h3), fun x h1 h2 => (b.2.1 x h1 h2).trans (a.2.1 x h1 h2), b.2.2.trans a.2.2⟩
theorem frA.Z {u v : xU} (a : frA u v) : frZ u v := ⟨fun x _ h2 h3 => a.1 x h2 h3, fun x _ h2 => a.2.1 x h2, a.2.2⟩
theorem frZ.Y {u v : xU} (a : frZ u v) : frY u v := ⟨fun x hx => a.1 x (by omega) (by omega) (by omega), fun x hx => a.2.1 x (by omega) (by omega), a.2.2⟩
theorem PRE.Z {T : TBL} {Q : QST} (hT : TI T) (hQ : QI T Q) {Z : Nat → Nat} {D : Nat → Nat → Int32} {u u' : xU} (h : PRE T Q Z D u) (f : frZ u u') : PRE T Q Z D u' := h.keep hT hQ (fun x hx => f.1 x (by omega) (by omega) (by omega)) (fun x hx => f.2.1 x (by omega) (by omega))
theorem CT.Y {T : TBL} {u u' : xU} (h : CT T u) (f : frY u u') : CT T u' := h.keep (fun x a b => f.1 x (by omega))
theorem CQ.Y {T : TBL} {Q : QST} {u u' : xU} (hQ : QI T Q) (h : CQ T Q u) (f : frY u u') : CQ T Q u' := h.keep hQ.2.1 (fun x hx => f.1 x (by omega))
def wvP (T : TBL) (Q : QST) (u : xU) : Option Value → xM → Prop := fun r μ' => ∃ u', μ' = xmm u' ∧ ((r = some (.int (nI 0)) ∧ frX u u' ∧ ∃ i, 1 ≤ i ∧ i ≤ qN Q ∧ cntS T Q (psO (qO Q) i) = none) ∨ (r = some (.int (nI 1)) ∧ frY u u' ∧ CW (Wof T Q) u' ∧ (rowsS T Q).length ≤ 500 ∧ (rowsS T Q).Pairwise (lexR (qN Q)) ∧ (∀ a, a ∈ rowsS T Q ↔ MEM T Q (FS Q) a) ∧ ∀ i, i ≤ qN Q → ∃ c, c ≤ 500 ∧ cntS T Q (psO (qO Q) i) = some c))
theorem qX7_weaveInto {u : xU} {T : TBL} {Q : QST} (hT : TI T) (hQ : QI T Q) (hC : CT T u) (h : CQ T Q u) (hst : aStands T Q = true) {Z : Nat → Nat} {D : Nat → Nat → Int32} (hpre : PRE T Q Z D u) (h0 : u.1 146 0 = xb (bP (nlH T Q (qP Q)) = true)) : xC mX7_weaveInto [.ref 74, .ref 3, .ref 46] (xmm u) (wvP T Q u) := by
  have hn6 := hQ.1
  have hp10 := hQ.2.1
  refine xC.of xpl7 (Nat.le_of_ble_eq_true rfl) (gX7_weaveInto_0 u (qN Q) hn6 h.1 ?_)
  refine (qX7_meetAlong hT hQ hC h hst hpre (o := qO Q) hn6 hQ.2.2.2.2.2.1 hQ.2.2.2.2.2.2.1 h.2.2.2.1 h0).mono ?_
  rintro r μ' ⟨v, rfl, fv, ⟨rfl, bad⟩ | ⟨l, rfl, nd, mem, l5, sl, cs⟩⟩
  · exact gX7_weaveInto_f v (qN Q) hn6 ⟨v, rfl, Or.inl ⟨rfl, fv.X, bad⟩⟩
  obtain ⟨c0, -, c1, c2⟩ := cs (qN Q) (Nat.le_refl _)
  have ec : c0 = l.length := by
    have := c1.symm.trans (cntS_of (T := T) (Q := Q) (S := psO (qO Q) (qN Q)) (o := some l.length) ⟨l5, l, nd, mem, rfl⟩)
    exact Option.some.inj this
  subst ec
  refine gX7_weaveInto_t v (qN Q) l.length hn6 l5 c2 (fun _ => ?_) (fun z => absurd z (nIm2 (by omega)))
  -- the slot's meetings
  have hf : ∃ f : Nat → Nat, ∀ i b, l[i]? = some b → v.2.1 (148 + qN Q % 2) i = nL (f i) ∧ f i < 2 ^ 36 ∧ SPT Q Z D (FS Q) (f i) b ∧ ∀ k, k < 6 → ¬ (FS Q).testBit k = true → spN (f i) k = 0 := by
    refine ⟨fun i => Classical.epsilon (fun m => ∃ b, l[i]? = some b ∧ v.2.1 (148 + qN Q % 2) i = nL m ∧ m < 2 ^ 36 ∧ SPT Q Z D (FS Q) m b ∧ ∀ k, k < 6 → ¬ (FS Q).testBit k = true → spN m k = 0), fun i b hb => ?_⟩
    obtain ⟨m, hm⟩ := sl i b hb
    obtain ⟨b', hb', sp⟩ := Classical.epsilon_spec (p := fun m => ∃ b, l[i]? = some b ∧ v.2.1 (148 + qN Q % 2) i = nL m ∧ m < 2 ^ 36 ∧ SPT Q Z D (FS Q) m b ∧ ∀ k, k < 6 → ¬ (FS Q).testBit k = true → spN m k = 0) ⟨m, b, hb, hm⟩
    rw [hb] at hb'
    cases hb'
    exact sp
  obtain ⟨f, hf⟩ := hf
  have hf' : ∀ i, i < l.length → v.2.1 (148 + qN Q % 2) i = nL (f i) ∧ f i < 2 ^ 36 := fun i hi => by
    obtain ⟨y1, y2, -⟩ := hf i _ (List.getElem?_eq_getElem hi)
    exact ⟨y1, y2⟩
  have hpv := hpre.H hT hQ fv
  refine (qX7_sort (u := v) (c := qN Q % 2) (by omega) l5 (fun i hi => (hf' i hi).2) (fun i hi => (hf' i hi).1)).mono ?_
  rintro r μ' ⟨v1, g, rfl, rfl, fo, pm, hg, hsrt⟩
  have hD : ∀ k, k < qN Q → DO (Z k) (D k) := fun k hk => (hpre.2.1 k hk).1
  obtain ⟨l', q1, q2, q3, q4⟩ := sorted_rows (Q := Q) (Z := Z) (D := D) (S := FS Q) (n := qN Q) (fun k => FS_bit hQ) hD nd (fun a ha => ((mem a).mp ha).1) (fun i b hb => (hf i b hb).2) pm hsrt
  have hmem' : ∀ a, a ∈ l' ↔ MEM T Q (FS Q) a := fun a => (q3 a).trans (mem a)
  have hrs : rowsS T Q = l' := rowsS_of q2 hmem'
  have fo' : frX v v1 := ⟨fun x _ => by rw [fo.1], fun x hx => fo.2.1 x (by omega), fo.2.2⟩
  have fX1 : frX u v1 := fv.X.tr fo'
  have hp1 : PRE T Q Z D v1 := hpv.keep hT hQ (fun x _ => by rw [fo.1]) (fun x hx => fo.2.1 x (by omega))
  have met1 : ∀ i, i ≤ qN Q → ∃ c, c ≤ 500 ∧ cntS T Q (psO (qO Q) i) = some c ∧ v1.1 146 i = nI c := fun i hi => by
    rw [fo.1]
    exact cs i hi
  have m1 : v1.1 146 (qN Q) = nI l.length := by rw [fo.1]; exact c2
  refine gX7_weaveInto_43 v1 (qN Q) l.length hn6 l5 m1 ?_
  refine (qX0_takeW (u := v1) (A := 47) (c := qN Q % 2) (n := qN Q) (m := l.length) (Or.inl rfl) (by omega)).mono ?_
  rintro r μ' ⟨v2, rfl, rfl, t0, t1, t2, t3, ft⟩
  have fz2 : frZ v1 v2 := ⟨fun x hx _ _ => ft.1 x (by omega) (by omega), fun x hx _ => ft.2.1 x (by omega), ft.2.2⟩
  have hq2 := (h.X hQ fX1).Y hQ fz2.Y
  refine gX7_weaveInto_63 v2 (qN Q) hn6 ?_
  refine (qX8_takeParts hQ hq2).mono ?_
  rintro r μ' ⟨v3, rfl, rfl, p1, p2, p3, p4⟩
  have fz3 : frZ v1 v3 := fz2.tr ⟨fun x hx _ _ => p3 x (by omega) (by omega), fun x _ _ => by rw [p4], by rw [p4]⟩
  have ca3 : CAs 47 (qN Q) l' v3 := by
    refine ⟨by rw [p3 47 (by decide) (by decide)]; exact t0, by rw [p3 47 (by decide) (by decide), q1]; exact t1, Z, D, fun k hk => ⟨hD k hk, fun s hs => ?_⟩, fun i a ha => ?_⟩
    · have := (hD k hk).1
      rw [p3 _ (by omega) (by omega), t2 k (by omega) s (by omega)]
      exact (hp1.2.1 k hk).2.1.2 s hs
    · obtain ⟨y1, y2, y3⟩ := q4 i a ha
      have hi := (List.getElem?_eq_some_iff.mp ha).1
      refine ⟨g i, ?_, y1, fun k hk => (y2 k ((FS_bit hQ).mpr hk)).2⟩
      rw [p4, t3 i (by omega)]
      exact hg i (by omega)
  -- witnesses
  have wit : ∀ d i (x : xU), l.length - i = d → i ≤ l.length → frZ v1 x → CAs 47 (qN Q) l' x → x.1 46 1 = nI (qP Q) → (∀ p, p < qP Q → x.1 56 p = nmI (hNo Q p)) → (∀ j, j < qN Q → x.1 57 j = nI ((cntS T Q (psO (qO Q) (j + 1))).getD 0)) → (∀ j a, j < i → l'[j]? = some a → ∃ M, x.1 58 j = nI M ∧ M < 2 ^ 30 ∧ ∀ p, p < qP Q → ∀ q, hNo Q p = some q → M / 2 ^ (6 * q) % 64 = fsR T Q p (FS Q) a) → xE mX7_weaveInto 101 [(0, .ref 74), (1, .ref 3), (2, .ref 46), (3, .int (nI (qN Q))), (4, .ref (148 + qN Q % 2)), (5, .int (nI i))] [] (xmm x) (wvP T Q u) := by
    intro d
    induction d with
    | zero =>
      intro i x hd hi fx ca x1 x2 x3 x4
      refine gX7_weaveInto_101 x (qN Q) i l.length _ hn6 (by omega) l5 (by rw [fx.1 146 (by decide) (by decide) (by decide)]; exact m1) rfl (fun _ => ⟨x, rfl, Or.inr ⟨rfl, fX1.Y.tr fx.Y, ⟨?_, fun l0 hl0 => ?_⟩, by rw [hrs]; omega, by rw [hrs]; exact q2, by rw [hrs]; exact hmem', fun i hi => ?_⟩⟩) (fun z => absurd (by omega) z)
      · show CA 47 (qN Q) (some (rowsS T Q)) x
        rw [hrs]
        exact ca
      · have hl0' : rowsS T Q = l0 := Option.some.inj hl0
        rw [hrs] at hl0'
        subst hl0'
        refine ⟨x1, x2, x3, fun j a ha => ?_⟩
        have hj := (List.getElem?_eq_some_iff.mp ha).1
        exact x4 j a (by omega) ha
      · obtain ⟨c, y1, y2, -⟩ := met1 i hi
        exact ⟨c, y1, y2⟩
    | succ d ih =>
      intro i x hd hi fx ca x1 x2 x3 x4
      have hil : i < l.length := by omega
      have hil' : i < l'.length := by omega
      have ha : l'[i]? = some l'[i] := List.getElem?_eq_getElem hil'
      generalize l'[i] = a at ha
      obtain ⟨y1, y2, y3⟩ := q4 i a ha
      have sx : x.2.1 (148 + (qN Q % 2)) i = nL (g i) := by rw [fx.2.1 _ (by omega) (by omega)]; exact hg i hil
      refine gX7_weaveInto_101 x (qN Q) i l.length (nL (g i)) hn6 (by omega) l5 (by rw [fx.1 146 (by decide) (by decide) (by decide)]; exact m1) sx (fun z => absurd hil (by omega)) (fun _ => ?_)
      rw [show ((1 : Int32) <<< ((nI (qN Q)) &&& 31)) - 1 = nI (FS Q) by rw [FS_I _ hn6, FS_eq hQ]]
      have hcx := (hC.Y fX1.Y).Y fx.Y
      have hqx := (h.X hQ fX1).Y hQ fx.Y
      have hpx := hp1.Z hT hQ fx
      refine (qX7_agree hT hQ hcx hqx hpx (FS_lt hQ) y1 y2).mono ?_
      rintro r μ' ⟨y, rfl, rfl, ag, fa⟩
      refine gX7_weaveInto_127 y (qN Q) i hn6 (by omega) ?_
      have hqy := hqx.X hQ fa.X
      have hMa : MEM T Q (FS Q) a := (hmem' a).mp (List.mem_of_getElem? ha)
      refine (qX7_witnessesNow hT hQ hqy ag.2 (fun p hp hk => MEM_has hQ hMa hp hk)).mono ?_
      rintro r μ' ⟨M, rfl, M1, M2, rfl⟩
      refine gX7_weaveInto_135 y (qN Q) i (nI M) hn6 (by omega) ?_
      have cay : CAs 47 (qN Q) l' y := CA.keep (r := some l') ca hn6 (fun x _ => fa.1 x (by omega) (by omega)) (fa.2.1 _ (by decide))
      refine (qX8_setWitnesses (u := y) (i := i) (m := l.length) (x := nI M) l5 hil (by rw [← q1]; exact cay.2.1)).mono ?_
      rintro r μ' ⟨rfl, rfl⟩
      refine gX7_weaveInto_138 _ (qN Q) i hn6 (by omega) ?_
      have fy : frZ y (wi y 58 i (nI M)) := ⟨fun x hx _ _ => wi_row (by omega), fun _ _ _ => rfl, rfl⟩
      refine ih (i + 1) _ (by omega) hil ((fx.tr fa.Z).tr fy) (CA.keep (r := some l') cay hn6 (fun x hx => wi_row (by omega)) rfl) (by rw [wi_ne (by decide), fa.1 46 (by decide) (by decide)]; exact x1) (fun p hp => by rw [wi_ne (by decide), fa.1 56 (by decide) (by decide)]; exact x2 p hp) (fun j hj => by rw [wi_ne (by decide), fa.1 57 (by decide) (by decide)]; exact x3 j hj) (fun j b hj hb => ?_)
      by_cases ej : j = i
      · subst ej
        rw [ha] at hb
        cases hb
        refine ⟨M, wi_self, M1, fun p hp q hq => ?_⟩
        unfold hNo at hq
        split at hq
        · rename_i hk
          cases hq
          exact M2 p hp hk
        · cases hq
      · rw [wi_nek ej, fa.1 58 (by decide) (by decide)]
        exact x4 j b (by omega) hb
  have mets : ∀ d i (x : xU), qN Q - i = d → i ≤ qN Q → frZ v1 x → CAs 47 (qN Q) l' x → x.1 46 1 = nI (qP Q) → (∀ p, p < qP Q → x.1 56 p = nmI (hNo Q p)) → (∀ j, j < i → x.1 57 j = nI ((cntS T Q (psO (qO Q) (j + 1))).getD 0)) → xE mX7_weaveInto 71 [(0, .ref 74), (1, .ref 3), (2, .ref 46), (3, .int (nI (qN Q))), (4, .ref (148 + qN Q % 2)), (5, .int (nI i))] [] (xmm x) (wvP T Q u) := by
    intro d
    induction d with
    | zero =>
      intro i x hd hi fx ca x1 x2 x3
      exact gX7_weaveInto_71 x (qN Q) i _ hn6 hi rfl (fun _ => wit _ 0 x rfl (Nat.zero_le _) fx ca x1 x2 (fun j hj => x3 j (by omega)) (fun j a hj _ => absurd hj (Nat.not_lt_zero j))) (fun z => absurd (by omega) z)
    | succ d ih =>
      intro i x hd hi fx ca x1 x2 x3
      have hil : i < qN Q := by omega
      obtain ⟨c, y1, y2, y3⟩ := met1 (i + 1) hil
      have mx : x.1 146 (i + 1) = nI c := by rw [fx.1 146 (by decide) (by decide) (by decide)]; exact y3
      refine gX7_weaveInto_71 x (qN Q) i (nI c) hn6 hi mx (fun z => absurd hil (by omega)) (fun _ => ?_)
      refine (qX8_setMet (u := x) (x := nI c) hn6 hil ca.1 ca.2.1 (nIm1 (by omega))).mono ?_
      rintro r μ' ⟨rfl, rfl⟩
      refine gX7_weaveInto_92 _ (qN Q) i hn6 hil ?_
      refine ih (i + 1) _ (by omega) hil (fx.tr ⟨fun x hx _ _ => wi_row (by omega), fun _ _ _ => rfl, rfl⟩) (CA.keep (r := some l') ca hn6 (fun x hx => wi_row (by omega)) rfl) (by rw [wi_ne (by decide)]; exact x1) (fun p hp => by rw [wi_ne (by decide)]; exact x2 p hp) (fun j hj => ?_)
      by_cases ej : j = i
      · subst ej
        rw [wi_self, y2]
        rfl
      · rw [wi_nek ej]
        exact x3 j (by omega)
  refine gX7_weaveInto_68 v3 (qN Q) hn6 ?_
  exact mets _ 0 v3 rfl (Nat.zero_le _) fz3 ca3 (by exact p1) p2 (fun j hj => absurd hj (Nat.not_lt_zero j))

