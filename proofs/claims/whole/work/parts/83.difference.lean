/-! what one list has and another has not, by its places -/
noncomputable def dI (la lb : List (Nat → Int32)) (i : Nat) : List Nat := (List.range i).filter (fun x => bP (la.getD x (fun _ => 0) ∉ lb))
noncomputable def dfI (la lb : List (Nat → Int32)) : List Nat := dI la lb la.length
theorem dI_in {la lb : List (Nat → Int32)} {i : Nat} {a : Nat → Int32} (ha : la[i]? = some a) (h : a ∈ lb) : dI la lb (i + 1) = dI la lb i := by
  unfold dI
  rw [List.range_succ, List.filter_append]
  have e : la.getD i (fun _ => 0) = a := by rw [List.getD_eq_getElem?_getD, ha]; rfl
  have : bP (la.getD i (fun _ => 0) ∉ lb) = false := by
    cases hb : bP (la.getD i (fun _ => 0) ∉ lb)
    · rfl
    · have := bP_iff.mp hb
      rw [e] at this
      exact absurd h this
  rw [List.filter_cons_of_neg (by rw [this]; simp), List.filter_nil, List.append_nil]
theorem dI_out {la lb : List (Nat → Int32)} {i : Nat} {a : Nat → Int32} (ha : la[i]? = some a) (h : a ∉ lb) : dI la lb (i + 1) = dI la lb i ++ [i] := by
  unfold dI
  rw [List.range_succ, List.filter_append]
  have e : la.getD i (fun _ => 0) = a := by rw [List.getD_eq_getElem?_getD, ha]; rfl
  have : bP (la.getD i (fun _ => 0) ∉ lb) = true := bP_iff.mpr (by rw [e]; exact h)
  rw [List.filter_cons_of_pos (p := fun x => bP (la.getD x (fun _ => 0) ∉ lb)) this, List.filter_nil]
theorem dI_len {la lb : List (Nat → Int32)} (i : Nat) : (dI la lb i).length ≤ i := by
  unfold dI
  have := List.length_filter_le (fun x => bP (la.getD x (fun _ => 0) ∉ lb)) (List.range i)
  rw [List.length_range] at this
  exact this
theorem dI_lt {la lb : List (Nat → Int32)} {i x : Nat} (h : x ∈ dI la lb i) : x < i := List.mem_range.mp (List.mem_filter.mp h).1
theorem qX0_inOrderWith {u : xU} {A B n : Nat} {la lb : List (Nat → Int32)} (hA : A = 47 ∨ A = 59) (hB : B = 47 ∨ B = 59) (hIA : AI n (some la)) (hIB : AI n (some lb)) (hca : CA A n (some la) u) (hcb : CA B n (some lb) u) {i j : Nat} {a b : Nat → Int32} (ha : la[i]? = some a) (hb : lb[j]? = some b) : xC mX0_inOrderWith [.ref A, .int (nI i), .ref B, .int (nI j)] (xmm u) (fun r μ' => r = some (.int (lexD a b n)) ∧ μ' = xmm u) := by
  have hn6 := hIA.1
  refine xC.of xpl0 (Nat.le_of_ble_eq_true rfl) (gX0_inOrderWith_0 u A B i j hA hB ?_)
  have loop : ∀ d k, n - k = d → k ≤ n → lexD a b k = 0 → xE mX0_inOrderWith 3 [(0, .ref A), (1, .int (nI i)), (2, .ref B), (3, .int (nI j)), (4, .int (nI k))] [] (xmm u) (fun r μ' => r = some (.int (lexD a b n)) ∧ μ' = xmm u) := by
    intro d
    induction d with
    | zero =>
      intro k hd hk h0
      have e : k = n := by omega
      subst e
      exact gX0_inOrderWith_e u A B i j k k hA hB hn6 rfl hca.nm (fun _ => ⟨by rw [h0]; rfl, rfl⟩) (fun z => absurd (Nat.le_refl _) z)
    | succ d ih =>
      intro k hd hk h0
      have hkl : k < n := by omega
      refine gX0_inOrderWith_3 u A B i j k n _ _ hA hB hn6 hkl (qX0_atN hA hIA hca ha hkl) (qX0_atN hB hIB hcb hb hkl) hca.nm (fun z => absurd hkl (by omega)) (fun _ z => ih (k + 1) (by omega) hkl ?_) (fun _ z => ⟨?_, rfl⟩)
      · show (if lexD a b k = 0 then _ else _) = _
        rw [if_pos h0]
        exact z
      · rw [lexD_at h0 z hkl]
  exact loop _ 0 rfl (Nat.zero_le _) rfl
/-- the difference's places -/
def FND (l : List Nat) (u : xU) : Prop := u.1 68 0 = nI l.length ∧ ∀ y x, l[y]? = some x → u.1 69 y = nI x
def frQd (u u' : xU) : Prop := (∀ x, x ≠ 68 → x ≠ 69 → u'.1 x = u.1 x) ∧ u'.2.1 = u.2.1
theorem frQd.rf {u : xU} : frQd u u := ⟨fun _ _ _ => rfl, rfl⟩
theorem CA.Qd {A n : Nat} {r : Option (List (Nat → Int32))} {u u' : xU} (hA : A = 47 ∨ A = 59) (h : CA A n r u) (hn : n ≤ 6) (f : frQd u u') : CA A n r u' := h.keep hn (fun x hx => f.1 x (by omega) (by omega)) (by rw [f.2])
theorem qX2_find {u : xU} {A B n : Nat} {la lb : List (Nat → Int32)} (hA : A = 47 ∨ A = 59) (hB : B = 47 ∨ B = 59) (hIA : AI n (some la)) (hIB : AI n (some lb)) (hca : CA A n (some la) u) (hcb : CA B n (some lb) u) : xC mX2_find [.ref 68, .ref A, .ref B] (xmm u) (fun r μ' => ∃ u', μ' = xmm u' ∧ r = none ∧ u'.2.2 = some A ∧ FND (dfI la lb) u' ∧ frQd u u') := by
  have hn6 := hIA.1
  obtain ⟨la5, las, laz⟩ := hIA.2 la rfl
  obtain ⟨lb5, lbs, lbz⟩ := hIB.2 lb rfl
  refine xC.of xpl2 (Nat.le_of_ble_eq_true rfl) (gX2_find_0 u A B hA hB ?_)
  have outer : ∀ d i j (v : xU), la.length - i = d → i ≤ la.length → j ≤ lb.length → v.2.2 = some A → FND (dI la lb i) v → frQd u v → (∀ x b, x < j → lb[x]? = some b → ∀ a, la[i]? = some a → lexR n b a) → xE mX2_find 15 [(0, .ref 68), (1, .ref A), (2, .ref B), (3, .int (nI j)), (4, .int (nI i))] [] (xmm v) (fun r μ' => ∃ u', μ' = xmm u' ∧ r = none ∧ u'.2.2 = some A ∧ FND (dfI la lb) u' ∧ frQd u u') := by
    intro d
    induction d with
    | zero =>
      intro i j v hd hi hj f0 f1 f2 f3
      have e : i = la.length := by omega
      have va := hca.Qd hA hn6 f2
      have vb := hcb.Qd hB hn6 f2
      refine gX2_find_15 v A B j i la.length lb.length hA hB la5 lb5 hi va.sz vb.sz (fun _ => ⟨v, rfl, rfl, f0, ?_, f2⟩) (fun z => absurd (by omega) z) (fun z => absurd (by omega) z)
      rw [e] at f1
      exact f1
    | succ d ih =>
      intro i j v hd hi hj f0 f1 f2 f3
      have hil : i < la.length := by omega
      have va := hca.Qd hA hn6 f2
      have vb := hcb.Qd hB hn6 f2
      have ha := List.getElem?_eq_getElem hil
      generalize la[i] = a at ha
      have hal := List.mem_of_getElem? ha
      have hz := dI_len (la := la) (lb := lb) i
      refine gX2_find_15 v A B j i la.length lb.length hA hB la5 lb5 hi va.sz vb.sz (fun z => absurd hil (by omega)) (fun _ z => absurd z (by omega)) (fun _ _ => ?_)
      -- to the next
      have nxt : ∀ j' (w : xU), j' ≤ lb.length → w.2.2 = some A → FND (dI la lb (i + 1)) w → frQd u w → (∀ x b, x < j' → lb[x]? = some b → lexR n b a) → xE mX2_find 15 [(0, .ref 68), (1, .ref A), (2, .ref B), (3, .int (nI j')), (4, .int (nI (i + 1)))] [] (xmm w) (fun r μ' => ∃ u', μ' = xmm u' ∧ r = none ∧ u'.2.2 = some A ∧ FND (dfI la lb) u' ∧ frQd u u') := fun j' w hj' w0 w1 w2 w3 => by
        refine ih (i + 1) j' w (by omega) hil hj' w0 w1 w2 (fun x b hx hb a' ha' => ?_)
        obtain ⟨q1, e1⟩ := List.getElem?_eq_some_iff.mp ha
        obtain ⟨q2, e2⟩ := List.getElem?_eq_some_iff.mp ha'
        have := List.pairwise_iff_getElem.mp las i (i + 1) q1 q2 (by omega)
        rw [e1, e2] at this
        exact lexR_tr (w3 x b hx hb) this
      have place : ∀ j', j' ≤ lb.length → a ∉ lb → (∀ x b, x < j' → lb[x]? = some b → lexR n b a) → xE mX2_find 15 [(0, .ref 68), (1, .ref A), (2, .ref B), (3, .int (nI j')), (4, .int (nI (i + 1)))] [] (xmm (wi (wi v 69 (dI la lb i).length (nI i)) 68 0 (nI ((dI la lb i).length + 1)))) (fun r μ' => ∃ u', μ' = xmm u' ∧ r = none ∧ u'.2.2 = some A ∧ FND (dfI la lb) u' ∧ frQd u u') := fun j' hj' hno hw => by
        refine nxt j' _ hj' f0 ?_ ⟨fun x h1 h2 => by rw [wi_row h1, wi_row h2]; exact f2.1 x h1 h2, f2.2⟩ hw
        rw [dI_out ha hno]
        refine ⟨by rw [wi_self, List.length_append]; rfl, fun y x hy => ?_⟩
        by_cases ey : y = (dI la lb i).length
        · rw [ey, List.getElem?_append_right (Nat.le_refl _), Nat.sub_self] at hy
          have := Option.some.inj hy
          rw [ey, wi_ne (by decide), wi_self, ← this]
        · have hlt : y < (dI la lb i).length := by
            have := (List.getElem?_eq_some_iff.mp hy).1
            rw [List.length_append] at this
            simp only [List.length_cons, List.length_nil] at this
            omega
          rw [List.getElem?_append_left hlt] at hy
          rw [wi_ne (by decide), wi_nek ey]
          exact f1.2 y x hy
      have inner : ∀ e j', lb.length - j' = e → j' ≤ lb.length → (∀ x b, x < j' → lb[x]? = some b → lexR n b a) → xE mX2_find 32 [(0, .ref 68), (1, .ref A), (2, .ref B), (3, .int (nI j')), (4, .int (nI i))] [] (xmm v) (fun r μ' => ∃ u', μ' = xmm u' ∧ r = none ∧ u'.2.2 = some A ∧ FND (dfI la lb) u' ∧ frQd u u') := by
        intro e
        induction e with
        | zero =>
          intro j' he hj' hw
          have ej : j' = lb.length := by omega
          refine gX2_find_e v A B j' i la.length lb.length _ hA hB la5 lb5 hil hz ej va.sz vb.sz f1.1 (fun _ _ => place j' hj' (fun q => ?_) hw) (fun _ z => absurd (by omega) z) (fun z => absurd (by omega) z)
          obtain ⟨x, hx⟩ := List.mem_iff_getElem?.mp q
          have hxl := (List.getElem?_eq_some_iff.mp hx).1
          exact lexR_asym (hw x a (by omega) hx) (hw x a (by omega) hx)
        | succ e ihe =>
          intro j' he hj' hw
          have hjl : j' < lb.length := by omega
          have hb := List.getElem?_eq_getElem hjl
          generalize lb[j'] = b at hb
          have hbl := List.mem_of_getElem? hb
          refine gX2_find_32 v A B j' i la.length lb.length _ _ hA hB la5 lb5 hil hz hjl (qX0_inOrderWith hB hA hIB hIA vb va hb ha) va.sz vb.sz f1.1 (fun z => absurd hjl (by omega)) (fun z => absurd hjl (by omega)) (fun z => absurd hjl (by omega)) (fun _ _ z => absurd hjl (by omega)) (fun _ _ _ z => ?_) (fun _ z _ y => ?_) (fun _ z => ?_)
          · have eq := lexD_zero.mp z
            have eab : b = a := by
              funext k
              by_cases hk : k < n
              · exact eq k hk
              · rw [lbz b hbl k hk, laz a hal k hk]
            refine nxt j' v hj' f0 ?_ f2 hw
            rw [dI_in ha (by rw [← eab]; exact hbl)]
            exact f1
          · have hgt : lexR n a b := lexD_gt.mp (Int32.lt_of_le_of_ne z (fun q => y q.symm))
            refine place j' hj' (fun q => ?_) hw
            obtain ⟨x, hx⟩ := List.mem_iff_getElem?.mp q
            by_cases h1 : x < j'
            · exact lexR_asym (hw x a h1 hx) (hw x a h1 hx)
            · by_cases h2 : x = j'
              · rw [h2, hb] at hx
                cases hx
                exact lexR_asym hgt hgt
              · obtain ⟨q1, e1⟩ := List.getElem?_eq_some_iff.mp hx
                obtain ⟨q2, e2⟩ := List.getElem?_eq_some_iff.mp hb
                have := List.pairwise_iff_getElem.mp lbs j' x q2 q1 (by omega)
                rw [e1, e2] at this
                exact lexR_asym hgt this
          · have hlt : lexR n b a := lexD_lt.mp (Int32.not_le.mp z)
            refine ihe (j' + 1) (by omega) hjl (fun x b' hx hb' => ?_)
            by_cases ex : x = j'
            · rw [ex, hb] at hb'
              cases hb'
              exact hlt
            · exact hw x b' (by omega) hb'
      exact inner _ j rfl hj (fun x b hx hb => f3 x b hx hb a ha)
  refine outer _ 0 0 _ rfl (Nat.zero_le _) (Nat.zero_le _) rfl ⟨wi_self, fun y x hy => by simp [dI] at hy⟩ ⟨fun x h1 _ => by rw [wi_row h1]; rfl, rfl⟩ (fun x b hx => absurd hx (Nat.not_lt_zero x))
/-! delta and change -/
def difOk (W : WVN) (K : KPT) (w : Int32) : Bool := K.2.isSome && (wR W).isSome && decide (K.1 = wN W) && decide (0 ≤ w) && decide (w ≤ 1)
def dA (W : WVN) (K : KPT) (w : Int32) : List (Nat → Int32) := if w = 0 then (wR W).getD [] else K.2.getD []
def dB (W : WVN) (K : KPT) (w : Int32) : List (Nat → Int32) := if w = 0 then K.2.getD [] else (wR W).getD []
noncomputable def aDelta (W : WVN) (K : KPT) (w : Int32) : Int32 := if difOk W K w = true then nI (dfI (dA W K w) (dB W K w)).length else -1
noncomputable def aChange (W : WVN) (K : KPT) (w i k : Int32) : Int32 := if difOk W K w = true ∧ 0 ≤ i ∧ i < nI (dfI (dA W K w) (dB W K w)).length then atV (wN W) (some (dA W K w)) (nI ((dfI (dA W K w) (dB W K w)).getD i.toNatClampNeg 0)) k else 0
theorem difOk_t {W : WVN} {K : KPT} {w : Int32} (h : difOk W K w = true) : ∃ lw lk, wR W = some lw ∧ K.2 = some lk ∧ K.1 = wN W ∧ (w = 0 ∨ w = 1) := by
  unfold difOk at h
  rw [Bool.and_eq_true, Bool.and_eq_true, Bool.and_eq_true, Bool.and_eq_true, decide_eq_true_eq, decide_eq_true_eq, decide_eq_true_eq] at h
  obtain ⟨⟨⟨⟨h1, h2⟩, h3⟩, h4⟩, h5⟩ := h
  have hw : w = 0 ∨ w = 1 := by
    obtain ⟨x, x1, rfl⟩ := in_N (m := 2) (by decide) h4 (by
      rw [Int32.le_iff_toInt_le] at h5
      rw [Int32.lt_iff_toInt_lt]
      have e4 : (1 : Int32).toInt = 1 := rfl
      have e5 : (nI 2).toInt = 2 := rfl
      omega)
    rcases (show x = 0 ∨ x = 1 by omega) with rfl | rfl
    · exact Or.inl rfl
    · exact Or.inr rfl
  cases hr : wR W with
  | none => rw [hr] at h2; cases h2
  | some lw =>
    cases hk : K.2 with
    | none => rw [hk] at h1; cases h1
    | some lk => exact ⟨lw, lk, rfl, rfl, h3, hw⟩
theorem difOk_i {W : WVN} {K : KPT} {w : Int32} {lw lk : List (Nat → Int32)} (h1 : wR W = some lw) (h2 : K.2 = some lk) (h3 : K.1 = wN W) (h4 : 0 ≤ w) (h5 : w ≤ 1) : difOk W K w = true := by
  unfold difOk
  rw [Bool.and_eq_true, Bool.and_eq_true, Bool.and_eq_true, Bool.and_eq_true, decide_eq_true_eq, decide_eq_true_eq, decide_eq_true_eq, h1, h2]
  exact ⟨⟨⟨⟨rfl, rfl⟩, h3⟩, h4⟩, h5⟩
theorem dAB {W : WVN} {K : KPT} {w : Int32} (hW : WI W) (hK : AI K.1 K.2) (h : difOk W K w = true) : AI (wN W) (some (dA W K w)) ∧ AI (wN W) (some (dB W K w)) := by
  obtain ⟨lw, lk, h1, h2, h3, -⟩ := difOk_t h
  have a := hW.1
  have b := hK
  rw [h1] at a
  rw [h2, h3] at b
  unfold dA dB
  rw [h1, h2]
  by_cases e : w = 0
  · rw [if_pos e, if_pos e]; exact ⟨a, b⟩
  · rw [if_neg e, if_neg e]; exact ⟨b, a⟩
theorem qX9_findDifference {u : xU} {W : WVN} {K : KPT} (hW : WI W) (hK : AI K.1 K.2) (h : CW W u) (hk : CA 59 K.1 K.2 u) (w : Int32) : xC mX9_findDifference [.ref 1, .int w] (xmm u) (fun r μ' => ∃ u', μ' = xmm u' ∧ frQd u u' ∧ ((r = some (.int (nI 1)) ∧ difOk W K w = true ∧ u'.2.2 = some (if w = 0 then 47 else 59) ∧ FND (dfI (dA W K w) (dB W K w)) u') ∨ (r = some (.int (nI 0)) ∧ ¬ difOk W K w = true))) := by
  have no : ¬ difOk W K w = true → (fun (r : Option Value) (μ' : xM) => ∃ u', μ' = xmm u' ∧ frQd u u' ∧ ((r = some (.int (nI 1)) ∧ difOk W K w = true ∧ u'.2.2 = some (if w = 0 then 47 else 59) ∧ FND (dfI (dA W K w) (dB W K w)) u') ∨ (r = some (.int (nI 0)) ∧ ¬ difOk W K w = true))) (some (.int (nI 0))) (xmm u) := fun z => ⟨u, rfl, frQd.rf, Or.inr ⟨rfl, z⟩⟩
  have sk := szI_m (fun l hl => (hK.2 l hl).1)
  have sw := szI_m (fun l hl => (hW.1.2 l hl).1)
  have some1 : ¬ szI K.2 = -1 → ¬ szI (wR W) = -1 → ∃ lw lk, wR W = some lw ∧ K.2 = some lk := fun a b => by
    cases hr : wR W with
    | none => exact absurd (sw.mpr hr) b
    | some lw =>
      cases hkk : K.2 with
      | none => exact absurd (sk.mpr hkk) a
      | some lk => exact ⟨lw, lk, rfl, rfl⟩
  refine xC.of xpl9 (Nat.le_of_ble_eq_true rfl) (gX9_findDifference_0 u w _ _ K.1 (wN W) hK.1 hW.1.1 hk.sz h.1.sz hk.nm h.1.nm (fun z => no (fun q => ?_)) (fun _ z => no (fun q => ?_)) (fun _ _ z => no (fun q => ?_)) (fun _ _ _ z => no (fun q => ?_)) (fun a b c d e f => ?_) (fun a b c d e f => ?_) (fun _ _ _ _ z => no (fun q => ?_)))
  · obtain ⟨lw, lk, h1, h2, -⟩ := difOk_t q
    rw [sk.mp z] at h2; cases h2
  · obtain ⟨lw, lk, h1, h2, -⟩ := difOk_t q
    rw [sw.mp z] at h1; cases h1
  · obtain ⟨lw, lk, h1, h2, h3, -⟩ := difOk_t q
    exact z h3
  · obtain ⟨lw, lk, h1, h2, h3, h4 | h4⟩ := difOk_t q
    · rw [h4] at z; exact absurd z (by decide)
    · rw [h4] at z; exact absurd z (by decide)
  · obtain ⟨lw, lk, h1, h2⟩ := some1 a b
    have ok := difOk_i h1 h2 c (Int32.not_lt.mp d) e
    obtain ⟨ia, ib⟩ := dAB hW hK ok
    have ha : dA W K w = lk := by unfold dA; rw [if_neg f, h2]; rfl
    have hb : dB W K w = lw := by unfold dB; rw [if_neg f, h1]; rfl
    rw [ha] at ia
    rw [hb] at ib
    have cw := h.1
    rw [h1] at cw
    have ck := hk
    rw [h2, c] at ck
    refine (qX2_find (A := 59) (B := 47) (Or.inr rfl) (Or.inl rfl) ia ib ck cw).mono ?_
    rintro r μ' ⟨v, rfl, rfl, v1, v2, v3⟩
    exact gX9_findDifference_83 v ⟨v, rfl, v3, Or.inl ⟨rfl, ok, by rw [v1, if_neg f], by rw [ha, hb]; exact v2⟩⟩
  · obtain ⟨lw, lk, h1, h2⟩ := some1 a b
    have ok := difOk_i h1 h2 c (Int32.not_lt.mp d) e
    obtain ⟨ia, ib⟩ := dAB hW hK ok
    have ha : dA W K w = lw := by unfold dA; rw [if_pos f, h1]; rfl
    have hb : dB W K w = lk := by unfold dB; rw [if_pos f, h2]; rfl
    rw [ha] at ia
    rw [hb] at ib
    have cw := h.1
    rw [h1] at cw
    have ck := hk
    rw [h2, c] at ck
    refine (qX2_find (A := 47) (B := 59) (Or.inl rfl) (Or.inr rfl) ia ib cw ck).mono ?_
    rintro r μ' ⟨v, rfl, rfl, v1, v2, v3⟩
    exact gX9_findDifference_68 v ⟨v, rfl, v3, Or.inl ⟨rfl, ok, by rw [v1, if_pos f], by rw [ha, hb]; exact v2⟩⟩
  · obtain ⟨lw, lk, h1, h2, h3, h4 | h4⟩ := difOk_t q
    · rw [h4] at z; exact absurd (by decide) z
    · rw [h4] at z; exact absurd (by decide) z
theorem qX9_delta {u : xU} {W : WVN} {K : KPT} (hW : WI W) (hK : AI K.1 K.2) (h : CW W u) (hk : CA 59 K.1 K.2 u) (w : Int32) : xC mX9_delta [.ref 1, .int w] (xmm u) (fun r μ' => ∃ u', μ' = xmm u' ∧ r = some (.int (aDelta W K w)) ∧ frQd u u') := by
  refine xC.of xpl9 (Nat.le_of_ble_eq_true rfl) (gX9_delta_0 u w ?_)
  refine (qX9_findDifference hW hK h hk w).mono ?_
  rintro r μ' ⟨v, rfl, fv, ⟨rfl, ok, -, fn⟩ | ⟨rfl, no⟩⟩
  · refine gX9_delta_t v _ fn.1 ⟨v, rfl, ?_, fv⟩
    unfold aDelta
    rw [if_pos ok]
  · refine gX9_delta_f v ⟨v, rfl, ?_, fv⟩
    unfold aDelta
    rw [if_neg no]
theorem qX9_change {u : xU} {W : WVN} {K : KPT} (hW : WI W) (hK : AI K.1 K.2) (h : CW W u) (hk : CA 59 K.1 K.2 u) (w i k : Int32) : xC mX9_change [.ref 1, .int w, .int i, .int k] (xmm u) (fun r μ' => ∃ u', μ' = xmm u' ∧ r = some (.int (aChange W K w i k)) ∧ frQd u u') := by
  refine xC.of xpl9 (Nat.le_of_ble_eq_true rfl) (gX9_change_0 u w i k ?_)
  refine (qX9_findDifference hW hK h hk w).mono ?_
  rintro r μ' ⟨v, rfl, fv, ⟨rfl, ok, fr, fn⟩ | ⟨rfl, no⟩⟩
  · obtain ⟨ia, ib⟩ := dAB hW hK ok
    obtain ⟨lw, lk, h1, h2, h3, hw⟩ := difOk_t ok
    have hn6 := hW.1.1
    have hl := dI_len (la := dA W K w) (lb := dB W K w) (dA W K w).length
    have l5 := (ia.2 _ rfl).1
    have hA : (if w = 0 then 47 else 59) = 47 ∨ (if w = 0 then 47 else 59) = 59 := by split <;> simp
    have hca : CA (if w = 0 then 47 else 59) (wN W) (some (dA W K w)) v := by
      by_cases e : w = 0
      · rw [if_pos e]
        have : dA W K w = lw := by unfold dA; rw [if_pos e, h1]; rfl
        rw [this]
        have cw := h.1
        rw [h1] at cw
        exact cw.Qd (Or.inl rfl) hn6 fv
      · rw [if_neg e]
        have : dA W K w = lk := by unfold dA; rw [if_neg e, h2]; rfl
        rw [this]
        have ck := hk
        rw [h2, h3] at ck
        exact ck.Qd (Or.inr rfl) hn6 fv
    have key : xC mX2_at [.ref 68, .int i, .int k] (xmm v) (fun r μ' => r = some (.int (aChange W K w i k)) ∧ μ' = xmm v) := by
      unfold aChange
      by_cases hin : difOk W K w = true ∧ 0 ≤ i ∧ i < nI (dfI (dA W K w) (dB W K w)).length
      · rw [if_pos hin]
        have hl' : (dfI (dA W K w) (dB W K w)).length ≤ 500 := Nat.le_trans hl l5
        obtain ⟨i', i1, rfl⟩ := in_N (by omega) hin.2.1 hin.2.2
        rw [nI_nat (by omega)]
        have hx := List.getElem?_eq_getElem i1
        generalize (dfI (dA W K w) (dB W K w))[i'] = x at hx
        have e : (dfI (dA W K w) (dB W K w)).getD i' 0 = x := by rw [List.getD_eq_getElem?_getD, hx]; rfl
        rw [e]
        exact xC.of xpl2 (Nat.le_of_ble_eq_true rfl) (gX2_at_N v _ i' _ k _ _ hA fr i1 hl' (qX0_at hA ia hca (nI x) k) fn.1 (fn.2 i' x hx) (fun _ => ⟨rfl, rfl⟩) (fun z => absurd i1 z))
      · rw [if_neg hin]
        exact xC.of xpl2 (Nat.le_of_ble_eq_true rfl) (gX2_at_I v _ i k _ hA fr fn.1 (fun _ => ⟨rfl, rfl⟩) (fun z y => hin ⟨ok, Int32.not_lt.mp z, y⟩) (fun _ _ => ⟨rfl, rfl⟩))
    exact gX9_change_t v i k _ key ⟨v, rfl, rfl, fv⟩
  · refine gX9_change_f v i k ⟨v, rfl, ?_, fv⟩
    unfold aChange
    rw [if_neg (fun q => no q.1)]
    rfl

