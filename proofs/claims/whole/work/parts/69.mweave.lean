def szI : Option (List (Nat → Int32)) → Int32
  | none => -1
  | some l => nI l.length
/-- what was woven, in the model's memory -/
def MW (W : WVN) (u : xU) : Prop := u.1 172 15 = nI (wN W) ∧ u.1 172 16 = szI (wR W) ∧ ∀ l, wR W = some l → u.1 172 17 = nI (wP W) ∧ (∀ i, i < wN W → u.1 186 i = nI (wM W i)) ∧ RWL 185 l u ∧ (∀ p, p < wP W → u.1 188 p = xb (wH W p ≠ none)) ∧ ∀ i a, l[i]? = some a → ∀ p, p < wP W → wH W p ≠ none → u.1 187 (10 * i + p) = nI (wW W p a)
theorem MW.keep {W : WVN} {u u' : xU} (h : MW W u) (h1 : u'.1 172 15 = u.1 172 15) (h2 : u'.1 172 16 = u.1 172 16) (h3 : u'.1 172 17 = u.1 172 17) (f : ∀ x, 185 ≤ x → x < 189 → u'.1 x = u.1 x) : MW W u' := by
  obtain ⟨a1, a2, a3⟩ := h
  refine ⟨h1.trans a1, h2.trans a2, fun l hl => ?_⟩
  obtain ⟨b1, b2, b3, b4, b5⟩ := a3 l hl
  rw [h3, f 186 (by decide) (by decide), f 188 (by decide) (by decide), f 187 (by decide) (by decide)]
  exact ⟨b1, b2, b3.keep (f 185 (by decide) (by decide)), b4, b5⟩
/-- what the model's weaving leaves alone -/
def frB (u u' : xU) : Prop := (∀ x, x ≠ 172 → ¬ (182 ≤ x ∧ x < 189) → x ≠ 190 → u'.1 x = u.1 x) ∧ (∀ k, k ≠ 13 → k ≠ 15 → k ≠ 16 → k ≠ 17 → u'.1 172 k = u.1 172 k) ∧ u'.2 = u.2
theorem frB.tr {u v w : xU} (a : frB u v) (b : frB v w) : frB u w := ⟨fun x h1 h2 h3 => (b.1 x h1 h2 h3).trans (a.1 x h1 h2 h3), fun k h1 h2 h3 h4 => (b.2.1 k h1 h2 h3 h4).trans (a.2.1 k h1 h2 h3 h4), b.2.2.trans a.2.2⟩
theorem frN.B {u v : xU} (a : frN u v) : frB u v := ⟨fun x h1 h2 h3 => a.1 x h1 (by omega) (by omega) (by omega) h3, fun k h1 _ _ _ => a.2.1 k h1, a.2.2⟩
theorem frB.rf {u : xU} : frB u u := ⟨fun _ _ _ _ => rfl, fun _ _ _ _ _ => rfl, rfl⟩
theorem MT.B {T : TBL} {u u' : xU} (h : MT T u) (f : frB u u') : MT T u' := h.keep (f.1 173 (by decide) (by decide) (by decide)) (f.1 174 (by decide) (by decide) (by decide)) (f.1 175 (by decide) (by decide) (by decide))
theorem KQ.B {Q : QST} {u u' : xU} (h : KQ Q u) (f : frB u u') : KQ Q u' := h.keep (f.2.1 3 (by decide) (by decide) (by decide) (by decide)) (f.2.1 4 (by decide) (by decide) (by decide) (by decide)) (fun x a b => f.1 x (by omega) (by omega) (by omega))
theorem hNo_ne {Q : QST} {p : Nat} : hNo Q p ≠ none ↔ qK Q p = 0 := by
  unfold hNo
  split
  · rename_i h
    exact ⟨fun _ => h, fun _ => by simp⟩
  · rename_i h
    exact ⟨fun z => absurd rfl z, fun z => absurd z h⟩
def mwP (T : TBL) (Q : QST) (W : WVN) (u : xU) : Option Value → xM → Prop := fun r μ' => ∃ u', μ' = xmm u' ∧ r = some (.int (aWeave T Q W).1) ∧ MW (aWeave T Q W).2 u' ∧ frB u u'
theorem qX10_weave {u : xU} {T : TBL} {Q : QST} {W : WVN} (hT : TI T) (hQ : QI T Q) (hC : MT T u) (h : KQ Q u) (hw : MW W u) : xC mX10_weave [.ref 172] (xmm u) (mwP T Q W u) := by
  have hn6 := hQ.1
  have hp10 := hQ.2.1
  refine xC.of xpl10 (Nat.le_of_ble_eq_true rfl) (gX10_weave_0 u _ (qX10_holds hT hQ hC h) (fun z => ?_) (fun z => ?_))
  rotate_left
  · refine ⟨u, rfl, ?_, ?_, frB.rf⟩
    · unfold aWeave; rw [if_neg z]
    · unfold aWeave; rw [if_neg z]; exact hw
  refine (qX10_meets hT hQ hC h z).mono ?_
  rintro r μ' ⟨v, rfl, fv, ⟨rfl, i, i1, i2, i3⟩ | ⟨rfl, l, nd, mem, l5, rl, rm, cs⟩⟩
  · have no : ¬ bP (okW T Q) = true := fun q => bP_iff.mp q i i1 i2 i3
    have ea : aWeave T Q W = (-2, W) := by unfold aWeave; rw [if_pos z, if_neg no]
    refine gX10_weave_f v ⟨v, rfl, by rw [ea], ?_, fv.B⟩
    rw [ea]
    exact hw.keep (fv.2.1 15 (by decide)) (fv.2.1 16 (by decide)) (fv.2.1 17 (by decide)) (fun x a b => fv.1 x (by omega) (by omega) (by omega) (by omega) (by omega))
  have yes : bP (okW T Q) = true := bP_iff.mpr (fun i i1 i2 i3 => by
    obtain ⟨c, -, c2, -⟩ := cs (i - 1) (by omega)
    rw [show i - 1 + 1 = i by omega, i3] at c2
    cases c2)
  have ea : aWeave T Q W = (nI (rowsS T Q).length, Wof T Q) := by unfold aWeave; rw [if_pos z, if_pos yes]
  have hcv := hC.N fv
  have hqv := h.N fv
  have mem' : ∀ a, a ∈ l ↔ MEM T Q (FS Q) a := mem
  -- the end
  have last : ∀ (s : List (Nat → Int32)), s.length = l.length → rowsS T Q = s → (∀ a, a ∈ s → MEM T Q (FS Q) a) → ∀ d m (y : xU), s.length - m = d → m ≤ s.length → frB v y → y.1 172 15 = nI (qN Q) → y.1 172 16 = nI s.length → y.1 172 17 = nI (qP Q) → (∀ i, i < qN Q → y.1 186 i = nI ((cntS T Q (psO (qO Q) (i + 1))).getD 0)) → RWL 185 s y → (∀ p, p < qP Q → y.1 188 p = xb (hNo Q p ≠ none)) → (∀ j a, j < m → s[j]? = some a → ∀ p, p < qP Q → hNo Q p ≠ none → y.1 187 (10 * j + p) = nI (fsR T Q p (FS Q) a)) → xE mX10_weave 240 [(0, .ref 172), (1, .int (nI m))] [] (xmm y) (mwP T Q W u) := by
    intro s hs hrs hsm d
    induction d with
    | zero =>
      intro m y hd hm fy y1 y2 y3 y4 y5 y6 y7
      refine gX10_weave_240 y m s.length (by omega) hm y2 (fun _ => ⟨y, rfl, by rw [ea, hrs], ?_, fv.B.tr fy⟩) (fun z => absurd (by omega) z)
      rw [ea]
      refine ⟨y1, ?_, fun l0 hl0 => ?_⟩
      · show y.1 172 16 = nI (rowsS T Q).length
        rw [hrs]
        exact y2
      · have : rowsS T Q = l0 := Option.some.inj hl0
        rw [hrs] at this
        subst this
        refine ⟨y3, y4, y5, y6, fun i a ha p hp hh => ?_⟩
        have := (List.getElem?_eq_some_iff.mp ha).1
        exact y7 i a (by omega) ha p hp hh
    | succ d ih =>
      intro m y hd hm fy y1 y2 y3 y4 y5 y6 y7
      have hml : m < s.length := by omega
      have ha : s[m]? = some s[m] := List.getElem?_eq_getElem hml
      generalize s[m] = a at ha
      have hMa := hsm a (List.mem_of_getElem? ha)
      refine gX10_weave_240 y m s.length (by omega) hm y2 (fun z => absurd hml (by omega)) (fun _ => ?_)
      -- the parts' rows
      have rws : ∀ e p (w : xU), qP Q - p = e → p ≤ qP Q → frB v w → (∀ x, x ≠ 187 → x ≠ 190 → w.1 x = y.1 x) → ATV a w → (∀ x, x < 10 * m → w.1 187 x = y.1 187 x) → (∀ q, q < p → hNo Q q ≠ none → w.1 187 (10 * m + q) = nI (fsR T Q q (FS Q) a)) → xE mX10_weave 281 [(0, .ref 172), (1, .int (nI m)), (2, .int (nI p))] [] (xmm w) (mwP T Q W u) := by
        intro e
        induction e with
        | zero =>
          intro p w he hp fw w1 w2 w3 w4
          have hq := hqv.B fw
          refine gX10_weave_281e w (qN Q) (qP Q) m p hn6 hp10 (by omega) (by omega) hq.1 hq.2.1 (fun _ => ?_) (fun z => absurd (by omega) z) (fun z => absurd (by omega) z)
          refine ih (m + 1) w (by omega) hml fw (by rw [w1 172 (by decide) (by decide)]; exact y1) (by rw [w1 172 (by decide) (by decide)]; exact y2) (by rw [w1 172 (by decide) (by decide)]; exact y3) (fun i hi => by rw [w1 186 (by decide) (by decide)]; exact y4 i hi) (y5.keep (w1 185 (by decide) (by decide))) (fun p hp => by rw [w1 188 (by decide) (by decide)]; exact y6 p hp) (fun j b hj hb q hq hh => ?_)
          by_cases ej : j = m
          · subst ej
            rw [ha] at hb
            cases hb
            exact w4 q (by omega) hh
          · rw [w3 _ (by omega)]
            exact y7 j b (by omega) hb q hq hh
        | succ e ihe =>
          intro p w he hp fw w1 w2 w3 w4
          have hpl : p < qP Q := by omega
          have hq := hqv.B fw
          have hc := hcv.B fw
          have cp := hq.2.2.2 p hpl
          have hk3 := (hQ.2.2.2.2.1 p hpl).1
          have nx : ∀ x : Int32, (hNo Q p ≠ none → x = nI (fsR T Q p (FS Q) a)) → xE mX10_weave 281 [(0, .ref 172), (1, .int (nI m)), (2, .int (nI (p + 1)))] [] (xmm (wi w 187 (10 * m + p) x)) (mwP T Q W u) := fun x hx => by
            refine ihe (p + 1) _ (by omega) hpl (fw.tr ⟨fun z _ h2 _ => wi_row (by omega), fun _ _ _ _ _ => wi_ne (by decide), rfl⟩) (fun z h1 h2 => by rw [wi_row h1]; exact w1 z h1 h2) (fun j hj => by rw [wi_ne (by decide)]; exact w2 j hj) (fun z hz => by rw [wi_nek (by omega)]; exact w3 z hz) (fun q hq hh => ?_)
            by_cases eq : q = p
            · subst eq
              rw [wi_self]
              exact hx hh
            · rw [wi_nek (by omega)]
              exact w4 q (by omega) hh
          by_cases hk : qK Q p = 0
          · have hro := qX10_rowOf hT hQ hc hq w2 (FS_lt hQ) hpl (show qK Q p ≤ 1 by omega)
            have e1 : ((1 : Int32) <<< ((nI (qN Q)) &&& 31)) - 1 = nI (FS Q) := by rw [FS_I _ hn6, FS_eq hQ]
            refine gX10_weave_281h w (qN Q) (qP Q) m p (qK Q p) _ hn6 hp10 (by omega) hpl hk (by rw [e1]; exact hro) hq.1 hq.2.1 cp.1 (fun z => absurd hpl (by omega)) (fun _ z => absurd hk z) (fun _ _ => nx _ (fun _ => ?_))
            unfold rwO
            rw [if_pos (fsR_lt.mpr (MEM_has hQ hMa hpl hk))]
          · exact gX10_weave_281n w (qN Q) (qP Q) m p (qK Q p) hn6 hp10 (by omega) hpl (by omega) hk3 hq.1 hq.2.1 cp.1 (fun z => absurd hpl (by omega)) (fun _ _ => nx _ (fun q => absurd (hNo_ne.mp q) hk)) (fun _ z => absurd z hk)
      have ats : ∀ e k (w : xU), 6 - k = e → k ≤ 6 → frB v w → (∀ x, x ≠ 190 → w.1 x = y.1 x) → (∀ j, j < k → w.1 190 j = a j) → xE mX10_weave 250 [(0, .ref 172), (1, .int (nI m)), (2, .int (nI k))] [] (xmm w) (mwP T Q W u) := by
        intro e
        induction e with
        | zero =>
          intro k w he hk fw w1 w2
          exact gX10_weave_250 w m k _ (by omega) hk rfl (fun _ => rws _ 0 w rfl (Nat.zero_le _) fw (fun x _ h2 => w1 x h2) (fun j hj => w2 j (by omega)) (fun x _ => by rw [w1 187 (by decide)]) (fun q hq _ => absurd hq (Nat.not_lt_zero q))) (fun z => absurd (by omega) z)
        | succ e ihe =>
          intro k w he hk fw w1 w2
          have hk6 : k < 6 := by omega
          refine gX10_weave_250 w m k (a k) (by omega) hk (by rw [w1 185 (by decide)]; exact y5 m a ha k hk6) (fun z => absurd z (by omega)) (fun _ => ihe (k + 1) _ (by omega) hk6 (fw.tr ⟨fun z _ _ h3 => wi_row h3, fun _ _ _ _ _ => wi_ne (by decide), rfl⟩) (fun x hx => by rw [wi_row hx]; exact w1 x hx) (fun j hj => ?_))
          by_cases ej : j = k
          · subst ej; exact wi_self
          · rw [wi_nek ej]; exact w2 j (by omega)
      exact ats _ 0 y rfl (Nat.zero_le _) fy (fun _ _ => rfl) (fun j hj => absurd hj (Nat.not_lt_zero j))
  -- which parts are a HAS
  have has : ∀ (s : List (Nat → Int32)), s.length = l.length → rowsS T Q = s → (∀ a, a ∈ s → MEM T Q (FS Q) a) → ∀ d p (y : xU), 10 - p = d → p ≤ 10 → frB v y → y.1 172 15 = nI (qN Q) → y.1 172 16 = nI s.length → y.1 172 17 = nI (qP Q) → (∀ i, i < qN Q → y.1 186 i = nI ((cntS T Q (psO (qO Q) (i + 1))).getD 0)) → RWL 185 s y → (∀ q, q < p → q < qP Q → y.1 188 q = xb (hNo Q q ≠ none)) → xE mX10_weave 198 [(0, .ref 172), (1, .int (nI p))] [] (xmm y) (mwP T Q W u) := by
    intro s hs hrs hsm d
    induction d with
    | zero =>
      intro p y hd hp fy y1 y2 y3 y4 y5 y6
      have hq := hqv.B fy
      exact gX10_weave_198n y (qN Q) (qP Q) p hn6 hp10 (by omega) hp hq.1 hq.2.1 (fun _ => last s hs hrs hsm _ 0 y rfl (Nat.zero_le _) fy y1 y2 y3 y4 y5 (fun q hq => y6 q (by omega) hq) (fun j a hj _ => absurd hj (Nat.not_lt_zero j))) (fun z => absurd (by omega) z) (fun z => absurd (by omega) z) (fun z => absurd (by omega) z)
    | succ d ih =>
      intro p y hd hp fy y1 y2 y3 y4 y5 y6
      have hq := hqv.B fy
      have nx : ∀ x : Int32, (p < qP Q → x = xb (hNo Q p ≠ none)) → xE mX10_weave 198 [(0, .ref 172), (1, .int (nI (p + 1)))] [] (xmm (wi y 188 p x)) (mwP T Q W u) := fun x hx => by
        refine ih (p + 1) _ (by omega) (by omega) (fy.tr ⟨fun z _ h2 _ => wi_row (by omega), fun _ _ _ _ _ => wi_ne (by decide), rfl⟩) (by rw [wi_ne (by decide)]; exact y1) (by rw [wi_ne (by decide)]; exact y2) (by rw [wi_ne (by decide)]; exact y3) (fun i hi => by rw [wi_ne (by decide)]; exact y4 i hi) (y5.keep (wi_row (by decide))) (fun q h1 h2 => ?_)
        by_cases e : q = p
        · subst e; rw [wi_self]; exact hx h2
        · rw [wi_nek e]; exact y6 q (by omega) h2
      by_cases hpl : p < qP Q
      · have cp := hq.2.2.2 p hpl
        have hk3 := (hQ.2.2.2.2.1 p hpl).1
        refine gX10_weave_198 y (qN Q) (qP Q) p (qK Q p) hn6 hp10 hpl hk3 hq.1 hq.2.1 cp.1 (fun z => absurd z (by omega)) (fun _ z => absurd hpl (by omega)) (fun _ _ z => nx _ (fun _ => ?_)) (fun _ _ z => nx _ (fun _ => ?_))
        · exact xb_eq ⟨fun q => q.elim, fun q => z (hNo_ne.mp q)⟩
        · exact xb_eq ⟨fun _ => hNo_ne.mpr z, fun _ => True.intro⟩
      · exact gX10_weave_198n y (qN Q) (qP Q) p hn6 hp10 (by omega) hp hq.1 hq.2.1 (fun z => absurd z (by omega)) (fun _ _ => nx _ (fun q => absurd q hpl)) (fun _ z => absurd (by omega) z) (fun _ z => absurd (by omega) z)
  -- the rows in order
  have srt : ∀ d m (y : xU) (s : List (Nat → Int32)), l.length - m = d → m ≤ l.length → frB v y → y.1 182 = v.1 182 → y.1 172 13 = nI l.length → y.1 172 15 = nI (qN Q) → y.1 172 16 = nI l.length → y.1 172 17 = nI (qP Q) → (∀ i, i < qN Q → y.1 186 i = nI ((cntS T Q (psO (qO Q) (i + 1))).getD 0)) → s.length = m → s.Pairwise (lexR (qN Q)) → (∀ a, a ∈ s ↔ a ∈ l.take m) → RWL 185 s y → xE mX10_weave 73 [(0, .ref 172), (1, .int (nI m))] [] (xmm y) (mwP T Q W u) := by
    intro d
    induction d with
    | zero =>
      intro m y s hd hm fy y0 yr y1 y2 y3 y4 s1 s2 s3 s4
      have hms : ∀ a, a ∈ s ↔ MEM T Q (FS Q) a := fun a => by rw [s3 a, List.take_of_length_le (by omega)]; exact mem' a
      have hrs := rowsS_of s2 hms
      exact gX10_weave_73 y m l.length l5 hm yr (fun _ => has s (by omega) hrs (fun a ha => (hms a).mp ha) _ 0 y rfl (Nat.zero_le _) fy y1 (by rw [show s.length = l.length by omega]; exact y2) y3 y4 s4 (fun q hq => absurd hq (Nat.not_lt_zero q))) (fun z => absurd (by omega) z)
    | succ d ih =>
      intro m y s hd hm fy y0 yr y1 y2 y3 y4 s1 s2 s3 s4
      have hml : m < l.length := by omega
      have ha : l[m]? = some l[m] := List.getElem?_eq_getElem hml
      generalize l[m] = x at ha
      have zo : ∀ a, a ∈ l → ∀ j, ¬ j < qN Q → a j = 0 := fun a hal j hj => ((mem' a).mp hal).1 j (fun q => hj ((FS_bit hQ).mp q))
      have hxl := List.mem_of_getElem? ha
      refine gX10_weave_73 y m l.length l5 hm yr (fun z => absurd hml (by omega)) (fun _ => ?_)
      refine mw_ins (s := s) (x := x) hn6 (hqv.B fy).1 (by omega) s1 s2 (fun a has => zo a (List.mem_of_mem_take ((s3 a).mp has))) (zo x hxl) (fun q => take_ne nd ha ((s3 x).mp q) rfl) s4 (fun j hj => by rw [y0]; exact rl m x ha j hj) (fun w s' f1 f2 g1 g2 g3 g4 => ?_)
      refine ih (m + 1) w s' (by omega) hml (fy.tr ⟨fun z _ h2 _ => f1 z (by omega), fun k _ _ _ _ => by rw [f1 172 (by decide)], f2⟩) (by rw [f1 182 (by decide)]; exact y0) (by rw [f1 172 (by decide)]; exact yr) (by rw [f1 172 (by decide)]; exact y1) (by rw [f1 172 (by decide)]; exact y2) (by rw [f1 172 (by decide)]; exact y3) (fun i hi => by rw [f1 186 (by decide)]; exact y4 i hi) g1 g2 (fun a => ?_) g4
      rw [g3 a, take_snoc ha, s3 a]
      exact ⟨fun q => q.symm, fun q => q.symm⟩
  have mets : ∀ d i (y : xU), qN Q - i = d → i ≤ qN Q → frB v y → y.1 182 = v.1 182 → y.1 184 = v.1 184 → y.1 172 13 = nI l.length → y.1 172 15 = nI (qN Q) → y.1 172 16 = nI l.length → y.1 172 17 = nI (qP Q) → (∀ j, j < i → y.1 186 j = nI ((cntS T Q (psO (qO Q) (j + 1))).getD 0)) → xE mX10_weave 45 [(0, .ref 172), (1, .int (nI i))] [] (xmm y) (mwP T Q W u) := by
    intro d
    induction d with
    | zero =>
      intro i y hd hi fy y0 yc yr y1 y2 y3 y4
      have hq := hqv.B fy
      exact gX10_weave_45 y (qN Q) (qP Q) i _ hn6 hp10 hi hq.1 hq.2.1 rfl (fun _ => srt _ 0 y [] rfl (Nat.zero_le _) fy y0 yr y1 y2 y3 (fun j hj => y4 j (by omega)) rfl List.Pairwise.nil (fun a => by simp) (fun m b hb => by simp at hb)) (fun z => absurd (by omega) z)
    | succ d ih =>
      intro i y hd hi fy y0 yc yr y1 y2 y3 y4
      have hq := hqv.B fy
      have hil : i < qN Q := by omega
      obtain ⟨c, c1, c2, c3⟩ := cs i hil
      refine gX10_weave_45 y (qN Q) (qP Q) i (nI c) hn6 hp10 hi hq.1 hq.2.1 (by rw [yc]; exact c3) (fun z => absurd hil (by omega)) (fun _ => ?_)
      refine ih (i + 1) _ (by omega) hil (fy.tr ⟨fun z _ h2 _ => wi_row (by omega), fun _ _ _ _ _ => wi_ne (by decide), rfl⟩) (by rw [wi_row (by decide)]; exact y0) (by rw [wi_row (by decide)]; exact yc) (by rw [wi_ne (by decide)]; exact yr) (by rw [wi_ne (by decide)]; exact y1) (by rw [wi_ne (by decide)]; exact y2) (by rw [wi_ne (by decide)]; exact y3) (fun j hj => ?_)
      by_cases e : j = i
      · subst e
        rw [wi_self, c2]
        rfl
      · rw [wi_nek e]; exact y4 j (by omega)
  refine gX10_weave_t v (qN Q) (qP Q) l.length hn6 hp10 hqv.1 hqv.2.1 rm ?_
  refine mets _ 0 _ rfl (Nat.zero_le _) ⟨fun x h1 _ _ => by rw [wi_row h1, wi_row h1, wi_row h1], fun k _ h2 h3 h4 => by rw [wi_nek h4, wi_nek h3, wi_nek h2], rfl⟩ (by rw [wi_row (by decide), wi_row (by decide), wi_row (by decide)]) (by rw [wi_row (by decide), wi_row (by decide), wi_row (by decide)]) (by rw [wi_nek (by decide), wi_nek (by decide), wi_nek (by decide)]; exact rm) (by rw [wi_nek (by decide), wi_nek (by decide), wi_self]) (by rw [wi_nek (by decide), wi_self]) wi_self (fun j hj => absurd hj (Nat.not_lt_zero j))

