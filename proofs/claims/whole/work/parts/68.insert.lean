/-- how two rows stand -/
def lexD (a b : Nat → Int32) : Nat → Int32
  | 0 => 0
  | n + 1 => if lexD a b n = 0 then cmpK (a n) (b n) else lexD a b n
theorem lexD_zero {a b : Nat → Int32} : ∀ {n : Nat}, lexD a b n = 0 ↔ ∀ k, k < n → a k = b k
  | 0 => ⟨fun _ k hk => absurd hk (Nat.not_lt_zero k), fun _ => rfl⟩
  | n + 1 => by
    unfold lexD
    by_cases h : lexD a b n = 0
    · rw [if_pos h, cmpK_eq]
      have h' := lexD_zero.mp h
      constructor
      · intro z k hk
        by_cases e : k = n
        · subst e; exact ky_inj z
        · exact h' k (by omega)
      · intro z
        rw [z n (by omega)]
    · rw [if_neg h]
      exact ⟨fun z => absurd z h, fun z => absurd (lexD_zero.mpr (fun k hk => z k (by omega))) h⟩
theorem lexD_at {a b : Nat → Int32} {k : Nat} (h : lexD a b k = 0) (hc : ¬ cmpK (a k) (b k) = 0) : ∀ {n : Nat}, k < n → lexD a b n = cmpK (a k) (b k)
  | 0, hn => absurd hn (Nat.not_lt_zero k)
  | n + 1, hn => by
    unfold lexD
    by_cases e : k = n
    · subst e; rw [if_pos h]
    · have := lexD_at h hc (n := n) (by omega)
      rw [this, if_neg hc]
theorem lexD_some {a b : Nat → Int32} {n : Nat} (h : ¬ lexD a b n = 0) : ∃ k, k < n ∧ (∀ j, j < k → a j = b j) ∧ lexD a b n = cmpK (a k) (b k) ∧ ¬ cmpK (a k) (b k) = 0 := by
  have hex : ∃ k, k < n ∧ decide (¬ a k = b k) = true := Classical.byContradiction fun q => h (lexD_zero.mpr (fun k hk => Classical.byContradiction fun z => q ⟨k, hk, decide_eq_true z⟩))
  obtain ⟨x1, x2, x3⟩ := fstB_ex hex
  generalize fstB (fun k => decide (¬ a k = b k)) n = k at x1 x2 x3
  have e : ∀ j, j < k → a j = b j := fun j hj => Classical.byContradiction fun z => x3 j hj (decide_eq_true z)
  have hc : ¬ cmpK (a k) (b k) = 0 := fun z => of_decide_eq_true x2 (ky_inj (cmpK_eq.mp z))
  exact ⟨k, x1, e, lexD_at (lexD_zero.mpr e) hc x1, hc⟩
theorem lexD_lt {a b : Nat → Int32} {n : Nat} : lexD a b n < 0 ↔ lexR n a b := by
  constructor
  · intro h
    obtain ⟨k, k1, k2, k3, -⟩ := lexD_some (a := a) (b := b) (n := n) (fun z => by rw [z] at h; exact absurd h (by decide))
    exact ⟨k, k1, k2, cmpK_lt.mp (by rw [← k3]; exact h)⟩
  · rintro ⟨k, k1, k2, k3⟩
    have hc : ¬ cmpK (a k) (b k) = 0 := fun z => by have := cmpK_eq.mp z; omega
    rw [lexD_at (lexD_zero.mpr k2) hc k1]
    exact cmpK_lt.mpr k3
theorem lexD_gt {a b : Nat → Int32} {n : Nat} : 0 < lexD a b n ↔ lexR n b a := by
  constructor
  · intro h
    obtain ⟨k, k1, k2, k3, -⟩ := lexD_some (a := a) (b := b) (n := n) (fun z => by rw [z] at h; exact absurd h (by decide))
    exact ⟨k, k1, fun j hj => (k2 j hj).symm, cmpK_gt.mp (by rw [← k3]; exact h)⟩
  · rintro ⟨k, k1, k2, k3⟩
    have hc : ¬ cmpK (a k) (b k) = 0 := fun z => by have := cmpK_eq.mp z; omega
    rw [lexD_at (lexD_zero.mpr (fun j hj => (k2 j hj).symm)) hc k1]
    exact cmpK_gt.mpr k3
theorem lexR_tr {n : Nat} {a b c : Nat → Int32} (h : lexR n a b) (h' : lexR n b c) : lexR n a c := by
  obtain ⟨k, k1, k2, k3⟩ := h
  obtain ⟨j, j1, j2, j3⟩ := h'
  by_cases e : k < j
  · exact ⟨k, k1, fun i hi => (k2 i hi).trans (j2 i (by omega)), by rw [← j2 k e]; exact k3⟩
  · by_cases e2 : j < k
    · exact ⟨j, j1, fun i hi => (k2 i (by omega)).trans (j2 i hi), by rw [k2 j e2]; exact j3⟩
    · have : j = k := by omega
      subst this
      exact ⟨j, j1, fun i hi => (k2 i hi).trans (j2 i hi), by omega⟩

theorem qX10_against_r {u : xU} {i j n : Nat} {a b : Nat → Int32} (hi : i < 501) (hj : j < 501) (hn : n ≤ 6) (ha : ∀ k, k < 6 → u.1 185 (6 * i + k) = a k) (hb : ∀ k, k < 6 → u.1 182 (6 * j + k) = b k) : xC mX10_against_ [.ref 185, .int (nI i), .ref 182, .int (nI j), .int (nI n)] (xmm u) (fun r μ' => r = some (.int (lexD a b n)) ∧ μ' = xmm u) := by
  refine xC.of xpl10 (Nat.le_of_ble_eq_true rfl) (gX10_against_r_0 u i j n hi hj hn ?_)
  have loop : ∀ d k, n - k = d → k ≤ n → lexD a b k = 0 → xE mX10_against_ 3 [(0, .ref 185), (1, .int (nI i)), (2, .ref 182), (3, .int (nI j)), (4, .int (nI n)), (5, .int (nI k))] [] (xmm u) (fun r μ' => r = some (.int (lexD a b n)) ∧ μ' = xmm u) := by
    intro d
    induction d with
    | zero =>
      intro k hd hk h0
      have e : k = n := by omega
      subst e
      exact gX10_against_r_3 u i j k k _ _ hi hj hn hk rfl rfl (fun _ => ⟨by rw [h0]; rfl, rfl⟩) (fun z => absurd (Nat.le_refl _) z) (fun z => absurd (Nat.le_refl _) z)
    | succ d ih =>
      intro k hd hk h0
      have hkl : k < n := by omega
      refine gX10_against_r_3 u i j n k _ _ hi hj hn hk (ha k (by omega)) (hb k (by omega)) (fun z => absurd hkl (by omega)) (fun _ z => ih (k + 1) (by omega) hkl ?_) (fun _ z => ⟨?_, rfl⟩)
      · show (if lexD a b k = 0 then _ else _) = _
        rw [if_pos h0]
        exact z
      · rw [lexD_at h0 z hkl]
  exact loop _ 0 rfl (Nat.zero_le _) rfl

theorem qX10_against_k {u : xU} {i j n : Nat} {a b : Nat → Int32} (hi : i < 501) (hj : j < 501) (hn : n ≤ 6) (ha : ∀ k, k < 6 → u.1 185 (6 * i + k) = a k) (hb : ∀ k, k < 6 → u.1 189 (6 * j + k) = b k) : xC mX10_against_ [.ref 185, .int (nI i), .ref 189, .int (nI j), .int (nI n)] (xmm u) (fun r μ' => r = some (.int (lexD a b n)) ∧ μ' = xmm u) := by
  refine xC.of xpl10 (Nat.le_of_ble_eq_true rfl) (gX10_against_k_0 u i j n hi hj hn ?_)
  have loop : ∀ d k, n - k = d → k ≤ n → lexD a b k = 0 → xE mX10_against_ 3 [(0, .ref 185), (1, .int (nI i)), (2, .ref 189), (3, .int (nI j)), (4, .int (nI n)), (5, .int (nI k))] [] (xmm u) (fun r μ' => r = some (.int (lexD a b n)) ∧ μ' = xmm u) := by
    intro d
    induction d with
    | zero =>
      intro k hd hk h0
      have e : k = n := by omega
      subst e
      exact gX10_against_k_3 u i j k k _ _ hi hj hn hk rfl rfl (fun _ => ⟨by rw [h0]; rfl, rfl⟩) (fun z => absurd (Nat.le_refl _) z) (fun z => absurd (Nat.le_refl _) z)
    | succ d ih =>
      intro k hd hk h0
      have hkl : k < n := by omega
      refine gX10_against_k_3 u i j n k _ _ hi hj hn hk (ha k (by omega)) (hb k (by omega)) (fun z => absurd hkl (by omega)) (fun _ z => ih (k + 1) (by omega) hkl ?_) (fun _ z => ⟨?_, rfl⟩)
      · show (if lexD a b k = 0 then _ else _) = _
        rw [if_pos h0]
        exact z
      · rw [lexD_at h0 z hkl]
  exact loop _ 0 rfl (Nat.zero_le _) rfl

theorem qX10_against_w {u : xU} {i j n : Nat} {a b : Nat → Int32} (hi : i < 501) (hj : j < 501) (hn : n ≤ 6) (ha : ∀ k, k < 6 → u.1 189 (6 * i + k) = a k) (hb : ∀ k, k < 6 → u.1 185 (6 * j + k) = b k) : xC mX10_against_ [.ref 189, .int (nI i), .ref 185, .int (nI j), .int (nI n)] (xmm u) (fun r μ' => r = some (.int (lexD a b n)) ∧ μ' = xmm u) := by
  refine xC.of xpl10 (Nat.le_of_ble_eq_true rfl) (gX10_against_w_0 u i j n hi hj hn ?_)
  have loop : ∀ d k, n - k = d → k ≤ n → lexD a b k = 0 → xE mX10_against_ 3 [(0, .ref 189), (1, .int (nI i)), (2, .ref 185), (3, .int (nI j)), (4, .int (nI n)), (5, .int (nI k))] [] (xmm u) (fun r μ' => r = some (.int (lexD a b n)) ∧ μ' = xmm u) := by
    intro d
    induction d with
    | zero =>
      intro k hd hk h0
      have e : k = n := by omega
      subst e
      exact gX10_against_w_3 u i j k k _ _ hi hj hn hk rfl rfl (fun _ => ⟨by rw [h0]; rfl, rfl⟩) (fun z => absurd (Nat.le_refl _) z) (fun z => absurd (Nat.le_refl _) z)
    | succ d ih =>
      intro k hd hk h0
      have hkl : k < n := by omega
      refine gX10_against_w_3 u i j n k _ _ hi hj hn hk (ha k (by omega)) (hb k (by omega)) (fun z => absurd hkl (by omega)) (fun _ z => ih (k + 1) (by omega) hkl ?_) (fun _ z => ⟨?_, rfl⟩)
      · show (if lexD a b k = 0 then _ else _) = _
        rw [if_pos h0]
        exact z
      · rw [lexD_at h0 z hkl]
  exact loop _ 0 rfl (Nat.zero_le _) rfl

theorem mw_ins {v : xU} {n m : Nat} {s : List (Nat → Int32)} {x : Nat → Int32} (hn6 : n ≤ 6) (hnn : v.1 172 3 = nI n) (hm : m < 500) (hs : s.length = m) (hp : s.Pairwise (lexR n)) (hz : ∀ a, a ∈ s → ∀ j, ¬ j < n → a j = 0) (hxz : ∀ j, ¬ j < n → x j = 0) (hx : x ∉ s) (h185 : RWL 185 s v) (h182 : ∀ j, j < 6 → v.1 182 (6 * m + j) = x j) {R : Option Value → xM → Prop}
    (k : ∀ (w : xU) (s' : List (Nat → Int32)), (∀ y, y ≠ 185 → w.1 y = v.1 y) → w.2 = v.2 → s'.length = m + 1 → s'.Pairwise (lexR n) → (∀ a, a ∈ s' ↔ a = x ∨ a ∈ s) → RWL 185 s' w → xE mX10_weave 73 [(0, .ref 172), (1, .int (nI (m + 1)))] [] (xmm w) R) :
    xE mX10_weave 83 [(0, .ref 172), (1, .int (nI m)), (2, .int (nI m))] [] (xmm v) R := by
  -- the row is put at i
  have put : ∀ i (w : xU), i ≤ m → (∀ y, y ≠ 185 → w.1 y = v.1 y) → w.2 = v.2 → (∀ t a, t < i → s[t]? = some a → ∀ j, j < 6 → w.1 185 (6 * t + j) = a j) → (∀ t a, i ≤ t → s[t]? = some a → ∀ j, j < 6 → w.1 185 (6 * (t + 1) + j) = a j) → (∀ t a, i ≤ t → s[t]? = some a → lexR n x a) → (∀ t a, t < i → s[t]? = some a → lexR n a x) → xE mX10_weave 156 [(0, .ref 172), (1, .int (nI m)), (2, .int (nI i)), (3, .int (nI 0))] [] (xmm w) R := by
    intro i w hi f1 f2 g1 g2 g3 g4
    have loop : ∀ d j (y : xU), 6 - j = d → j ≤ 6 → (∀ z, z ≠ 185 → y.1 z = v.1 z) → y.2 = v.2 → (∀ z, ¬ (6 * i ≤ z ∧ z < 6 * i + 6) → y.1 185 z = w.1 185 z) → (∀ z, z < j → y.1 185 (6 * i + z) = x z) → xE mX10_weave 156 [(0, .ref 172), (1, .int (nI m)), (2, .int (nI i)), (3, .int (nI j))] [] (xmm y) R := by
      intro d
      induction d with
      | zero =>
        intro j y hd hj e1 e2 e3 e4
        refine gX10_weave_156 y m i j _ hm hi hj rfl (fun _ => ?_) (fun z => absurd (by omega) z)
        have hlt : (s.take i).length = i := by rw [List.length_take]; omega
        have sd : s = s.take i ++ s.drop i := (List.take_append_drop i s).symm
        have hp' := hp
        rw [sd, List.pairwise_append] at hp'
        obtain ⟨p1, p2, p3⟩ := hp'
        have tk : ∀ a, a ∈ s.take i → lexR n a x := fun a ha => by
          obtain ⟨t, ht, e⟩ := List.mem_take_iff_getElem.mp ha
          exact g4 t a (by omega) (by rw [List.getElem?_eq_getElem (by omega), e])
        have dr : ∀ a, a ∈ s.drop i → lexR n x a := fun a ha => by
          obtain ⟨t, ht, e⟩ := List.mem_drop_iff_getElem.mp ha
          exact g3 (i + t) a (by omega) (by rw [List.getElem?_eq_getElem (by omega), e])
        refine k y (s.take i ++ x :: s.drop i) e1 e2 (by rw [List.length_append, List.length_cons, List.length_take, List.length_drop]; omega) (List.pairwise_append.mpr ⟨p1, List.pairwise_cons.mpr ⟨dr, p2⟩, fun a ha b hb => ?_⟩) (fun a => ?_) (fun t b hb z hz' => ?_)
        · rcases List.mem_cons.mp hb with e | e
          · rw [e]; exact tk a ha
          · exact p3 a ha b e
        · rw [List.mem_append, List.mem_cons]
          conv => rhs; rw [sd, List.mem_append]
          constructor
          · rintro (q | q | q)
            · exact Or.inr (Or.inl q)
            · exact Or.inl q
            · exact Or.inr (Or.inr q)
          · rintro (q | q | q)
            · exact Or.inr (Or.inl q)
            · exact Or.inl q
            · exact Or.inr (Or.inr q)
        · by_cases h1 : t < i
          · rw [List.getElem?_append_left (by omega), List.getElem?_take_of_lt h1] at hb
            rw [e3 _ (by omega)]
            exact g1 t b h1 hb z hz'
          · rw [List.getElem?_append_right (by omega), hlt] at hb
            by_cases h2 : t = i
            · rw [h2, Nat.sub_self] at hb
              have := Option.some.inj hb
              rw [h2, ← this]
              exact e4 z (by omega)
            · obtain ⟨t', rfl⟩ : ∃ t', t = t' + 1 := ⟨t - 1, by omega⟩
              rw [show t' + 1 - i = (t' - i) + 1 by omega, List.getElem?_cons_succ, List.getElem?_drop, show i + (t' - i) = t' by omega] at hb
              rw [e3 _ (by omega)]
              exact g2 t' b (by omega) hb z hz'
      | succ d ih =>
        intro j y hd hj e1 e2 e3 e4
        have hj6 : j < 6 := by omega
        refine gX10_weave_156 y m i j (x j) hm hi hj (by rw [e1 182 (by decide)]; exact h182 j hj6) (fun z => absurd z (by omega)) (fun _ => ih (j + 1) _ (by omega) hj6 (fun z hz' => by rw [wi_row hz']; exact e1 z hz') e2 (fun z hz' => by rw [wi_nek (by omega)]; exact e3 z hz') (fun z hz' => ?_))
        by_cases ez : z = j
        · subst ez; exact wi_self
        · rw [wi_nek (by omega)]
          exact e4 z (by omega)
    exact loop _ 0 w rfl (Nat.zero_le _) f1 f2 (fun _ _ => rfl) (fun z hz' => absurd hz' (Nat.not_lt_zero z))
  have down : ∀ i (w : xU), i ≤ m → (∀ y, y ≠ 185 → w.1 y = v.1 y) → w.2 = v.2 → (∀ t a, t < i → s[t]? = some a → ∀ j, j < 6 → w.1 185 (6 * t + j) = a j) → (∀ t a, i ≤ t → s[t]? = some a → ∀ j, j < 6 → w.1 185 (6 * (t + 1) + j) = a j) → (∀ t a, i ≤ t → s[t]? = some a → lexR n x a) → xE mX10_weave 83 [(0, .ref 172), (1, .int (nI m)), (2, .int (nI i))] [] (xmm w) R := by
    intro i
    induction i with
    | zero =>
      intro w hi f1 f2 g1 g2 g3
      exact gX10_weave_83z w m (put 0 w (Nat.zero_le _) f1 f2 g1 g2 g3 (fun t a ht _ => absurd ht (Nat.not_lt_zero t)))
    | succ i ih =>
      intro w hi f1 f2 g1 g2 g3
      have hil : i < s.length := by omega
      have ha : s[i]? = some s[i] := List.getElem?_eq_getElem hil
      generalize s[i] = a at ha
      have hag := qX10_against_r (u := w) (i := i) (j := m) (n := n) (a := a) (b := x) (by omega) (by omega) hn6 (g1 i a (by omega) ha) (fun j hj => by rw [f1 182 (by decide)]; exact h182 j hj)
      have has := List.mem_of_getElem? ha
      refine gX10_weave_83 w n m (i + 1) (lexD a x n) hn6 hm hi (by omega) (by rw [show i + 1 - 1 = i by omega]; exact hag) (by rw [f1 172 (by decide)]; exact hnn) (fun z => absurd z (by omega)) (fun _ z => ?_) (fun _ z => ?_)
      · have hax : lexR n a x := by
          refine lexD_lt.mp (Classical.byContradiction fun q => ?_)
          have e0 : lexD a x n = 0 := Int32.le_antisymm z (Int32.not_lt.mp q)
          have eq := lexD_zero.mp e0
          have : a = x := by
            funext j
            by_cases hj : j < n
            · exact eq j hj
            · rw [hz a has j hj, hxz j hj]
          rw [this] at has
          exact hx has
        refine put (i + 1) w hi f1 f2 g1 g2 g3 (fun t b ht hb => ?_)
        by_cases et : t = i
        · subst et
          rw [ha] at hb
          cases hb
          exact hax
        · obtain ⟨h1, e1⟩ := List.getElem?_eq_some_iff.mp hb
          obtain ⟨h2, e2⟩ := List.getElem?_eq_some_iff.mp ha
          have := List.pairwise_iff_getElem.mp hp t i h1 h2 (by omega)
          rw [e1, e2] at this
          exact lexR_tr this hax
      · have hxa : lexR n x a := lexD_gt.mp (Int32.not_le.mp z)
        -- the row at i goes one place up
        have loop : ∀ d j (y : xU), 6 - j = d → j ≤ 6 → (∀ z, z ≠ 185 → y.1 z = v.1 z) → y.2 = v.2 → (∀ z, ¬ (6 * (i + 1) ≤ z ∧ z < 6 * (i + 1) + 6) → y.1 185 z = w.1 185 z) → (∀ z, z < j → y.1 185 (6 * (i + 1) + z) = a z) → xE mX10_weave 111 [(0, .ref 172), (1, .int (nI m)), (2, .int (nI (i + 1))), (3, .int (nI j))] [] (xmm y) R := by
          intro d
          induction d with
          | zero =>
            intro j y hd hj e1 e2 e3 e4
            refine gX10_weave_111 y m (i + 1) j _ hm hi (by omega) hj rfl (fun _ => ?_) (fun z => absurd (by omega) z)
            rw [show i + 1 - 1 = i by omega]
            refine ih y (by omega) e1 e2 (fun t b ht hb z hz' => ?_) (fun t b ht hb z hz' => ?_) (fun t b ht hb => ?_)
            · rw [e3 _ (by omega)]
              exact g1 t b (by omega) hb z hz'
            · by_cases et : t = i
              · subst et
                rw [ha] at hb
                cases hb
                exact e4 z (by omega)
              · rw [e3 _ (by omega)]
                exact g2 t b (by omega) hb z hz'
            · by_cases et : t = i
              · subst et
                rw [ha] at hb
                cases hb
                exact hxa
              · exact g3 t b (by omega) hb
          | succ d ih2 =>
            intro j y hd hj e1 e2 e3 e4
            have hj6 : j < 6 := by omega
            refine gX10_weave_111 y m (i + 1) j (a j) hm hi (by omega) hj ?_ (fun z => absurd z (by omega)) (fun _ => ih2 (j + 1) _ (by omega) hj6 (fun z hz' => by rw [wi_row hz']; exact e1 z hz') e2 (fun z hz' => by rw [wi_nek (by omega)]; exact e3 z hz') (fun z hz' => ?_))
            · rw [show 6 * (i + 1) - 6 + j = 6 * i + j by omega, e3 _ (by omega)]
              exact g1 i a (by omega) ha j hj6
            · by_cases ez : z = j
              · subst ez; exact wi_self
              · rw [wi_nek (by omega)]
                exact e4 z (by omega)
        exact loop _ 0 w rfl (Nat.zero_le _) f1 f2 (fun _ _ => rfl) (fun z hz' => absurd hz' (Nat.not_lt_zero z))
  refine down m v (Nat.le_refl _) (fun _ _ => rfl) rfl (fun t a ht ha => h185 t a ha) (fun t a ht ha => ?_) (fun t a ht ha => ?_)
  · have := (List.getElem?_eq_some_iff.mp ha).1
    omega
  · have := (List.getElem?_eq_some_iff.mp ha).1
    omega

