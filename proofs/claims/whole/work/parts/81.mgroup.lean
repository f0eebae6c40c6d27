theorem cnt_le {k : Nat} {w : Int32} {l : List (Nat → Int32)} : ∀ i, (l.take i).foldl (cntF k w) 0 ≤ i
  | 0 => by simp
  | i + 1 => by
    have := cnt_le (k := k) (w := w) (l := l) i
    by_cases hi : i < l.length
    · rw [fold_snoc (List.getElem?_eq_getElem hi)]
      show (if l[i] k = w then _ else _) ≤ _
      split <;> omega
    · rw [List.take_of_length_le (show l.length ≤ i + 1 by omega)]
      rw [List.take_of_length_le (show l.length ≤ i by omega)] at this
      omega
theorem qX10_group {u : xU} {W : WVN} (hW : WI W) (h1 : ∀ l, wR W = some l → 1 ≤ wN W) (h : MW W u) (k v w j : Int32) : xC mX10_group [.ref 172, .int k, .int v, .int w, .int j] (xmm u) (fun r μ' => r = some (.long (aGroup W k v w j)) ∧ μ' = xmm u) := by
  have hin := qX10_isName hW h1 h k
  have hij := qX10_isName hW h1 h j
  have hn6 := hW.1.1
  obtain ⟨m1, m2, m3⟩ := h
  by_cases ok : cry (wN W) (wR W) k = true
  · obtain ⟨l, k', e, k1, rfl⟩ := cry_t hn6 ok
    unfold aGroup
    have l5 := (hW.1.2 l e).1
    have hl := (m3 l e).2.2.1
    rw [e] at ok hin m2 hij ⊢
    dsimp only
    rw [if_pos ok, nI_nat (by omega)]
    rw [xb_eq (show (cry (wN W) (some l) (nI k') = true) ↔ True from ⟨fun _ => True.intro, fun _ => ok⟩)] at hin
    have two : ∀ w : Int32, 0 ≤ w → w ≤ 1 → w = 0 ∨ w = 1 := fun w a b => by
      obtain ⟨x, x1, rfl⟩ := in_N (m := 2) (by decide) a (by
        rw [Int32.le_iff_toInt_le] at b
        rw [Int32.lt_iff_toInt_lt]
        have e4 : (1 : Int32).toInt = 1 := rfl
        have e5 : (nI 2).toInt = 2 := rfl
        omega)
      rcases (show x = 0 ∨ x = 1 by omega) with rfl | rfl
      · exact Or.inl rfl
      · exact Or.inr rfl
    refine xC.of xpl10 (Nat.le_of_ble_eq_true rfl) (gX10_group_N u k' v w j _ hin hij (fun z => absurd True.intro z) (fun _ z => ⟨?_, rfl⟩) (fun _ hw z => ?_) (fun _ hw z y => ?_) (fun _ hw z y => ⟨?_, rfl⟩))
    · rw [if_neg (fun q => z (by rw [q]; decide)), if_neg (fun q => z (by rw [q]; decide))]
    · have hw0 : w = 0 := (two w hw.1 hw.2).resolve_right z
      subst hw0
      rw [if_pos rfl]
      have loop : ∀ d i, l.length - i = d → i ≤ l.length → xE mX10_group 39 [(0, .ref 172), (1, .int (nI k')), (2, .int v), (3, .int (nI 0)), (4, .int j), (5, .long (nI ((l.take i).foldl (cntF k' v) 0)).toInt64), (7, .int (nI i))] [] (xmm u) (fun r μ' => r = some (.long (nI (l.foldl (cntF k' v) 0)).toInt64) ∧ μ' = xmm u) := by
        intro d
        induction d with
        | zero =>
          intro i hd hi
          exact gX10_group_e_0 u k' i l.length j v _ (by omega) l5 m2 (fun _ => ⟨by rw [fold_all (by omega)], rfl⟩) (fun z => absurd (by omega) z)
        | succ d ih =>
          intro i hd hi
          have hil : i < l.length := by omega
          have ha := List.getElem?_eq_getElem hil
          have nx := ih (i + 1) (by omega) hil
          have hc := cnt_le (k := k') (w := v) (l := l) i
          rw [fold_snoc ha] at nx
          refine gX10_group_39_0 u k' i l.length j v (l[i] k') _ hil l5 (by omega) m2 (hl i _ ha k' (by omega)) (fun z => absurd hil (by omega)) (fun _ x _ => ?_) (fun _ _ x => absurd x (by decide)) (fun _ x => ?_)
          · rw [show cntF k' v ((l.take i).foldl (cntF k' v) 0) l[i] = (l.take i).foldl (cntF k' v) 0 + 1 from if_pos x] at nx
            rw [nI_L' (by omega), nI_L' (by decide), nL_add]
            rw [nI_L' (by omega)] at nx
            exact nx
          · rw [show cntF k' v ((l.take i).foldl (cntF k' v) 0) l[i] = (l.take i).foldl (cntF k' v) 0 from if_neg x] at nx
            exact nx
      exact loop _ 0 rfl (Nat.zero_le _)
    · obtain ⟨_, j', -, j1, rfl⟩ := cry_t hn6 y
      subst z
      rw [if_neg (by decide), if_pos rfl, if_pos y, nI_nat (by omega)]
      have loop : ∀ d i, l.length - i = d → i ≤ l.length → xE mX10_group 39 [(0, .ref 172), (1, .int (nI k')), (2, .int v), (3, .int (nI 1)), (4, .int (nI j')), (5, .long ((l.take i).foldl (twF k' j' v) 0)), (7, .int (nI i))] [] (xmm u) (fun r μ' => r = some (.long (l.foldl (twF k' j' v) 0)) ∧ μ' = xmm u) := by
        intro d
        induction d with
        | zero =>
          intro i hd hi
          exact gX10_group_e_1 u k' i l.length j' v _ (by omega) l5 m2 (fun _ => ⟨by rw [fold_all (by omega)], rfl⟩) (fun z => absurd (by omega) z)
        | succ d ih =>
          intro i hd hi
          have hil : i < l.length := by omega
          have ha := List.getElem?_eq_getElem hil
          have nx := ih (i + 1) (by omega) hil
          rw [fold_snoc ha] at nx
          refine gX10_group_39_1 u k' i l.length j' v (l[i] k') _ (l[i] j') hil l5 (by omega) (by omega) m2 (hl i _ ha k' (by omega)) (hl i _ ha j' (by omega)) (fun z => absurd hil (by omega)) (fun _ x q => ?_) (fun _ x q => ?_) (fun _ x => ?_)
          · rw [show twF k' j' v ((l.take i).foldl (twF k' j' v) 0) l[i] = (l.take i).foldl (twF k' j' v) 0 + (nz (l[i] j')).toInt64 from if_pos x] at nx
            unfold nz at nx
            rw [if_neg q] at nx
            exact nx
          · rw [show twF k' j' v ((l.take i).foldl (twF k' j' v) 0) l[i] = (l.take i).foldl (twF k' j' v) 0 + (nz (l[i] j')).toInt64 from if_pos x] at nx
            unfold nz at nx
            rw [if_pos q] at nx
            exact nx
          · rw [show twF k' j' v ((l.take i).foldl (twF k' j' v) 0) l[i] = (l.take i).foldl (twF k' j' v) 0 from if_neg x] at nx
            exact nx
      exact loop _ 0 rfl (Nat.zero_le _)
    · subst z
      rw [if_neg (by decide), if_pos rfl, if_neg y]
  · rw [xb_eq (show (cry (wN W) (wR W) k = true) ↔ False from ⟨fun q => ok q, fun q => q.elim⟩)] at hin
    have e : aGroup W k v w j = 0 := by
      unfold aGroup
      cases hr : wR W with
      | none => rfl
      | some l =>
        rw [hr] at ok
        dsimp only
        rw [if_neg ok]
    rw [e]
    exact xC.of xpl10 (Nat.le_of_ble_eq_true rfl) (gX10_group_I u k v w j hin (fun _ => ⟨rfl, rfl⟩) (fun z => z.elim) (fun z => z.elim) (fun z => z.elim))
/-- what was kept, in the model's memory -/
def MKp (K : KPT) (u : xU) : Prop := u.1 172 22 = nI K.1 ∧ u.1 172 23 = szI K.2 ∧ ∀ l, K.2 = some l → RWL 189 l u
theorem MKp.keep {K : KPT} {u u' : xU} (h : MKp K u) (h1 : u'.1 172 22 = u.1 172 22) (h2 : u'.1 172 23 = u.1 172 23) (h3 : u'.1 189 = u.1 189) : MKp K u' := ⟨h1.trans h.1, h2.trans h.2.1, fun l hl => (h.2.2 l hl).keep h3⟩
def frKp (u u' : xU) : Prop := (∀ x, x ≠ 172 → x ≠ 189 → u'.1 x = u.1 x) ∧ (∀ k, k ≠ 22 → k ≠ 23 → u'.1 172 k = u.1 172 k) ∧ u'.2 = u.2
theorem qX10_keep {u : xU} {W : WVN} {K : KPT} (hW : WI W) (h : MW W u) (hk : MKp K u) : xC mX10_keep [.ref 172] (xmm u) (fun r μ' => ∃ u', μ' = xmm u' ∧ r = some (.int (aKeep W K).1) ∧ MKp (aKeep W K).2 u' ∧ frKp u u') := by
  obtain ⟨m1, m2, m3⟩ := h
  unfold aKeep
  cases hr : wR W with
  | none =>
    rw [hr] at m2
    exact xC.of xpl10 (Nat.le_of_ble_eq_true rfl) (gX10_keep_n u m2 ⟨u, rfl, rfl, hk, fun _ _ _ => rfl, fun _ _ _ => rfl, rfl⟩)
  | some l =>
    rw [hr] at m2
    have l5 := (hW.1.2 l hr).1
    have hl := (m3 l hr).2.2.1
    refine xC.of xpl10 (Nat.le_of_ble_eq_true rfl) (gX10_keep_s u (wN W) l.length m2 m1 (fun _ => ?_) (fun z => absurd z (nIm1 (by omega))))
    have loop : ∀ d i (v : xU), 3006 - i = d → i ≤ 3006 → frKp u v → v.1 172 22 = nI (wN W) → v.1 172 23 = nI l.length → (∀ x, x < i → v.1 189 x = u.1 185 x) → xE mX10_keep 28 [(0, .ref 172), (1, .int (nI i))] [] (xmm v) (fun r μ' => ∃ u', μ' = xmm u' ∧ r = some (.int (nI l.length)) ∧ MKp (wN W, some l) u' ∧ frKp u u') := by
      intro d
      induction d with
      | zero =>
        intro i v hd hi fr g1 g2 g3
        refine gX10_keep_28 v i _ _ hi rfl g2 (fun _ => ⟨v, rfl, rfl, ⟨g1, g2, fun l' hl' => ?_⟩, fr⟩) (fun z => absurd (by omega) z)
        cases hl'
        intro m b hb x hx
        have hm := (List.getElem?_eq_some_iff.mp hb).1
        rw [g3 _ (by omega)]
        exact hl m b hb x hx
      | succ d ih =>
        intro i v hd hi fr g1 g2 g3
        have hil : i < 3006 := by omega
        refine gX10_keep_28 v i (u.1 185 i) _ hi (congrFun (fr.1 185 (by decide) (by decide)) i) rfl (fun z => absurd z (by omega)) (fun _ => ih (i + 1) _ (by omega) hil ⟨fun x h1 h2 => by rw [wi_row h2]; exact fr.1 x h1 h2, fun k h1 h2 => by rw [wi_ne (by decide)]; exact fr.2.1 k h1 h2, fr.2.2⟩ (by rw [wi_ne (by decide)]; exact g1) (by rw [wi_ne (by decide)]; exact g2) (fun x hx => ?_))
        by_cases e : x = i
        · subst e; exact wi_self
        · rw [wi_nek e]; exact g3 x (by omega)
    refine loop _ 0 _ rfl (Nat.zero_le _) ⟨fun x h1 _ => by rw [wi_row h1, wi_row h1], fun k h1 h2 => by rw [wi_nek h2, wi_nek h1], rfl⟩ (by rw [wi_nek (by decide), wi_self]) wi_self (fun x hx => absurd hx (Nat.not_lt_zero x))

