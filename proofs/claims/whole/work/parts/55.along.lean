/-- what meeting along an order leaves alone -/
def frH (u u' : xU) : Prop := (∀ x, x ≠ 146 → x ≠ 150 → x ≠ 151 → u'.1 x = u.1 x) ∧ u'.1 146 0 = u.1 146 0 ∧ (∀ x, x ≠ 148 → x ≠ 149 → x ≠ 152 → u'.2.1 x = u.2.1 x) ∧ u'.2.2 = u.2.2
theorem frH.rf {u : xU} : frH u u := ⟨fun _ _ _ _ => rfl, rfl, fun _ _ _ _ => rfl, rfl⟩
theorem frH.tr {u v w : xU} (a : frH u v) (b : frH v w) : frH u w := ⟨fun x h1 h2 h3 => (b.1 x h1 h2 h3).trans (a.1 x h1 h2 h3), b.2.1.trans a.2.1, fun x h1 h2 h3 => (b.2.2.1 x h1 h2 h3).trans (a.2.2.1 x h1 h2 h3), b.2.2.2.trans a.2.2.2⟩
theorem frG.H {i : Nat} {u v : xU} (h0 : i ≠ 0) (a : frG i u v) : frH u v := ⟨a.1, a.2.1 0 (Ne.symm h0), fun x h1 h2 h3 => a.2.2.1 x (by omega) h3, a.2.2.2⟩
theorem frH.X {u u' : xU} (h : frH u u') : frX u u' := ⟨fun x hx => h.1 x (by omega) (by omega) (by omega), fun x hx => h.2.2.1 x (by omega) (by omega) (by omega), h.2.2.2⟩
theorem PRE.H {T : TBL} {Q : QST} (hT : TI T) (hQ : QI T Q) {Z : Nat → Nat} {D : Nat → Nat → Int32} {u u' : xU} (h : PRE T Q Z D u) (f : frH u u') : PRE T Q Z D u' := h.keep hT hQ (fun x hx => f.1 x (by omega) (by omega) (by omega)) (fun x hx => f.2.2.1 x (by omega) (by omega) (by omega))
def maP (T : TBL) (Q : QST) (Z : Nat → Nat) (D : Nat → Nat → Int32) (o : Nat → Nat) (h : Nat) (u : xU) : Option Value → xM → Prop := fun r μ' => ∃ u', μ' = xmm u' ∧ frH u u' ∧ ((r = some (.int (-2)) ∧ ∃ i, 1 ≤ i ∧ i ≤ h ∧ cntS T Q (psO o i) = none) ∨ ∃ l : List (Nat → Int32), r = some (.int (nI l.length)) ∧ l.Nodup ∧ (∀ a, a ∈ l ↔ MEM T Q (psO o h) a) ∧ l.length ≤ 500 ∧ SLT Q Z D (psO o h) (h % 2) l u' ∧ ∀ i, i ≤ h → ∃ c, c ≤ 500 ∧ cntS T Q (psO o i) = some c ∧ u'.1 146 i = nI c)

theorem qX7_meetAlong {u : xU} {T : TBL} {Q : QST} (hT : TI T) (hQ : QI T Q) (hC : CT T u) (h : CQ T Q u) (hst : aStands T Q = true) {Z : Nat → Nat} {D : Nat → Nat → Int32} (hpre : PRE T Q Z D u) {o : Nat → Nat} {n : Nat} (hn : n ≤ 6) (ho : ∀ i, i < n → o i < qN Q) (hoi : ∀ i j, i < n → j < n → o i = o j → i = j) (htr : ∀ i, i < n → u.1 5 i = nI (o i)) (h0 : u.1 146 0 = xb (bP (nlH T Q (qP Q)) = true)) : xC mX7_meetAlong [.ref 74, .ref 3, .ref 5, .int (nI n)] (xmm u) (maP T Q Z D o n u) := by
  have hn6 := hQ.1
  refine xC.of xpl7 (Nat.le_of_ble_eq_true rfl) (gX7_meetAlong_0 u n hn ?_)
  have loop : ∀ d i (v : xU) (l : List (Nat → Int32)), n - i = d → i ≤ n → frH u v → l.Nodup → (∀ a, a ∈ l ↔ MEM T Q (psO o i) a) → l.length ≤ 500 → v.1 146 i = nI l.length → SLT Q Z D (psO o i) (i % 2) l v → (∀ j, j ≤ i → ∃ c, c ≤ 500 ∧ cntS T Q (psO o j) = some c ∧ v.1 146 j = nI c) → xE mX7_meetAlong 15 [(0, .ref 74), (1, .ref 3), (2, .ref 5), (3, .int (nI n)), (4, .int (nI (psO o i))), (5, .int (nI i))] [] (xmm v) (maP T Q Z D o n u) := by
    intro d
    induction d with
    | zero =>
      intro i v l hd hi fr e1 e2 e3 e4 e5 e6
      have e : i = n := by omega
      subst e
      exact gX7_meetAlong_e v i (psO o i) i l.length hn rfl e4 (fun _ => ⟨v, rfl, fr, Or.inr ⟨l, rfl, e1, e2, e3, e5, e6⟩⟩) (fun z => absurd (Nat.le_refl _) z)
    | succ d ih =>
      intro i v l hd hi fr e1 e2 e3 e4 e5 e6
      have hil : i < n := by omega
      have hoi6 := ho i hil
      have hqv := h.keep hQ.2.1 (u' := v) (fun x hx => fr.1 x (by omega) (by omega) (by omega))
      have hcv : CT T v := hC.keep (fun x _ _ => fr.1 x (by omega) (by omega) (by omega))
      have hpv := hpre.H hT hQ fr
      have hS : psO o i < 64 := psO_lt (b := 6) (fun j hj => by have := ho j (by omega); omega)
      have hSk : ¬ (psO o i).testBit (o i) = true := fun z => by
        obtain ⟨j, j1, j2⟩ := psO_bit.mp z
        have := hoi j i (by omega) hil j2
        omega
      have tv : v.1 5 i = nI (o i) := by rw [fr.1 5 (by decide) (by decide) (by decide)]; exact htr i hil
      refine qX7_turn hT hQ hcv hqv hpv hS hoi6 hSk (fH_lt hst hoi6) hn hil tv e1 e2 e3 e4 e5 (fun w e fw n' m' l' c' s' => ?_) (fun w x fw bad1 bad2 bad3 => ⟨w, rfl, fr.tr (fw.H (by omega)), Or.inl ⟨rfl, i + 1, by omega, hil, cntS_of ⟨x, bad1, bad3, bad2⟩⟩⟩)
      refine ih (i + 1) w e (by omega) hil (fr.tr (fw.H (by omega))) n' m' l' c' s' (fun j hj => ?_)
      by_cases ej : j = i + 1
      · subst ej
        exact ⟨e.length, l', cntS_of ⟨l', e, n', m', rfl⟩, c'⟩
      · rw [fw.2.1 j ej]
        exact e6 j (by omega)
  have f0 : frH u (wl u (148 + 0) 0 0) := ⟨fun _ _ _ _ => rfl, rfl, fun x h1 _ _ => wl_row (by omega), rfl⟩
  by_cases hz : nlH T Q (qP Q)
  · have e1 : xb (bP (nlH T Q (qP Q)) = true) = nI 1 := xb_t (bP_iff.mpr hz)
    have hm : ∀ a : Nat → Int32, a ∈ [fun _ : Nat => (0 : Int32)] ↔ MEM T Q (psO o 0) a := fun a => by
      rw [List.mem_singleton]
      exact ⟨fun q => (MEM_zero hQ).mpr ⟨q, hz⟩, fun q => ((MEM_zero hQ).mp q).1⟩
    have nd : [fun _ : Nat => (0 : Int32)].Nodup := List.nodup_cons.mpr ⟨List.not_mem_nil, List.nodup_nil⟩
    refine loop _ 0 _ [fun _ => 0] rfl (Nat.zero_le _) f0 nd hm (by decide) (h0.trans e1) (fun j b hb => ?_) (fun j hj => ?_)
    · have hj : j = 0 := by
        have := (List.getElem?_eq_some_iff.mp hb).1
        simp only [List.length_cons, List.length_nil] at this
        omega
      subst hj
      refine ⟨0, wl_self, by decide, fun k hk => ?_, fun k hk _ => ?_⟩
      · simp [psO] at hk
      · unfold spN
        rw [Nat.zero_div]
    · have : j = 0 := by omega
      subst this
      exact ⟨1, by decide, cntS_of ⟨by decide, _, nd, hm, rfl⟩, h0.trans e1⟩
  · have e1 : xb (bP (nlH T Q (qP Q)) = true) = nI 0 := xb_f (fun q => hz (bP_iff.mp q))
    have hm : ∀ a : Nat → Int32, a ∈ ([] : List (Nat → Int32)) ↔ MEM T Q (psO o 0) a := fun a => ⟨fun q => (by cases q), fun q => absurd ((MEM_zero hQ).mp q).2 hz⟩
    refine loop _ 0 _ [] rfl (Nat.zero_le _) f0 List.nodup_nil hm (by decide) (h0.trans e1) (fun j b hb => by simp at hb) (fun j hj => ?_)
    have : j = 0 := by omega
    subst this
    exact ⟨0, by decide, cntS_of ⟨by decide, _, List.nodup_nil, hm, rfl⟩, h0.trans e1⟩

theorem qX7_meetAlongb {u : xU} {T : TBL} {Q : QST} (hT : TI T) (hQ : QI T Q) (hC : CT T u) (h : CQ T Q u) (hst : aStands T Q = true) {Z : Nat → Nat} {D : Nat → Nat → Int32} (hpre : PRE T Q Z D u) {o : Nat → Nat} {n : Nat} (hn : n ≤ 4) (ho : ∀ i, i < n → o i < qN Q) (hoi : ∀ i j, i < n → j < n → o i = o j → i = j) (htr : ∀ i, i < n → u.1 155 i = nI (o i)) (h0 : u.1 146 0 = xb (bP (nlH T Q (qP Q)) = true)) : xC mX7_meetAlong [.ref 74, .ref 3, .ref 155, .int (nI n)] (xmm u) (maP T Q Z D o n u) := by
  have hn6 := hQ.1
  refine xC.of xpl7 (Nat.le_of_ble_eq_true rfl) (gX7_meetAlongb_0 u n hn ?_)
  have loop : ∀ d i (v : xU) (l : List (Nat → Int32)), n - i = d → i ≤ n → frH u v → l.Nodup → (∀ a, a ∈ l ↔ MEM T Q (psO o i) a) → l.length ≤ 500 → v.1 146 i = nI l.length → SLT Q Z D (psO o i) (i % 2) l v → (∀ j, j ≤ i → ∃ c, c ≤ 500 ∧ cntS T Q (psO o j) = some c ∧ v.1 146 j = nI c) → xE mX7_meetAlong 15 [(0, .ref 74), (1, .ref 3), (2, .ref 155), (3, .int (nI n)), (4, .int (nI (psO o i))), (5, .int (nI i))] [] (xmm v) (maP T Q Z D o n u) := by
    intro d
    induction d with
    | zero =>
      intro i v l hd hi fr e1 e2 e3 e4 e5 e6
      have e : i = n := by omega
      subst e
      exact gX7_meetAlongb_e v i (psO o i) i l.length hn rfl e4 (fun _ => ⟨v, rfl, fr, Or.inr ⟨l, rfl, e1, e2, e3, e5, e6⟩⟩) (fun z => absurd (Nat.le_refl _) z)
    | succ d ih =>
      intro i v l hd hi fr e1 e2 e3 e4 e5 e6
      have hil : i < n := by omega
      have hoi6 := ho i hil
      have hqv := h.keep hQ.2.1 (u' := v) (fun x hx => fr.1 x (by omega) (by omega) (by omega))
      have hcv : CT T v := hC.keep (fun x _ _ => fr.1 x (by omega) (by omega) (by omega))
      have hpv := hpre.H hT hQ fr
      have hS : psO o i < 64 := psO_lt (b := 6) (fun j hj => by have := ho j (by omega); omega)
      have hSk : ¬ (psO o i).testBit (o i) = true := fun z => by
        obtain ⟨j, j1, j2⟩ := psO_bit.mp z
        have := hoi j i (by omega) hil j2
        omega
      have tv : v.1 155 i = nI (o i) := by rw [fr.1 155 (by decide) (by decide) (by decide)]; exact htr i hil
      refine qX7_turnb hT hQ hcv hqv hpv hS hoi6 hSk (fH_lt hst hoi6) hn hil tv e1 e2 e3 e4 e5 (fun w e fw n' m' l' c' s' => ?_) (fun w x fw bad1 bad2 bad3 => ⟨w, rfl, fr.tr (fw.H (by omega)), Or.inl ⟨rfl, i + 1, by omega, hil, cntS_of ⟨x, bad1, bad3, bad2⟩⟩⟩)
      refine ih (i + 1) w e (by omega) hil (fr.tr (fw.H (by omega))) n' m' l' c' s' (fun j hj => ?_)
      by_cases ej : j = i + 1
      · subst ej
        exact ⟨e.length, l', cntS_of ⟨l', e, n', m', rfl⟩, c'⟩
      · rw [fw.2.1 j ej]
        exact e6 j (by omega)
  have f0 : frH u (wl u (148 + 0) 0 0) := ⟨fun _ _ _ _ => rfl, rfl, fun x h1 _ _ => wl_row (by omega), rfl⟩
  by_cases hz : nlH T Q (qP Q)
  · have e1 : xb (bP (nlH T Q (qP Q)) = true) = nI 1 := xb_t (bP_iff.mpr hz)
    have hm : ∀ a : Nat → Int32, a ∈ [fun _ : Nat => (0 : Int32)] ↔ MEM T Q (psO o 0) a := fun a => by
      rw [List.mem_singleton]
      exact ⟨fun q => (MEM_zero hQ).mpr ⟨q, hz⟩, fun q => ((MEM_zero hQ).mp q).1⟩
    have nd : [fun _ : Nat => (0 : Int32)].Nodup := List.nodup_cons.mpr ⟨List.not_mem_nil, List.nodup_nil⟩
    refine loop _ 0 _ [fun _ => 0] rfl (Nat.zero_le _) f0 nd hm (by decide) (h0.trans e1) (fun j b hb => ?_) (fun j hj => ?_)
    · have hj : j = 0 := by
        have := (List.getElem?_eq_some_iff.mp hb).1
        simp only [List.length_cons, List.length_nil] at this
        omega
      subst hj
      refine ⟨0, wl_self, by decide, fun k hk => ?_, fun k hk _ => ?_⟩
      · simp [psO] at hk
      · unfold spN
        rw [Nat.zero_div]
    · have : j = 0 := by omega
      subst this
      exact ⟨1, by decide, cntS_of ⟨by decide, _, nd, hm, rfl⟩, h0.trans e1⟩
  · have e1 : xb (bP (nlH T Q (qP Q)) = true) = nI 0 := xb_f (fun q => hz (bP_iff.mp q))
    have hm : ∀ a : Nat → Int32, a ∈ ([] : List (Nat → Int32)) ↔ MEM T Q (psO o 0) a := fun a => ⟨fun q => (by cases q), fun q => absurd ((MEM_zero hQ).mp q).2 hz⟩
    refine loop _ 0 _ [] rfl (Nat.zero_le _) f0 List.nodup_nil hm (by decide) (h0.trans e1) (fun j b hb => by simp at hb) (fun j hj => ?_)
    have : j = 0 := by omega
    subst this
    exact ⟨0, by decide, cntS_of ⟨by decide, _, List.nodup_nil, hm, rfl⟩, h0.trans e1⟩

