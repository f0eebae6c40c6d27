/-! what prepare finds -/
def frX (u u' : xU) : Prop := (∀ x, x < 74 ∨ 156 ≤ x → u'.1 x = u.1 x) ∧ (∀ x, x < 74 ∨ 156 ≤ x → u'.2.1 x = u.2.1 x) ∧ u'.2.2 = u.2.2
theorem frX.rf {u : xU} : frX u u := ⟨fun _ _ => rfl, fun _ _ => rfl, rfl⟩
theorem frX.tr {u v w : xU} (a : frX u v) (b : frX v w) : frX u w := ⟨fun x h1 => (b.1 x h1).trans (a.1 x h1), fun x h1 => (b.2.1 x h1).trans (a.2.1 x h1), b.2.2.trans a.2.2⟩
theorem frD.X {k : Nat} {u u' : xU} (hk : k < 6) (h : frD k u u') : frX u u' := ⟨fun x hx => h.1 x (by omega) (by omega), fun x _ => by rw [h.2.2], by rw [h.2.2]⟩
theorem frW.X {pr : Nat} {u u' : xU} (hk : pr < 30) (h : frW pr u u') : frX u u' := ⟨fun x hx => h.1 x (by omega), fun x hx => h.2.1 x (by omega), h.2.2⟩
theorem CT.X {T : TBL} {u u' : xU} (h : CT T u) (f : frX u u') : CT T u' := h.keep (fun x a b => f.1 x (by omega))
theorem CQ.X {T : TBL} {Q : QST} {u u' : xU} (hQ : QI T Q) (h : CQ T Q u) (f : frX u u') : CQ T Q u' := h.keep hQ.2.1 (fun x hx => f.1 x (by omega))
def PF (T : TBL) (Q : QST) (n : Nat) (u : xU) : Prop := ∀ p, p < n → qK Q p ≤ 1 → ∃ m, u.2.1 83 p = nL m ∧ BO (fitR T Q p) (rwN T Q p) m
def PD (T : TBL) (Q : QST) (Z : Nat → Nat) (D : Nat → Nat → Int32) (n : Nat) (u : xU) : Prop := ∀ k, k < n → DO (Z k) (D k) ∧ DSp k (Z k) (D k) u ∧ ∀ w, (∃ i, i < Z k ∧ D k i = w) ↔ Dm T Q k w
def PW (T : TBL) (Q : QST) (Z : Nat → Nat) (D : Nat → Nat → Int32) (n l : Nat) (u : xU) : Prop := ∀ p, qK Q p ≤ 1 → ∀ c, (p < n ∨ p = n ∧ c < l) → c < qL Q p → ∀ k, qM Q p c = some k → RW T Q p c (Z k) (D k) (p * 3 + c) u
/-- the parts without names hold -/
def nlH (T : TBL) (Q : QST) (n : Nat) : Prop := ∀ p, p < n → qK Q p ≤ 1 → msk (qM Q p) (qL Q p) = 0 → ((∃ r, r < rwN T Q p ∧ fitR T Q p r) ↔ qK Q p = 0)
theorem BO_nz {P : Nat → Prop} {n m : Nat} (h : BO P n m) : m = 0 ↔ ¬ ∃ i, i < n ∧ P i := by
  constructor
  · rintro rfl ⟨i, hi⟩
    have := (h.2 i).mpr hi
    simp at this
  · intro hn
    apply Nat.eq_of_testBit_eq
    intro i
    by_cases hb : m.testBit i = true
    · exact absurd ⟨i, (h.2 i).mp hb⟩ hn
    · simp only [Bool.not_eq_true] at hb
      rw [hb]
      simp
theorem fH_lt {T : TBL} {Q : QST} (h : aStands T Q = true) {k : Nat} (hk : k < qN Q) : fH Q k < qP Q := by
  obtain ⟨-, -, h3⟩ := aStands_iff.mp h
  obtain ⟨p, p1, p2, p3⟩ := h3 k hk
  exact (fstB_ex (f := fun p => decide (qK Q p = 0) && pHas Q p k) ⟨p, p1, by rw [Bool.and_eq_true, decide_eq_true_eq]; exact ⟨p2, p3⟩⟩).1
theorem BO_uniq {P : Nat → Prop} {n m m' : Nat} (h : BO P n m) (h' : BO P n m') : m = m' := by
  apply Nat.eq_of_testBit_eq
  intro i
  have e : m.testBit i = true ↔ m'.testBit i = true := (h.2 i).trans (h'.2 i).symm
  cases hm : m.testBit i <;> cases hm' : m'.testBit i <;> simp_all
theorem BO_ex (P : Nat → Prop) : ∀ n, ∃ m, BO P n m
  | 0 => ⟨0, BO_zero⟩
  | n + 1 => by
    obtain ⟨m, h⟩ := BO_ex P n
    by_cases hp : P n
    · exact ⟨_, BO_t h hp⟩
    · exact ⟨_, BO_f h hp⟩
noncomputable def boN (P : Nat → Prop) (n : Nat) : Nat := Classical.epsilon (BO P n)
theorem boN_spec (P : Nat → Prop) (n : Nat) : BO P n (boN P n) := Classical.epsilon_spec (p := BO P n) (BO_ex P n)
def PRE (T : TBL) (Q : QST) (Z : Nat → Nat) (D : Nat → Nat → Int32) (u : xU) : Prop := PF T Q (qP Q) u ∧ PD T Q Z D (qN Q) u ∧ PW T Q Z D (qP Q) 0 u
theorem qX7_prepare {u : xU} {T : TBL} {Q : QST} (hT : TI T) (hQ : QI T Q) (hC : CT T u) (h : CQ T Q u) (hst : aStands T Q = true) : xC mX7_prepare [.ref 74, .ref 2, .ref 3] (xmm u) (fun r μ' => ∃ u' Z D, μ' = xmm u' ∧ r = none ∧ PRE T Q Z D u' ∧ u'.1 146 0 = xb (bP (nlH T Q (qP Q)) = true) ∧ frX u u') := by
  have hn6 := hQ.1
  have hp10 := hQ.2.1
  refine xC.of xpl7 (Nat.le_of_ble_eq_true rfl) (gX7_prepare_0 u ?_)
  -- the rows with each value
  have third : ∀ d p v (b : Bool) Z D, qP Q - p = d → p ≤ qP Q → (b = true ↔ nlH T Q (qP Q)) → frX u v → PF T Q (qP Q) v → PD T Q Z D (qN Q) v → PW T Q Z D p 0 v → xE mX7_prepare 148 [(0, .ref 74), (1, .ref 2), (2, .ref 3), (3, .int (xb (b = true))), (4, .int (nI p))] [] (xmm v) (fun r μ' => ∃ u' Z D, μ' = xmm u' ∧ r = none ∧ PRE T Q Z D u' ∧ u'.1 146 0 = xb (bP (nlH T Q (qP Q)) = true) ∧ frX u u') := by
    intro d
    induction d with
    | zero =>
      intro p v b Z D hd hp hb f h1 h2 h3
      have hq := h.X hQ f
      have hpe : p = qP Q := by omega
      have fin : ∀ x, x = xb (bP (nlH T Q (qP Q)) = true) → ∃ u' Z D, xmm (wi v 146 0 x) = xmm u' ∧ (none : Option Value) = none ∧ PRE T Q Z D u' ∧ u'.1 146 0 = xb (bP (nlH T Q (qP Q)) = true) ∧ frX u u' := fun x hx => by
        refine ⟨_, Z, D, rfl, rfl, ⟨h1, fun k hk => ?_, fun p' hp' c hc hcl k hk => ?_⟩, ?_, f.tr ⟨fun x hx => wi_row (by omega), fun _ _ => rfl, rfl⟩⟩
        · obtain ⟨a1, ⟨a2, a3⟩, a4⟩ := h2 k hk
          exact ⟨a1, ⟨by rw [wi_ne (by decide)]; exact a2, fun i hi => by rw [wi_ne (by omega)]; exact a3 i hi⟩, a4⟩
        · obtain ⟨a1, a2⟩ := h3 p' hp' c (by rw [hpe]; exact hc) hcl k hk
          refine ⟨a1, fun r hr => ?_⟩
          have hpp : p' < qP Q := by omega
          have := qL_3 hT hQ hpp
          rw [wi_ne (by omega)]
          exact a2 r hr
        · rw [wi_self]; exact hx
      refine gX7_prepare_148 v (qN Q) (qP Q) p b hn6 hp10 hp hq.1 hq.2.1 (fun _ z => fin _ ?_) (fun _ z => fin _ ?_) (fun z => by omega)
      · rw [xb_f (fun y => z (hb.mpr (bP_iff.mp y)))]; rfl
      · rw [xb_t (bP_iff.mpr (hb.mp z))]; rfl
    | succ d ih =>
      intro p v b Z D hd hp hb f h1 h2 h3
      have hq := h.X hQ f
      have hpl : p < qP Q := by omega
      refine gX7_prepare_148 v (qN Q) (qP Q) p b hn6 hp10 hp hq.1 hq.2.1 (fun z => by omega) (fun z => by omega) (fun _ => ?_)
      have hl3 := qL_3 hT hQ hpl
      have hk3 := (hQ.2.2.2.2.1 p hpl).1
      have cols : ∀ e c v', qL Q p - c = e → c ≤ qL Q p → frX u v' → PF T Q (qP Q) v' → PD T Q Z D (qN Q) v' → PW T Q Z D p c v' → xE mX7_prepare 169 [(0, .ref 74), (1, .ref 2), (2, .ref 3), (3, .int (xb (b = true))), (4, .int (nI p)), (5, .ref (6 + 4 * p)), (6, .int (nI c))] [] (xmm v') (fun r μ' => ∃ u' Z D, μ' = xmm u' ∧ r = none ∧ PRE T Q Z D u' ∧ u'.1 146 0 = xb (bP (nlH T Q (qP Q)) = true) ∧ frX u u') := by
        intro e
        induction e with
        | zero =>
          intro c v' he hc f' h1' h2' h3'
          have cp := (h.X hQ f').2.2.2.2 p hpl
          have nx : xE mX7_prepare 148 [(0, .ref 74), (1, .ref 2), (2, .ref 3), (3, .int (xb (b = true))), (4, .int (nI (p + 1)))] [] (xmm v') (fun r μ' => ∃ u' Z D, μ' = xmm u' ∧ r = none ∧ PRE T Q Z D u' ∧ u'.1 146 0 = xb (bP (nlH T Q (qP Q)) = true) ∧ frX u u') := ih (p + 1) v' b Z D (by omega) hpl hb f' h1' h2' (fun p' hp' c' hc' hcl' k hk => h3' p' hp' c' (by
            by_cases ep : p' = p
            · subst ep; exact Or.inr ⟨rfl, by omega⟩
            · exact Or.inl (by omega)) hcl' k hk)
          exact gX7_prepare_f v' p c (qK Q p) (qL Q p) b (by omega) hk3 hl3 (fun _ => by omega) cp.1 cp.2.2.1 (fun _ => nx) (fun _ _ => nx) (fun _ z => absurd (by omega) z) (fun _ z => absurd (by omega) z)
        | succ e ihe =>
          intro c v' he hc f' h1' h2' h3'
          have hcl : c < qL Q p := by omega
          have cp := (h.X hQ f').2.2.2.2 p hpl
          by_cases hk1 : qK Q p ≤ 1
          · obtain ⟨o1, o2, o3⟩ := (hQ.2.2.2.2.1 p hpl).2.1 hk1
            have n5 := cp.2.2.2.2.2.1 c hcl
            cases hm : qM Q p c with
            | none =>
              rw [hm] at n5
              exact gX7_prepare_n v' p c (qK Q p) (qL Q p) b (by omega) hk3 hl3 hcl cp.1 cp.2.2.1 n5 (fun z => absurd hk1 z) (fun _ z => by omega) (fun _ _ => ihe (c + 1) v' (by omega) hcl f' h1' h2' (fun p' hp' c' hc' hcl' k hk => h3' p' hp' c' (by
                rcases hc' with z | ⟨z1, z2⟩
                · exact Or.inl z
                · refine Or.inr ⟨z1, ?_⟩
                  by_cases ec : c' = c
                  · rw [z1, ec, hm] at hk; cases hk
                  · omega) hcl' k hk))
            | some k =>
              rw [hm] at n5
              have hkn := qM_lt hQ hpl hcl hm
              have tb := cp.2.1
              unfold qTb at tb
              rw [if_pos hk1] at tb
              obtain ⟨a1, a2, a3⟩ := h2' k hkn
              have hpi : xC mX7_pair [.int (nI p), .int (nI c)] (xmm v') (fun r μ' => r = some (.int (nI (p * 3 + c))) ∧ μ' = xmm v') := xC.of xpl7 (Nat.le_of_ble_eq_true rfl) (gX7_pair_0 v' p c (by omega) (by omega) ⟨rfl, rfl⟩)
              refine gX7_prepare_s v' p c (qK Q p) (qL Q p) k (qOf Q p) b (by omega) hk3 hl3 hcl (by omega) o1 hpi cp.1 cp.2.2.1 n5 tb (fun z => absurd hk1 z) (fun _ z => by omega) (fun _ _ z => absurd z (nIm1 (by omega))) (fun _ _ _ => ?_)
              refine (qX7_gatherRowsWith hT hQ (hC.X f') hpl hk1 hcl (by omega) (by omega) a1 a2).mono ?_
              rintro r μ' ⟨u2, rfl, rfl, rw2, fw⟩
              refine gX7_prepare_227 u2 p c b ?_
              refine ihe (c + 1) u2 (by omega) hcl (f'.tr (fw.X (by omega))) (fun p' hp' hk' => ?_) (fun j hj => ?_) (fun p' hp' c' hc' hcl' k' hk' => ?_)
              · rw [fw.2.1 83 (by omega)]
                exact h1' p' hp' hk'
              · obtain ⟨e1, e2, e3⟩ := h2' j hj
                exact ⟨e1, e2.W (by omega) fw, e3⟩
              · by_cases same : p' = p ∧ c' = c
                · obtain ⟨rfl, rfl⟩ := same
                  rw [hm] at hk'
                  cases hk'
                  exact rw2
                · have hpp : p' < qP Q := by omega
                  have := qL_3 hT hQ hpp
                  have := h3' p' hp' c' (by
                    rcases hc' with z | ⟨z1, z2⟩
                    · exact Or.inl z
                    · exact Or.inr ⟨z1, by omega⟩) hcl' k' hk'
                  unfold RW at this ⊢
                  rw [fw.1 (116 + (p' * 3 + c')) (by omega), fw.2.1 (85 + (p' * 3 + c')) (by omega)]
                  exact this
          · have nx : xE mX7_prepare 148 [(0, .ref 74), (1, .ref 2), (2, .ref 3), (3, .int (xb (b = true))), (4, .int (nI (p + 1)))] [] (xmm v') (fun r μ' => ∃ u' Z D, μ' = xmm u' ∧ r = none ∧ PRE T Q Z D u' ∧ u'.1 146 0 = xb (bP (nlH T Q (qP Q)) = true) ∧ frX u u') := ih (p + 1) v' b Z D (by omega) hpl hb f' h1' h2' (fun p' hp' c' hc' hcl' k hk => h3' p' hp' c' (by
              by_cases ep : p' = p
              · subst ep; exact absurd hp' hk1
              · exact Or.inl (by omega)) hcl' k hk)
            exact gX7_prepare_f v' p c (qK Q p) (qL Q p) b (by omega) hk3 hl3 (fun z => absurd z hk1) cp.1 cp.2.2.1 (fun _ => nx) (fun z => absurd z hk1) (fun z => absurd z hk1) (fun z => absurd z hk1)
      exact cols _ 0 v rfl (Nat.zero_le _) f h1 h2 h3
  -- the names' values
  have second : ∀ d k v (b : Bool) Z D, qN Q - k = d → k ≤ qN Q → (b = true ↔ nlH T Q (qP Q)) → frX u v → PF T Q (qP Q) v → PD T Q Z D k v → xE mX7_prepare 122 [(0, .ref 74), (1, .ref 2), (2, .ref 3), (3, .int (xb (b = true))), (4, .int (nI k))] [] (xmm v) (fun r μ' => ∃ u' Z D, μ' = xmm u' ∧ r = none ∧ PRE T Q Z D u' ∧ u'.1 146 0 = xb (bP (nlH T Q (qP Q)) = true) ∧ frX u u') := by
    intro d
    induction d with
    | zero =>
      intro k v b Z D hd hk hb f h1 h2
      have hq := h.X hQ f
      refine gX7_prepare_122 v (qN Q) (qP Q) k b hn6 hp10 hk hq.1 hq.2.1 (fun _ => ?_) (fun z => by omega)
      exact third _ 0 v b Z D rfl (Nat.zero_le _) hb f h1 (fun j hj => h2 j (by omega)) (fun p hp c hc => by omega)
    | succ d ih =>
      intro k v b Z D hd hk hb f h1 h2
      have hq := h.X hQ f
      have hkl : k < qN Q := by omega
      refine gX7_prepare_122 v (qN Q) (qP Q) k b hn6 hp10 hk hq.1 hq.2.1 (fun z => by omega) (fun _ => ?_)
      refine (qX7_gatherDomain hT hQ (hC.X f) hq (by omega) (fH_lt hst hkl)).mono ?_
      rintro r μ' ⟨u2, z, D', rfl, rfl, d1, d2, d3, fd⟩
      refine gX7_prepare_139 u2 k b ?_
      refine ih (k + 1) u2 b (setT Z k z) (setT D k D') (by omega) hkl hb (f.tr (fd.X (by omega))) (fun p hp hk1 => by rw [fd.2.2]; exact h1 p hp hk1) (fun j hj => ?_)
      by_cases e : j = k
      · subst e
        rw [setT_at, setT_at]
        exact ⟨d1, d2, d3⟩
      · rw [setT_ne e, setT_ne e]
        obtain ⟨a1, ⟨a2, a3⟩, a4⟩ := h2 j (by omega)
        exact ⟨a1, ⟨by rw [fd.2.1 j e]; exact a2, fun i hi => by rw [fd.1 (77 + j) (by omega) (by omega)]; exact a3 i hi⟩, a4⟩
  -- the rows that fit
  have first : ∀ d p v (b : Bool), qP Q - p = d → p ≤ qP Q → (b = true ↔ nlH T Q p) → frX u v → PF T Q p v → xE mX7_prepare 5 [(0, .ref 74), (1, .ref 2), (2, .ref 3), (3, .int (xb (b = true))), (4, .int (nI p))] [] (xmm v) (fun r μ' => ∃ u' Z D, μ' = xmm u' ∧ r = none ∧ PRE T Q Z D u' ∧ u'.1 146 0 = xb (bP (nlH T Q (qP Q)) = true) ∧ frX u u') := by
    intro d
    induction d with
    | zero =>
      intro p v b hd hp hb f h1
      have hq := h.X hQ f
      have hpe : p = qP Q := by omega
      subst hpe
      exact gX7_prepare_e v (qN Q) (qP Q) (qP Q) b hn6 hp10 rfl hq.1 hq.2.1 (fun _ => second _ 0 v b (fun _ => 0) (fun _ _ => 0) rfl (Nat.zero_le _) hb f h1 (fun j hj => absurd hj (Nat.not_lt_zero j))) (fun z => by omega)
    | succ d ih =>
      intro p v b hd hp hb f h1
      have hq := h.X hQ f
      have hpl : p < qP Q := by omega
      have cp := hq.2.2.2.2 p hpl
      have q5 := hQ.2.2.2.2.1 p hpl
      have go : ∀ (b' : Bool) x, (b' = true ↔ nlH T Q (p + 1)) → (qK Q p ≤ 1 → ∃ m, x = nL m ∧ BO (fitR T Q p) (rwN T Q p) m) → xE mX7_prepare 5 [(0, .ref 74), (1, .ref 2), (2, .ref 3), (3, .int (xb (b' = true))), (4, .int (nI (p + 1)))] [] (xmm (wl v 83 p x)) (fun r μ' => ∃ u' Z D, μ' = xmm u' ∧ r = none ∧ PRE T Q Z D u' ∧ u'.1 146 0 = xb (bP (nlH T Q (qP Q)) = true) ∧ frX u u') := fun b' x hb' hx => by
        refine ih (p + 1) _ b' (by omega) hpl hb' (f.tr ⟨fun _ _ => rfl, fun y hy => wl_row (by omega), rfl⟩) (fun j hj hk => ?_)
        by_cases e : j = p
        · subst e
          rw [wl_self]
          exact hx hk
        · rw [wl_nek e]
          exact h1 j (by omega) hk
      have step : nlH T Q (p + 1) ↔ nlH T Q p ∧ (qK Q p ≤ 1 → msk (qM Q p) (qL Q p) = 0 → ((∃ r, r < rwN T Q p ∧ fitR T Q p r) ↔ qK Q p = 0)) := by
        constructor
        · intro z
          exact ⟨fun j hj => z j (by omega), z p (by omega)⟩
        · rintro ⟨z1, z2⟩ j hj
          by_cases e : j = p
          · subst e; exact z2
          · exact z1 j (by omega)
      by_cases hk1 : qK Q p ≤ 1
      · obtain ⟨o1, o2, o3⟩ := q5.2.1 hk1
        have tb := cp.2.1
        unfold qTb at tb
        rw [if_pos hk1] at tb
        have hb0 := boN_spec (fitR T Q p) (rwN T Q p)
        have hfr : xC mX7_fittingRows [.ref (156 + 2 * qOf Q p), .ref (6 + 4 * p)] (xmm v) (fun r μ' => r = some (.long (nL (boN (fitR T Q p) (rwN T Q p)))) ∧ μ' = xmm v) := (qX7_fittingRows hT hQ (hC.X f) hq hpl hk1).mono (fun r μ' z => by
          obtain ⟨m, m1, rfl, rfl⟩ := z
          rw [BO_uniq m1 hb0]
          exact ⟨rfl, rfl⟩)
        have h40 : 2 ^ rwN T Q p ≤ 2 ^ 40 := Nat.pow_le_pow_right (by decide) (hT _ o1).2.1
        have lt := hb0.1
        have z0 : lg_cmp (nL (boN (fitR T Q p) (rwN T Q p))) 0 = 0 ↔ ¬ ∃ r, r < rwN T Q p ∧ fitR T Q p r := by
          rw [lg_eq, show (0 : Int64) = nL 0 from rfl, nL_inj (by omega) (by decide)]
          exact BO_nz hb0
        have hx : qK Q p ≤ 1 → ∃ m, nL (boN (fitR T Q p) (rwN T Q p)) = nL m ∧ BO (fitR T Q p) (rwN T Q p) m := fun _ => ⟨_, rfl, hb0⟩
        refine gX7_prepare_5 v (qN Q) (qP Q) p (qK Q p) (msk (qM Q p) (qL Q p)) (qOf Q p) b _ hn6 hp10 hpl hk1 (msk_q hQ hpl) o1 hfr hq.1 hq.2.1 cp.1 cp.2.2.2.1 tb (fun z => by omega) (fun _ z => absurd hk1 z) (fun _ z => absurd hk1 z) (fun _ z => absurd hk1 z) (fun _ z => absurd hk1 z) (fun _ z => absurd hk1 z) (fun _ z => absurd hk1 z) (fun _ z => absurd hk1 z) (fun _ _ z => absurd hk1 z)
          (fun _ _ _ z => go b _ (by rw [step, hb]; exact ⟨fun y => ⟨y, fun _ x => absurd x z⟩, fun y => y.1⟩) hx)
          (fun _ _ _ z y => go false _ (by rw [step]; exact ⟨fun q => (by cases q), fun q => absurd (hb.mpr q.1) y⟩) hx)
          (fun _ _ _ z y x w => go true _ (by rw [step]; exact ⟨fun _ => ⟨hb.mp y, fun _ _ => ⟨fun q => absurd q (z0.mp x), fun q => absurd q w⟩⟩, fun _ => rfl⟩) hx)
          (fun _ _ _ z y x w => go false _ (by rw [step]; exact ⟨fun q => (by cases q), fun q => absurd ((q.2 hk1 z).mpr w) (z0.mp x)⟩) hx)
          (fun _ _ _ z y x w => go false _ (by rw [step]; exact ⟨fun q => (by cases q), fun q => absurd ((q.2 hk1 z).mp (Classical.byContradiction fun e => x (z0.mpr e))) w⟩) hx)
          (fun _ _ _ z y x w => go true _ (by rw [step]; exact ⟨fun _ => ⟨hb.mp y, fun _ _ => ⟨fun _ => w, fun _ => Classical.byContradiction fun e => x (z0.mpr e)⟩⟩, fun _ => rfl⟩) hx)
      · exact gX7_prepare_c v (qN Q) (qP Q) p (qK Q p) b hn6 hp10 hpl q5.1 (by omega) hq.1 hq.2.1 cp.1 (fun z => by omega) (fun _ _ _ => go b 0 (by rw [step, hb]; exact ⟨fun z => ⟨z, fun y => absurd y hk1⟩, fun z => z.1⟩) (fun z => absurd z hk1)) (fun _ _ z => absurd z hk1) (fun _ _ z => absurd z hk1) (fun _ _ z => absurd z hk1) (fun _ _ z => absurd z hk1) (fun _ _ z => absurd z hk1) (fun _ _ z => absurd z hk1) (fun _ z => absurd z hk1)
  exact first _ 0 u true rfl (Nat.zero_le _) ⟨fun _ p hp => absurd hp (Nat.not_lt_zero p), fun _ => rfl⟩ frX.rf (fun p hp => absurd hp (Nat.not_lt_zero p))

