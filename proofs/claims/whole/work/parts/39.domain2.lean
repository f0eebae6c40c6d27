theorem gX7_gatherDomain_86 (u : xU) (p k t i : Nat) {Q : Option Value → xM → Prop}  
    (k1 : xE mX7_gatherDomain 57 [(0, .ref 74), (3, .int (nI (k))), (5, .ref (6 + 4 * p)), (6, .ref (156 + 2 * t)), (7, .int (nI (i + 1)))] [] (xmm u) Q) : xE mX7_gatherDomain 86 [(0, .ref 74), (3, .int (nI (k))), (5, .ref (6 + 4 * p)), (6, .ref (156 + 2 * t)), (7, .int (nI (i)))] [] (xmm u) Q := by
  refine xn_iinc (c := 1) (L2 := [(0, .ref 74), (3, .int (nI (k))), (5, .ref (6 + 4 * p)), (6, .ref (156 + 2 * t)), (7, .int (nI (i + 1)))]) 4 dX7_gatherDomain_86 rfl (by decide) rfl ?_
  refine xe_goto 57 dX7_gatherDomain_89 (by decide) ?_
  exact k1

/-! a name's values in their order -/
def DSp (k z : Nat) (D : Nat → Int32) (u : xU) : Prop := u.1 75 k = nI z ∧ ∀ i, i < z → u.1 (77 + k) i = D i
def DO (z : Nat) (D : Nat → Int32) : Prop := z ≤ 40 ∧ ∀ i j, i < j → j < z → ky (D i) < ky (D j)
def sptF (D : Nat → Int32) (z : Nat) (v : Int32) : Nat := fstB (fun i => decide (¬ ky (D i) < ky v)) z
theorem fstB_le {f : Nat → Bool} : ∀ {n : Nat}, fstB f n ≤ n
  | 0 => Nat.le_refl 0
  | n + 1 => by
    have := fstB_le (f := f) (n := n)
    unfold fstB
    split <;> omega
theorem sptF_eq {D : Nat → Int32} {z j : Nat} {v : Int32} (hj : j ≤ z) (h1 : ∀ i, i < j → ky (D i) < ky v) (h2 : ∀ i, j ≤ i → i < z → ¬ ky (D i) < ky v) : sptF D z v = j := by
  have a : ∀ i, i < j → ¬ (decide (¬ ky (D i) < ky v)) = true := fun i hi q => of_decide_eq_true q (h1 i hi)
  by_cases e : j = z
  · subst e
    exact fstB_none a
  · exact fstB_eq (decide_eq_true (h2 j (Nat.le_refl _) (by omega))) a (by omega)
theorem sptF_lo {D : Nat → Int32} {z : Nat} {v : Int32} : ∀ i, i < sptF D z v → ky (D i) < ky v := fun i hi => by
  by_cases he : ∃ i, i < z ∧ (decide (¬ ky (D i) < ky v)) = true
  · have := (fstB_ex he).2.2 i hi
    exact Classical.byContradiction fun q => this (decide_eq_true q)
  · have hz := fstB_le (f := fun i => decide (¬ ky (D i) < ky v)) (n := z)
    exact Classical.byContradiction fun q => he ⟨i, Nat.lt_of_lt_of_le hi hz, decide_eq_true q⟩
theorem sptF_hi {D : Nat → Int32} {z : Nat} {v : Int32} (hD : DO z D) : ∀ i, sptF D z v ≤ i → i < z → ¬ ky (D i) < ky v := fun i hi hz => by
  have he : sptF D z v < z := by omega
  have hex : ∃ i, i < z ∧ (decide (¬ ky (D i) < ky v)) = true := Classical.byContradiction fun q => by
    have e : sptF D z v = z := fstB_none (fun i hi z => q ⟨i, hi, z⟩)
    omega
  have h1 := of_decide_eq_true (fstB_ex hex).2.1
  by_cases e : i = sptF D z v
  · rw [e]; exact h1
  · have := hD.2 (sptF D z v) i (by omega) hz
    have h1' : ¬ ky (D (sptF D z v)) < ky v := h1
    omega
theorem sptF_hit {D : Nat → Int32} {z i : Nat} (hD : DO z D) (hi : i < z) : sptF D z (D i) = i := sptF_eq (by omega) (fun j hj => hD.2 j i hj hi) (fun j hj hz => by
  by_cases e : j = i
  · subst e; omega
  · have := hD.2 i j (by omega) hz
    omega)
theorem qX7_spotFor {u : xU} {k z : Nat} {D : Nat → Int32} (hk : k < 6) (hD : DO z D) (h : DSp k z D u) (v : Int32) : xC mX7_spotFor [.ref 74, .int (nI k), .int v] (xmm u) (fun r μ' => r = some (.int (nI (sptF D z v))) ∧ μ' = xmm u) := by
  refine xC.of xpl7 (Nat.le_of_ble_eq_true rfl) (gX7_spotFor_0 u k z v hk hD.1 h.1 ?_)
  have loop : ∀ d lo hi, hi - lo ≤ d → lo ≤ hi → hi ≤ z → (∀ i, i < lo → ky (D i) < ky v) → (∀ i, hi ≤ i → i < z → ¬ ky (D i) < ky v) → xE mX7_spotFor 10 [(0, .ref 74), (1, .int (nI k)), (2, .int v), (3, .int (nI lo)), (4, .int (nI hi))] [] (xmm u) (fun r μ' => r = some (.int (nI (sptF D z v))) ∧ μ' = xmm u) := by
    intro d
    induction d with
    | zero =>
      intro lo hi hd hl hh h1 h2
      have hz := hD.1
      refine gX7_spotFor_10 u k lo hi v _ hk (by omega) hl rfl (fun _ => ⟨?_, rfl⟩) (fun q => absurd (by omega) q) (fun q => absurd (by omega) q)
      rw [sptF_eq (j := lo) (by omega) h1 (fun i a b => h2 i (by omega) b)]
    | succ d ih =>
      intro lo hi hd hl hh h1 h2
      have hz := hD.1
      by_cases hlt : lo < hi
      · refine gX7_spotFor_10 u k lo hi v (D ((lo + hi) / 2)) hk (by omega) hl (h.2 _ (by omega)) (fun q => absurd hlt (by omega)) (fun _ q => ?_) (fun _ q => ?_)
        · refine ih lo ((lo + hi) / 2) (by omega) (by omega) (by omega) h1 (fun i a b => ?_)
          by_cases e : i = (lo + hi) / 2
          · rw [e]; exact q
          · have := hD.2 ((lo + hi) / 2) i (by omega) b
            omega
        · refine ih ((lo + hi) / 2 + 1) hi (by omega) (by omega) hh (fun i a => ?_) h2
          by_cases e : i = (lo + hi) / 2
          · rw [e]; exact q
          · have := hD.2 i ((lo + hi) / 2) (by omega) (by omega)
            omega
      · refine gX7_spotFor_10 u k lo hi v _ hk (by omega) hl rfl (fun _ => ⟨?_, rfl⟩) (fun q => absurd (by omega) q) (fun q => absurd (by omega) q)
        rw [sptF_eq (j := lo) (by omega) h1 (fun i a b => h2 i (by omega) b)]
  exact loop z 0 z (by omega) (by omega) (by omega) (fun i hi => absurd hi (Nat.not_lt_zero i)) (fun i a b => by omega)
def frD (k : Nat) (u u' : xU) : Prop := (∀ x, x ≠ 75 → x ≠ 77 + k → u'.1 x = u.1 x) ∧ (∀ j, j ≠ k → u'.1 75 j = u.1 75 j) ∧ u'.2 = u.2
theorem frD.rf {k : Nat} {u : xU} : frD k u u := ⟨fun _ _ _ => rfl, fun _ _ => rfl, rfl⟩
theorem frD.tr {k : Nat} {u v w : xU} (a : frD k u v) (b : frD k v w) : frD k u w := ⟨fun x h1 h2 => (b.1 x h1 h2).trans (a.1 x h1 h2), fun j hj => (b.2.1 j hj).trans (a.2.1 j hj), b.2.2.trans a.2.2⟩
def insN (D : Nat → Int32) (j : Nat) (v : Int32) : Nat → Int32 := fun i => if i < j then D i else if i = j then v else D (i - 1)
theorem insN_DO {D : Nat → Int32} {z : Nat} {v : Int32} (hD : DO z D) (hz : z < 40) (hn : ∀ i, i < z → D i ≠ v) : DO (z + 1) (insN D (sptF D z v) v) := by
  have hle : sptF D z v ≤ z := fstB_le
  refine ⟨by omega, fun i j hij hj => ?_⟩
  have lo := sptF_lo (D := D) (z := z) (v := v)
  have hi := sptF_hi (v := v) hD
  generalize sptF D z v = s at *
  have up : ∀ i, s ≤ i → i < z → ky v < ky (D i) := fun i a b => by
    have h1 := hi i a b
    have h2 : ky (D i) ≠ ky v := fun e => hn i b (ky_inj e)
    omega
  unfold insN
  by_cases a1 : i < s
  · rw [if_pos a1]
    by_cases b1 : j < s
    · rw [if_pos b1]; exact hD.2 i j hij (by omega)
    · rw [if_neg b1]
      by_cases b2 : j = s
      · rw [if_pos b2]; exact lo i a1
      · rw [if_neg b2]
        have := up (j - 1) (by omega) (by omega)
        have := lo i a1
        omega
  · rw [if_neg a1, if_neg (show ¬ j < s by omega), if_neg (show ¬ j = s by omega)]
    by_cases a2 : i = s
    · rw [if_pos a2]; exact up (j - 1) (by omega) (by omega)
    · rw [if_neg a2]; exact hD.2 (i - 1) (j - 1) (by omega) (by omega)
theorem insN_mem {D : Nat → Int32} {z s : Nat} {v : Int32} (hs : s ≤ z) (w : Int32) : (∃ i, i < z + 1 ∧ insN D s v i = w) ↔ (∃ i, i < z ∧ D i = w) ∨ w = v := by
  constructor
  · rintro ⟨i, hi, he⟩
    unfold insN at he
    by_cases a : i < s
    · rw [if_pos a] at he; exact Or.inl ⟨i, by omega, he⟩
    · rw [if_neg a] at he
      by_cases b : i = s
      · rw [if_pos b] at he; exact Or.inr he.symm
      · rw [if_neg b] at he; exact Or.inl ⟨i - 1, by omega, he⟩
  · rintro (⟨i, hi, he⟩ | rfl)
    · by_cases a : i < s
      · exact ⟨i, by omega, by unfold insN; rw [if_pos a]; exact he⟩
      · exact ⟨i + 1, by omega, by unfold insN; rw [if_neg (by omega), if_neg (by omega)]; exact he⟩
    · exact ⟨s, by omega, by unfold insN; rw [if_neg (by omega), if_pos rfl]⟩
theorem qX7_addToDomain {u : xU} {k z : Nat} {D : Nat → Int32} (hk : k < 6) (hz : z < 40) (hD : DO z D) (h : DSp k z D u) (v : Int32) : xC mX7_addToDomain [.ref 74, .int (nI k), .int v] (xmm u) (fun r μ' => ∃ u' z' D', μ' = xmm u' ∧ r = none ∧ z' ≤ z + 1 ∧ DO z' D' ∧ DSp k z' D' u' ∧ (∀ w, (∃ i, i < z' ∧ D' i = w) ↔ (∃ i, i < z ∧ D i = w) ∨ w = v) ∧ frD k u u') := by
  have hle : sptF D z v ≤ z := fstB_le
  have put : (∀ i, i < z → D i ≠ v) → ∃ u' z' D', xmm (wi (wi (wci u (77 + k) (77 + k) (sptF D z v) (sptF D z v + 1) (z - sptF D z v)) (77 + k) (sptF D z v) v) 75 k (nI (z + 1))) = xmm u' ∧ (none : Option Value) = none ∧ z' ≤ z + 1 ∧ DO z' D' ∧ DSp k z' D' u' ∧ (∀ w, (∃ i, i < z' ∧ D' i = w) ↔ (∃ i, i < z ∧ D i = w) ∨ w = v) ∧ frD k u u' := fun hn => by
    refine ⟨_, z + 1, insN D (sptF D z v) v, rfl, rfl, Nat.le_refl _, insN_DO hD hz hn, ⟨wi_self, fun i hi => ?_⟩, insN_mem hle, ⟨fun x x1 x2 => by rw [wi_row x1, wi_row x2, wci_row x2], fun j hj => by rw [wi_nek hj, wi_ne (by omega), wci_ne (by omega)], rfl⟩⟩
    rw [wi_ne (by omega)]
    unfold insN
    by_cases a : i < sptF D z v
    · rw [if_pos a, wi_nek (by omega), wci_app, if_neg (by omega)]
      exact h.2 i (by omega)
    · rw [if_neg a]
      by_cases b : i = sptF D z v
      · rw [if_pos b, b, wi_self]
      · rw [if_neg b, wi_nek b, wci_app, if_pos ⟨rfl, by omega, by omega⟩, show sptF D z v + (i - (sptF D z v + 1)) = i - 1 by omega]
        exact h.2 _ (by omega)
  have hi := sptF_hi (v := v) hD
  have lo := sptF_lo (D := D) (z := z) (v := v)
  by_cases hs : sptF D z v < z
  · refine xC.of xpl7 (Nat.le_of_ble_eq_true rfl) (gX7_addToDomain_0 u k z (sptF D z v) v _ hk hz hle (qX7_spotFor hk hD h v) h.1 (h.2 _ hs) (fun q => by omega) (fun _ q => by omega) (fun _ _ q => put (fun i hiz e => ?_)) (fun _ _ q => ⟨u, z, D, rfl, rfl, by omega, hD, h, fun w => ⟨Or.inl, fun y => y.elim id (fun e => ⟨_, hs, by rw [q, e]⟩)⟩, frD.rf⟩))
    have h1 := hi _ (Nat.le_refl _) hs
    rcases Nat.lt_trichotomy i (sptF D z v) with y | y | y
    · have := lo i y
      rw [e] at this
      omega
    · rw [y] at e; exact q e
    · have := hD.2 _ i y hiz
      rw [e] at this
      exact h1 this
  · refine xC.of xpl7 (Nat.le_of_ble_eq_true rfl) (gX7_addToDomain_0 u k z (sptF D z v) v _ hk hz hle (qX7_spotFor hk hD h v) h.1 rfl (fun q => by omega) (fun _ q => put (fun i hiz e => ?_)) (fun _ q => absurd (by omega) q) (fun _ q => absurd (by omega) q))
    have := lo i (by omega)
    rw [e] at this
    omega
theorem CT.D {T : TBL} {k : Nat} {u u' : xU} (hk : k < 6) (h : CT T u) (f : frD k u u') : CT T u' := h.keep (fun x a b => f.1 x (by omega) (by omega))
theorem CQ.D {T : TBL} {Q : QST} {k : Nat} {u u' : xU} (hk : k < 6) (hQ : QI T Q) (h : CQ T Q u) (f : frD k u u') : CQ T Q u' := h.keep hQ.2.1 (fun x hx => f.1 x (by omega) (by omega))
theorem fC_lt {Q : QST} {p k : Nat} (h : pHas Q p k = true) : fC Q p k < qL Q p ∧ qM Q p (fC Q p k) = some k := pOf_spec (pHas_msk.mp h)
theorem qX7_gatherDomain {u : xU} {T : TBL} {Q : QST} (hT : TI T) (hQ : QI T Q) (hC : CT T u) (h : CQ T Q u) {k : Nat} (hk : k < 6) (hh : fH Q k < qP Q) : xC mX7_gatherDomain [.ref 74, .ref 2, .ref 3, .int (nI k)] (xmm u) (fun r μ' => ∃ u' z D, μ' = xmm u' ∧ r = none ∧ DO z D ∧ DSp k z D u' ∧ (∀ w, (∃ i, i < z ∧ D i = w) ↔ Dm T Q k w) ∧ frD k u u') := by
  have hp10 := hQ.2.1
  have hex : ∃ p, p < qP Q ∧ (decide (qK Q p = 0) && pHas Q p k) = true := Classical.byContradiction fun q => by
    have : fH Q k = qP Q := fstB_none (fun i hi z => q ⟨i, hi, z⟩)
    omega
  obtain ⟨-, f2, f3⟩ := fstB_ex hex
  have f2' : qK Q (fH Q k) = 0 ∧ pHas Q (fH Q k) k = true := by
    rw [Bool.and_eq_true, decide_eq_true_eq] at f2
    exact f2
  have f3' : ∀ i, i < fH Q k → ¬ (qK Q i = 0 ∧ pHas Q i k = true) := fun i hi z => f3 i hi (by rw [Bool.and_eq_true, decide_eq_true_eq]; exact z)
  refine xC.of xpl7 (Nat.le_of_ble_eq_true rfl) (gX7_gatherDomain_0 u k hk ?_)
  have f0 : frD k u (wi u 75 k (nI 0)) := ⟨fun x x1 _ => wi_row x1, fun j hj => wi_nek hj, rfl⟩
  -- the rows of the first HAS
  obtain ⟨o1, o2, o3⟩ := (hQ.2.2.2.2.1 _ hh).2.1 (by omega)
  obtain ⟨i1, i2, -⟩ := hT _ o1
  obtain ⟨c1, c2⟩ := fC_lt f2'.2
  have rows : ∀ d i v z D, rwN T Q (fH Q k) - i = d → i ≤ rwN T Q (fH Q k) → frD k u v → z ≤ i → DO z D → DSp k z D v → (∀ w, (∃ j, j < z ∧ D j = w) ↔ ∃ r, r < i ∧ cel T Q (fH Q k) r (fC Q (fH Q k) k) = w) → xE mX7_gatherDomain 57 [(0, .ref 74), (3, .int (nI k)), (5, .ref (6 + 4 * fH Q k)), (6, .ref (156 + 2 * qOf Q (fH Q k))), (7, .int (nI i))] [] (xmm v) (fun r μ' => ∃ u' z D, μ' = xmm u' ∧ r = none ∧ DO z D ∧ DSp k z D u' ∧ (∀ w, (∃ i, i < z ∧ D i = w) ↔ Dm T Q k w) ∧ frD k u u') := by
    intro d
    induction d with
    | zero =>
      intro i v z D hd hi f hz hD hs hm
      obtain ⟨g1, g2, g3⟩ := hC.D hk f _ o1
      have hie : i = rwN T Q (fH Q k) := by omega
      refine gX7_gatherDomain_e v (fH Q k) k (qOf Q (fH Q k)) i (T.2.1 (qOf Q (fH Q k))) (by omega) hk o1 i2 hie g2 (fun _ => ⟨v, z, D, rfl, rfl, hD, hs, fun w => ?_, f⟩) (fun q => ?_)
      · rw [hm w, hie]
        rfl
      · exact absurd (Nat.le_of_eq hie.symm) q
    | succ d ih =>
      intro i v z D hd hi f hz hD hs hm
      have hil : i < T.2.1 (qOf Q (fH Q k)) := by
        have : i < rwN T Q (fH Q k) := by omega
        exact this
      obtain ⟨g1, g2, g3⟩ := hC.D hk f _ o1
      have cp := (h.D hk hQ f).2.2.2.2 _ hh
      have pv := cp.2.2.2.2.2.2.2 k (pHas_msk.mp f2'.2)
      refine gX7_gatherDomain_57 v (fH Q k) k (qOf Q (fH Q k)) i (T.2.1 (qOf Q (fH Q k))) (T.1 (qOf Q (fH Q k))) (fC Q (fH Q k) k) (cel T Q (fH Q k) i (fC Q (fH Q k) k)) (by omega) hk o1 i2 i1 (by omega) hil g1 g2 pv (g3 i _ hil (by omega)) (fun q => by omega) (fun _ => ?_)
      refine (qX7_addToDomain hk (by omega) hD hs _).mono ?_
      rintro r μ' ⟨u', z', D', rfl, rfl, hz', hD', hs', hm', f'⟩
      refine gX7_gatherDomain_86 u' _ _ _ _ ?_
      refine ih (i + 1) u' z' D' (by omega) (by omega) (f.tr f') (by omega) hD' hs' (fun w => ?_)
      rw [hm' w, hm w]
      constructor
      · rintro (⟨r, r1, r2⟩ | e)
        · exact ⟨r, by omega, r2⟩
        · exact ⟨i, by omega, e.symm⟩
      · rintro ⟨r, r1, r2⟩
        by_cases e : r = i
        · subst e; exact Or.inr r2.symm
        · exact Or.inl ⟨r, by omega, r2⟩
  have find : ∀ d p, fH Q k - p = d → p ≤ fH Q k → xE mX7_gatherDomain 10 [(0, .ref 74), (1, .ref 2), (2, .ref 3), (3, .int (nI k)), (4, .int (nI p))] [] (xmm (wi u 75 k (nI 0))) (fun r μ' => ∃ u' z D, μ' = xmm u' ∧ r = none ∧ DO z D ∧ DSp k z D u' ∧ (∀ w, (∃ i, i < z ∧ D i = w) ↔ Dm T Q k w) ∧ frD k u u') := by
    have h' := h.D hk hQ f0
    intro d
    induction d with
    | zero =>
      intro p hd hp
      have hpe : p = fH Q k := by omega
      subst hpe
      have cp := h'.2.2.2.2 _ hh
      have tb := cp.2.1
      unfold qTb at tb
      rw [if_pos (by omega)] at tb
      refine gX7_gatherDomain_10 _ (qP Q) (fH Q k) (qK Q (fH Q k)) (msk (qM Q (fH Q k)) (qL Q (fH Q k))) k (qOf Q (fH Q k)) hp10 hh hk (by omega) (msk_q hQ hh) o1 h'.2.1 cp.1 cp.2.2.2.1 tb (fun q => by omega) (fun _ q => absurd f2'.1 q) (fun _ _ q => absurd (pHas_msk.mp f2'.2) q) (fun _ _ _ => ?_)
      exact rows _ 0 _ 0 (fun _ => 0) rfl (Nat.zero_le _) f0 (Nat.le_refl _) ⟨by omega, fun i j _ hj => absurd hj (Nat.not_lt_zero j)⟩ ⟨wi_self, fun i hi => absurd hi (Nat.not_lt_zero i)⟩ (fun w => ⟨fun ⟨j, hj, _⟩ => absurd hj (Nat.not_lt_zero j), fun ⟨j, hj, _⟩ => absurd hj (Nat.not_lt_zero j)⟩)
    | succ d ih =>
      intro p hd hp
      have hpl : p < qP Q := by omega
      have cp := h'.2.2.2.2 _ hpl
      have nf := f3' p (by omega)
      exact gX7_gatherDomain_c _ (qP Q) p (qK Q p) (msk (qM Q p) (qL Q p)) k hp10 hpl hk (hQ.2.2.2.2.1 p hpl).1 (msk_q hQ hpl) h'.2.1 cp.1 cp.2.2.2.1 (fun q => by omega) (fun _ _ => ih (p + 1) (by omega) (by omega)) (fun _ _ _ => ih (p + 1) (by omega) (by omega)) (fun _ q1 q2 => nf ⟨q1, pHas_msk.mpr q2⟩)
  exact find _ 0 rfl (Nat.zero_le _)

