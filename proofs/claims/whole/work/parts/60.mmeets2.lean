/-- what the model's meeting leaves alone -/
def frN (u u' : xU) : Prop := (∀ x, x ≠ 172 → x ≠ 182 → x ≠ 183 → x ≠ 184 → x ≠ 190 → u'.1 x = u.1 x) ∧ (∀ k, k ≠ 13 → u'.1 172 k = u.1 172 k) ∧ u'.2 = u.2
theorem frN.rf {u : xU} : frN u u := ⟨fun _ _ _ _ _ _ => rfl, fun _ _ => rfl, rfl⟩
theorem frN.tr {u v w : xU} (a : frN u v) (b : frN v w) : frN u w := ⟨fun x h1 h2 h3 h4 h5 => (b.1 x h1 h2 h3 h4 h5).trans (a.1 x h1 h2 h3 h4 h5), fun k hk => (b.2.1 k hk).trans (a.2.1 k hk), b.2.2.trans a.2.2⟩
theorem frV.N {u v : xU} (a : frV u v) : frN u v := ⟨fun x _ _ h3 _ h5 => a.1 x h3 h5, fun k _ => by rw [a.1 172 (by decide) (by decide)], a.2⟩
theorem KQ.N {Q : QST} {u u' : xU} (h : KQ Q u) (f : frN u u') : KQ Q u' := h.keep (f.2.1 3 (by decide)) (f.2.1 4 (by decide)) (fun x a b => f.1 x (by omega) (by omega) (by omega) (by omega) (by omega))
theorem MT.N {T : TBL} {u u' : xU} (h : MT T u) (f : frN u u') : MT T u' := h.keep (f.1 173 (by decide) (by decide) (by decide) (by decide) (by decide)) (f.1 174 (by decide) (by decide) (by decide) (by decide) (by decide)) (f.1 175 (by decide) (by decide) (by decide) (by decide) (by decide))
def mmP (T : TBL) (Q : QST) (u : xU) : Option Value → xM → Prop := fun r μ' => ∃ u', μ' = xmm u' ∧ frN u u' ∧ ((r = some (.int (nI 0)) ∧ ∃ i, 1 ≤ i ∧ i ≤ qN Q ∧ cntS T Q (psO (qO Q) i) = none) ∨ (r = some (.int (nI 1)) ∧ ∃ l : List (Nat → Int32), l.Nodup ∧ (∀ a, a ∈ l ↔ MEM T Q (psO (qO Q) (qN Q)) a) ∧ l.length ≤ 500 ∧ RWL 182 l u' ∧ u'.1 172 13 = nI l.length ∧ ∀ i, i < qN Q → ∃ c, c ≤ 500 ∧ cntS T Q (psO (qO Q) (i + 1)) = some c ∧ u'.1 184 i = nI c))
theorem mm_copy {v : xU} {S i : Nat} {e : List (Nat → Int32)} (hi : i < 6) (he5 : e.length ≤ 500) (he : RWL 183 e v) {R : Option Value → xM → Prop}
    (k : ∀ w : xU, (∀ x, x ≠ 182 → w.1 x = v.1 x) → w.2 = v.2 → RWL 182 e w → xE mX10_meets 30 [(0, .ref 172), (1, .int (nI S)), (2, .int (nI (i + 1)))] [] (xmm (wi (wi w 172 13 (nI e.length)) 184 i (nI e.length))) R) :
    xE mX10_meets 246 [(0, .ref 172), (1, .int (nI S)), (2, .int (nI i)), (6, .int (nI e.length)), (7, .int (nI 0))] [] (xmm v) R := by
  have loop : ∀ d j (w : xU), 6 * e.length - j = d → j ≤ 6 * e.length → (∀ x, x ≠ 182 → w.1 x = v.1 x) → w.2 = v.2 → (∀ x, x < j → w.1 182 x = v.1 183 x) → xE mX10_meets 246 [(0, .ref 172), (1, .int (nI S)), (2, .int (nI i)), (6, .int (nI e.length)), (7, .int (nI j))] [] (xmm w) R := by
    intro d
    induction d with
    | zero =>
      intro j w hd hj f1 f2 f3
      refine gX10_meets_246 w S i e.length j _ hi he5 hj rfl (fun _ => k w f1 f2 (fun m b hb x hx => ?_)) (fun z => absurd (by omega) z)
      have hm := (List.getElem?_eq_some_iff.mp hb).1
      rw [f3 _ (by omega)]
      exact he m b hb x hx
    | succ d ih =>
      intro j w hd hj f1 f2 f3
      have hjl : j < 6 * e.length := by omega
      refine gX10_meets_246 w S i e.length j _ hi he5 hj (by rw [f1 183 (by decide)]) (fun z => absurd z (by omega)) (fun _ => ih (j + 1) _ (by omega) hjl (fun x hx => by rw [wi_row hx]; exact f1 x hx) f2 (fun x hx => ?_))
      by_cases ex : x = j
      · subst ex; exact wi_self
      · rw [wi_nek ex]
        exact f3 x (by omega)
  exact loop _ 0 v rfl (Nat.zero_le _) (fun _ _ => rfl) rfl (fun y hy => absurd hy (Nat.not_lt_zero y))
theorem qX10_meets {u : xU} {T : TBL} {Q : QST} (hT : TI T) (hQ : QI T Q) (hC : MT T u) (h : KQ Q u) (hst : aStands T Q = true) : xC mX10_meets [.ref 172] (xmm u) (mmP T Q u) := by
  have hn6 := hQ.1
  have hp10 := hQ.2.1
  have hn1 : qN Q ≠ 0 := (aStands_iff.mp hst).1
  refine xC.of xpl10 (Nat.le_of_ble_eq_true rfl) (gX10_meets_0 u ?_)
  have outer : ∀ d i (v : xU) (l : List (Nat → Int32)), qN Q - i = d → i ≤ qN Q → frN u v → l.Nodup → (∀ a, a ∈ l → (∀ j, ¬ (psO (qO Q) i).testBit j = true → a j = 0) ∧ ∀ j, (psO (qO Q) i).testBit j = true → Dm T Q j (a j)) → (∀ a, MEM T Q (psO (qO Q) i) a → a ∈ l) → (1 ≤ i → ∀ a, a ∈ l → MEM T Q (psO (qO Q) i) a) → l.length ≤ 500 → v.1 172 13 = nI l.length → RWL 182 l v → (∀ j, j < i → ∃ c, c ≤ 500 ∧ cntS T Q (psO (qO Q) (j + 1)) = some c ∧ v.1 184 j = nI c) → xE mX10_meets 30 [(0, .ref 172), (1, .int (nI (psO (qO Q) i))), (2, .int (nI i))] [] (xmm v) (mmP T Q u) := by
    intro d
    induction d with
    | zero =>
      intro i v l hd hi fr e1 e2 e3 e4 e5 e6 e7 e8
      have e : i = qN Q := by omega
      have hv := h.N fr
      refine gX10_meets_e v (qN Q) (qP Q) (psO (qO Q) i) i hn6 hp10 e hv.1 hv.2.1 (fun _ => ⟨v, rfl, fr, Or.inr ⟨rfl, l, e1, fun a => ⟨fun z => ?_, fun z => ?_⟩, e5, e7, e6, fun j hj => e8 j (by omega)⟩⟩) (fun z => absurd (by omega) z)
      · rw [← e]; exact e4 (by omega) a z
      · rw [← e] at z; exact e3 a z
    | succ d ih =>
      intro i v l hd hi fr e1 e2 e3 e4 e5 e6 e7 e8
      have hil : i < qN Q := by omega
      have hv := h.N fr
      have hcv := hC.N fr
      have hok := hQ.2.2.2.2.2.1 i hil
      have hS : psO (qO Q) i < 64 := psO_lt (b := 6) (fun j hj => by have := hQ.2.2.2.2.2.1 j (by omega); omega)
      have hSk : ¬ (psO (qO Q) i).testBit (qO Q i) = true := fun z => by
        obtain ⟨j, j1, j2⟩ := psO_bit.mp z
        have := hQ.2.2.2.2.2.2.1 j i (by omega) hil j2
        omega
      have hh := fH_lt hst hok
      have hhas : pHas Q (fH Q (qO Q i)) (qO Q i) = true ∧ qK Q (fH Q (qO Q i)) = 0 := by
        have hex : ∃ p, p < qP Q ∧ (decide (qK Q p = 0) && pHas Q p (qO Q i)) = true := Classical.byContradiction fun q => by
          have : fH Q (qO Q i) = qP Q := fstB_none (fun i hi z => q ⟨i, hi, z⟩)
          omega
        obtain ⟨x1, x2, -⟩ := fstB_ex hex
        rw [Bool.and_eq_true, decide_eq_true_eq] at x2
        exact ⟨x2.2, x2.1⟩
      obtain ⟨c1, c2⟩ := fC_lt hhas.1
      have hl3 := qL_3 hT hQ hh
      obtain ⟨o1, -, -⟩ := (hQ.2.2.2.2.1 _ hh).2.1 (by omega)
      have cp := hv.2.2.2 _ hh
      refine gX10_meets_30 v (qN Q) (qP Q) (psO (qO Q) i) i (qO Q i) (fH Q (qO Q i)) (fC Q (fH Q (qO Q i)) (qO Q i)) (qOf Q (fH Q (qO Q i))) hn6 hp10 hil (by omega) (by omega) (by omega) o1 (qX10_columnOf hT hQ hv hok hh) hv.1 hv.2.1 (hv.2.2.1 i hil) (by rw [show (3 * fH Q (qO Q i) + fC Q (fH Q (qO Q i)) (qO Q i)) / 3 = fH Q (qO Q i) by omega]; exact cp.2.1 (by omega)) (fun z => absurd z (by omega)) (fun _ => ?_)
      rw [show ((nI (psO (qO Q) i)) ||| (1 <<< ((nI (qO Q i)) &&& 31))) = nI (psO (qO Q) i ||| 2 ^ qO Q i) from orI _ hS _ (by omega)]
      refine mm_stage hT hQ hcv hv hS hok hSk hh (by omega) e1 e2 e3 e5 e6 e7 (fun w e fw n1 m1 l1 r1 => ?_) (fun w x fw x1 x2 x3 => ⟨w, rfl, fr.tr fw.N, Or.inl ⟨rfl, i + 1, by omega, hil, cntS_of ⟨x, x1, x3, x2⟩⟩⟩)
      refine mm_copy (by omega) l1 r1 (fun x f1 f2 r2 => ?_)
      have fx : frN w (wi (wi x 172 13 (nI e.length)) 184 i (nI e.length)) := ⟨fun y h1 h2 h3 h4 h5 => by rw [wi_row h4, wi_row h1]; exact f1 y h2, fun y hy => by rw [wi_ne (by decide), wi_nek hy, f1 172 (by decide)], f2⟩
      refine ih (i + 1) _ e (by omega) hil (fr.tr (fw.N.tr fx)) n1 (fun a ha => ?_) (fun a ha => (m1 a).mpr ha) (fun _ a ha => (m1 a).mp ha) l1 (by rw [wi_ne (by decide), wi_self]) (r2.keep (by rw [wi_row (by decide), wi_row (by decide)])) (fun j hj => ?_)
      · obtain ⟨y1, y2, -⟩ := (m1 a).mp ha
        exact ⟨y1, y2⟩
      · by_cases ej : j = i
        · subst ej
          exact ⟨e.length, l1, cntS_of ⟨l1, e, n1, m1, rfl⟩, wi_self⟩
        · obtain ⟨c, q1, q2, q3⟩ := e8 j (by omega)
          refine ⟨c, q1, q2, ?_⟩
          rw [wi_nek ej, wi_row (by decide), f1 184 (by decide), fw.1 184 (by decide) (by decide)]
          exact q3
  have first : ∀ d j (v : xU), 6 - j = d → j ≤ 6 → (∀ x, x ≠ 172 → x ≠ 182 → v.1 x = u.1 x) → (∀ k, k ≠ 13 → v.1 172 k = u.1 172 k) → v.2 = u.2 → v.1 172 13 = nI 1 → (∀ x, x < j → v.1 182 x = 0) → xE mX10_meets 7 [(0, .ref 172), (1, .int (nI j))] [] (xmm v) (mmP T Q u) := by
    intro d
    induction d with
    | zero =>
      intro j v hd hj f1 f2 f3 f4 f5
      refine gX10_meets_7 v j hj (fun _ => ?_) (fun z => absurd (by omega) z)
      refine outer _ 0 v [fun _ => 0] rfl (Nat.zero_le _) ⟨fun x h1 h2 _ _ _ => f1 x h1 h2, f2, f3⟩ (List.nodup_cons.mpr ⟨List.not_mem_nil, List.nodup_nil⟩) (fun a ha => ?_) (fun a ha => ?_) (fun z => absurd z (by decide)) (by decide) f4 (fun m b hb x hx => ?_) (fun j hj => absurd hj (Nat.not_lt_zero j))
      · rw [List.mem_singleton.mp ha]
        exact ⟨fun _ _ => rfl, fun j hj => by simp [psO] at hj⟩
      · rw [List.mem_singleton]
        exact ((MEM_zero hQ).mp ha).1
      · have hm : m = 0 := by
          have := (List.getElem?_eq_some_iff.mp hb).1
          simp only [List.length_cons, List.length_nil] at this
          omega
        subst hm
        have := Option.some.inj hb
        rw [← this]
        exact f5 _ (by omega)
    | succ d ih =>
      intro j v hd hj f1 f2 f3 f4 f5
      have hj6 : j < 6 := by omega
      refine gX10_meets_7 v j hj (fun z => absurd z (by omega)) (fun _ => ih (j + 1) _ (by omega) hj6 (fun x h1 h2 => by rw [wi_row h2]; exact f1 x h1 h2) (fun k hk => by rw [wi_ne (by decide)]; exact f2 k hk) f3 (by rw [wi_ne (by decide)]; exact f4) (fun x hx => ?_))
      by_cases ex : x = j
      · subst ex; exact wi_self
      · rw [wi_nek ex]
        exact f5 x (by omega)
  exact first _ 0 _ rfl (Nat.zero_le _) (fun x h1 _ => wi_row h1) (fun k hk => wi_nek hk) rfl wi_self (fun y hy => absurd hy (Nat.not_lt_zero y))

