theorem gX10_rings_14 (u : xU) (x : Int32) {Q : Option Value → xM → Prop}  
    (k1 : Q (some (.int (x))) (xmm u)) : xE mX10_rings 14 [] [.int (x)] (xmm u) Q := by
  refine xe_goto 18 dX10_rings_14 (by decide) ?_
  exact xe_ret (r := (some (.int (x)))) dX10_rings_18 trivial (k1)

theorem gX10_ring_27 (u : xU) (k : Nat) (x v : Int32) {Q : Option Value → xM → Prop} (hk : k < 3) (v1 : u.1 195 k = v)
    (k1 : x = (-1) → Q (some (.int (nI (0)))) (xmm u))
    (k2 : ¬ x = (-1) → Q (some (.int (v))) (xmm u)) : xE mX10_ring 27 [(0, .ref 172), (3, .int (nI (k)))] [.int (x)] (xmm u) Q := by
  refine xe_iconst (v := -1) dX10_ring_27 xcm1 ?_
  refine xe_icmp_eq 40 dX10_ring_28 (by decide) (fun c1 => ?_) (fun c1 => ?_)
  · refine xe_iconst (v := nI (0)) dX10_ring_40 xc0 ?_
    exact xe_ret (r := (some (.int (nI (0))))) dX10_ring_41 trivial (k1 c1)
  · refine xe_aload_n 0 dX10_ring_31 rfl rfl ?_
    refine xr_getR (b := 195) dX10_ring_32 fX10_84 rfl sh172 (by decide) rfl ?_
    refine xe_iload_n 1 dX10_ring_35 rfl rfl ?_
    refine xr_iald (k := k) (v := v) dX10_ring_36 sh195 (by decide) (by omega) (by decide) v1 ?_
    refine xe_goto 41 dX10_ring_37 (by decide) ?_
    exact xe_ret (r := (some (.int (v)))) dX10_ring_41 trivial (k2 c1)

theorem cntB_ex {f : Nat → Bool} {r : Nat} : ∀ {n : Nat}, r < cntB f n → ∃ j, j < n ∧ f j = true ∧ cntB f j = r
  | 0, h => absurd h (Nat.not_lt_zero r)
  | n + 1, h => by
    by_cases hn : r < cntB f n
    · obtain ⟨j, h1, h2⟩ := cntB_ex hn
      exact ⟨j, by omega, h2⟩
    · by_cases hf : f n = true
      · rw [cntB_t hf] at h
        exact ⟨n, by omega, hf, by omega⟩
      · rw [cntB_f hf] at h
        omega
theorem rI_ex {ok : Nat → Nat → Bool} {n r : Nat} : ∀ {i : Nat}, r < rI ok n i → ∃ a, a < i ∧ rI ok n a ≤ r ∧ r < rI ok n (a + 1)
  | 0, h => absurd h (Nat.not_lt_zero r)
  | i + 1, h => by
    by_cases hn : r < rI ok n i
    · obtain ⟨a, h1, h2⟩ := rI_ex hn
      exact ⟨a, by omega, h2⟩
    · exact ⟨i, by omega, by omega, h⟩
theorem rgP_ex {ok : Nat → Nat → Bool} {n r : Nat} (h : r < rI ok n n) : ∃ a b, rgP ok n r a b := by
  obtain ⟨a, h1, h2, h3⟩ := rI_ex h
  have h4 : r - rI ok n a < cntB (ok a) n := by
    have : rI ok n (a + 1) = rI ok n a + cntB (ok a) n := rfl
    omega
  obtain ⟨b, b1, b2, b3⟩ := cntB_ex h4
  exact ⟨a, b, h1, b1, b2, by omega⟩

def frF (u u' : xU) : Prop := (∀ x, x ≠ 195 → u'.1 x = u.1 x) ∧ u'.2 = u.2
theorem frF.rf {u : xU} : frF u u := ⟨fun _ _ => rfl, rfl⟩
theorem qX10_begins {u : xU} {T : TBL} (hT : TI T) (h : MT T u) {t : Nat} (ht : t < 8) (h2 : 2 ≤ T.1 t) (a b : Int32) : xC mX10_begins [.ref 172, .int (nI t), .int a, .int b] (xmm u) (fun r μ' => r = some (.int (xb (hpr (T.2.2 t) (T.2.1 t) a b = true))) ∧ μ' = xmm u) := by
  obtain ⟨h1, h3, h4⟩ := h t ht
  obtain ⟨i1, i2, -⟩ := hT t ht
  refine xC.of xpl10 (Nat.le_of_ble_eq_true rfl) (gX10_begins_0 u t a b ?_)
  have loop : ∀ d i, T.2.1 t - i = d → i ≤ T.2.1 t → (∀ j, j < i → ¬ (T.2.2 t j 0 = a ∧ T.2.2 t j 1 = b)) → xE mX10_begins 3 [(0, .ref 172), (1, .int (nI t)), (2, .int a), (3, .int b), (4, .int (nI i))] [] (xmm u) (fun r μ' => r = some (.int (xb (hpr (T.2.2 t) (T.2.1 t) a b = true))) ∧ μ' = xmm u) := by
    intro d
    induction d with
    | zero =>
      intro i hd hi hj
      refine gX10_begins_e u t (T.2.1 t) (T.1 t) i a b ht i1 i2 (by omega) h3 (fun _ => ⟨ret_f (fun z => ?_), rfl⟩) (fun z => by omega) (fun z => by omega) (fun z => by omega)
      obtain ⟨j, j1, j2⟩ := hpr_iff.mp z
      exact hj j (by omega) j2
    | succ d ih =>
      intro i hd hi hj
      have hil : i < T.2.1 t := by omega
      have nx : ¬ (T.2.2 t i 0 = a ∧ T.2.2 t i 1 = b) → xE mX10_begins 3 [(0, .ref 172), (1, .int (nI t)), (2, .int a), (3, .int b), (4, .int (nI (i + 1)))] [] (xmm u) (fun r μ' => r = some (.int (xb (hpr (T.2.2 t) (T.2.1 t) a b = true))) ∧ μ' = xmm u) := fun z => ih (i + 1) (by omega) hil (fun j hji => by
        by_cases e : j = i
        · subst e; exact z
        · exact hj j (by omega))
      exact gX10_begins_3 u t (T.2.1 t) (T.1 t) i a b _ _ ht i1 i2 hil h3 (h4 i 0 hil (by omega)) (h4 i 1 hil (by omega)) (fun z => by omega) (fun _ z => nx (fun y => z y.1)) (fun _ _ z => nx (fun y => z y.2)) (fun _ z y => ⟨ret_t (hpr_iff.mpr ⟨i, hil, z, y⟩), rfl⟩)
  exact loop _ 0 rfl (Nat.zero_le _) (fun j hj => absurd hj (Nat.not_lt_zero j))
theorem cmpK_nge {a b : Int32} : ¬ 0 ≤ cmpK a b ↔ ky a < ky b := by
  rw [← cmpK_lt]
  constructor
  · exact not_le_lt
  · exact fun h q => le_not_lt q h
theorem cmpK_ge {a b : Int32} (h : 0 ≤ cmpK a b) : ¬ ky a < ky b := fun q => cmpK_nge.mpr q h
/-- what the search for ring x tells -/
def rOf (c : Nat → Nat → Int32) (n : Nat) (u : xU) (x : Int32) : Option Value → xM → Prop := fun r μ' => ∃ u', μ' = xmm u' ∧ frF u u' ∧ ((∃ m i j, m < 1600 ∧ rgP (okR c n) n m i j ∧ x = nI m ∧ r = some (.int x) ∧ u'.1 195 0 = c i 0 ∧ u'.1 195 1 = c i 1 ∧ u'.1 195 2 = c j 1) ∨ ((∀ m, m < rI (okR c n) n n → nI m ≠ x) ∧ r = some (.int (if x = -1 then nI (rI (okR c n) n n) else -1))))
theorem qX10_ringsOf {u : xU} {T : TBL} (hT : TI T) (h : MT T u) {t : Nat} (ht : t < 8) (h2 : 2 ≤ T.1 t) (x : Int32) : xC mX10_ringsOf [.ref 172, .int (nI t), .int x] (xmm u) (rOf (T.2.2 t) (T.2.1 t) u x) := by
  obtain ⟨h1, h3, h4⟩ := h t ht
  obtain ⟨i1, i2, -⟩ := hT t ht
  refine xC.of xpl10 (Nat.le_of_ble_eq_true rfl) (gX10_ringsOf_0 u t x ?_)
  -- one row's rings
  have inner : ∀ d i j, T.2.1 t - j = d → j ≤ T.2.1 t → i < T.2.1 t → bgn (T.2.2 t) i = true → ky (T.2.2 t i 0) < ky (T.2.2 t i 1) → (∀ m, m < rI (okR (T.2.2 t) (T.2.1 t)) (T.2.1 t) i + cntB (okR (T.2.2 t) (T.2.1 t) i) j → nI m ≠ x) →
      ((∀ m, m < rI (okR (T.2.2 t) (T.2.1 t)) (T.2.1 t) (i + 1) → nI m ≠ x) → xE mX10_ringsOf 5 [(0, .ref 172), (1, .int (nI t)), (2, .int x), (3, .int (nI (rI (okR (T.2.2 t) (T.2.1 t)) (T.2.1 t) (i + 1)))), (4, .int (nI (i + 1)))] [] (xmm u) (rOf (T.2.2 t) (T.2.1 t) u x)) →
      xE mX10_ringsOf 87 [(0, .ref 172), (1, .int (nI t)), (2, .int x), (3, .int (nI (rI (okR (T.2.2 t) (T.2.1 t)) (T.2.1 t) i + cntB (okR (T.2.2 t) (T.2.1 t) i) j))), (4, .int (nI i)), (5, .int (T.2.2 t i 0)), (6, .int (T.2.2 t i 1)), (7, .int (nI j))] [] (xmm u) (rOf (T.2.2 t) (T.2.1 t) u x) := by
    intro d
    induction d with
    | zero =>
      intro i j hd hj hi hb ha hm next
      have hri := rI_le (ok := okR (T.2.2 t) (T.2.1 t)) i2 (i := i)
      have hc := cntB_le (f := okR (T.2.2 t) (T.2.1 t) i) (n := j)
      have hje : j = T.2.1 t := by omega
      refine gX10_ringsOf_f u t (T.2.1 t) (T.1 t) i _ j x _ _ ht i1 i2 (by omega) hje h3 (fun _ => ?_) (fun z => by omega) (fun z => by omega) (fun z => by omega) (fun z => by omega) (fun z => by omega) (fun z => by omega) (fun z => by omega) (fun z => by omega) (fun z => by omega) (fun z => by omega) (fun z => by omega)
      rw [hje] at hm ⊢
      exact next hm
    | succ d ih =>
      intro i j hd hj hi hb ha hm next
      have hjl : j < T.2.1 t := by omega
      have hri := rI_le (ok := okR (T.2.2 t) (T.2.1 t)) i2 (i := i)
      have hc := cntB_le (f := okR (T.2.2 t) (T.2.1 t) i) (n := j)
      have nx : ¬ okR (T.2.2 t) (T.2.1 t) i j = true → xE mX10_ringsOf 87 [(0, .ref 172), (1, .int (nI t)), (2, .int x), (3, .int (nI (rI (okR (T.2.2 t) (T.2.1 t)) (T.2.1 t) i + cntB (okR (T.2.2 t) (T.2.1 t) i) j))), (4, .int (nI i)), (5, .int (T.2.2 t i 0)), (6, .int (T.2.2 t i 1)), (7, .int (nI (j + 1)))] [] (xmm u) (rOf (T.2.2 t) (T.2.1 t) u x) := fun z => by
        have e := cntB_f z
        have q := ih i (j + 1) (by omega) hjl hi hb ha (by rw [e]; exact hm) next
        rw [e] at q
        exact q
      have mor : okR (T.2.2 t) (T.2.1 t) i j = true → ¬ nI (rI (okR (T.2.2 t) (T.2.1 t)) (T.2.1 t) i + cntB (okR (T.2.2 t) (T.2.1 t) i) j) = x → xE mX10_ringsOf 87 [(0, .ref 172), (1, .int (nI t)), (2, .int x), (3, .int (nI (rI (okR (T.2.2 t) (T.2.1 t)) (T.2.1 t) i + cntB (okR (T.2.2 t) (T.2.1 t) i) j + 1))), (4, .int (nI i)), (5, .int (T.2.2 t i 0)), (6, .int (T.2.2 t i 1)), (7, .int (nI (j + 1)))] [] (xmm u) (rOf (T.2.2 t) (T.2.1 t) u x) := fun z y => by
        have e := cntB_t z
        have q := ih i (j + 1) (by omega) hjl hi hb ha (by
          rw [e]
          intro m hlt
          by_cases em : m = rI (okR (T.2.2 t) (T.2.1 t)) (T.2.1 t) i + cntB (okR (T.2.2 t) (T.2.1 t) i) j
          · subst em; exact y
          · exact hm m (by omega)) next
        rw [e] at q
        exact q
      have hit : okR (T.2.2 t) (T.2.1 t) i j = true → nI (rI (okR (T.2.2 t) (T.2.1 t)) (T.2.1 t) i + cntB (okR (T.2.2 t) (T.2.1 t) i) j) = x → rOf (T.2.2 t) (T.2.1 t) u x (some (.int (nI (rI (okR (T.2.2 t) (T.2.1 t)) (T.2.1 t) i + cntB (okR (T.2.2 t) (T.2.1 t) i) j)))) (xmm (wi (wi (wi u 195 0 (T.2.2 t i 0)) 195 1 (T.2.2 t i 1)) 195 2 (T.2.2 t j 1))) := fun z y => by
        refine ⟨_, rfl, ⟨fun b hb => by rw [wi_row hb, wi_row hb, wi_row hb], rfl⟩, Or.inl ⟨_, i, j, by omega, ⟨hi, hjl, z, rfl⟩, y.symm, by rw [y], ?_, ?_, wi_self⟩⟩
        · rw [wi_nek (by decide), wi_nek (by decide), wi_self]
        · rw [wi_nek (by decide), wi_self]
      have ok1 : T.2.2 t j 0 = T.2.2 t i 1 → bgn (T.2.2 t) j = true → ¬ 0 ≤ cmpK (T.2.2 t i 0) (T.2.2 t j 1) → ¬ T.2.2 t j 1 = T.2.2 t i 1 → hpr (T.2.2 t) (T.2.1 t) (T.2.2 t j 1) (T.2.2 t i 0) = true → okR (T.2.2 t) (T.2.1 t) i j = true := fun a1 a2 a3 a4 a5 => okR_iff.mpr ⟨⟨hb, ha⟩, a1, a4, cmpK_nge.mp a3, a2, a5⟩
      exact gX10_ringsOf_87 u t (T.2.1 t) (T.1 t) i _ j x _ _ (T.2.2 t j 0) (T.2.2 t j 1) (T.2.2 t (j - 1) 0) (T.2.2 t (j - 1) 1) (hpr (T.2.2 t) (T.2.1 t) (T.2.2 t j 1) (T.2.2 t i 0)) ht i1 i2 (by omega) hjl (qX10_begins hT h ht h2 _ _) h3 (h4 j 0 hjl (by omega)) (h4 j 1 hjl (by omega)) (h4 (j - 1) 0 (by omega) (by omega)) (h4 (j - 1) 1 (by omega) (by omega))
        (fun z => by omega) (fun _ z => nx (fun q => z (okR_iff.mp q).2.1))
        (fun _ _ _ z => nx (fun q => cmpK_ge z (okR_iff.mp q).2.2.2.1)) (fun _ _ _ _ z => nx (fun q => (okR_iff.mp q).2.2.1 z)) (fun _ z1 z2 z3 z4 z5 z6 => mor (ok1 z1 (bgn_iff.mpr (Or.inl (by omega))) z3 z4 z5) z6) (fun _ z1 z2 z3 z4 z5 z6 => hit (ok1 z1 (bgn_iff.mpr (Or.inl (by omega))) z3 z4 z5) z6) (fun _ _ _ _ _ z => nx (fun q => z (okR_iff.mp q).2.2.2.2.2))
        (fun _ _ _ _ z => nx (fun q => cmpK_ge z (okR_iff.mp q).2.2.2.1)) (fun _ _ _ _ _ z => nx (fun q => (okR_iff.mp q).2.2.1 z)) (fun _ z1 z2 z0 z3 z4 z5 z6 => mor (ok1 z1 (bgn_iff.mpr (Or.inr (Or.inl (fun y => z0 (y.symm.trans z1))))) z3 z4 z5) z6) (fun _ z1 z2 z0 z3 z4 z5 z6 => hit (ok1 z1 (bgn_iff.mpr (Or.inr (Or.inl (fun y => z0 (y.symm.trans z1))))) z3 z4 z5) z6) (fun _ _ _ _ _ _ z => nx (fun q => z (okR_iff.mp q).2.2.2.2.2))
        (fun _ _ _ _ _ z => nx (fun q => cmpK_ge z (okR_iff.mp q).2.2.2.1)) (fun _ _ _ _ _ _ z => nx (fun q => (okR_iff.mp q).2.2.1 z)) (fun _ z1 z2 z0 z9 z3 z4 z5 z6 => mor (ok1 z1 (bgn_iff.mpr (Or.inr (Or.inr (fun y => z9 y.symm)))) z3 z4 z5) z6) (fun _ z1 z2 z0 z9 z3 z4 z5 z6 => hit (ok1 z1 (bgn_iff.mpr (Or.inr (Or.inr (fun y => z9 y.symm)))) z3 z4 z5) z6) (fun _ _ _ _ _ _ _ z => nx (fun q => z (okR_iff.mp q).2.2.2.2.2))
        (fun _ z1 z2 z3 z4 => nx (fun q => by
          rcases bgn_iff.mp (okR_iff.mp q).2.2.2.2.1 with y | y | y
          · omega
          · exact y (z1.trans z3.symm)
          · exact y z4.symm))
  have outer : ∀ d i, T.2.1 t - i = d → i ≤ T.2.1 t → (∀ m, m < rI (okR (T.2.2 t) (T.2.1 t)) (T.2.1 t) i → nI m ≠ x) → xE mX10_ringsOf 5 [(0, .ref 172), (1, .int (nI t)), (2, .int x), (3, .int (nI (rI (okR (T.2.2 t) (T.2.1 t)) (T.2.1 t) i))), (4, .int (nI i))] [] (xmm u) (rOf (T.2.2 t) (T.2.1 t) u x) := by
    intro d
    induction d with
    | zero =>
      intro i hd hi hm
      have hri := rI_le (ok := okR (T.2.2 t) (T.2.1 t)) i2 (i := i)
      have hie : i = T.2.1 t := by omega
      refine gX10_ringsOf_e u t (T.2.1 t) (T.1 t) i _ x ht i1 i2 (by omega) hie h3 (fun _ z => ⟨u, rfl, frF.rf, Or.inr ⟨?_, by rw [if_neg z]⟩⟩) (fun _ z => ⟨u, rfl, frF.rf, Or.inr ⟨?_, ?_⟩⟩) (fun z => by omega) (fun z => by omega) (fun z => by omega) (fun z => by omega) (fun z => by omega)
      · rw [hie] at hm; exact hm
      · rw [hie] at hm; exact hm
      · rw [if_pos z, hie]
    | succ d ih =>
      intro i hd hi hm
      have hil : i < T.2.1 t := by omega
      have hri := rI_le (ok := okR (T.2.2 t) (T.2.1 t)) i2 (i := i)
      have nx : ¬ (bgn (T.2.2 t) i = true ∧ ky (T.2.2 t i 0) < ky (T.2.2 t i 1)) → xE mX10_ringsOf 5 [(0, .ref 172), (1, .int (nI t)), (2, .int x), (3, .int (nI (rI (okR (T.2.2 t) (T.2.1 t)) (T.2.1 t) i))), (4, .int (nI (i + 1)))] [] (xmm u) (rOf (T.2.2 t) (T.2.1 t) u x) := fun z => by
        have e : rI (okR (T.2.2 t) (T.2.1 t)) (T.2.1 t) (i + 1) = rI (okR (T.2.2 t) (T.2.1 t)) (T.2.1 t) i := by
          show _ + cntB (okR (T.2.2 t) (T.2.1 t) i) (T.2.1 t) = _
          rw [cntB_zero (fun j _ q => z (okR_iff.mp q).1)]
          rfl
        have q := ih (i + 1) (by omega) hil (by rw [e]; exact hm)
        rw [e] at q
        exact q
      have go : bgn (T.2.2 t) i = true → ¬ 0 ≤ cmpK (T.2.2 t i 0) (T.2.2 t i 1) → xE mX10_ringsOf 87 [(0, .ref 172), (1, .int (nI t)), (2, .int x), (3, .int (nI (rI (okR (T.2.2 t) (T.2.1 t)) (T.2.1 t) i))), (4, .int (nI i)), (5, .int (T.2.2 t i 0)), (6, .int (T.2.2 t i 1)), (7, .int (nI 0))] [] (xmm u) (rOf (T.2.2 t) (T.2.1 t) u x) := fun z y => inner _ i 0 rfl (Nat.zero_le _) hil z (cmpK_nge.mp y) hm (fun q => ih (i + 1) (by omega) hil q)
      exact gX10_ringsOf_5 u t (T.2.1 t) (T.1 t) i _ x (T.2.2 t i 0) (T.2.2 t i 1) (T.2.2 t (i - 1) 0) (T.2.2 t (i - 1) 1) ht i1 i2 (by omega) hil h3 (h4 i 0 hil (by omega)) (h4 i 1 hil (by omega)) (h4 (i - 1) 0 (by omega) (by omega)) (h4 (i - 1) 1 (by omega) (by omega)) (fun z => by omega) (fun z => by omega) (fun _ z => nx (fun q => cmpK_ge z q.2)) (fun _ z y => go (bgn_iff.mpr (Or.inl (by omega))) z) (fun _ z _ y => go (bgn_iff.mpr (Or.inr (Or.inl (fun q => y q.symm)))) z) (fun _ z _ _ y => go (bgn_iff.mpr (Or.inr (Or.inr (fun q => y q.symm)))) z) (fun _ z y1 y2 y3 => nx (fun q => by
        rcases bgn_iff.mp q.1 with y | y | y
        · omega
        · exact y y2.symm
        · exact y y3.symm))
  exact outer _ 0 rfl (Nat.zero_le _) (fun m hm => absurd hm (Nat.not_lt_zero m))
theorem qX10_isRinged {u : xU} {T : TBL} (hT : TI T) (h : MT T u) (t : Int32) : xC mX10_isRinged [.ref 172, .int t] (xmm u) (fun r μ' => r = some (.int (xb (rgd T t = true))) ∧ μ' = xmm u) := by
  by_cases hi : tIs T t = true
  · obtain ⟨k, hk, rfl, e, h0⟩ := tIs_t hi
    have q1 := rgd_iff (T := T) (t := nI k)
    rw [e] at q1
    exact xC.of xpl10 (Nat.le_of_ble_eq_true rfl) (gX10_isRinged_N u k (T.1 k) (tIs T (nI k)) hk (hT k hk).1 (qX10_isTable_b hT h _) (h k hk).1 (fun z => absurd hi z) (fun _ z => ⟨ret_f (fun y => by have := (q1.mp y).2; omega), rfl⟩) (fun _ z => ⟨ret_t (q1.mpr ⟨hi, by omega⟩), rfl⟩))
  · exact xC.of xpl10 (Nat.le_of_ble_eq_true rfl) (gX10_isRinged_0 u t (tIs T t) (qX10_isTable_b hT h t) (fun _ => ⟨ret_f (fun y => hi (rgd_iff.mp y).1), rfl⟩) (fun z => absurd z hi))
theorem qX10_rings {u : xU} {T : TBL} (hT : TI T) (h : MT T u) (t : Int32) : xC mX10_rings [.ref 172, .int t] (xmm u) (fun r μ' => ∃ u', μ' = xmm u' ∧ r = some (.int (aRings T t)) ∧ frF u u') := by
  unfold aRings
  refine xC.of xpl10 (Nat.le_of_ble_eq_true rfl) (gX10_rings_0 u t (rgd T t) (qX10_isRinged hT h t) (fun z => ?_) (fun z => ?_))
  · rw [if_neg z]
    exact ⟨u, rfl, rfl, frF.rf⟩
  · rw [if_pos z]
    obtain ⟨z1, z2⟩ := rgd_iff.mp z
    obtain ⟨k, hk, rfl, e, h0⟩ := tIs_t z1
    rw [e] at z2 ⊢
    refine (qX10_ringsOf hT h hk z2 (-1)).mono ?_
    rintro r μ' ⟨u', rfl, f, ⟨m, i, j, hm, -, hx, -⟩ | ⟨-, rfl⟩⟩
    · have := congrArg Int32.toInt hx
      rw [nI_toI (by omega), show (-1 : Int32).toInt = -1 from by decide] at this
      omega
    · rw [if_pos rfl]
      exact gX10_rings_14 u' _ ⟨u', rfl, rfl, f⟩
theorem qX10_ring {u : xU} {T : TBL} (hT : TI T) (h : MT T u) (t i k : Int32) : xC mX10_ring [.ref 172, .int t, .int i, .int k] (xmm u) (fun r μ' => ∃ u' v, μ' = xmm u' ∧ r = some (.int v) ∧ rgR T t i k v ∧ frF u u') := by
  refine xC.of xpl10 (Nat.le_of_ble_eq_true rfl) (gX10_ring_0 u t i k (rgd T t) (qX10_isRinged hT h t) (fun z => ⟨u, 0, rfl, rfl, Or.inr ⟨fun q => z q.1, rfl⟩, frF.rf⟩) (fun _ z => ⟨u, 0, rfl, rfl, Or.inr ⟨fun q => neg_nn z q.2.1, rfl⟩, frF.rf⟩) (fun z y x => ?_) (fun z y x => ?_))
  · -- a corner that there is not
    have hc : ∀ a b c : Int32, cnr a b c k = 0 := fun a b c => by
      unfold cnr
      rw [if_neg (fun q => x (by rw [q]; decide)), if_neg (fun q => x (by rw [q]; decide)), if_neg (fun q => x (by rw [q]; decide))]
    by_cases ex : ∃ a b, rgP (okR (T.2.2 t.toNatClampNeg) (T.2.1 t.toNatClampNeg)) (T.2.1 t.toNatClampNeg) i.toNatClampNeg a b
    · obtain ⟨a, b, hp⟩ := ex
      exact ⟨u, 0, rfl, rfl, Or.inl ⟨z, not_lt_nn y, a, b, hp, (hc _ _ _).symm⟩, frF.rf⟩
    · exact ⟨u, 0, rfl, rfl, Or.inr ⟨fun q => ex (rgP_ex q.2.2), rfl⟩, frF.rf⟩
  · obtain ⟨z1, z2⟩ := rgd_iff.mp z
    obtain ⟨s, hs, rfl, e, h0⟩ := tIs_t z1
    rw [e] at z2
    rcases xspl i with v | ⟨w, hw, rfl⟩
    · exact absurd v y
    rcases xspl k with v | ⟨kk, hkk, rfl⟩
    · exact absurd x.1 (neg_nn v)
    have hk3 : kk < 3 := by
      have := (nI_len hkk (by decide : 2 < 2147483648)).mp x.2
      omega
    refine (qX10_ringsOf hT h hs z2 (nI w)).mono ?_
    unfold rgR
    rw [e, nI_nat hw]
    rintro r μ' ⟨u', rfl, f, ⟨m, a, b, hm, hp, hx, rfl, e1, e2, e3⟩ | ⟨hno, rfl⟩⟩
    · have : w = m := (nI_inj hw (by omega)).mp hx
      subst this
      have ev : u'.1 195 kk = cnr (T.2.2 s a 0) (T.2.2 s a 1) (T.2.2 s b 1) (nI kk) := by
        rcases (show kk = 0 ∨ kk = 1 ∨ kk = 2 by omega) with rfl | rfl | rfl
        · exact e1
        · exact e2
        · exact e3
      refine gX10_ring_27 u' kk (nI w) _ hk3 ev (fun q => ?_) (fun _ => ⟨u', _, rfl, rfl, Or.inl ⟨z, nI_nn hw, a, b, hp, rfl⟩, f⟩)
      have := congrArg Int32.toInt q
      rw [nI_toI (by omega), show (-1 : Int32).toInt = -1 from by decide] at this
      omega
    · have hne : ¬ nI w = -1 := fun q => by
        have := congrArg Int32.toInt q
        rw [nI_toI (by omega), show (-1 : Int32).toInt = -1 from by decide] at this
        omega
      rw [if_neg hne]
      exact gX10_ring_27 u' kk (-1) _ hk3 rfl (fun _ => ⟨u', 0, rfl, rfl, Or.inr ⟨fun q => hno w q.2.2 rfl, rfl⟩, f⟩) (fun q => absurd rfl q)

