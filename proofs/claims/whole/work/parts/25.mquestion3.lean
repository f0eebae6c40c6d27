theorem gX10_count_88 (u : xU) (e : Bool) {Q : Option Value → xM → Prop}  
    (k1 : ¬ (e = true) → Q (some (.int (nI (0)))) (xmm u))
    (k2 : e = true → Q (some (.int (nI (1)))) (xmm u)) : xE mX10_count 88 [] [.int (xb (e = true))] (xmm u) Q := by
  refine xb_if_eq 95 dX10_count_88 (by decide) (fun c1 => ?_) (fun c1 => ?_)
  · refine xe_iconst (v := nI (0)) dX10_count_95 xc0 ?_
    exact xe_ret (r := (some (.int (nI (0))))) dX10_count_96 trivial (k1 c1)
  · refine xe_iconst (v := nI (1)) dX10_count_91 xc1 ?_
    refine xe_goto 96 dX10_count_92 (by decide) ?_
    exact xe_ret (r := (some (.int (nI (1))))) dX10_count_96 trivial (k2 c1)

theorem qX10_part {u : xU} {T : TBL} {Q : QST} (hT : TI T) (hQ : QI T Q) (hC : MT T u) (h : KQ Q u) (k t : Int32) : xC mX10_part [.ref 172, .int k, .int t] (xmm u) (pK u (some (.int (aPart T Q k t).1)) (aPart T Q k t).2) := by
  have hn6 := hQ.1
  have hp10 := hQ.2.1
  have no : ¬ (((k = 0 ∨ k = 1) ∧ tIs T t = true) ∧ room Q k = true) → pK u (some (.int (aPart T Q k t).1)) (aPart T Q k t).2 (some (.int (-1))) (xmm u) := fun z => by
    unfold aPart
    rw [if_neg (by simp only [Bool.and_eq_true, Bool.or_eq_true, decide_eq_true_eq]; exact z)]
    exact ⟨u, rfl, rfl, h, frK.rf⟩
  have k01 : (0 ≤ k ∧ k ≤ 1) ↔ (k = 0 ∨ k = 1) := by
    constructor
    · rintro ⟨a, b⟩
      rcases xspl k with z | ⟨j, hj, rfl⟩
      · exact absurd a (neg_nn z)
      · have := (nI_len hj (by decide : 1 < 2147483648)).mp b
        rcases (show j = 0 ∨ j = 1 by omega) with rfl | rfl
        · exact Or.inl rfl
        · exact Or.inr rfl
    · rintro (rfl | rfl) <;> decide
  have rm : room Q k = true ↔ (qN Q ≠ 0 ∧ qP Q < 10) ∧ (k ≠ 0 ∨ hasN (qK Q) (qP Q) < 5) := by simp only [room, Bool.and_eq_true, Bool.or_eq_true, decide_eq_true_eq]
  refine xC.of xpl10 (Nat.le_of_ble_eq_true rfl) (gX10_part_0 u (qN Q) (qP Q) k t (tIs T t) hn6 hp10 (qX10_isTable_b hT hC t) h.1 h.2.1 (fun z => no (fun y => (room_t y.2).1 z)) (fun _ z => no (fun y => z (k01.mpr y.1.1))) (fun _ _ z => no (fun y => z y.1.2)) (fun h0 hk hi hn => ?_) (fun _ _ _ z => no (fun y => by have := (room_t y.2).2.1; omega)))
  have fin : (k = 0 → hasN (qK Q) (qP Q) ≠ 5) → pK u (some (.int (aPart T Q k t).1)) (aPart T Q k t).2 (some (.int (nI (qP Q + 1 - 1)))) (xmm (wi (wi (wi (wi u 176 (qP Q) k) 177 (qP Q) t) 178 (qP Q) (nI 0)) 172 4 (nI (qP Q + 1)))) := fun hh => by
    have hr : room Q k = true := rm.mpr ⟨⟨h0, by omega⟩, by
      by_cases z : k = 0
      · have := hh z
        have := hQ.2.2.1
        exact Or.inr (by omega)
      · exact Or.inl z⟩
    obtain ⟨s, hs, rfl, e, s0⟩ := tIs_t hi
    obtain ⟨kn, hkn, rfl⟩ : ∃ kn, kn ≤ 1 ∧ k = nI kn := by
      rcases k01.mp hk with rfl | rfl
      · exact ⟨0, by decide, rfl⟩
      · exact ⟨1, by decide, rfl⟩
    have ea : aPart T Q (nI kn) (nI s) = (nI (qP Q), pushQ Q kn s 0 (fun _ => none) (fun _ => 0)) := by
      unfold aPart
      rw [if_pos, e, nI_nat (by omega)]
      simp only [Bool.and_eq_true, Bool.or_eq_true, decide_eq_true_eq]
      exact ⟨⟨k01.mp hk, hi⟩, hr⟩
    rw [ea]
    refine ⟨_, rfl, rfl, KQ_push h ?_ ?_ ?_ ?_ ?_ ?_ (fun i hi => absurd hi (Nat.not_lt_zero i)) ?_ ?_ (fun p hp => qL_3 hT hQ hp), fun x x1 x2 => ?_, fun j j1 j2 => ?_, rfl⟩
    · rw [wi_nek (by decide), wi_ne (by decide), wi_ne (by decide), wi_ne (by decide)]; exact h.1
    · exact wi_self
    · rw [wi_row (by decide), wi_row (by decide), wi_row (by decide), wi_row (by decide)]
    · rw [wi_ne (by decide), wi_ne (by decide), wi_ne (by decide), wi_self]
    · intro _
      rw [wi_ne (by decide), wi_ne (by decide), wi_self]
    · rw [wi_ne (by decide), wi_self]
    · intro x j a b hj
      rw [wi_ne (by omega), wi_app, if_neg (fun z => hj z.2), wi_app, if_neg (fun z => hj z.2), wi_app, if_neg (fun z => hj z.2)]
    · intro x p i a b hp hi
      rw [wi_ne (by omega), wi_ne (by omega), wi_ne (by omega), wi_ne (by omega)]
    · rw [wi_row (by omega), wi_row (by omega), wi_row (by omega), wi_row (by omega)]
    · rw [wi_nek j2, wi_ne (by decide), wi_ne (by decide), wi_ne (by decide)]
  have loop : ∀ d p, qP Q - p = d → p ≤ qP Q → xE mX10_part 40 [(0, .ref 172), (1, .int k), (2, .int t), (3, .int (nI (hasN (qK Q) p))), (4, .int (nI p))] [] (xmm u) (pK u (some (.int (aPart T Q k t).1)) (aPart T Q k t).2) := by
    have hb : ∀ p, hasN (qK Q) p ≤ p := fun p => by
      induction p with
      | zero => exact Nat.le_refl _
      | succ p ih => unfold hasN; split <;> omega
    intro d
    induction d with
    | zero =>
      intro p hd hp
      have hpe : p = qP Q := by omega
      subst hpe
      have := hb (qP Q)
      refine gX10_part_e u (qN Q) (qP Q) k t (hasN (qK Q) (qP Q)) (qP Q) hn6 (by omega) rfl (by omega) h.1 h.2.1 (fun _ z => fin (fun y => absurd y z)) (fun _ _ z => fin (fun _ => z)) (fun _ z y => no (fun x => ?_)) (fun z => by omega) (fun z => by omega)
      have := (room_t x.2).2.2 z
      omega
    | succ d ih =>
      intro p hd hp
      have hpl : p < qP Q := by omega
      have := hb p
      refine gX10_part_40 u (qN Q) (qP Q) k t (hasN (qK Q) p) p (qK Q p) hn6 hp10 hpl (hQ.2.2.2.2.1 p hpl).1 (by omega) h.1 h.2.1 (h.2.2.2 p hpl).1 (fun z => by omega) (fun z => by omega) (fun z => by omega) (fun _ z => ?_) (fun _ z => ?_)
      · have e : hasN (qK Q) (p + 1) = hasN (qK Q) p + 0 := by
          show hasN (qK Q) p + (if qK Q p = 0 then 1 else 0) = _
          rw [if_neg z]
        rw [← e]
        exact ih (p + 1) (by omega) hpl
      · have e : hasN (qK Q) (p + 1) = hasN (qK Q) p + 1 := by
          show hasN (qK Q) p + (if qK Q p = 0 then 1 else 0) = _
          rw [if_pos z]
        rw [← e]
        exact ih (p + 1) (by omega) hpl
  exact loop _ 0 rfl (Nat.zero_le _)
theorem qX10_compare {u : xU} {T : TBL} {Q : QST} (hT : TI T) (hQ : QI T Q) (h : KQ Q u) (k a b v : Int32) : xC mX10_compare [.ref 172, .int k, .int a, .int b, .int v] (xmm u) (pK u (some (.int (aCompare Q k a b v).1)) (aCompare Q k a b v).2) := by
  have hn6 := hQ.1
  have hp10 := hQ.2.1
  have no : ¬ ((((k = 2 ∨ k = 3) ∧ isNm Q a = true) ∧ (b = 0 ∨ isNm Q v = true)) ∧ room Q k = true) → pK u (some (.int (aCompare Q k a b v).1)) (aCompare Q k a b v).2 (some (.int (-1))) (xmm u) := fun z => by
    unfold aCompare
    rw [if_neg (by simp only [Bool.and_eq_true, Bool.or_eq_true, decide_eq_true_eq]; exact z)]
    exact ⟨u, rfl, rfl, h, frK.rf⟩
  have k23 : (2 ≤ k ∧ k ≤ 3) ↔ (k = 2 ∨ k = 3) := by
    constructor
    · rintro ⟨a, b⟩
      rcases xspl k with z | ⟨j, hj, rfl⟩
      · rw [Int32.lt_iff_toInt_lt, show (0 : Int32).toInt = 0 from by decide] at z
        rw [Int32.le_iff_toInt_le, show (2 : Int32).toInt = 2 from by decide] at a
        omega
      · have h3 := (nI_len hj (by decide : 3 < 2147483648)).mp b
        have h2 := (nI_len (by decide : 2 < 2147483648) hj).mp a
        rcases (show j = 2 ∨ j = 3 by omega) with rfl | rfl
        · exact Or.inl rfl
        · exact Or.inr rfl
    · rintro (rfl | rfl) <;> decide
  have rm : (k = 2 ∨ k = 3) → qN Q ≠ 0 → qP Q ≠ 10 → room Q k = true := fun q z y => by
    simp only [room, Bool.and_eq_true, Bool.or_eq_true, decide_eq_true_eq]
    exact ⟨⟨z, by omega⟩, Or.inl (by rcases q with rfl | rfl <;> decide)⟩
  have fin : ∀ x : Int32, qN Q ≠ 0 → (2 ≤ k ∧ k ≤ 3) → isNm Q a = true → (b = 0 ∨ isNm Q v = true) → qP Q ≠ 10 → (x = if b = 0 then -1 else v) → pK u (some (.int (aCompare Q k a b v).1)) (aCompare Q k a b v).2 (some (.int (nI (qP Q + 1 - 1)))) (xmm (wi (wi (wi (wi (wi (wi u 176 (qP Q) k) 178 (qP Q) (nI 2)) 179 (3 * qP Q) a) 179 (3 * qP Q + 1) x) 180 (3 * qP Q + 1) v) 172 4 (nI (qP Q + 1)))) := fun x h0 hk ha hv hn hx => by
    have hk' := k23.mp hk
    have hr := rm hk' h0 hn
    obtain ⟨j, hj, rfl, ej⟩ := isNm_t hQ ha
    obtain ⟨kn, hkn, rfl⟩ : ∃ kn, (2 ≤ kn ∧ kn ≤ 3) ∧ k = nI kn := by
      rcases hk' with rfl | rfl
      · exact ⟨2, by decide, rfl⟩
      · exact ⟨3, by decide, rfl⟩
    have ea : aCompare Q (nI kn) (nI j) b v = (nI (qP Q), pushQ Q kn 0 2 (setT (setT (fun _ => none) 0 (some j)) 1 (if b = 0 then none else some v.toNatClampNeg)) (setT (setT (fun _ => 0) 0 0) 1 (if b = 0 then v else 0))) := by
      unfold aCompare
      rw [if_pos, ej, nI_nat (by omega)]
      simp only [Bool.and_eq_true, Bool.or_eq_true, decide_eq_true_eq]
      exact ⟨⟨⟨hk', ha⟩, hv⟩, hr⟩
    rw [ea]
    refine ⟨_, rfl, rfl, KQ_push h ?_ ?_ ?_ ?_ (fun z => by omega) ?_ (fun i hi => ?_) ?_ ?_ (fun p hp => qL_3 hT hQ hp), fun x x1 x2 => ?_, fun j j1 j2 => ?_, rfl⟩
    · rw [wi_nek (by decide), wi_ne (by decide), wi_ne (by decide), wi_ne (by decide), wi_ne (by decide), wi_ne (by decide)]; exact h.1
    · exact wi_self
    · rw [wi_row (by decide), wi_row (by decide), wi_row (by decide), wi_row (by decide), wi_row (by decide), wi_row (by decide)]
    · rw [wi_ne (by decide), wi_ne (by decide), wi_ne (by decide), wi_ne (by decide), wi_ne (by decide), wi_self]
    · rw [wi_ne (by decide), wi_ne (by decide), wi_ne (by decide), wi_ne (by decide), wi_self]
    · rcases (show i = 0 ∨ i = 1 by omega) with rfl | rfl
      · rw [setT_ne (by decide), setT_at]
        refine ⟨?_, fun z => by cases z⟩
        rw [wi_ne (by decide), wi_ne (by decide), wi_nek (by omega)]
        exact wi_self
      · rw [setT_at, setT_at]
        constructor
        · rw [wi_ne (by decide), wi_ne (by decide), wi_self, hx]
          by_cases hb : b = 0
          · rw [if_pos hb, if_pos hb]; rfl
          · rw [if_neg hb, if_neg hb]
            obtain ⟨i, hi, rfl, ei⟩ := isNm_t hQ (hv.resolve_left hb)
            rw [ei]; rfl
        · intro z
          rw [wi_ne (by decide), wi_self]
          by_cases hb : b = 0
          · rw [if_pos hb]
          · rw [if_neg hb] at z; cases z
    · intro x j a b hj
      rw [wi_ne (by omega), wi_ne (by omega), wi_ne (by omega), wi_ne (by omega), wi_app, if_neg (fun z => hj z.2), wi_app, if_neg (fun z => hj z.2)]
    · intro x p i a b hp hi
      rw [wi_ne (by omega), wi_app, if_neg (fun z => by have := z.2; omega), wi_app, if_neg (fun z => by have := z.2; omega), wi_app, if_neg (fun z => by have := z.2; omega), wi_ne (by omega), wi_ne (by omega)]
    · rw [wi_row (by omega), wi_row (by omega), wi_row (by omega), wi_row (by omega), wi_row (by omega), wi_row (by omega)]
    · rw [wi_nek j2, wi_ne (by decide), wi_ne (by decide), wi_ne (by decide), wi_ne (by decide), wi_ne (by decide)]
  refine xC.of xpl10 (Nat.le_of_ble_eq_true rfl) (gX10_compare_0 u (qN Q) (qP Q) k a b v hn6 hp10 h.1 h.2.1 (fun z => no (fun y => (room_t y.2).1 z)) (fun _ z => no (fun y => z (k23.mpr y.1.1.1))) (fun h0 _ z => no (fun y => z ((lie_iff hQ (by omega)).mpr y.1.1.2)))
    (fun h0 hk ha hb hn _ => fin _ h0 hk ((lie_iff hQ (by omega)).mp ha) (Or.inl hb) hn (if_pos hb).symm) (fun _ _ _ z _ y => absurd z y) (fun _ _ _ _ z => no (fun y => by have := (room_t y.2).2.1; omega))
    (fun h0 _ _ z y => no (fun x => x.1.2.elim z (fun w => y ((lie_iff hQ (by omega)).mpr w)))) (fun _ _ _ z _ _ y => absurd y z)
    (fun h0 hk ha hb hv hn _ => fin _ h0 hk ((lie_iff hQ (by omega)).mp ha) (Or.inr ((lie_iff hQ (by omega)).mp hv)) hn (if_neg hb).symm) (fun _ _ _ _ _ z => no (fun y => by have := (room_t y.2).2.1; omega)))
theorem KQ_T {Q : QST} {u u' : xU} (h : KQ Q u) (hf : frM u u') : KQ Q u' := h.keep (by rw [hf.1 172 (by decide) (by decide) (by decide)]) (by rw [hf.1 172 (by decide) (by decide) (by decide)]) (fun x a b => hf.1 x (by omega) (by omega) (by omega))
theorem qX10_table {u : xU} {T : TBL} {Q : QST} (hT : TI T) (hQ : QI T Q) (hC : MT T u) (h : KQ Q u) (t c : Int32) : xC mX10_table [.ref 172, .int t, .int c] (xmm u) (pM u (.int (xb ((aTable T Q t c).1 = true))) (aTable T Q t c).2) := by
  have hn6 := hQ.1
  have hp10 := hQ.2.1
  have no : ¬ ((tOk t ∧ 1 ≤ c ∧ c ≤ 3) ∧ ¬ aAsks Q t.toNatClampNeg = true) → pM u (.int (xb ((aTable T Q t c).1 = true))) (aTable T Q t c).2 (some (.int (nI 0))) (xmm u) := fun z => by
    rw [aTable_f (fun y => z (lTab_t.mp y))]
    exact ⟨u, rfl, ret_f (fun q => by cases q), hC, frM.rf⟩
  refine xC.of xpl10 (Nat.le_of_ble_eq_true rfl) (gX10_table_0 u t c (fun z => no (fun y => z y.1.1)) (fun ht hc => ?_) (fun _ z => no (fun y => z y.1.2)))
  obtain ⟨k, hk, rfl⟩ := tOk_iff.mp ht
  rw [nI_nat (by omega)] at no
  have loop : ∀ d p, qP Q - p = d → p ≤ qP Q → (∀ j, j < p → ¬ (qK Q j ≤ 1 ∧ qOf Q j = k)) → xE mX10_table 23 [(0, .ref 172), (1, .int (nI k)), (2, .int c), (3, .int (nI p))] [] (xmm u) (pM u (.int (xb ((aTable T Q (nI k) c).1 = true))) (aTable T Q (nI k) c).2) := by
    intro d
    induction d with
    | zero =>
      intro p hd hp hj
      have hpe : p = qP Q := by omega
      refine gX10_table_e u (qN Q) (qP Q) k c p hn6 hp10 hpe hk h.1 h.2.1 (fun _ => ?_) (fun z => by omega) (fun z => by omega) (fun z => by omega)
      have hl : lTab Q (nI k) c = true := lTab_t.mpr ⟨⟨ht, hc⟩, by
        rw [nI_nat (by omega)]
        intro z
        obtain ⟨j, j1, j2⟩ := aAsks_iff.mp z
        exact hj j (by omega) j2⟩
      obtain ⟨k', j, hk', ek, j1, j3, rfl, ha, e⟩ := aTable_t (T := T) hl
      have := (nI_inj (by omega) (by omega)).mp ek
      subst this
      rw [e]
      refine ⟨_, rfl, ret_t rfl, fun s hs => ?_, ⟨fun x x1 x2 x3 => by rw [wi_row x2, wi_row x1], rfl⟩⟩
      show _ = nI (setT T.1 k j s) ∧ _ = nI (setT T.2.1 k 0 s) ∧ ∀ i c, i < setT T.2.1 k 0 s → c < setT T.1 k j s → _ = T.2.2 s i c
      by_cases hsk : s = k
      · subst hsk
        simp only [setT_at]
        exact ⟨by rw [wi_ne (by decide)]; exact wi_self, wi_self, fun i c hi => absurd hi (Nat.not_lt_zero i)⟩
      · simp only [setT_ne hsk]
        obtain ⟨g1, g2, g3⟩ := hC s hs
        exact ⟨by rw [wi_ne (by decide), wi_nek hsk]; exact g1, by rw [wi_nek hsk, wi_ne (by decide)]; exact g2, fun i c hi hc => by rw [wi_ne (by decide), wi_ne (by decide)]; exact g3 i c hi hc⟩
    | succ d ih =>
      intro p hd hp hj
      have hpl : p < qP Q := by omega
      have c4 := h.2.2.2 p hpl
      have q5 := hQ.2.2.2.2.1 p hpl
      have nx : ¬ (qK Q p ≤ 1 ∧ qOf Q p = k) → xE mX10_table 23 [(0, .ref 172), (1, .int (nI k)), (2, .int c), (3, .int (nI (p + 1)))] [] (xmm u) (pM u (.int (xb ((aTable T Q (nI k) c).1 = true))) (aTable T Q (nI k) c).2) := fun z => ih (p + 1) (by omega) hpl (fun j hjp => by
        by_cases e : j = p
        · subst e; exact z
        · exact hj j (by omega))
      by_cases hkd : qK Q p ≤ 1
      · obtain ⟨o1, o2, o3⟩ := q5.2.1 hkd
        refine gX10_table_23 u (qN Q) (qP Q) (nI k) c p (qK Q p) (qOf Q p) hn6 hp10 hpl q5.1 o1 h.1 h.2.1 c4.1 (c4.2.1 hkd) (fun z => by omega) (fun _ z => by omega) (fun _ z y => nx (fun x => y (by rw [x.2]))) (fun _ z y => no (fun x => x.2 (aAsks_iff.mpr ⟨p, hpl, hkd, (nI_inj (by omega) (by omega)).mp y⟩)))
      · refine gX10_table_c u (qN Q) (qP Q) (nI k) c p (qK Q p) hn6 hp10 hpl q5.1 h.1 h.2.1 c4.1 (fun z => by omega) (fun _ z => nx (fun x => hkd x.1)) (fun _ z => by omega) (fun _ z => by omega)
  exact loop _ 0 rfl (Nat.zero_le _) (fun j hj => absurd hj (Nat.not_lt_zero j))
theorem sub10 {w : Int32} (h : w < 10) {n : Nat} (hn : n ≤ 6) (h1 : 1 ≤ n) : ¬ (0 ≤ w - 10 ∧ w - 10 ≤ nI (n - 1)) := by
  rintro ⟨a, b⟩
  rw [Int32.le_iff_toInt_le] at a b
  rw [nI_toI (by omega)] at b
  rw [Int32.lt_iff_toInt_lt, show (10 : Int32).toInt = 10 from by decide] at h
  rw [show (0 : Int32).toInt = 0 from by decide] at a
  rw [Int32.toInt_sub, show (10 : Int32).toInt = 10 from by decide] at a b
  have := w.toInt_lt
  have := w.le_toInt
  rw [Int.bmod_def] at a b
  omega
theorem qX10_count {u : xU} {T : TBL} {Q : QST} (hT : TI T) (hQ : QI T Q) (hC : MT T u) (h : KQ Q u) {c d : Int32} (hc : u.1 172 16 = c) (hd : u.1 172 23 = d) (w : Int32) : xC mX10_count [.ref 172, .int w] (xmm u) (fun r μ' => r = some (.int (aCount T Q c d w)) ∧ μ' = xmm u) := by
  have hn6 := hQ.1
  have hp10 := hQ.2.1
  have key : ∀ Qp : Option Value → xM → Prop, Qp (some (.int (xb (aStands T Q = true)))) (xmm u) → xC mX10_holds [.ref 172] (xmm u) (fun r μ1 => xE mX10_count 88 [] (r.toList ++ []) μ1 Qp) := fun Qp hq => (qX10_holds hT hQ hC h).mono (fun r μ' q => by
    obtain ⟨rfl, rfl⟩ := q
    refine gX10_count_88 u (aStands T Q) (fun z => ?_) (fun z => ?_)
    · rw [xb_f z] at hq
      exact hq
    · rw [xb_t z] at hq
      exact hq)
  have low : w < 10 → ¬ (10 ≤ w.toNatClampNeg ∧ w.toNatClampNeg - 10 < qN Q) := fun z => by
    rintro ⟨a, b⟩
    rcases xspl w with y | ⟨k, hk, rfl⟩
    · have : w.toNatClampNeg = 0 := by
        rw [Int32.lt_iff_toInt_lt, show (0 : Int32).toInt = 0 from by decide] at y
        show w.toInt.toNat = 0
        omega
      omega
    · rw [nI_nat hk] at a
      have := (nI_ltn hk (by decide : 10 < 2147483648)).mp z
      omega
  have small : ∀ j, j < 10 → w = nI j → w < 10 := fun j hj e => by
    rw [e]
    exact (nI_ltn (by omega) (by decide : 10 < 2147483648)).mpr hj
  unfold aCount
  by_cases h1 : 1 ≤ qN Q
  · by_cases hw : w < 10
    · refine xC.of xpl10 (Nat.le_of_ble_eq_true rfl) (gX10_count_0 u (qN Q) (qP Q) w c d hn6 hp10 h1 h.1 h.2.1 hc hd (fun _ z => ?_) (fun _ z y => ?_) (fun _ z y x => ?_) (fun _ z y x v => ?_) (fun _ z y x v s => ?_) (fun _ z y x v s => ?_) (fun z => sub10 hw hn6 h1 z))
      · rw [if_pos z]; exact ⟨rfl, rfl⟩
      · rw [if_neg z, if_pos y]; exact ⟨rfl, rfl⟩
      · rw [if_neg z, if_neg y, if_pos x]; exact ⟨rfl, rfl⟩
      · rw [if_neg z, if_neg y, if_neg x, if_pos v]; exact ⟨rfl, rfl⟩
      · rw [if_neg z, if_neg y, if_neg x, if_neg v, if_pos s]; exact key _ ⟨rfl, rfl⟩
      · rw [if_neg z, if_neg y, if_neg x, if_neg v, if_neg s, if_neg (low hw)]; exact ⟨rfl, rfl⟩
    · rcases xspl w with y | ⟨k, hk, rfl⟩
      · exact absurd (by
          rw [Int32.lt_iff_toInt_lt, show (0 : Int32).toInt = 0 from by decide] at y
          rw [Int32.lt_iff_toInt_lt, show (10 : Int32).toInt = 10 from by decide]
          omega) hw
      · have h10 : 10 ≤ k := Classical.byContradiction fun z => hw ((nI_ltn hk (by decide : 10 < 2147483648)).mpr (by omega))
        have ne : ∀ j, j < 10 → ¬ nI k = nI j := fun j hj e => hw (small j hj e)
        refine xC.of xpl10 (Nat.le_of_ble_eq_true rfl) (gX10_count_N u (qN Q) (qP Q) k c d hn6 hp10 h1 hk h10 h.1 h.2.1 hc hd (fun _ z => absurd z (ne 0 (by decide))) (fun _ _ z => absurd z (ne 1 (by decide))) (fun _ _ _ z => absurd z (ne 2 (by decide))) (fun _ _ _ _ z => absurd z (ne 3 (by decide))) (fun _ _ _ _ _ z => absurd z (ne 4 (by decide))) (fun z _ _ _ _ _ => ?_) (fun z => ?_)) <;> rw [if_neg (ne 0 (by decide)), if_neg (ne 1 (by decide)), if_neg (ne 2 (by decide)), if_neg (ne 3 (by decide)), if_neg (ne 4 (by decide)), nI_nat hk]
        · rw [if_neg (fun y => z ⟨Nat.zero_le _, by omega⟩)]; exact ⟨rfl, rfl⟩
        · rw [if_pos ⟨h10, by omega⟩, h.2.2.1 _ (by omega)]; exact ⟨rfl, rfl⟩
  · have h0 : qN Q = 0 := by omega
    have lo : ¬ (10 ≤ w.toNatClampNeg ∧ w.toNatClampNeg - 10 < qN Q) := fun z => by omega
    refine xC.of xpl10 (Nat.le_of_ble_eq_true rfl) (gX10_count_z u (qP Q) w c d (h.1.trans (by rw [h0]; rfl)) h.2.1 hc hd (fun _ z => ?_) (fun _ z y => ?_) (fun _ z y x => ?_) (fun _ z y x v => ?_) (fun _ z y x v s => ?_) (fun _ z y x v s => ?_) (fun z => (lie_z z).elim))
    · rw [if_pos z, h0]; exact ⟨rfl, rfl⟩
    · rw [if_neg z, if_pos y]; exact ⟨rfl, rfl⟩
    · rw [if_neg z, if_neg y, if_pos x]; exact ⟨rfl, rfl⟩
    · rw [if_neg z, if_neg y, if_neg x, if_pos v]; exact ⟨rfl, rfl⟩
    · rw [if_neg z, if_neg y, if_neg x, if_neg v, if_pos s]; exact key _ ⟨rfl, rfl⟩
    · rw [if_neg z, if_neg y, if_neg x, if_neg v, if_neg s, if_neg lo]; exact ⟨rfl, rfl⟩

