theorem gX10_name_20 (u : xU) (x : Int32) {Q : Option Value → xM → Prop}  
    (k1 : Q (some (.int (x))) (xmm u)) : xE mX10_name 20 [] [.int (x)] (xmm u) Q := by
  refine xe_goto 24 dX10_name_20 (by decide) ?_
  exact xe_ret (r := (some (.int (x)))) dX10_name_24 trivial (k1)

theorem KQ_push {Q : QST} {u u' : xU} {kd o l : Nat} {m : Nat → Option Nat} {v : Nat → Int32} (h : KQ Q u) (e0 : u'.1 172 3 = nI (qN Q)) (e1 : u'.1 172 4 = nI (qP Q + 1)) (h5 : u'.1 181 = u.1 181) (hk : u'.1 176 (qP Q) = nI kd) (ho : kd ≤ 1 → u'.1 177 (qP Q) = nI o) (hl : u'.1 178 (qP Q) = nI l) (hm : ∀ i, i < l → u'.1 179 (3 * qP Q + i) = nmI (m i) ∧ (m i = none → u'.1 180 (3 * qP Q + i) = v i)) (hf : ∀ x k, 176 ≤ x → x < 179 → k ≠ qP Q → u'.1 x k = u.1 x k) (hg : ∀ x p i, 179 ≤ x → x < 181 → p < qP Q → i < 3 → u'.1 x (3 * p + i) = u.1 x (3 * p + i)) (hl3 : ∀ p, p < qP Q → qL Q p ≤ 3) : KQ (pushQ Q kd o l m v) u' := by
  refine ⟨e0, e1, fun i hi => by rw [h5]; exact h.2.2.1 i hi, fun p hp => ?_⟩
  by_cases hpn : p = qP Q
  · subst hpn
    show u'.1 176 (qP Q) = nI (setT (qK Q) (qP Q) kd (qP Q)) ∧ (setT (qK Q) (qP Q) kd (qP Q) ≤ 1 → u'.1 177 (qP Q) = nI (setT (qOf Q) (qP Q) o (qP Q))) ∧ u'.1 178 (qP Q) = nI (setT (qL Q) (qP Q) l (qP Q)) ∧ ∀ i, i < setT (qL Q) (qP Q) l (qP Q) → u'.1 179 (3 * qP Q + i) = nmI (setT (qM Q) (qP Q) m (qP Q) i) ∧ (setT (qM Q) (qP Q) m (qP Q) i = none → u'.1 180 (3 * qP Q + i) = setT (qV Q) (qP Q) v (qP Q) i)
    simp only [setT_at]
    exact ⟨hk, ho, hl, hm⟩
  · have hlt : p < qP Q := by
      have : p < qP Q + 1 := hp
      omega
    refine MPq_congr (Q := Q) ?_ (setT_ne hpn) (setT_ne hpn) (setT_ne hpn) (setT_ne hpn) (setT_ne hpn)
    obtain ⟨c1, c2, c3, c4⟩ := h.2.2.2 p hlt
    have := hl3 p hlt
    refine ⟨(hf _ _ (by decide) (by decide) hpn).trans c1, fun z => (hf _ _ (by decide) (by decide) hpn).trans (c2 z), (hf _ _ (by decide) (by decide) hpn).trans c3, fun i hi => ⟨(hg _ _ _ (by decide) (by decide) hlt (by omega)).trans (c4 i hi).1, fun z => (hg _ _ _ (by decide) (by decide) hlt (by omega)).trans ((c4 i hi).2 z)⟩⟩
theorem KQ_pl {Q : QST} {u u' : xU} {o : Option Nat} {v : Int32} (h : KQ Q u) (h0 : qP Q ≠ 0) (e3 : u'.1 172 = u.1 172) (e6 : u'.1 176 = u.1 176) (e7 : u'.1 177 = u.1 177) (e1 : u'.1 181 = u.1 181) (hl : u'.1 178 (qP Q - 1) = nI (qL Q (qP Q - 1) + 1)) (hl' : ∀ p, p ≠ qP Q - 1 → u'.1 178 p = u.1 178 p) (hm : u'.1 179 (3 * (qP Q - 1) + qL Q (qP Q - 1)) = nmI o) (hv : u'.1 180 (3 * (qP Q - 1) + qL Q (qP Q - 1)) = v) (hg : ∀ x k, 179 ≤ x → x < 181 → k ≠ 3 * (qP Q - 1) + qL Q (qP Q - 1) → u'.1 x k = u.1 x k) (hl3 : ∀ p, p < qP Q → qL Q p ≤ 3) (hlast : qL Q (qP Q - 1) < 3) : KQ (plQ Q o v) u' := by
  obtain ⟨c1, c2, c3, c4⟩ := h
  refine ⟨by rw [e3]; exact c1, by rw [e3]; exact c2, fun i hi => by rw [e1]; exact c3 i hi, fun p hp => ?_⟩
  have hp' : p < qP Q := hp
  obtain ⟨d1, d2, d3, d4⟩ := c4 p hp
  have hl3p := hl3 p hp'
  by_cases hpn : p = qP Q - 1
  · subst hpn
    show u'.1 176 (qP Q - 1) = nI (qK Q (qP Q - 1)) ∧ (qK Q (qP Q - 1) ≤ 1 → u'.1 177 (qP Q - 1) = nI (qOf Q (qP Q - 1))) ∧ u'.1 178 (qP Q - 1) = nI (setT (qL Q) (qP Q - 1) (qL Q (qP Q - 1) + 1) (qP Q - 1)) ∧ ∀ i, i < setT (qL Q) (qP Q - 1) (qL Q (qP Q - 1) + 1) (qP Q - 1) → u'.1 179 (3 * (qP Q - 1) + i) = nmI (setT (qM Q) (qP Q - 1) (setT (qM Q (qP Q - 1)) (qL Q (qP Q - 1)) o) (qP Q - 1) i) ∧ (setT (qM Q) (qP Q - 1) (setT (qM Q (qP Q - 1)) (qL Q (qP Q - 1)) o) (qP Q - 1) i = none → u'.1 180 (3 * (qP Q - 1) + i) = setT (qV Q) (qP Q - 1) (setT (qV Q (qP Q - 1)) (qL Q (qP Q - 1)) v) (qP Q - 1) i)
    simp only [setT_at]
    rw [e6, e7]
    refine ⟨d1, d2, hl, fun i hi => ?_⟩
    by_cases e : i = qL Q (qP Q - 1)
    · subst e
      rw [setT_at, setT_at]
      exact ⟨hm, fun _ => hv⟩
    · rw [setT_ne e, setT_ne e, hg 179 _ (by decide) (by decide) (by omega), hg 180 _ (by decide) (by decide) (by omega)]
      exact d4 i (by omega)
  · refine MPq_congr (Q := Q) ?_ rfl rfl (setT_ne hpn) (setT_ne hpn) (setT_ne hpn)
    refine ⟨by rw [e6]; exact d1, fun z => by rw [e7]; exact d2 z, by rw [hl' p hpn]; exact d3, fun i hi => ?_⟩
    rw [hg 179 _ (by decide) (by decide) (by omega), hg 180 _ (by decide) (by decide) (by omega)]
    exact d4 i hi
theorem qX10_place {u : xU} {T : TBL} {Q : QST} (hT : TI T) (hQ : QI T Q) (hC : MT T u) (h : KQ Q u) (o : Option Nat) (v : Int32) : xC mX10_place [.ref 172, .int (nmI o), .int v] (xmm u) (pK u (some (.int (if opn T Q = true then nI (qL Q (qP Q - 1) + 1) else -1))) (if opn T Q = true then plQ Q o v else Q)) := by
  have hp10 := hQ.2.1
  by_cases h0 : qP Q = 0
  · have hn : ¬ opn T Q = true := fun z => (opn_t z).1 h0
    rw [if_neg hn, if_neg hn]
    exact xC.of xpl10 (Nat.le_of_ble_eq_true rfl) (gX10_place_z u (nmI o) v (h.2.1.trans (by rw [h0]; rfl)) (fun _ => ⟨u, rfl, rfl, h, frK.rf⟩) (fun z => absurd (by decide) z))
  · have hp : qP Q - 1 < qP Q := by omega
    have c := h.2.2.2 _ hp
    have q5 := hQ.2.2.2.2.1 _ hp
    by_cases hk : qK Q (qP Q - 1) ≤ 1
    · obtain ⟨o1, o2, o3⟩ := q5.2.1 hk
      have hc3 := (hT _ o1).1
      refine xC.of xpl10 (Nat.le_of_ble_eq_true rfl) (gX10_place_0 u (qN Q) (qP Q) (nmI o) v (qK Q (qP Q - 1)) (qOf Q (qP Q - 1)) (qL Q (qP Q - 1)) (T.1 (qOf Q (qP Q - 1))) hQ.1 hp10 h0 q5.1 o1 o3 hc3 h.1 h.2.1 c.1 (c.2.1 hk) c.2.2.1 (hC _ o1).1 (fun z => by omega) (fun z y => ?_) (fun z y => ?_))
      · have hn : opn T Q = true := opn_iff.mpr ⟨h0, hk, by omega⟩
        rw [if_pos hn, if_pos hn]
        refine ⟨_, rfl, rfl, KQ_pl h h0 ?_ ?_ ?_ ?_ ?_ ?_ ?_ ?_ ?_ (fun p hp' => qL_3 hT hQ hp') (by omega), ⟨fun x x1 x2 => ?_, fun k k1 k2 => ?_, rfl⟩⟩
        · rw [wi_row (by decide), wi_row (by decide), wi_row (by decide)]
        · rw [wi_row (by decide), wi_row (by decide), wi_row (by decide)]
        · rw [wi_row (by decide), wi_row (by decide), wi_row (by decide)]
        · rw [wi_row (by decide), wi_row (by decide), wi_row (by decide)]
        · exact wi_self
        · intro p hpn
          rw [wi_nek hpn, wi_ne (by decide), wi_ne (by decide)]
        · rw [wi_ne (by decide), wi_ne (by decide), wi_self]
        · rw [wi_ne (by decide), wi_self]
        · intro x k a b hk'
          rw [wi_ne (by omega), wi_app, if_neg (fun z => hk' z.2), wi_app, if_neg (fun z => hk' z.2)]
        · rw [wi_row (by omega), wi_row (by omega), wi_row (by omega)]
        · rw [wi_ne (by decide), wi_ne (by decide), wi_ne (by decide)]
      · have hn : ¬ opn T Q = true := fun z => by
          have := (opn_t z).2.2
          omega
        rw [if_neg hn, if_neg hn]
        exact ⟨u, rfl, rfl, h, frK.rf⟩
    · have hn : ¬ opn T Q = true := fun z => hk (opn_t z).2.1
      rw [if_neg hn, if_neg hn]
      exact xC.of xpl10 (Nat.le_of_ble_eq_true rfl) (gX10_place_c u (qN Q) (qP Q) (nmI o) v (qK Q (qP Q - 1)) hQ.1 hp10 h0 q5.1 h.1 h.2.1 c.1 (fun _ => ⟨u, rfl, rfl, h, frK.rf⟩) (fun z => by omega))
theorem qX10_value {u : xU} {T : TBL} {Q : QST} (hT : TI T) (hQ : QI T Q) (hC : MT T u) (h : KQ Q u) (v : Int32) : xC mX10_value [.ref 172, .int v] (xmm u) (pK u (some (.int (aValue T Q v).1)) (aValue T Q v).2) := by
  refine xC.of xpl10 (Nat.le_of_ble_eq_true rfl) (gX10_value_0 u (qN Q) (qP Q) v hQ.1 hQ.2.1 h.1 h.2.1 ?_)
  refine (qX10_place hT hQ hC h none v).mono ?_
  rintro r μ' ⟨u', rfl, rfl, c', f⟩
  refine xe_ret (r := some (.int _)) dX10_value_6 trivial ⟨u', rfl, ?_, ?_, f⟩
  · unfold aValue
    by_cases ho : opn T Q = true
    · rw [if_pos ho, if_pos ho]
    · rw [if_neg ho, if_neg ho]
  · unfold aValue
    by_cases ho : opn T Q = true
    · rw [if_pos ho] at c' ⊢
      exact c'
    · rw [if_neg ho] at c' ⊢
      exact c'
theorem qX10_name {u : xU} {T : TBL} {Q : QST} (hT : TI T) (hQ : QI T Q) (hC : MT T u) (h : KQ Q u) (k : Int32) : xC mX10_name [.ref 172, .int k] (xmm u) (pK u (some (.int (aName T Q k).1)) (aName T Q k).2) := by
  have no : ¬ isNm Q k = true → pK u (some (.int (aName T Q k).1)) (aName T Q k).2 (some (.int (-1))) (xmm u) := fun z => by
    unfold aName
    rw [if_neg (by rw [Bool.and_eq_true]; exact fun y => z y.2)]
    exact ⟨u, rfl, rfl, h, frK.rf⟩
  by_cases h1 : 1 ≤ qN Q
  · refine xC.of xpl10 (Nat.le_of_ble_eq_true rfl) (gX10_name_0 u (qN Q) (qP Q) k hQ.1 hQ.2.1 h1 h.1 h.2.1 (fun z => no (fun y => z ((lie_iff hQ h1).mpr y))) (fun z => ?_))
    have hk := (lie_iff hQ h1).mp z
    obtain ⟨j, hj, rfl, e⟩ := isNm_t hQ hk
    refine (qX10_place hT hQ hC h (some j) (nI 0)).mono ?_
    rintro r μ' ⟨u', rfl, rfl, c', f⟩
    refine gX10_name_20 u' _ ⟨u', rfl, ?_, ?_, f⟩
    · unfold aName
      by_cases ho : opn T Q = true
      · rw [if_pos ho, if_pos (by rw [Bool.and_eq_true]; exact ⟨ho, hk⟩)]
      · rw [if_neg ho, if_neg (by rw [Bool.and_eq_true]; exact fun y => ho y.1)]
    · unfold aName
      by_cases ho : opn T Q = true
      · rw [if_pos ho] at c'
        rw [if_pos (by rw [Bool.and_eq_true]; exact ⟨ho, hk⟩), e]
        exact c'
      · rw [if_neg ho] at c'
        rw [if_neg (by rw [Bool.and_eq_true]; exact fun y => ho y.1)]
        exact c'
  · have h0 : qN Q = 0 := by omega
    exact xC.of xpl10 (Nat.le_of_ble_eq_true rfl) (gX10_name_z u k (h.1.trans (by rw [h0]; rfl)) (fun _ => no (isNm_z h0)) (fun z => (lie_z z).elim))
theorem qX10_ask {u : xU} {Q : QST} (h : KQ Q u) (n : Int32) : xC mX10_ask [.ref 172, .int n] (xmm u) (pK u (some (.int (xb ((aAsk Q n).1 = true)))) (aAsk Q n).2) := by
  refine xC.of xpl10 (Nat.le_of_ble_eq_true rfl) (gX10_ask_0 u n (fun z => ?_) (fun z => ?_))
  · have ea : aAsk Q n = (true, (n.toNatClampNeg, 0, qK Q, qOf Q, qL Q, qM Q, qV Q, fun i => i)) := by
      unfold aAsk
      rw [if_pos (by simp only [Bool.and_eq_true, decide_eq_true_eq]; exact z)]
    rw [ea]
    rcases xspl n with y | ⟨k, hk, rfl⟩
    · exact absurd z.1 (by
        rw [Int32.lt_iff_toInt_lt, show (0 : Int32).toInt = 0 from by decide] at y
        rw [Int32.le_iff_toInt_le, show (1 : Int32).toInt = 1 from by decide]
        omega)
    have hk6 : k ≤ 6 := (nI_len hk (by decide)).mp z.2
    rw [nI_nat hk]
    have loop : ∀ d i (v : xU), 6 - i = d → i ≤ 6 → v.1 172 = (wi (wi u 172 3 (nI k)) 172 4 (nI 0)).1 172 → (∀ j, j < i → v.1 181 j = nI j) → (∀ x, x ≠ 172 → x ≠ 181 → v.1 x = u.1 x) → v.2 = u.2 → xE mX10_ask 24 [(0, .ref 172), (2, .int (nI i))] [] (xmm v) (pK u (some (.int (xb ((true, ((k, 0, qK Q, qOf Q, qL Q, qM Q, qV Q, fun i => i) : QST)).1 = true)))) (true, ((k, 0, qK Q, qOf Q, qL Q, qM Q, qV Q, fun i => i) : QST)).2) := by
      intro d
      induction d with
      | zero =>
        intro i v hd hi v3 v5 vf v2
        refine gX10_ask_24 v i hi (fun _ => ⟨v, rfl, ret_t rfl, ⟨?_, ?_, fun j hj => v5 j (by have : j < k := hj; omega), fun p hp => absurd hp (Nat.not_lt_zero p)⟩, fun x x3 x5 => vf x x3 (by omega), fun j j3 j4 => ?_, v2⟩) (fun z => absurd (by omega) z)
        · rw [v3, wi_nek (by decide)]; exact wi_self
        · rw [v3]; exact wi_self
        · rw [v3, wi_nek j4, wi_nek j3]
      | succ d ih =>
        intro i v hd hi v3 v5 vf v2
        refine gX10_ask_24 v i hi (fun z => by omega) (fun _ => ?_)
        refine ih (i + 1) _ (by omega) (by omega) ((wi_row (by decide)).trans v3) (fun j hj => ?_) (fun x x3 x5 => (wi_row x5).trans (vf x x3 x5)) v2
        by_cases e : j = i
        · subst e; exact wi_self
        · rw [wi_nek e]; exact v5 j (by omega)
    exact loop _ 0 _ rfl (by omega) rfl (fun j hj => absurd hj (Nat.not_lt_zero j)) (fun x x3 x5 => by rw [wi_row x3, wi_row x3]) rfl
  · have ea : aAsk Q n = (false, Q) := by
      unfold aAsk
      rw [if_neg (by simp only [Bool.and_eq_true, decide_eq_true_eq]; exact z)]
    rw [ea]
    exact ⟨u, rfl, ret_f (fun q => by cases q), h, frK.rf⟩
theorem qX10_order {u : xU} {T : TBL} {Q : QST} (hQ : QI T Q) (h : KQ Q u) (i k : Int32) : xC mX10_order [.ref 172, .int i, .int k] (xmm u) (pK u (some (.int (xb ((aOrder Q i k).1 = true)))) (aOrder Q i k).2) := by
  have hn6 := hQ.1
  have no : ¬ (isNm Q i = true ∧ isNm Q k = true) → pK u (some (.int (xb ((aOrder Q i k).1 = true)))) (aOrder Q i k).2 (some (.int (nI 0))) (xmm u) := fun z => by
    have ea : aOrder Q i k = (false, Q) := by
      unfold aOrder
      rw [if_neg (by rw [Bool.and_eq_true]; exact z)]
    rw [ea]
    exact ⟨u, rfl, ret_f (fun q => by cases q), h, frK.rf⟩
  by_cases h1 : 1 ≤ qN Q
  · refine xC.of xpl10 (Nat.le_of_ble_eq_true rfl) (gX10_order_0 u (qN Q) (qP Q) i k hn6 hQ.2.1 h1 h.1 h.2.1 (fun z => no (fun y => z ((lie_iff hQ h1).mpr y.1))) (fun q z => ?_) (fun _ z => no (fun y => z ((lie_iff hQ h1).mpr y.2))))
    have q' := (lie_iff hQ h1).mp q
    have z' := (lie_iff hQ h1).mp z
    have ea : aOrder Q i k = (true, (qN Q, qP Q, qK Q, qOf Q, qL Q, qM Q, qV Q, swpO (qO Q) (qN Q) i.toNatClampNeg k.toNatClampNeg)) := by
      unfold aOrder
      rw [if_pos (by rw [Bool.and_eq_true]; exact ⟨q', z'⟩)]
    rw [ea]
    obtain ⟨a, ha, rfl, e1⟩ := isNm_t hQ q'
    obtain ⟨b, hb, rfl, e2⟩ := isNm_t hQ z'
    rw [e1, e2]
    obtain ⟨p1, p2⟩ := posO_lt hQ hb
    have loop : ∀ d j, posO (qO Q) b (qN Q) - j = d → j ≤ posO (qO Q) b (qN Q) → xE mX10_order 32 [(0, .ref 172), (1, .int (nI a)), (2, .int (nI b)), (3, .int (nI j))] [] (xmm u) (pK u (some (.int (xb ((true, ((qN Q, qP Q, qK Q, qOf Q, qL Q, qM Q, qV Q, swpO (qO Q) (qN Q) a b) : QST)).1 = true)))) (true, ((qN Q, qP Q, qK Q, qOf Q, qL Q, qM Q, qV Q, swpO (qO Q) (qN Q) a b) : QST)).2) := by
      intro d
      induction d with
      | zero =>
        intro j hd hj
        have hjp : j = posO (qO Q) b (qN Q) := by omega
        refine gX10_order_32 u (qN Q) (qP Q) a b j (qO Q j) (qO Q a) hn6 hQ.2.1 ha hb (by omega) (hQ.2.2.2.2.2.1 _ ha) (hQ.2.2.2.2.2.1 _ (by omega)) h.1 h.2.1 (h.2.2.1 _ (by omega)) (h.2.2.1 _ ha) (fun y => ?_) (fun y => absurd (by rw [hjp]; exact p2) y)
        refine ⟨_, rfl, ret_t rfl, ⟨?_, ?_, fun i hi => ?_, fun p hp => (h.2.2.2 p hp).keep (fun x a b => by rw [wi_row (by omega), wi_row (by omega)])⟩, fun x x1 x2 => ?_, fun k k1 k2 => ?_, rfl⟩
        · rw [wi_ne (by decide), wi_ne (by decide)]; exact h.1
        · rw [wi_ne (by decide), wi_ne (by decide)]; exact h.2.1
        · show _ = nI (swpO (qO Q) (qN Q) a b i)
          rw [swpO_at]
          by_cases i1 : i = a
          · subst i1
            rw [if_pos rfl, wi_self]
          · rw [if_neg i1, wi_nek i1]
            by_cases i2 : i = posO (qO Q) b (qN Q)
            · rw [if_pos i2, i2, ← hjp, wi_self]
            · rw [if_neg i2, wi_nek (by omega)]
              exact h.2.2.1 i hi
        · rw [wi_row (by omega), wi_row (by omega)]
        · rw [wi_ne (by decide), wi_ne (by decide)]
      | succ d ih =>
        intro j hd hj
        refine gX10_order_32 u (qN Q) (qP Q) a b j (qO Q j) (qO Q a) hn6 hQ.2.1 ha hb (by omega) (hQ.2.2.2.2.2.1 _ ha) (hQ.2.2.2.2.2.1 _ (by omega)) h.1 h.2.1 (h.2.2.1 _ (by omega)) (h.2.2.1 _ ha) (fun y => ?_) (fun _ => ih (j + 1) (by omega) (by omega))
        have := posO_uniq hQ (j := j) (by omega) y
        omega
    exact loop _ 0 rfl (Nat.zero_le _)
  · have h0 : qN Q = 0 := by omega
    exact xC.of xpl10 (Nat.le_of_ble_eq_true rfl) (gX10_order_z u i k (h.1.trans (by rw [h0]; rfl)) (fun _ => no (fun y => isNm_z h0 y.1)) (fun z => (lie_z z).elim) (fun z => (lie_z z).elim))

