/-- a set that is met along an order whose first names are not too many -/
def rch (T : TBL) (Q : QST) (S : Nat) : Prop := ∃ (o : Nat → Nat) (h : Nat), (∀ i, i < h → o i < qN Q) ∧ (∀ i j, i < h → j < h → o i = o j → i = j) ∧ psO o h = S ∧ ∀ i, i ≤ h → cntS T Q (psO o i) ≠ none
def rm (S k : Nat) : Nat := if S.testBit k = true then S - 2 ^ k else S
def pcS (S : Nat) : Nat := S % 2 + S / 2 % 2 + S / 4 % 2 + S / 8 % 2
theorem rmI : ∀ S, S < 16 → ∀ k, k < 4 → (nI S &&& ((1 <<< (nI k &&& 31)) ^^^ (-1))) = nI (rm S k) := by decide +kernel
theorem rm_t : ∀ S, S < 16 → ∀ k, k < 4 → S.testBit k = true → rm S k < S ∧ rm S k ||| 2 ^ k = S ∧ (rm S k).testBit k = false ∧ pcS (rm S k) + 1 = pcS S := by decide +kernel
theorem rm_f : ∀ S, S < 16 → ∀ k, k < 4 → S.testBit k = false → rm S k = S ∧ rm (S ||| 2 ^ k) k = S := by decide +kernel
theorem pc_z : ∀ S, S < 16 → pcS S = 0 → S = 0 := by decide +kernel
theorem pc_4 : ∀ S, S < 16 → pcS S ≤ 4 := by decide +kernel
theorem pc_1 : ∀ S, S < 16 → S ≠ 0 → 1 ≤ pcS S := by decide +kernel
theorem rch_cnt {T : TBL} {Q : QST} {S : Nat} (h : rch T Q S) : cntS T Q S ≠ none := by
  obtain ⟨o, n, h1, h2, h3, h4⟩ := h
  rw [← h3]
  exact h4 n (Nat.le_refl _)
theorem cnt0 {T : TBL} {Q : QST} (hQ : QI T Q) : ∃ k, k ≤ 500 ∧ cntS T Q 0 = some k ∧ xb (bP (nlH T Q (qP Q)) = true) = nI k := by
  by_cases hz : nlH T Q (qP Q)
  · have e1 : xb (bP (nlH T Q (qP Q)) = true) = nI 1 := xb_t (bP_iff.mpr hz)
    have hm : ∀ a : Nat → Int32, a ∈ [fun _ : Nat => (0 : Int32)] ↔ MEM T Q 0 a := fun a => by
      rw [List.mem_singleton]
      exact ⟨fun q => (MEM_zero hQ).mpr ⟨q, hz⟩, fun q => ((MEM_zero hQ).mp q).1⟩
    exact ⟨1, by decide, cntS_of ⟨by decide, _, List.nodup_cons.mpr ⟨List.not_mem_nil, List.nodup_nil⟩, hm, rfl⟩, e1⟩
  · have e1 : xb (bP (nlH T Q (qP Q)) = true) = nI 0 := xb_f (fun q => hz (bP_iff.mp q))
    have hm : ∀ a : Nat → Int32, a ∈ ([] : List (Nat → Int32)) ↔ MEM T Q 0 a := fun a => ⟨fun q => (by cases q), fun q => absurd ((MEM_zero hQ).mp q).2 hz⟩
    exact ⟨0, by decide, cntS_of ⟨by decide, _, List.nodup_nil, hm, rfl⟩, e1⟩
theorem rch_0 {T : TBL} {Q : QST} (hQ : QI T Q) : rch T Q 0 := ⟨fun _ => 0, 0, fun i hi => absurd hi (Nat.not_lt_zero i), fun i j hi => absurd hi (Nat.not_lt_zero i), rfl, fun i hi => by
  obtain ⟨k, -, h, -⟩ := cnt0 hQ
  have : i = 0 := by omega
  subst this
  rw [psO, h]
  simp⟩
theorem rch_ext {T : TBL} {Q : QST} {R k : Nat} (h : rch T Q R) (hk : k < qN Q) (hR : ¬ R.testBit k = true) (hc : cntS T Q (R ||| 2 ^ k) ≠ none) : rch T Q (R ||| 2 ^ k) := by
  obtain ⟨o, n, h1, h2, h3, h4⟩ := h
  have ec : ∀ i, i ≤ n → psO (setT o n k) i = psO o i := fun i hi => psO_congr (fun j hj => setT_ne (by omega))
  have no : ∀ j, j < n → o j ≠ k := fun j hj e => hR (by rw [← h3]; exact psO_bit.mpr ⟨j, hj, e⟩)
  refine ⟨setT o n k, n + 1, fun i hi => ?_, fun i j hi hj e => ?_, ?_, fun i hi => ?_⟩
  · by_cases e : i = n
    · subst e; rw [setT_at]; exact hk
    · rw [setT_ne e]; exact h1 i (by omega)
  · by_cases e1 : i = n
    · by_cases e2 : j = n
      · omega
      · rw [e1, setT_at, setT_ne e2] at e
        exact absurd e.symm (no j (by omega))
    · by_cases e2 : j = n
      · rw [e2, setT_at, setT_ne e1] at e
        exact absurd e (no i (by omega))
      · rw [setT_ne e1, setT_ne e2] at e
        exact h2 i j (by omega) (by omega) e
  · rw [psO, ec n (Nat.le_refl _), h3, setT_at]
  · by_cases e : i = n + 1
    · subst e
      rw [psO, ec n (Nat.le_refl _), h3, setT_at]
      exact hc
    · rw [ec i (by omega)]
      exact h4 i (by omega)
theorem rch_sub {T : TBL} {Q : QST} {S : Nat} (hn : qN Q ≤ 4) (h : rch T Q S) (h0 : S ≠ 0) : ∃ k, k < qN Q ∧ S.testBit k = true ∧ rch T Q (rm S k) := by
  obtain ⟨o, n, h1, h2, h3, h4⟩ := h
  cases n with
  | zero => exact absurd h3.symm h0
  | succ n =>
    have hk := h1 n (by omega)
    have hR : (psO o n).testBit (o n) = false := by
      cases hb : (psO o n).testBit (o n)
      · rfl
      · obtain ⟨j, j1, j2⟩ := psO_bit.mp hb
        have := h2 j n (by omega) (by omega) j2
        omega
    have hlt : psO o n < 16 := psO_lt (b := 4) (fun j hj => by have := h1 j (by omega); omega)
    refine ⟨o n, hk, by rw [← h3]; exact psO_bit.mpr ⟨n, by omega, rfl⟩, ?_⟩
    rw [← h3, psO, (rm_f _ hlt _ (by omega) hR).2]
    exact ⟨o, n, fun i hi => h1 i (by omega), fun i j hi hj => h2 i j (by omega) (by omega), rfl, fun i hi => h4 i (by omega)⟩
/-- what the weaver knows of the sets below m -/
def SMT (T : TBL) (Q : QST) (m : Nat) (u : xU) : Prop := ∀ S, S < m → (u.1 153 S = -2 ∧ ¬ rch T Q S) ∨ ∃ k, k ≤ 500 ∧ cntS T Q S = some k ∧ u.1 153 S = nI k ∧ rch T Q S
def LOF (T : TBL) (Q : QST) (m : Nat) (u : xU) : Prop := ∀ S, 0 < S → S < m → rch T Q S → ∃ k, k < qN Q ∧ S.testBit k = true ∧ u.1 154 S = nI k ∧ rch T Q (rm S k)
theorem SMT.no {T : TBL} {Q : QST} {m S : Nat} {u : xU} (h : SMT T Q m u) (hS : S < m) : u.1 153 S = -2 ↔ ¬ rch T Q S := by
  rcases h S hS with ⟨a, b⟩ | ⟨k, k1, k2, k3, k4⟩
  · exact ⟨fun _ => b, fun _ => a⟩
  · exact ⟨fun z => absurd (k3.symm.trans z) (nIm2 (by omega)), fun z => absurd k4 z⟩
theorem qX7_lastNameFor {u : xU} {T : TBL} {Q : QST} (h : CQ T Q u) (hn : qN Q ≤ 4) {S : Nat} (hS : S < 16) (hs : SMT T Q S u) : xC mX7_lastNameFor [.ref 74, .ref 3, .int (nI S)] (xmm u) (fun r μ' => ((∃ k, k < qN Q ∧ S.testBit k = true ∧ rch T Q (rm S k) ∧ r = some (.int (nI k))) ∨ (r = some (.int (-1)) ∧ ∀ k, k < qN Q → S.testBit k = true → ¬ rch T Q (rm S k))) ∧ μ' = xmm u) := by
  refine xC.of xpl7 (Nat.le_of_ble_eq_true rfl) (gX7_lastNameFor_0 u S ?_)
  have loop : ∀ d k, qN Q - k = d → k ≤ qN Q → (∀ j, j < k → S.testBit j = true → ¬ rch T Q (rm S j)) → xE mX7_lastNameFor 2 [(0, .ref 74), (1, .ref 3), (2, .int (nI S)), (3, .int (nI k))] [] (xmm u) (fun r μ' => ((∃ k, k < qN Q ∧ S.testBit k = true ∧ rch T Q (rm S k) ∧ r = some (.int (nI k))) ∨ (r = some (.int (-1)) ∧ ∀ k, k < qN Q → S.testBit k = true → ¬ rch T Q (rm S k))) ∧ μ' = xmm u) := by
    intro d
    induction d with
    | zero =>
      intro k hd hk hj
      exact gX7_lastNameFor_2 u S k (qN Q) hn hk h.1 (fun _ => ⟨Or.inr ⟨rfl, fun j hjn => hj j (by omega)⟩, rfl⟩) (fun z => absurd (by omega) z)
    | succ d ih =>
      intro k hd hk hj
      have hkl : k < qN Q := by omega
      have nx : (S.testBit k = true → ¬ rch T Q (rm S k)) → xE mX7_lastNameFor 2 [(0, .ref 74), (1, .ref 3), (2, .int (nI S)), (3, .int (nI (k + 1)))] [] (xmm u) (fun r μ' => ((∃ k, k < qN Q ∧ S.testBit k = true ∧ rch T Q (rm S k) ∧ r = some (.int (nI k))) ∨ (r = some (.int (-1)) ∧ ∀ k, k < qN Q → S.testBit k = true → ¬ rch T Q (rm S k))) ∧ μ' = xmm u) := fun z => ih (k + 1) (by omega) hkl (fun j hjl => by
        by_cases e : j = k
        · subst e; exact z
        · exact hj j (by omega))
      refine gX7_lastNameFor_2 u S k (qN Q) hn hk h.1 (fun z => absurd hkl (by omega)) (fun _ => ?_)
      rw [rmI S hS k (by omega)]
      cases hb : S.testBit k with
      | false =>
        have e := (rm_f S hS k (by omega) hb).1
        exact gX7_lastNameFor_19 u S k (rm S k) _ hS (by omega) (by omega) rfl (fun _ => nx (fun z => by rw [hb] at z; cases z)) (fun z => absurd e z) (fun z => absurd e z)
      | true =>
        have e := (rm_t S hS k (by omega) hb).1
        refine gX7_lastNameFor_19 u S k (rm S k) _ hS (by omega) (by omega) rfl (fun z => by omega) (fun _ z => nx (fun _ => (hs.no e).mp z)) (fun _ z => ⟨Or.inl ⟨k, hkl, hb, Classical.byContradiction fun q => z ((hs.no e).mpr q), rfl⟩, rfl⟩)
  exact loop _ 0 rfl (Nat.zero_le _) (fun j hj => absurd hj (Nat.not_lt_zero j))
theorem bcI : ∀ S, S < 16 → ∀ u : xU, True := fun _ _ _ => True.intro
theorem qX7_lineUp {u : xU} {T : TBL} {Q : QST} (hn : qN Q ≤ 4) {S k0 : Nat} (hS : S < 16) (hbc : xC mJ6_bitCount_0f7a4 [.int (nI S)] (xmm u) (fun r μ' => r = some (.int (nI (pcS S))) ∧ μ' = xmm u)) (hl : LOF T Q S u) (hk0 : k0 < qN Q) (hb0 : S.testBit k0 = true) (e0 : u.1 154 S = nI k0) (r0 : rch T Q (rm S k0)) : xC mX7_lineUp [.ref 74, .int (nI S)] (xmm u) (fun r μ' => ∃ (u' : xU) (o : Nat → Nat), μ' = xmm u' ∧ r = some (.int (nI (pcS S))) ∧ (∀ x, x ≠ 155 → u'.1 x = u.1 x) ∧ u'.2 = u.2 ∧ (∀ i, i < pcS S → u'.1 155 i = nI (o i)) ∧ (∀ i, i < pcS S → o i < qN Q) ∧ (∀ i j, i < pcS S → j < pcS S → o i = o j → i = j) ∧ psO o (pcS S) = S ∧ ∀ i, i < pcS S → cntS T Q (psO o i) ≠ none) := by
  have hS0 : S ≠ 0 := fun z => by rw [z] at hb0; simp at hb0
  have hp1 := pc_1 S hS hS0
  have hp4 := pc_4 S hS
  refine xC.of xpl7 (Nat.le_of_ble_eq_true rfl) (gX7_lineUp_0 u S (pcS S) hp1 hbc ?_)
  have loop : ∀ i (R k : Nat) (v : xU) (P : Option Value → xM → Prop), pcS R = i + 1 → R ≤ S → k < qN Q → R.testBit k = true → v.1 154 R = nI k → rch T Q (rm R k) → (∀ x, x ≠ 155 → v.1 x = u.1 x) → v.2 = u.2 →
      (∀ (w : xU) (o : Nat → Nat), (∀ x, x ≠ 155 → w.1 x = u.1 x) → w.2 = u.2 → (∀ j, j ≤ i → w.1 155 j = nI (o j)) → (∀ j, i < j → w.1 155 j = v.1 155 j) → (∀ j, j ≤ i → o j < qN Q) → (∀ j j', j ≤ i → j' ≤ i → o j = o j' → j = j') → psO o (i + 1) = R → (∀ j, j ≤ i → cntS T Q (psO o j) ≠ none) → P (some (.int (nI (pcS S)))) (xmm w)) →
      xE mX7_lineUp 12 [(0, .ref 74), (2, .int (nI (pcS S))), (3, .int (nI R)), (4, .int (nI i))] [] (xmm v) P := by
    intro i
    induction i with
    | zero =>
      intro R k v P hp hR hk hb ek rk f1 f2 K
      have hR16 : R < 16 := by omega
      obtain ⟨q1, q2, q3, q4⟩ := rm_t R hR16 k (by omega) hb
      have z0 := pc_z (rm R k) (by omega) (by omega)
      refine gX7_lineUp_12 v (pcS S) R 0 k (by decide) hR16 (by omega) ek ?_
      rw [rmI R hR16 k (by omega)]
      refine gX7_lineUp_z _ (pcS S) (rm R k) (gX7_lineUp_e _ (pcS S) (rm R k) ?_)
      refine K _ (fun _ => k) (fun x hx => by rw [wi_row hx]; exact f1 x hx) f2 (fun j hj => ?_) (fun j hj => wi_nek (by omega)) (fun _ _ => hk) (fun j j' h1 h2 _ => by omega) ?_ (fun j hj => ?_)
      · have : j = 0 := by omega
        subst this
        exact wi_self
      · rw [psO, psO, ← z0]
        exact q2
      · have : j = 0 := by omega
        subst this
        rw [psO, ← z0]
        exact rch_cnt rk
    | succ i ih =>
      intro R k v P hp hR hk hb ek rk f1 f2 K
      have hR16 : R < 16 := by omega
      have hi4 : i + 1 < 4 := by have := pc_4 R hR16; omega
      obtain ⟨q1, q2, q3, q4⟩ := rm_t R hR16 k (by omega) hb
      have hpr : pcS (rm R k) = i + 1 := by omega
      have hr0 : 0 < rm R k := by
        refine Nat.pos_of_ne_zero (fun z => ?_)
        rw [z] at hpr
        have : pcS 0 = 0 := by decide
        omega
      obtain ⟨k', k1, k2, k3, k4⟩ := hl (rm R k) hr0 (by omega) rk
      refine gX7_lineUp_12 v (pcS S) R (i + 1) k hi4 hR16 (by omega) ek ?_
      rw [rmI R hR16 k (by omega)]
      refine gX7_lineUp_43 _ (pcS S) (rm R k) (i + 1) (by omega) ?_
      rw [show i + 1 - 1 = i by omega]
      refine ih (rm R k) k' _ P hpr (by omega) k1 k2 (by rw [wi_ne (by decide), f1 154 (by decide)]; exact k3) k4 (fun x hx => by rw [wi_row hx]; exact f1 x hx) f2 (fun w o w1 w2 w3 w4 w5 w6 w7 w8 => ?_)
      have ec : ∀ j, j ≤ i + 1 → psO (setT o (i + 1) k) j = psO o j := fun j hj => psO_congr (fun x hx => setT_ne (by omega))
      have no : ∀ j, j ≤ i → o j ≠ k := fun j hj e => by
        have := psO_bit (o := o) (n := k) (i := i + 1) |>.mpr ⟨j, by omega, e⟩
        rw [w7, q3] at this
        cases this
      refine K w (setT o (i + 1) k) w1 w2 (fun j hj => ?_) (fun j hj => ?_) (fun j hj => ?_) (fun j j' h1 h2 e => ?_) ?_ (fun j hj => ?_)
      · by_cases e : j = i + 1
        · subst e
          rw [setT_at, w4 _ (by omega), wi_self]
        · rw [setT_ne e]
          exact w3 j (by omega)
      · rw [w4 j (by omega), wi_nek (by omega)]
      · by_cases e : j = i + 1
        · subst e; rw [setT_at]; exact hk
        · rw [setT_ne e]; exact w5 j (by omega)
      · by_cases e1 : j = i + 1
        · by_cases e2 : j' = i + 1
          · omega
          · rw [e1, setT_at, setT_ne e2] at e
            exact absurd e.symm (no j' (by omega))
        · by_cases e2 : j' = i + 1
          · rw [e2, setT_at, setT_ne e1] at e
            exact absurd e (no j (by omega))
          · rw [setT_ne e1, setT_ne e2] at e
            exact w6 j j' (by omega) (by omega) e
      · rw [psO, ec _ (Nat.le_refl _), w7, setT_at]
        exact q2
      · by_cases e : j = i + 1
        · subst e
          rw [ec _ (Nat.le_refl _), w7]
          exact rch_cnt rk
        · rw [ec j (by omega)]
          exact w8 j (by omega)
  obtain ⟨p', hp'⟩ : ∃ p', pcS S = p' + 1 := ⟨pcS S - 1, by omega⟩
  rw [show pcS S - 1 = p' by omega]
  refine loop p' S k0 u _ hp' (Nat.le_refl _) hk0 hb0 e0 r0 (fun _ _ => rfl) rfl (fun w o w1 w2 w3 w4 w5 w6 w7 w8 => ?_)
  exact ⟨w, o, rfl, rfl, w1, w2, fun i hi => w3 i (by omega), fun i hi => w5 i (by omega), fun i j hi hj => w6 i j (by omega) (by omega), by rw [hp']; exact w7, fun i hi => w8 i (by omega)⟩

