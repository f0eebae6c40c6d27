/-- the model's values now -/
def ATV (a : Nat → Int32) (u : xU) : Prop := ∀ j, j < 6 → u.1 190 j = a j
def bsI (S : Nat) (k : Int32) : Bool := decide (((nI S >>> (k &&& 31)) &&& 1) = 1)
theorem bsI_k {S k : Nat} (hS : S < 64) (hk : k < 6) : bsI S (nI k) = true ↔ S.testBit k = true := by
  unfold bsI
  rw [decide_eq_true_eq, bitI S hS k hk]
  cases S.testBit k
  · exact ⟨fun z => absurd z (by decide), fun z => by cases z⟩
  · exact ⟨fun _ => rfl, fun _ => rfl⟩
theorem qX10_isSet (u : xU) (S : Nat) (k : Int32) : xC mX10_isSet [.ref 172, .int (nI S), .int k] (xmm u) (fun r μ' => r = some (.int (xb (bsI S k = true))) ∧ μ' = xmm u) := xC.of xpl10 (Nat.le_of_ble_eq_true rfl) (gX10_isSet_0 u S k (fun z => ⟨ret_f (fun q => z (of_decide_eq_true q)), rfl⟩) (fun z => ⟨ret_t (decide_eq_true z), rfl⟩))
/-- what a part's name at a place says of a set -/
theorem nm_set {T : TBL} {Q : QST} (hQ : QI T Q) {p i S : Nat} (hS : S < 64) (hp : p < qP Q) (hi : i < qL Q p) (hx : ¬ nmI (qM Q p i) = -1) : ∃ n, qM Q p i = some n ∧ n < 6 ∧ (bsI S (nmI (qM Q p i)) = true ↔ S.testBit n = true) := by
  cases hm : qM Q p i with
  | none => rw [hm] at hx; exact absurd rfl hx
  | some n =>
    have := qM_lt hQ hp hi hm
    have := hQ.1
    exact ⟨n, rfl, by omega, bsI_k hS (by omega)⟩
theorem qX10_isWhole {u : xU} {T : TBL} {Q : QST} (hT : TI T) (hQ : QI T Q) (h : KQ Q u) {p S : Nat} (hS : S < 64) (hp : p < qP Q) : xC mX10_isWhole [.ref 172, .int (nI p), .int (nI S)] (xmm u) (fun r μ' => r = some (.int (xb (bP (whl Q p S) = true))) ∧ μ' = xmm u) := by
  have hp10 := hQ.2.1
  have c := h.2.2.2 p hp
  have hl := qL_3 hT hQ hp
  refine xC.of xpl10 (Nat.le_of_ble_eq_true rfl) (gX10_isWhole_0 u p S ?_)
  have loop : ∀ d i, qL Q p - i = d → i ≤ qL Q p → (∀ j, j < i → ∀ n, qM Q p j = some n → S.testBit n = true) → xE mX10_isWhole 2 [(0, .ref 172), (1, .int (nI p)), (2, .int (nI S)), (3, .int (nI i))] [] (xmm u) (fun r μ' => r = some (.int (xb (bP (whl Q p S) = true))) ∧ μ' = xmm u) := by
    intro d
    induction d with
    | zero =>
      intro i hd hi hj
      exact gX10_isWhole_e u p (qL Q p) i S (by omega) hl (by omega) c.2.2.1 (fun _ => ⟨ret_t (bP_iff.mpr (fun j hjl => hj j (by omega))), rfl⟩) (fun z => absurd (by omega) z) (fun z => absurd (by omega) z)
    | succ d ih =>
      intro i hd hi hj
      have hil : i < qL Q p := by omega
      have nx : (∀ n, qM Q p i = some n → S.testBit n = true) → xE mX10_isWhole 2 [(0, .ref 172), (1, .int (nI p)), (2, .int (nI S)), (3, .int (nI (i + 1)))] [] (xmm u) (fun r μ' => r = some (.int (xb (bP (whl Q p S) = true))) ∧ μ' = xmm u) := fun z => ih (i + 1) (by omega) hil (fun j hjl => by
        by_cases e : j = i
        · subst e; exact z
        · exact hj j (by omega))
      refine gX10_isWhole_2 u p (qL Q p) i S (nmI (qM Q p i)) _ (by omega) hl hil (qX10_isSet u S _) c.2.2.1 (c.2.2.2 i hil).1 (fun z => absurd hil (by omega)) (fun _ z => nx (fun n hn => ?_)) (fun _ z y => nx (fun n hn => ?_)) (fun _ z y => ⟨ret_f (fun x => ?_), rfl⟩)
      · rw [(nmI_none (qM_b hQ hp hil)).mp z] at hn
        cases hn
      · obtain ⟨n', e1, _, e3⟩ := nm_set hQ hS hp hil z
        rw [e1] at hn
        cases hn
        exact e3.mp y
      · obtain ⟨n', e1, _, e3⟩ := nm_set hQ hS hp hil z
        exact y (e3.mpr (bP_iff.mp x i hil n' e1))
  exact loop _ 0 rfl (Nat.zero_le _) (fun j hj => absurd hj (Nat.not_lt_zero j))
theorem qX10_touches {u : xU} {T : TBL} {Q : QST} (hT : TI T) (hQ : QI T Q) (h : KQ Q u) {p S : Nat} (hS : S < 64) (hp : p < qP Q) : xC mX10_touches [.ref 172, .int (nI p), .int (nI S)] (xmm u) (fun r μ' => r = some (.int (xb (bP (tch Q p S) = true))) ∧ μ' = xmm u) := by
  have hp10 := hQ.2.1
  have c := h.2.2.2 p hp
  have hl := qL_3 hT hQ hp
  refine xC.of xpl10 (Nat.le_of_ble_eq_true rfl) (gX10_touches_0 u p S ?_)
  have loop : ∀ d i, qL Q p - i = d → i ≤ qL Q p → (∀ j, j < i → ∀ n, qM Q p j = some n → ¬ S.testBit n = true) → xE mX10_touches 2 [(0, .ref 172), (1, .int (nI p)), (2, .int (nI S)), (3, .int (nI i))] [] (xmm u) (fun r μ' => r = some (.int (xb (bP (tch Q p S) = true))) ∧ μ' = xmm u) := by
    intro d
    induction d with
    | zero =>
      intro i hd hi hj
      exact gX10_touches_e u p (qL Q p) i S (by omega) hl (by omega) c.2.2.1 (fun _ => ⟨ret_f (fun q => by
        obtain ⟨j, j1, n, j2, j3⟩ := bP_iff.mp q
        exact hj j (by omega) n j2 j3), rfl⟩) (fun z => absurd (by omega) z) (fun z => absurd (by omega) z)
    | succ d ih =>
      intro i hd hi hj
      have hil : i < qL Q p := by omega
      have nx : (∀ n, qM Q p i = some n → ¬ S.testBit n = true) → xE mX10_touches 2 [(0, .ref 172), (1, .int (nI p)), (2, .int (nI S)), (3, .int (nI (i + 1)))] [] (xmm u) (fun r μ' => r = some (.int (xb (bP (tch Q p S) = true))) ∧ μ' = xmm u) := fun z => ih (i + 1) (by omega) hil (fun j hjl => by
        by_cases e : j = i
        · subst e; exact z
        · exact hj j (by omega))
      refine gX10_touches_2 u p (qL Q p) i S (nmI (qM Q p i)) _ (by omega) hl hil (qX10_isSet u S _) c.2.2.1 (c.2.2.2 i hil).1 (fun z => absurd hil (by omega)) (fun _ z => nx (fun n hn => ?_)) (fun _ z y => nx (fun n hn => ?_)) (fun _ z y => ⟨ret_t (bP_iff.mpr ?_), rfl⟩)
      · rw [(nmI_none (qM_b hQ hp hil)).mp z] at hn
        cases hn
      · obtain ⟨n', e1, _, e3⟩ := nm_set hQ hS hp hil z
        rw [e1] at hn
        cases hn
        exact fun x => y (e3.mpr x)
      · obtain ⟨n', e1, _, e3⟩ := nm_set hQ hS hp hil z
        exact ⟨i, hil, n', e1, e3.mp y⟩
  exact loop _ 0 rfl (Nat.zero_le _) (fun j hj => absurd hj (Nat.not_lt_zero j))
theorem qX10_told {u : xU} {T : TBL} {Q : QST} (hT : TI T) (hQ : QI T Q) (h : KQ Q u) {a : Nat → Int32} (ha : ATV a u) {p i : Nat} (hp : p < qP Q) (hi : i < qL Q p) : xC mX10_told [.ref 172, .int (nI p), .int (nI i)] (xmm u) (fun r μ' => r = some (.int (tld Q a p i)) ∧ μ' = xmm u) := by
  have hp10 := hQ.2.1
  have hn6 := hQ.1
  have c := (h.2.2.2 p hp).2.2.2 i hi
  have hl := qL_3 hT hQ hp
  cases hm : qM Q p i with
  | none =>
    rw [hm] at c
    refine xC.of xpl10 (Nat.le_of_ble_eq_true rfl) (gX10_told_n u p i _ (by omega) (by omega) c.1 (c.2 rfl) ⟨?_, rfl⟩)
    unfold tld
    rw [hm]
  | some n =>
    have hn := qM_lt hQ hp hi hm
    rw [hm] at c
    refine xC.of xpl10 (Nat.le_of_ble_eq_true rfl) (gX10_told_s u p i n _ (by omega) (by omega) (by omega) c.1 (ha n (by omega)) (fun _ => ⟨?_, rfl⟩) (fun z => absurd z (nIm1 (by omega))))
    unfold tld
    rw [hm]
/-- a row at one place -/
def rwI (T : TBL) (Q : QST) (p S : Nat) (a : Nat → Int32) (r i : Nat) : Prop := (qM Q p i = none → cel T Q p r i = qV Q p i) ∧ (∀ n, qM Q p i = some n → S.testBit n = true → cel T Q p r i = a n) ∧ ∀ n, qM Q p i = some n → ∀ k, k < i → qM Q p k = some n → cel T Q p r k = cel T Q p r i
theorem agR_rwI {T : TBL} {Q : QST} {p S r : Nat} {a : Nat → Int32} : agR T Q p S a r ↔ ∀ i, i < qL Q p → rwI T Q p S a r i := ⟨fun z i hi => ⟨(z.1 i hi).1, z.2 i hi, (z.1 i hi).2⟩, fun z => ⟨fun i hi => ⟨(z i hi).1, (z i hi).2.2⟩, fun i hi => (z i hi).2.1⟩⟩
theorem qX10_agrees {u : xU} {T : TBL} {Q : QST} (hT : TI T) (hQ : QI T Q) (hC : MT T u) (h : KQ Q u) {a : Nat → Int32} (ha : ATV a u) {p r S : Nat} (hS : S < 64) (hp : p < qP Q) (hk1 : qK Q p ≤ 1) (hr : r < rwN T Q p) : xC mX10_agrees [.ref 172, .int (nI p), .int (nI r), .int (nI S)] (xmm u) (fun r' μ' => r' = some (.int (xb (bP (agR T Q p S a r) = true))) ∧ μ' = xmm u) := by
  have hp10 := hQ.2.1
  have c := h.2.2.2 p hp
  have hl := qL_3 hT hQ hp
  obtain ⟨o1, o2, o3⟩ := (hQ.2.2.2.2.1 p hp).2.1 hk1
  obtain ⟨t1, t2, -⟩ := hT _ o1
  have hr40 : r < 40 := Nat.lt_of_lt_of_le hr t2
  have hcell : ∀ i, i < qL Q p → xC mX10_cell [.ref 172, .int (nI (qOf Q p)), .int (nI r), .int (nI i)] (xmm u) (fun r' μ' => r' = some (.int (cel T Q p r i)) ∧ μ' = xmm u) := fun i hi => qX10_cellV u _ r i _ o1 hr40 (by omega) ((hC _ o1).2.2 r i hr (by omega))
  refine xC.of xpl10 (Nat.le_of_ble_eq_true rfl) (gX10_agrees_0 u p r S ?_)
  have inner : ∀ d i k, i < qL Q p → i - k = d → k ≤ i → (∀ n, qM Q p i = some n → ∀ j, j < k → qM Q p j = some n → cel T Q p r j = cel T Q p r i) →
      ((∀ n, qM Q p i = some n → ∀ j, j < i → qM Q p j = some n → cel T Q p r j = cel T Q p r i) → xE mX10_agrees 3 [(0, .ref 172), (1, .int (nI p)), (2, .int (nI r)), (3, .int (nI S)), (4, .int (nI (i + 1)))] [] (xmm u) (fun r' μ' => r' = some (.int (xb (bP (agR T Q p S a r) = true))) ∧ μ' = xmm u)) →
      xE mX10_agrees 75 [(0, .ref 172), (1, .int (nI p)), (2, .int (nI r)), (3, .int (nI S)), (4, .int (nI i)), (5, .int (nmI (qM Q p i))), (6, .int (cel T Q p r i)), (7, .int (nI k))] [] (xmm u) (fun r' μ' => r' = some (.int (xb (bP (agR T Q p S a r) = true))) ∧ μ' = xmm u) := by
    intro d
    induction d with
    | zero =>
      intro i k hi hd hk hj nx
      have e : k = i := by omega
      exact gX10_agrees_f u p r S i k _ _ (by omega) e (fun _ => nx (by rw [← e]; rw [← e] at hj; exact hj)) (fun z => absurd (by omega) z) (fun z => absurd (by omega) z) (fun z => absurd (by omega) z)
    | succ d ih =>
      intro i k hi hd hk hj nx
      have hki : k < i := by omega
      have go : (∀ n, qM Q p i = some n → qM Q p k = some n → cel T Q p r k = cel T Q p r i) → xE mX10_agrees 75 [(0, .ref 172), (1, .int (nI p)), (2, .int (nI r)), (3, .int (nI S)), (4, .int (nI i)), (5, .int (nmI (qM Q p i))), (6, .int (cel T Q p r i)), (7, .int (nI (k + 1)))] [] (xmm u) (fun r' μ' => r' = some (.int (xb (bP (agR T Q p S a r) = true))) ∧ μ' = xmm u) := fun z => ih i (k + 1) hi (by omega) hki (fun n hn j hjk hjn => by
        by_cases e : j = k
        · subst e; exact z n hn hjn
        · exact hj n hn j (by omega) hjn) nx
      refine gX10_agrees_75 u p r S i k (qOf Q p) (nmI (qM Q p i)) _ (nmI (qM Q p k)) _ (by omega) (by omega) hki o1 (hcell k (by omega)) (c.2.2.2 k (by omega)).1 (c.2.1 hk1) (fun z => absurd hki (by omega)) (fun _ z => go (fun n hn => ?_)) (fun _ _ z => go (fun n hn hn2 => absurd (by rw [hn, hn2]) z)) (fun _ _ _ z => go (fun _ _ _ => z)) (fun _ z y x => ⟨ret_f (fun q => x ?_), rfl⟩)
      · rw [(nmI_none (qM_b hQ hp hi)).mp z] at hn
        cases hn
      · have q2 := (agR_rwI.mp (bP_iff.mp q) i hi).2.2
        cases hm : qM Q p i with
        | none => rw [hm] at z; exact absurd rfl z
        | some n =>
          have hn := qM_b hQ hp hi n hm
          rw [hm] at y
          exact q2 n hm k hki ((nmI_some (qM_b hQ hp (by omega)) hn).mp y)
  have loop : ∀ d i, qL Q p - i = d → i ≤ qL Q p → (∀ j, j < i → rwI T Q p S a r j) → xE mX10_agrees 3 [(0, .ref 172), (1, .int (nI p)), (2, .int (nI r)), (3, .int (nI S)), (4, .int (nI i))] [] (xmm u) (fun r' μ' => r' = some (.int (xb (bP (agR T Q p S a r) = true))) ∧ μ' = xmm u) := by
    intro d
    induction d with
    | zero =>
      intro i hd hi hj
      exact gX10_agrees_e u p r S i (qL Q p) (by omega) hl (by omega) c.2.2.1 (fun _ => ⟨ret_t (bP_iff.mpr (agR_rwI.mpr (fun j hjl => hj j (by omega)))), rfl⟩) (fun z => absurd (by omega) z)
    | succ d ih =>
      intro i hd hi hj
      have hil : i < qL Q p := by omega
      have nx : (qM Q p i = none → cel T Q p r i = qV Q p i) → (∀ n, qM Q p i = some n → S.testBit n = true → cel T Q p r i = a n) → xE mX10_agrees 75 [(0, .ref 172), (1, .int (nI p)), (2, .int (nI r)), (3, .int (nI S)), (4, .int (nI i)), (5, .int (nmI (qM Q p i))), (6, .int (cel T Q p r i)), (7, .int (nI 0))] [] (xmm u) (fun r' μ' => r' = some (.int (xb (bP (agR T Q p S a r) = true))) ∧ μ' = xmm u) := fun z1 z2 => inner _ i 0 hil rfl (Nat.zero_le _) (fun _ _ j hj0 => absurd hj0 (Nat.not_lt_zero j)) (fun z3 => ih (i + 1) (by omega) hil (fun j hjl => by
        by_cases e : j = i
        · subst e; exact ⟨z1, z2, z3⟩
        · exact hj j (by omega)))
      have tn : qM Q p i = none → tld Q a p i = qV Q p i := fun z => by unfold tld; rw [z]
      have ts : ∀ n, qM Q p i = some n → tld Q a p i = a n := fun n z => by unfold tld; rw [z]
      refine gX10_agrees_3 u p r S i (qL Q p) (qOf Q p) (nmI (qM Q p i)) _ _ _ (by omega) hl hil o1 (qX10_isSet u S _) (hcell i hil) (qX10_told hT hQ h ha hp hil) c.2.2.1 (c.2.2.2 i hil).1 (c.2.1 hk1) (fun z => absurd hil (by omega)) (fun _ z y => ?_) (fun _ z y => ⟨ret_f (fun q => y ?_), rfl⟩) (fun _ z y => ?_) (fun _ z y x => ?_) (fun _ z y x => ⟨ret_f (fun q => x ?_), rfl⟩)
      · have hm := (nmI_none (qM_b hQ hp hil)).mp z
        exact nx (fun _ => y.trans (tn hm)) (fun n hn => by rw [hm] at hn; cases hn)
      · have hm := (nmI_none (qM_b hQ hp hil)).mp z
        exact ((agR_rwI.mp (bP_iff.mp q) i hil).1 hm).trans (tn hm).symm
      · obtain ⟨n', e1, _, e3⟩ := nm_set hQ hS hp hil z
        exact nx (fun hm => by rw [e1] at hm; cases hm) (fun n hn hs => by
          rw [e1] at hn
          cases hn
          exact absurd (e3.mpr hs) y)
      · obtain ⟨n', e1, _, e3⟩ := nm_set hQ hS hp hil z
        exact nx (fun hm => by rw [e1] at hm; cases hm) (fun n hn hs => by rw [x]; exact ts n hn)
      · obtain ⟨n', e1, _, e3⟩ := nm_set hQ hS hp hil z
        rw [ts n' e1]
        exact (agR_rwI.mp (bP_iff.mp q) i hil).2.1 n' e1 (e3.mp y)
  exact loop _ 0 rfl (Nat.zero_le _) (fun j hj => absurd hj (Nat.not_lt_zero j))
/-- the first row that agrees -/
noncomputable def fsR (T : TBL) (Q : QST) (p S : Nat) (a : Nat → Int32) : Nat := fstB (fun r => bP (agR T Q p S a r)) (rwN T Q p)
noncomputable def rwO (T : TBL) (Q : QST) (p S : Nat) (a : Nat → Int32) : Int32 := if fsR T Q p S a < rwN T Q p then nI (fsR T Q p S a) else -1
theorem fsR_lt {T : TBL} {Q : QST} {p S : Nat} {a : Nat → Int32} : fsR T Q p S a < rwN T Q p ↔ hasR T Q p S a := by
  constructor
  · intro z
    refine Classical.byContradiction fun q => ?_
    have : fsR T Q p S a = rwN T Q p := fstB_none (fun i hi y => q ⟨i, hi, bP_iff.mp y⟩)
    omega
  · rintro ⟨r, r1, r2⟩
    exact (fstB_ex ⟨r, r1, bP_iff.mpr r2⟩).1
theorem rwO_m {T : TBL} {Q : QST} {p S : Nat} {a : Nat → Int32} (h40 : rwN T Q p ≤ 40) : rwO T Q p S a = -1 ↔ ¬ hasR T Q p S a := by
  unfold rwO
  rw [← fsR_lt]
  split
  · rename_i z
    exact ⟨fun q => absurd q (nIm1 (by omega)), fun q => absurd z q⟩
  · rename_i z
    exact ⟨fun _ => z, fun _ => rfl⟩
theorem qX10_rowOf {u : xU} {T : TBL} {Q : QST} (hT : TI T) (hQ : QI T Q) (hC : MT T u) (h : KQ Q u) {a : Nat → Int32} (ha : ATV a u) {p S : Nat} (hS : S < 64) (hp : p < qP Q) (hk1 : qK Q p ≤ 1) : xC mX10_rowOf [.ref 172, .int (nI p), .int (nI S)] (xmm u) (fun r μ' => r = some (.int (rwO T Q p S a)) ∧ μ' = xmm u) := by
  have hp10 := hQ.2.1
  have c := h.2.2.2 p hp
  obtain ⟨o1, o2, o3⟩ := (hQ.2.2.2.2.1 p hp).2.1 hk1
  obtain ⟨t1, t2, -⟩ := hT _ o1
  refine xC.of xpl10 (Nat.le_of_ble_eq_true rfl) (gX10_rowOf_0 u p S ?_)
  have loop : ∀ d r, rwN T Q p - r = d → r ≤ rwN T Q p → (∀ j, j < r → ¬ bP (agR T Q p S a j) = true) → xE mX10_rowOf 2 [(0, .ref 172), (1, .int (nI p)), (2, .int (nI S)), (3, .int (nI r))] [] (xmm u) (fun r μ' => r = some (.int (rwO T Q p S a)) ∧ μ' = xmm u) := by
    intro d
    induction d with
    | zero =>
      intro r hd hr hj
      refine gX10_rowOf_e u p S r (qOf Q p) (rwN T Q p) (by omega) o1 t2 (by omega) (c.2.1 hk1) (hC _ o1).2.1 (fun _ => ⟨?_, rfl⟩) (fun z => absurd (by omega) z)
      rw [(rwO_m t2).mpr (fun ⟨j, j1, j2⟩ => hj j (by omega) (bP_iff.mpr j2))]
    | succ d ih =>
      intro r hd hr hj
      have hrl : r < rwN T Q p := by omega
      refine gX10_rowOf_2 u p S r (qOf Q p) (rwN T Q p) _ (by omega) o1 t2 hrl (qX10_agrees hT hQ hC h ha hS hp hk1 hrl) (c.2.1 hk1) (hC _ o1).2.1 (fun z => absurd hrl (by omega)) (fun _ z => ih (r + 1) (by omega) hrl (fun j hjl => ?_)) (fun _ z => ⟨?_, rfl⟩)
      · by_cases e : j = r
        · subst e; exact z
        · exact hj j (by omega)
      · have e : fsR T Q p S a = r := fstB_eq z hj hrl
        unfold rwO
        rw [e, if_pos hrl]
  exact loop _ 0 rfl (Nat.zero_le _) (fun j hj => absurd hj (Nat.not_lt_zero j))
theorem qX10_isTrue {u : xU} {T : TBL} {Q : QST} (hT : TI T) (hQ : QI T Q) (hC : MT T u) (h : KQ Q u) {a : Nat → Int32} (ha : ATV a u) {p S : Nat} (hS : S < 64) (hp : p < qP Q) : xC mX10_isTrue [.ref 172, .int (nI p), .int (nI S)] (xmm u) (fun r μ' => r = some (.int (xb (bP (trP T Q p S a) = true))) ∧ μ' = xmm u) := by
  have hp10 := hQ.2.1
  have c := h.2.2.2 p hp
  have hk3 := (hQ.2.2.2.2.1 p hp).1
  have hwh := qX10_isWhole hT hQ h hS hp
  have tt : trP T Q p S a → some (Value.int (nI 1)) = some (.int (xb (bP (trP T Q p S a) = true))) := fun z => ret_t (bP_iff.mpr z)
  have ff : ¬ trP T Q p S a → some (Value.int (nI 0)) = some (.int (xb (bP (trP T Q p S a) = true))) := fun z => ret_f (fun y => z (bP_iff.mp y))
  have h40 : qK Q p ≤ 1 → rwN T Q p ≤ 40 := fun z => (hT _ ((hQ.2.2.2.2.1 p hp).2.1 z).1).2.1
  have l2 : 2 ≤ qK Q p → qL Q p = 2 := fun z => ((hQ.2.2.2.2.1 p hp).2.2.1 z).1
  rcases (show qK Q p = 0 ∨ qK Q p = 1 ∨ qK Q p = 2 ∨ qK Q p = 3 by omega) with e | e | e | e
  · have ck : u.1 176 p = nI 0 := by rw [c.1, e]
    have iff0 : trP T Q p S a ↔ (pNmd Q p = true ∧ ¬ tch Q p S) ∨ hasR T Q p S a := ⟨fun z => z.1 e, fun z => ⟨fun _ => z, fun y => by omega, fun y => by omega, fun y => by omega⟩⟩
    have m := rwO_m (S := S) (a := a) (h40 (by omega))
    refine xC.of xpl10 (Nat.le_of_ble_eq_true rfl) (gX10_isTrue_h u p S _ _ _ (by omega) (qX10_isNamed hT hQ h hp) (qX10_touches hT hQ h hS hp) (qX10_rowOf hT hQ hC h ha hS hp (by omega)) ck (fun z y => ⟨ff (fun x => ?_), rfl⟩) (fun z y => ⟨tt (iff0.mpr (Or.inr (Classical.byContradiction fun x => y (m.mpr x)))), rfl⟩) (fun z y => ⟨tt (iff0.mpr (Or.inl ⟨z, fun x => y (bP_iff.mpr x)⟩)), rfl⟩) (fun z y x => ⟨ff (fun v => ?_), rfl⟩) (fun z y x => ⟨tt (iff0.mpr (Or.inr (Classical.byContradiction fun v => x (m.mpr v)))), rfl⟩))
    · rcases iff0.mp x with v | v
      · exact z v.1
      · exact m.mp y v
    · rcases iff0.mp v with w | w
      · exact w.2 (bP_iff.mp y)
      · exact m.mp x w
  · have ck : u.1 176 p = nI 1 := by rw [c.1, e]
    have m := rwO_m (S := S) (a := a) (h40 (by omega))
    exact xC.of xpl10 (Nat.le_of_ble_eq_true rfl) (gX10_isTrue_n u p S _ _ (by omega) (qX10_rowOf hT hQ hC h ha hS hp (by omega)) hwh ck (fun z => ⟨tt ((trP_not e).mpr (fun y => absurd (bP_iff.mpr y) z)), rfl⟩) (fun z y => ⟨ff (fun x => y (m.mpr ((trP_not e).mp x (bP_iff.mp z)))), rfl⟩) (fun z y => ⟨tt ((trP_not e).mpr (fun _ => m.mp y)), rfl⟩))
  · have ck : u.1 176 p = nI 2 := by rw [c.1, e]
    have l := l2 (by omega)
    exact xC.of xpl10 (Nat.le_of_ble_eq_true rfl) (gX10_isTrue_s u p S _ _ _ (by omega) hwh (qX10_told hT hQ h ha hp (by omega)) (qX10_told hT hQ h ha hp (by omega)) ck (fun z => ⟨tt ((trP_same e).mpr (fun y => absurd (bP_iff.mpr y) z)), rfl⟩) (fun z y => ⟨ff (fun x => y ((trP_same e).mp x (bP_iff.mp z))), rfl⟩) (fun z y => ⟨tt ((trP_same e).mpr (fun _ => y)), rfl⟩))
  · have ck : u.1 176 p = nI 3 := by rw [c.1, e]
    have l := l2 (by omega)
    have e3 : 3 ≤ qK Q p := by omega
    exact xC.of xpl10 (Nat.le_of_ble_eq_true rfl) (gX10_isTrue_l u p S _ _ _ (by omega) hwh (qX10_told hT hQ h ha hp (by omega)) (qX10_told hT hQ h ha hp (by omega)) ck (fun z => ⟨tt ((trP_less e3).mpr (fun y => absurd (bP_iff.mpr y) z)), rfl⟩) (fun z y => ⟨ff (fun x => Int32.not_lt.mpr y (cmpK_lt.mpr ((trP_less e3).mp x (bP_iff.mp z)))), rfl⟩) (fun z y => ⟨tt ((trP_less e3).mpr (fun _ => cmpK_lt.mp (Int32.not_le.mp y))), rfl⟩))
theorem qX10_areTrue {u : xU} {T : TBL} {Q : QST} (hT : TI T) (hQ : QI T Q) (hC : MT T u) (h : KQ Q u) {a : Nat → Int32} (ha : ATV a u) {S : Nat} (hS : S < 64) : xC mX10_areTrue [.ref 172, .int (nI S)] (xmm u) (fun r μ' => r = some (.int (xb (bP (arT T Q S a) = true))) ∧ μ' = xmm u) := by
  have hp10 := hQ.2.1
  have hn6 := hQ.1
  refine xC.of xpl10 (Nat.le_of_ble_eq_true rfl) (gX10_areTrue_0 u S ?_)
  have loop : ∀ d p, qP Q - p = d → p ≤ qP Q → (∀ j, j < p → trP T Q j S a) → xE mX10_areTrue 2 [(0, .ref 172), (1, .int (nI S)), (2, .int (nI p))] [] (xmm u) (fun r μ' => r = some (.int (xb (bP (arT T Q S a) = true))) ∧ μ' = xmm u) := by
    intro d
    induction d with
    | zero =>
      intro p hd hp hj
      exact gX10_areTrue_e u (qN Q) (qP Q) S p hn6 hp10 (by omega) h.1 h.2.1 (fun _ => ⟨ret_t (bP_iff.mpr (fun j hjl => hj j (by omega))), rfl⟩) (fun z => absurd (by omega) z)
    | succ d ih =>
      intro p hd hp hj
      have hpl : p < qP Q := by omega
      exact gX10_areTrue_2 u (qN Q) (qP Q) S p _ hn6 hp10 hpl (qX10_isTrue hT hQ hC h ha hS hpl) h.1 h.2.1 (fun z => absurd hpl (by omega)) (fun _ z => ih (p + 1) (by omega) hpl (fun j hjl => by
        by_cases e : j = p
        · subst e; exact bP_iff.mp z
        · exact hj j (by omega))) (fun _ z => ⟨ret_f (fun y => z (bP_iff.mpr (bP_iff.mp y p hpl))), rfl⟩)
  exact loop _ 0 rfl (Nat.zero_le _) (fun j hj => absurd hj (Nat.not_lt_zero j))
theorem pOf_min {f : Nat → Option Nat} {k i : Nat} (hf : f i = some k) : ∀ {l : Nat}, i < l → pOf f k l ≤ i
  | 0, h => absurd h (Nat.not_lt_zero i)
  | l + 1, h => by
    unfold pOf
    by_cases hb : (msk f l).testBit k = true
    · rw [if_pos hb]
      by_cases e : i < l
      · exact pOf_min hf e
      · have := (pOf_spec hb).1
        omega
    · rw [if_neg hb]
      have : ¬ i < l := fun q => hb (msk_bit.mpr ⟨i, q, hf⟩)
      omega
theorem qX10_columnOf {u : xU} {T : TBL} {Q : QST} (hT : TI T) (hQ : QI T Q) (h : KQ Q u) {k : Nat} (hk : k < qN Q) (hh : fH Q k < qP Q) : xC mX10_columnOf [.ref 172, .int (nI k)] (xmm u) (fun r μ' => r = some (.int (nI (3 * fH Q k + fC Q (fH Q k) k))) ∧ μ' = xmm u) := by
  have hp10 := hQ.2.1
  have hn6 := hQ.1
  refine xC.of xpl10 (Nat.le_of_ble_eq_true rfl) (gX10_columnOf_0 u k ?_)
  have loop : ∀ d p, qP Q - p = d → p ≤ qP Q → (∀ j, j < p → ¬ (decide (qK Q j = 0) && pHas Q j k) = true) → xE mX10_columnOf 2 [(0, .ref 172), (1, .int (nI k)), (2, .int (nI p))] [] (xmm u) (fun r μ' => r = some (.int (nI (3 * fH Q k + fC Q (fH Q k) k))) ∧ μ' = xmm u) := by
    intro d
    induction d with
    | zero =>
      intro p hd hp hj
      have : fH Q k = qP Q := fstB_none (fun i hi => hj i (by omega))
      omega
    | succ d ih =>
      intro p hd hp hj
      have hpl : p < qP Q := by omega
      have c := h.2.2.2 p hpl
      have hl := qL_3 hT hQ hpl
      have hk3 := (hQ.2.2.2.2.1 p hpl).1
      have nx : ¬ (decide (qK Q p = 0) && pHas Q p k) = true → xE mX10_columnOf 2 [(0, .ref 172), (1, .int (nI k)), (2, .int (nI (p + 1)))] [] (xmm u) (fun r μ' => r = some (.int (nI (3 * fH Q k + fC Q (fH Q k) k))) ∧ μ' = xmm u) := fun z => ih (p + 1) (by omega) hpl (fun j hjl => by
        by_cases e : j = p
        · subst e; exact z
        · exact hj j (by omega))
      refine gX10_columnOf_2 u (qN Q) (qP Q) k p hn6 hp10 hpl h.1 h.2.1 (fun z => absurd hpl (by omega)) (fun _ => ?_)
      have inner : ∀ d i, qL Q p - i = d → i ≤ qL Q p → (∀ j, j < i → ¬ qM Q p j = some k) → xE mX10_columnOf 12 [(0, .ref 172), (1, .int (nI k)), (2, .int (nI p)), (3, .int (nI i))] [] (xmm u) (fun r μ' => r = some (.int (nI (3 * fH Q k + fC Q (fH Q k) k))) ∧ μ' = xmm u) := by
        intro d
        induction d with
        | zero =>
          intro i hd hi hji
          have no : ¬ (decide (qK Q p = 0) && pHas Q p k) = true := fun z => by
            rw [Bool.and_eq_true] at z
            obtain ⟨j, j1, j2⟩ := pHas_iff.mp z.2
            exact hji j (by omega) j2
          exact gX10_columnOf_e u k p i (qL Q p) (by omega) hl (by omega) c.2.2.1 (fun _ => nx no) (fun z => absurd (by omega) z) (fun z => absurd (by omega) z) (fun z => absurd (by omega) z)
        | succ d ih2 =>
          intro i hd hi hji
          have hil : i < qL Q p := by omega
          refine gX10_columnOf_12 u k p i (qL Q p) (qK Q p) (nmI (qM Q p i)) (by omega) hl hil hk3 c.2.2.1 (c.2.2.2 i hil).1 c.1 (fun z => absurd hil (by omega)) (fun _ z => nx (fun y => ?_)) (fun _ z y => ih2 (i + 1) (by omega) hil (fun j hjl => ?_)) (fun _ z y => ⟨?_, rfl⟩)
          · rw [Bool.and_eq_true, decide_eq_true_eq] at y
            exact z y.1
          · by_cases e : j = i
            · subst e
              exact fun x => y (by rw [x]; rfl)
            · exact hji j (by omega)
          · have hm := (nmI_some (qM_b hQ hpl hil) (by omega)).mp y
            have hhp : pHas Q p k = true := pHas_iff.mpr ⟨i, hil, hm⟩
            have e1 : fH Q k = p := fstB_eq (by rw [Bool.and_eq_true, decide_eq_true_eq]; exact ⟨z, hhp⟩) hj hpl
            obtain ⟨f1, f2⟩ := fC_lt hhp
            have e2 : fC Q p k ≤ i := pOf_min hm hil
            have e3 : ¬ fC Q p k < i := fun q => hji _ q f2
            rw [e1, show fC Q p k = i by omega]
      exact inner _ 0 rfl (Nat.zero_le _) (fun j hj0 => absurd hj0 (Nat.not_lt_zero j))
  exact loop _ 0 rfl (Nat.zero_le _) (fun j hj => absurd hj (Nat.not_lt_zero j))
theorem qX10_isAgain {u : xU} {T : TBL} (hT : TI T) (hC : MT T u) {t c r : Nat} (ht : t < 8) (hc : c < T.1 t) (hr : r < T.2.1 t) : xC mX10_isAgain [.ref 172, .int (nI t), .int (nI c), .int (nI r)] (xmm u) (fun r' μ' => r' = some (.int (xb (bP (∃ k, k < r ∧ T.2.2 t k c = T.2.2 t r c) = true))) ∧ μ' = xmm u) := by
  obtain ⟨t1, t2, -⟩ := hT _ ht
  refine xC.of xpl10 (Nat.le_of_ble_eq_true rfl) (gX10_isAgain_0 u t c r ?_)
  have hcell : ∀ i, i ≤ r → xC mX10_cell [.ref 172, .int (nI t), .int (nI i), .int (nI c)] (xmm u) (fun r' μ' => r' = some (.int (T.2.2 t i c)) ∧ μ' = xmm u) := fun i hi => qX10_cellV u _ i c _ ht (by omega) (by omega) ((hC _ ht).2.2 i c (by omega) hc)
  have loop : ∀ d k, r - k = d → k ≤ r → (∀ j, j < k → ¬ T.2.2 t j c = T.2.2 t r c) → xE mX10_isAgain 3 [(0, .ref 172), (1, .int (nI t)), (2, .int (nI c)), (3, .int (nI r)), (4, .int (nI k))] [] (xmm u) (fun r' μ' => r' = some (.int (xb (bP (∃ k, k < r ∧ T.2.2 t k c = T.2.2 t r c) = true))) ∧ μ' = xmm u) := by
    intro d
    induction d with
    | zero =>
      intro k hd hk hj
      exact gX10_isAgain_3 u t c r k _ _ (by omega) hk (hcell k hk) (hcell r (Nat.le_refl _)) (fun _ => ⟨ret_f (fun y => by
        obtain ⟨j, j1, j2⟩ := bP_iff.mp y
        exact hj j (by omega) j2), rfl⟩) (fun z => absurd (by omega) z) (fun z => absurd (by omega) z)
    | succ d ih =>
      intro k hd hk hj
      exact gX10_isAgain_3 u t c r k _ _ (by omega) hk (hcell k hk) (hcell r (Nat.le_refl _)) (fun z => absurd z (by omega)) (fun _ z => ih (k + 1) (by omega) (by omega) (fun j hjl => by
        by_cases e : j = k
        · subst e; exact z
        · exact hj j (by omega))) (fun _ z => ⟨ret_t (bP_iff.mpr ⟨k, by omega, z⟩), rfl⟩)
  exact loop _ 0 rfl (Nat.zero_le _) (fun j hj => absurd hj (Nat.not_lt_zero j))

