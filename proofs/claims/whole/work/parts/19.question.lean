/-! the question: names, parts, kinds, tables asked, places filled, names and told values at places, the order -/
abbrev QST : Type := Nat × Nat × (Nat → Nat) × (Nat → Nat) × (Nat → Nat) × (Nat → Nat → Option Nat) × (Nat → Nat → Int32) × (Nat → Nat)
abbrev qN (Q : QST) : Nat := Q.1
abbrev qP (Q : QST) : Nat := Q.2.1
abbrev qK (Q : QST) : Nat → Nat := Q.2.2.1
abbrev qOf (Q : QST) : Nat → Nat := Q.2.2.2.1
abbrev qL (Q : QST) : Nat → Nat := Q.2.2.2.2.1
abbrev qM (Q : QST) : Nat → Nat → Option Nat := Q.2.2.2.2.2.1
abbrev qV (Q : QST) : Nat → Nat → Int32 := Q.2.2.2.2.2.2.1
abbrev qO (Q : QST) : Nat → Nat := Q.2.2.2.2.2.2.2
theorem ret_t {P : Prop} [Decidable P] (h : P) : some (Value.int (nI 1)) = some (Value.int (xb P)) := by rw [xb_t h]; rfl
theorem ret_f {P : Prop} [Decidable P] (h : ¬ P) : some (Value.int (nI 0)) = some (Value.int (xb P)) := by rw [xb_f h]; rfl
def anyN (n : Nat) (f : Nat → Bool) : Bool := (List.range n).any f
def allN (n : Nat) (f : Nat → Bool) : Bool := (List.range n).all f
theorem anyN_iff {n : Nat} {f : Nat → Bool} : anyN n f = true ↔ ∃ i, i < n ∧ f i = true := by
  unfold anyN
  rw [List.any_eq_true]
  constructor
  · rintro ⟨i, h1, h2⟩
    exact ⟨i, List.mem_range.mp h1, h2⟩
  · rintro ⟨i, h1, h2⟩
    exact ⟨i, List.mem_range.mpr h1, h2⟩
theorem allN_iff {n : Nat} {f : Nat → Bool} : allN n f = true ↔ ∀ i, i < n → f i = true := by
  unfold allN
  rw [List.all_eq_true]
  constructor
  · intro h i hi
    exact h i (List.mem_range.mpr hi)
  · intro h i hi
    exact h i (List.mem_range.mp hi)
theorem anyN_f {n : Nat} {f : Nat → Bool} (h : ∀ i, i < n → ¬ f i = true) : ¬ anyN n f = true := fun q => by
  obtain ⟨i, h1, h2⟩ := anyN_iff.mp q
  exact h i h1 h2
def hasN (kd : Nat → Nat) : Nat → Nat
  | 0 => 0
  | n + 1 => hasN kd n + if kd n = 0 then 1 else 0
theorem hasN_congr {f g : Nat → Nat} : ∀ {n : Nat}, (∀ i, i < n → f i = g i) → hasN f n = hasN g n
  | 0, _ => rfl
  | n + 1, h => by unfold hasN; rw [hasN_congr (fun i hi => h i (by omega)), h n (by omega)]
def qDue (T : TBL) (Q : QST) (p : Nat) : Nat := if qK Q p ≤ 1 then T.1 (qOf Q p) else 2
def qTb (Q : QST) (p : Nat) : Int32 := if qK Q p ≤ 1 then nI (qOf Q p) else -1
def QI (T : TBL) (Q : QST) : Prop := qN Q ≤ 6 ∧ qP Q ≤ 10 ∧ hasN (qK Q) (qP Q) ≤ 5 ∧ (qN Q = 0 → qP Q = 0) ∧ (∀ p, p < qP Q → qK Q p ≤ 3 ∧ (qK Q p ≤ 1 → qOf Q p < 8 ∧ T.1 (qOf Q p) ≠ 0 ∧ qL Q p ≤ T.1 (qOf Q p)) ∧ (2 ≤ qK Q p → qL Q p = 2 ∧ qM Q p 0 ≠ none) ∧ ∀ i, i < qL Q p → ∀ k, qM Q p i = some k → k < qN Q) ∧ (∀ i, i < qN Q → qO Q i < qN Q) ∧ (∀ i j, i < qN Q → j < qN Q → qO Q i = qO Q j → i = j) ∧ ∀ k, k < qN Q → ∃ i, i < qN Q ∧ qO Q i = k
def CQ (T : TBL) (Q : QST) (u : xU) : Prop := u.1 3 0 = nI (qN Q) ∧ u.1 3 1 = nI (qP Q) ∧ u.1 3 4 = nI (hasN (qK Q) (qP Q)) ∧ (∀ i, i < qN Q → u.1 5 i = nI (qO Q i)) ∧ ∀ p, p < qP Q → CP p (qK Q p) (qTb Q p) (qL Q p) (qM Q p) (qV Q p) (qDue T Q p) u
def frQ (u u' : xU) : Prop := (∀ x, x ≠ 3 → x ≠ 5 → ¬ (6 ≤ x ∧ x < 46) → u'.1 x = u.1 x) ∧ u'.2 = u.2
theorem frQ.rf {u : xU} : frQ u u := ⟨fun _ _ _ _ => rfl, rfl⟩
theorem CQ.keep {T : TBL} {Q : QST} {u u' : xU} (h : CQ T Q u) (hb : qP Q ≤ 10) (hf : ∀ x, x = 3 ∨ x = 5 ∨ 6 ≤ x ∧ x < 46 → u'.1 x = u.1 x) : CQ T Q u' := by
  obtain ⟨h1, h2, h3, h4, h5⟩ := h
  refine ⟨by rw [hf 3 (Or.inl rfl)]; exact h1, by rw [hf 3 (Or.inl rfl)]; exact h2, by rw [hf 3 (Or.inl rfl)]; exact h3, fun i hi => by rw [hf 5 (Or.inr (Or.inl rfl))]; exact h4 i hi, fun p hp => (h5 p hp).keep (fun x a b => hf x (Or.inr (Or.inr ⟨by omega, by omega⟩)))⟩
theorem qDue_le {T : TBL} {Q : QST} (hT : TI T) (h : QI T Q) {p : Nat} (hp : p < qP Q) : qDue T Q p ≤ 3 := by
  obtain ⟨-, -, -, -, h5, -⟩ := h
  unfold qDue
  split
  · rename_i hk
    exact (hT _ ((h5 p hp).2.1 hk).1).1
  · omega
theorem qL_le {T : TBL} {Q : QST} (hT : TI T) (h : QI T Q) {p : Nat} (hp : p < qP Q) : qL Q p ≤ qDue T Q p := by
  obtain ⟨-, -, -, -, h5, -⟩ := h
  unfold qDue
  by_cases hk : qK Q p ≤ 1
  · rw [if_pos hk]
    exact ((h5 p hp).2.1 hk).2.2
  · rw [if_neg hk]
    exact Nat.le_of_eq ((h5 p hp).2.2.1 (by omega)).1
theorem qM_lt {T : TBL} {Q : QST} (h : QI T Q) {p i k : Nat} (hp : p < qP Q) (hi : i < qL Q p) (he : qM Q p i = some k) : k < qN Q := by
  obtain ⟨-, -, -, -, h5, -⟩ := h
  exact (h5 p hp).2.2.2 i hi k he
theorem msk_q {T : TBL} {Q : QST} (h : QI T Q) {p : Nat} (hp : p < qP Q) : msk (qM Q p) (qL Q p) < 64 := msk_lt (fun i hi k hk => by
  have := qM_lt h hp hi hk
  have := h.1
  omega)
/-- does a HAS or NOT ask of this table -/
def aAsks (Q : QST) (t : Nat) : Bool := anyN (qP Q) fun p => decide (qK Q p ≤ 1) && decide (qOf Q p = t)
theorem aAsks_iff {Q : QST} {t : Nat} : aAsks Q t = true ↔ ∃ p, p < qP Q ∧ qK Q p ≤ 1 ∧ qOf Q p = t := by
  unfold aAsks
  rw [anyN_iff]
  simp only [Bool.and_eq_true, decide_eq_true_eq]
def lTab (Q : QST) (t c : Int32) : Bool := decide (0 ≤ t) && decide (t ≤ 7) && decide (1 ≤ c) && decide (c ≤ 3) && !aAsks Q t.toNatClampNeg
def aTable (T : TBL) (Q : QST) (t c : Int32) : Bool × TBL := if lTab Q t c = true then (true, (setT T.1 t.toNatClampNeg c.toNatClampNeg, setT T.2.1 t.toNatClampNeg 0, T.2.2)) else (false, T)
/-- is k a name -/
def isNm (Q : QST) (k : Int32) : Bool := decide (0 ≤ k) && decide (k < nI (qN Q))
def aAsk (Q : QST) (n : Int32) : Bool × QST := if (decide (1 ≤ n) && decide (n ≤ 6)) = true then (true, (n.toNatClampNeg, 0, qK Q, qOf Q, qL Q, qM Q, qV Q, fun i => i)) else (false, Q)
def pushQ (Q : QST) (kd o l : Nat) (m : Nat → Option Nat) (v : Nat → Int32) : QST := (qN Q, qP Q + 1, setT (qK Q) (qP Q) kd, setT (qOf Q) (qP Q) o, setT (qL Q) (qP Q) l, setT (qM Q) (qP Q) m, setT (qV Q) (qP Q) v, qO Q)
def room (Q : QST) (k : Int32) : Bool := decide (qN Q ≠ 0) && decide (qP Q < 10) && (decide (k ≠ 0) || decide (hasN (qK Q) (qP Q) < 5))
def aPart (T : TBL) (Q : QST) (k t : Int32) : Int32 × QST := if ((decide (k = 0) || decide (k = 1)) && tIs T t && room Q k) = true then (nI (qP Q), pushQ Q k.toNatClampNeg t.toNatClampNeg 0 (fun _ => none) (fun _ => 0)) else (-1, Q)
/-- the last part lacks a place -/
def opn (T : TBL) (Q : QST) : Bool := decide (qP Q ≠ 0) && decide (qK Q (qP Q - 1) ≤ 1) && decide (qL Q (qP Q - 1) < T.1 (qOf Q (qP Q - 1)))
def plQ (Q : QST) (o : Option Nat) (v : Int32) : QST := (qN Q, qP Q, qK Q, qOf Q, setT (qL Q) (qP Q - 1) (qL Q (qP Q - 1) + 1), setT (qM Q) (qP Q - 1) (setT (qM Q (qP Q - 1)) (qL Q (qP Q - 1)) o), setT (qV Q) (qP Q - 1) (setT (qV Q (qP Q - 1)) (qL Q (qP Q - 1)) v), qO Q)
def aName (T : TBL) (Q : QST) (k : Int32) : Int32 × QST := if (opn T Q && isNm Q k) = true then (nI (qL Q (qP Q - 1) + 1), plQ Q (some k.toNatClampNeg) 0) else (-1, Q)
def aValue (T : TBL) (Q : QST) (v : Int32) : Int32 × QST := if opn T Q = true then (nI (qL Q (qP Q - 1) + 1), plQ Q none v) else (-1, Q)
def aCompare (Q : QST) (kd a b v : Int32) : Int32 × QST := if ((decide (kd = 2) || decide (kd = 3)) && isNm Q a && (decide (b = 0) || isNm Q v) && room Q kd) = true then (nI (qP Q), pushQ Q kd.toNatClampNeg 0 2 (setT (setT (fun _ => none) 0 (some a.toNatClampNeg)) 1 (if b = 0 then none else some v.toNatClampNeg)) (setT (setT (fun _ => 0) 0 0) 1 (if b = 0 then v else 0))) else (-1, Q)
/-- where name k stands in an order of n names -/
def posO (f : Nat → Nat) (k : Nat) : Nat → Nat
  | 0 => 0
  | n + 1 => if f (posO f k n) = k then posO f k n else n + 1
def swpO (f : Nat → Nat) (n i k : Nat) : Nat → Nat := setT (setT f (posO f k n) (f i)) i k
def aOrder (Q : QST) (i k : Int32) : Bool × QST := if (isNm Q i && isNm Q k) = true then (true, (qN Q, qP Q, qK Q, qOf Q, qL Q, qM Q, qV Q, swpO (qO Q) (qN Q) i.toNatClampNeg k.toNatClampNeg)) else (false, Q)
/-- has a part a name in one of its places -/
def pHas (Q : QST) (p k : Nat) : Bool := anyN (qL Q p) fun i => decide (qM Q p i = some k)
def aStands (T : TBL) (Q : QST) : Bool := decide (qN Q ≠ 0) && allN (qP Q) (fun p => decide (2 ≤ qK Q p) || decide (T.1 (qOf Q p) ≤ qL Q p)) && allN (qN Q) fun k => anyN (qP Q) fun p => decide (qK Q p = 0) && pHas Q p k
theorem pHas_msk {Q : QST} {p k : Nat} : pHas Q p k = true ↔ (msk (qM Q p) (qL Q p)).testBit k = true := by
  unfold pHas
  rw [anyN_iff, msk_bit]
  simp
theorem isNm_t {T : TBL} {Q : QST} (hQ : QI T Q) {k : Int32} (h : isNm Q k = true) : ∃ j, j < qN Q ∧ k = nI j ∧ k.toNatClampNeg = j := by
  simp only [isNm, Bool.and_eq_true, decide_eq_true_eq] at h
  rcases xspl k with z | ⟨j, hj, rfl⟩
  · exact absurd h.1 (neg_nn z)
  · have := hQ.1
    exact ⟨j, (nI_ltn hj (by omega)).mp h.2, rfl, nI_nat hj⟩
theorem isNm_n {T : TBL} {Q : QST} (hQ : QI T Q) {j : Nat} (h : j < qN Q) : isNm Q (nI j) = true := by
  have := hQ.1
  simp only [isNm, Bool.and_eq_true, decide_eq_true_eq]
  exact ⟨nI_nn (by omega), (nI_ltn (by omega) (by omega)).mpr h⟩

theorem gX4_hasName_0 (u : xU) (nn n hc : Nat) (k : Int32) {Q : Option Value → xM → Prop} (hnn : nn ≤ 6) (hn : n ≤ 10) (hhc : hc ≤ 5) (v1 : u.1 3 0 = nI (nn)) (v2 : u.1 3 1 = nI (n)) (v3 : u.1 3 4 = nI (hc))
    (k1 : k < 0 → Q (some (.int (nI (0)))) (xmm u))
    (k2 : ¬ k < 0 → (nI (nn)) ≤ k → Q (some (.int (nI (0)))) (xmm u))
    (k3 : ¬ k < 0 → ¬ (nI (nn)) ≤ k → Q (some (.int (nI (1)))) (xmm u)) : xE mX4_hasName 0 [(0, .ref 3), (1, .int (k))] [] (xmm u) Q := by
  refine xe_iload_n 1 dX4_hasName_0 rfl rfl ?_
  refine xe_if_lt 16 dX4_hasName_1 (by decide) (fun c1 => ?_) (fun c1 => ?_)
  · refine xe_iconst (v := nI (0)) dX4_hasName_16 xc0 ?_
    exact xe_ret (r := (some (.int (nI (0))))) dX4_hasName_17 (Or.inl rfl) (k1 c1)
  · refine xe_iload_n 1 dX4_hasName_4 rfl rfl ?_
    refine xe_aload_n 0 dX4_hasName_5 rfl rfl ?_
    refine xr_getI (v := nI (nn)) dX4_hasName_6 fX4_22 sh3 (by decide) v1 ?_
    refine xe_icmp_ge 16 dX4_hasName_9 (by decide) (fun c2 => ?_) (fun c2 => ?_)
    · refine xe_iconst (v := nI (0)) dX4_hasName_16 xc0 ?_
      exact xe_ret (r := (some (.int (nI (0))))) dX4_hasName_17 (Or.inl rfl) (k2 c1 c2)
    · refine xe_iconst (v := nI (1)) dX4_hasName_12 xc1 ?_
      refine xe_goto 17 dX4_hasName_13 (by decide) ?_
      exact xe_ret (r := (some (.int (nI (1))))) dX4_hasName_17 (Or.inr rfl) (k3 c1 c2)

theorem not_lt_nn {x : Int32} (h : ¬ x < 0) : 0 ≤ x := by
  rw [Int32.lt_iff_toInt_lt] at h
  rw [Int32.le_iff_toInt_le]
  omega
theorem not_le_lt {x y : Int32} (h : ¬ x ≤ y) : y < x := by
  rw [Int32.le_iff_toInt_le] at h
  rw [Int32.lt_iff_toInt_lt]
  omega
theorem le_not_lt {x y : Int32} (h : x ≤ y) : ¬ y < x := by
  rw [Int32.le_iff_toInt_le] at h
  rw [Int32.lt_iff_toInt_lt]
  omega
theorem not_lt_le {x y : Int32} (h : ¬ x < y) : y ≤ x := by
  rw [Int32.lt_iff_toInt_lt] at h
  rw [Int32.le_iff_toInt_le]
  omega
theorem qX4_hasName {u : xU} {T : TBL} {Q : QST} (hQ : QI T Q) (h : CQ T Q u) (k : Int32) : xC mX4_hasName [.ref 3, .int k] (xmm u) (fun r μ' => r = some (.int (xb (isNm Q k = true))) ∧ μ' = xmm u) := by
  refine xC.of xpl4 (Nat.le_of_ble_eq_true rfl) (gX4_hasName_0 u (qN Q) (qP Q) _ k hQ.1 hQ.2.1 hQ.2.2.1 h.1 h.2.1 h.2.2.1 (fun q => ⟨?_, rfl⟩) (fun q z => ⟨?_, rfl⟩) (fun q z => ⟨?_, rfl⟩))
  · rw [xb_f (by simp only [isNm, Bool.and_eq_true, decide_eq_true_eq]; exact fun y => neg_nn q y.1)]; rfl
  · rw [xb_f (by simp only [isNm, Bool.and_eq_true, decide_eq_true_eq]; exact fun y => le_not_lt z y.2)]; rfl
  · rw [xb_t (by simp only [isNm, Bool.and_eq_true, decide_eq_true_eq]; exact ⟨not_lt_nn q, not_le_lt z⟩)]; rfl

theorem gX4_asksOf_0 (u : xU) (t : Int32) {Q : Option Value → xM → Prop}  
    (k1 : xE mX4_asksOf 2 [(0, .ref 3), (1, .int (t)), (2, .int (nI (0)))] [] (xmm u) Q) : xE mX4_asksOf 0 [(0, .ref 3), (1, .int (t))] [] (xmm u) Q := by
  refine xe_iconst (v := nI (0)) dX4_asksOf_0 xc0 ?_
  refine xe_istore_n (L2 := [(0, .ref 3), (1, .int (t)), (2, .int (nI (0)))]) dX4_asksOf_1 rfl (by decide) rfl ?_
  exact k1

theorem gX4_asksOf_2 (u : xU) (nn n hc : Nat) (p kd : Nat) (t tb : Int32) {Q : Option Value → xM → Prop} (hnn : nn ≤ 6) (hn : n ≤ 10) (hhc : hc ≤ 5) (hp : p < n) (hkd : kd ≤ 3) (v1 : u.1 3 0 = nI (nn)) (v2 : u.1 3 1 = nI (n)) (v3 : u.1 3 4 = nI (hc)) (v4 : u.1 (6 + 4 * p) 0 = nI (kd)) (v5 : u.1 (6 + 4 * p) 1 = tb)
    (k1 : n ≤ p → Q (some (.int (nI (0)))) (xmm u))
    (k2 : ¬ n ≤ p → ¬ (kd ≤ 1) → xE mX4_asksOf 2 [(0, .ref 3), (1, .int (t)), (2, .int (nI (p + 1)))] [] (xmm u) Q)
    (k3 : ¬ n ≤ p → kd ≤ 1 → ¬ tb = t → xE mX4_asksOf 2 [(0, .ref 3), (1, .int (t)), (2, .int (nI (p + 1)))] [] (xmm u) Q)
    (k4 : ¬ n ≤ p → kd ≤ 1 → tb = t → Q (some (.int (nI (1)))) (xmm u)) : xE mX4_asksOf 2 [(0, .ref 3), (1, .int (t)), (2, .int (nI (p)))] [] (xmm u) Q := by
  refine xe_iload_n 2 dX4_asksOf_2 rfl rfl ?_
  refine xe_aload_n 0 dX4_asksOf_3 rfl rfl ?_
  refine xr_getI (v := nI (n)) dX4_asksOf_4 fX4_26 sh3 (by decide) v2 ?_
  refine xn_icmp_ge 43 dX4_asksOf_7 (by decide) (by omega) (by omega) (fun c1 => ?_) (fun c1 => ?_)
  · refine xe_iconst (v := nI (0)) dX4_asksOf_43 xc0 ?_
    exact xe_ret (r := (some (.int (nI (0))))) dX4_asksOf_44 (Or.inl rfl) (k1 c1)
  · refine xe_aload_n 0 dX4_asksOf_10 rfl rfl ?_
    refine xr_getR (b := 4) dX4_asksOf_11 fX4_11 rfl sh3 (by decide) rfl ?_
    refine xe_iload_n 2 dX4_asksOf_14 rfl rfl ?_
    refine xr_aald (k := p) (b := (6 + 4 * p)) dX4_asksOf_15 sh4 (by decide) (by decide) (by decide) (by omega) (by decide) (rParts (by omega)) ?_
    refine xe_callV (As := []) (rest := []) dX4_asksOf_16 wX3_isFact lX4_32 iX3_isFact sX3_isFact ⟨by decide, by decide⟩ (shP _ (by omega)) rfl (xin_mm (by omega)) rfl rfl (by simp [Value.category]) (xC.pure (v := .int (xb (kd ≤ 1))) (qX3_isFact u p kd (by omega) (by omega) v4) ?_)
    refine xb_if_eq 37 dX4_asksOf_19 (by decide) (fun c2 => ?_) (fun c2 => ?_)
    · refine xn_iinc (c := 1) (L2 := [(0, .ref 3), (1, .int (t)), (2, .int (nI (p + 1)))]) 2 dX4_asksOf_37 rfl (by decide) rfl ?_
      refine xe_goto 2 dX4_asksOf_40 (by decide) ?_
      exact k2 c1 c2
    · refine xe_aload_n 0 dX4_asksOf_22 rfl rfl ?_
      refine xr_getR (b := 4) dX4_asksOf_23 fX4_11 rfl sh3 (by decide) rfl ?_
      refine xe_iload_n 2 dX4_asksOf_26 rfl rfl ?_
      refine xr_aald (k := p) (b := (6 + 4 * p)) dX4_asksOf_27 sh4 (by decide) (by decide) (by decide) (by omega) (by decide) (rParts (by omega)) ?_
      refine xr_getI (v := tb) dX4_asksOf_28 fX4_36 (shP _ (by omega)) (by omega) v5 ?_
      refine xe_iload_n 1 dX4_asksOf_31 rfl rfl ?_
      refine xe_icmp_ne 37 dX4_asksOf_32 (by decide) (fun c3 => ?_) (fun c3 => ?_)
      · refine xn_iinc (c := 1) (L2 := [(0, .ref 3), (1, .int (t)), (2, .int (nI (p + 1)))]) 2 dX4_asksOf_37 rfl (by decide) rfl ?_
        refine xe_goto 2 dX4_asksOf_40 (by decide) ?_
        exact k3 c1 c2 c3
      · refine xe_iconst (v := nI (1)) dX4_asksOf_35 xc1 ?_
        exact xe_ret (r := (some (.int (nI (1))))) dX4_asksOf_36 (Or.inr rfl) (k4 c1 c2 c3)

theorem gX4_asksOf_e (u : xU) (nn n hc : Nat) (p : Nat) (t : Int32) {Q : Option Value → xM → Prop} (hnn : nn ≤ 6) (hn : n ≤ 10) (hhc : hc ≤ 5) (hp : p = n) (v1 : u.1 3 0 = nI (nn)) (v2 : u.1 3 1 = nI (n)) (v3 : u.1 3 4 = nI (hc))
    (k1 : n ≤ p → Q (some (.int (nI (0)))) (xmm u))
    (k2 : ¬ n ≤ p → xC mX3_isFact [.ref (6 + 4 * p)] (xmm u) (fun r μ1 => xE mX4_asksOf 19 [(0, .ref 3), (1, .int (t)), (2, .int (nI (p)))] (r.toList ++ []) μ1 Q)) : xE mX4_asksOf 2 [(0, .ref 3), (1, .int (t)), (2, .int (nI (p)))] [] (xmm u) Q := by
  refine xe_iload_n 2 dX4_asksOf_2 rfl rfl ?_
  refine xe_aload_n 0 dX4_asksOf_3 rfl rfl ?_
  refine xr_getI (v := nI (n)) dX4_asksOf_4 fX4_26 sh3 (by decide) v2 ?_
  refine xn_icmp_ge 43 dX4_asksOf_7 (by decide) (by omega) (by omega) (fun c1 => ?_) (fun c1 => ?_)
  · refine xe_iconst (v := nI (0)) dX4_asksOf_43 xc0 ?_
    exact xe_ret (r := (some (.int (nI (0))))) dX4_asksOf_44 (Or.inl rfl) (k1 c1)
  · refine xe_aload_n 0 dX4_asksOf_10 rfl rfl ?_
    refine xr_getR (b := 4) dX4_asksOf_11 fX4_11 rfl sh3 (by decide) rfl ?_
    refine xe_iload_n 2 dX4_asksOf_14 rfl rfl ?_
    refine xr_aald (k := p) (b := (6 + 4 * p)) dX4_asksOf_15 sh4 (by decide) (by decide) (by decide) (by omega) (by decide) (rParts (by omega)) ?_
    refine xe_callV (As := []) (rest := []) dX4_asksOf_16 wX3_isFact lX4_32 iX3_isFact sX3_isFact ⟨by decide, by decide⟩ (shP _ (by omega)) rfl (xin_mm (by omega)) rfl rfl (by simp [Value.category]) ?_
    exact k2 c1

theorem qX4_asksOf {u : xU} {T : TBL} {Q : QST} (hQ : QI T Q) (h : CQ T Q u) (t : Nat) (ht : t < 8) : xC mX4_asksOf [.ref 3, .int (nI t)] (xmm u) (fun r μ' => r = some (.int (xb (aAsks Q t = true))) ∧ μ' = xmm u) := by
  refine xC.of xpl4 (Nat.le_of_ble_eq_true rfl) (gX4_asksOf_0 u _ ?_)
  have loop : ∀ d p, qP Q - p = d → p ≤ qP Q → (∀ j, j < p → ¬ (qK Q j ≤ 1 ∧ qOf Q j = t)) → xE mX4_asksOf 2 [(0, .ref 3), (1, .int (nI t)), (2, .int (nI (p)))] [] (xmm u) (fun r μ' => r = some (.int (xb (aAsks Q t = true))) ∧ μ' = xmm u) := by
    intro d
    induction d with
    | zero =>
      intro p hd hp hj
      refine gX4_asksOf_e u (qN Q) (qP Q) _ p (nI t) hQ.1 hQ.2.1 hQ.2.2.1 (by omega) h.1 h.2.1 h.2.2.1 (fun _ => ⟨?_, rfl⟩) (fun z => absurd (by omega) z)
      exact ret_f (fun z => by
        obtain ⟨j, j1, j2⟩ := aAsks_iff.mp z
        exact hj j (by omega) j2)
    | succ d ih =>
      intro p hd hp hj
      have hpn : p < qP Q := by omega
      have hcp := h.2.2.2.2 p hpn
      have h5 := hQ.2.2.2.2.1 p hpn
      have next : ¬ (qK Q p ≤ 1 ∧ qOf Q p = t) → xE mX4_asksOf 2 [(0, .ref 3), (1, .int (nI t)), (2, .int (nI (p + 1)))] [] (xmm u) (fun r μ' => r = some (.int (xb (aAsks Q t = true))) ∧ μ' = xmm u) := fun z => ih (p + 1) (by omega) (by omega) (fun j hjp => by
        by_cases e : j = p
        · subst e; exact z
        · exact hj j (by omega))
      refine gX4_asksOf_2 u (qN Q) (qP Q) _ p (qK Q p) (nI t) _ hQ.1 hQ.2.1 hQ.2.2.1 hpn h5.1 h.1 h.2.1 h.2.2.1 hcp.1 hcp.2.1 (fun z => by omega) (fun _ z => next (fun y => z y.1)) (fun _ z y => next (fun x => ?_)) (fun _ z y => ⟨?_, rfl⟩)
      · unfold qTb at y
        rw [if_pos z, x.2] at y
        exact y rfl
      · unfold qTb at y
        rw [if_pos z] at y
        have e := (nI_inj (by have := (h5.2.1 z).1; omega) (by omega)).mp y
        exact ret_t (aAsks_iff.mpr ⟨p, hpn, z, e⟩)
  exact loop _ 0 rfl (Nat.zero_le _) (fun j hj => absurd hj (Nat.not_lt_zero j))

theorem gX4_hasRoomFor_0 (u : xU) (nn n hc : Nat) (k : Int32) {Q : Option Value → xM → Prop} (hnn : nn ≤ 6) (hn : n ≤ 10) (hhc : hc ≤ 5) (v1 : u.1 3 0 = nI (nn)) (v2 : u.1 3 1 = nI (n)) (v3 : u.1 3 4 = nI (hc))
    (k1 : nn ≤ 0 → Q (some (.int (nI (0)))) (xmm u))
    (k2 : ¬ nn ≤ 0 → 10 ≤ n → Q (some (.int (nI (0)))) (xmm u))
    (k3 : ¬ nn ≤ 0 → ¬ 10 ≤ n → ¬ k = 0 → Q (some (.int (nI (1)))) (xmm u))
    (k4 : ¬ nn ≤ 0 → ¬ 10 ≤ n → k = 0 → 5 ≤ hc → Q (some (.int (nI (0)))) (xmm u))
    (k5 : ¬ nn ≤ 0 → ¬ 10 ≤ n → k = 0 → ¬ 5 ≤ hc → Q (some (.int (nI (1)))) (xmm u)) : xE mX4_hasRoomFor 0 [(0, .ref 3), (1, .int (k))] [] (xmm u) Q := by
  refine xe_aload_n 0 dX4_hasRoomFor_0 rfl rfl ?_
  refine xr_getI (v := nI (nn)) dX4_hasRoomFor_1 fX4_22 sh3 (by decide) v1 ?_
  refine xn_if_le 32 dX4_hasRoomFor_4 (by decide) (by omega) (fun c1 => ?_) (fun c1 => ?_)
  · refine xe_iconst (v := nI (0)) dX4_hasRoomFor_32 xc0 ?_
    exact xe_ret (r := (some (.int (nI (0))))) dX4_hasRoomFor_33 (Or.inl rfl) (k1 c1)
  · refine xe_aload_n 0 dX4_hasRoomFor_7 rfl rfl ?_
    refine xr_getI (v := nI (n)) dX4_hasRoomFor_8 fX4_26 sh3 (by decide) v2 ?_
    refine xe_bipush (v := nI (10)) dX4_hasRoomFor_11 xcb10 ?_
    refine xn_icmp_ge 32 dX4_hasRoomFor_13 (by decide) (by omega) (by omega) (fun c2 => ?_) (fun c2 => ?_)
    · refine xe_iconst (v := nI (0)) dX4_hasRoomFor_32 xc0 ?_
      exact xe_ret (r := (some (.int (nI (0))))) dX4_hasRoomFor_33 (Or.inl rfl) (k2 c1 c2)
    · refine xe_iload_n 1 dX4_hasRoomFor_16 rfl rfl ?_
      refine xe_if_ne 28 dX4_hasRoomFor_17 (by decide) (fun c3 => ?_) (fun c3 => ?_)
      · refine xe_iconst (v := nI (1)) dX4_hasRoomFor_28 xc1 ?_
        refine xe_goto 33 dX4_hasRoomFor_29 (by decide) ?_
        exact xe_ret (r := (some (.int (nI (1))))) dX4_hasRoomFor_33 (Or.inr rfl) (k3 c1 c2 c3)
      · refine xe_aload_n 0 dX4_hasRoomFor_20 rfl rfl ?_
        refine xr_getI (v := nI (hc)) dX4_hasRoomFor_21 fX4_29 sh3 (by decide) v3 ?_
        refine xe_iconst (v := nI (5)) dX4_hasRoomFor_24 xc5 ?_
        refine xn_icmp_ge 32 dX4_hasRoomFor_25 (by decide) (by omega) (by omega) (fun c4 => ?_) (fun c4 => ?_)
        · refine xe_iconst (v := nI (0)) dX4_hasRoomFor_32 xc0 ?_
          exact xe_ret (r := (some (.int (nI (0))))) dX4_hasRoomFor_33 (Or.inl rfl) (k4 c1 c2 c3 c4)
        · refine xe_iconst (v := nI (1)) dX4_hasRoomFor_28 xc1 ?_
          refine xe_goto 33 dX4_hasRoomFor_29 (by decide) ?_
          exact xe_ret (r := (some (.int (nI (1))))) dX4_hasRoomFor_33 (Or.inr rfl) (k5 c1 c2 c3 c4)

theorem gX4_lastPart_0 (u : xU) (nn n hc : Nat) {Q : Option Value → xM → Prop} (hnn : nn ≤ 6) (hn : n ≤ 10) (hhc : hc ≤ 5) (v1 : u.1 3 0 = nI (nn)) (v2 : u.1 3 1 = nI (n)) (v3 : u.1 3 4 = nI (hc))
    (k1 : ¬ n = 0 → Q (some (.ref (6 + 4 * (n - 1)))) (xmm u))
    (k2 : n = 0 → Q (some (.null)) (xmm u)) : xE mX4_lastPart 0 [(0, .ref 3)] [] (xmm u) Q := by
  refine xe_aload_n 0 dX4_lastPart_0 rfl rfl ?_
  refine xr_getI (v := nI (n)) dX4_lastPart_1 fX4_26 sh3 (by decide) v2 ?_
  refine xn_if_ne 11 dX4_lastPart_4 (by decide) (by omega) (fun c1 => ?_) (fun c1 => ?_)
  · refine xe_aload_n 0 dX4_lastPart_11 rfl rfl ?_
    refine xr_getR (b := 4) dX4_lastPart_12 fX4_11 rfl sh3 (by decide) rfl ?_
    refine xe_aload_n 0 dX4_lastPart_15 rfl rfl ?_
    refine xr_getI (v := nI (n)) dX4_lastPart_16 fX4_26 sh3 (by decide) v2 ?_
    refine xe_iconst (v := nI (1)) dX4_lastPart_19 xc1 ?_
    refine xn_isub dX4_lastPart_20 (by omega) ?_
    refine xr_aald (k := n - 1) (b := (6 + 4 * (n - 1))) dX4_lastPart_21 sh4 (by decide) (by decide) (by decide) (by omega) (by decide) (rParts (by omega)) ?_
    exact xe_ret (r := (some (.ref (6 + 4 * (n - 1))))) dX4_lastPart_22 trivial (k1 c1)
  · refine xe_null dX4_lastPart_7 ?_
    refine xe_goto 22 dX4_lastPart_8 (by decide) ?_
    exact xe_ret (r := (some (.null))) dX4_lastPart_22 trivial (k2 c1)

theorem gX4_addFact_0 (u : xU) (nn n hc : Nat) (kd c : Nat) (t : Int32) {Q : Option Value → xM → Prop} (hnn : nn ≤ 6) (hn : n < 10) (hhc : hc ≤ 5) (v1 : u.1 3 0 = nI (nn)) (v2 : u.1 3 1 = nI (n)) (v3 : u.1 3 4 = nI (hc))
    (k1 : xC mX3_open [.ref (6 + 4 * n), .int (nI (kd)), .int (t), .int (nI (c))] (xmm u) (fun r μ1 => xE mX4_addFact 15 [(0, .ref 3), (1, .int (nI (kd)))] (r.toList ++ []) μ1 Q)) : xE mX4_addFact 0 [(0, .ref 3), (1, .int (nI (kd))), (2, .int (t)), (3, .int (nI (c)))] [] (xmm u) Q := by
  refine xe_aload_n 0 dX4_addFact_0 rfl rfl ?_
  refine xr_getR (b := 4) dX4_addFact_1 fX4_11 rfl sh3 (by decide) rfl ?_
  refine xe_aload_n 0 dX4_addFact_4 rfl rfl ?_
  refine xr_getI (v := nI (n)) dX4_addFact_5 fX4_26 sh3 (by decide) v2 ?_
  refine xr_aald (k := n) (b := (6 + 4 * n)) dX4_addFact_8 sh4 (by decide) (by decide) (by decide) (by omega) (by decide) (rParts (by omega)) ?_
  refine xe_iload_n 1 dX4_addFact_9 rfl rfl ?_
  refine xe_iload_n 2 dX4_addFact_10 rfl rfl ?_
  refine xe_iload_n 3 dX4_addFact_11 rfl rfl ?_
  refine xE.sub [0, 1] rfl ?_
  refine xe_callV (As := [.int (nI (kd)), .int (t), .int (nI (c))]) (rest := []) dX4_addFact_12 wX3_open lX4_39 iX3_open sX3_open ⟨by decide, by decide⟩ (shP _ (by omega)) rfl (xin_mm (by omega)) rfl rfl (by simp [Value.category]) ?_
  exact k1

theorem gX4_addFact_15 (u : xU) (nn n hc : Nat) (kd : Nat) {Q : Option Value → xM → Prop} (hnn : nn ≤ 6) (hn : n < 10) (hhc : hc ≤ 5) (hkd : kd ≤ 3) (v1 : u.1 3 0 = nI (nn)) (v2 : u.1 3 1 = nI (n)) (v3 : u.1 3 4 = nI (hc))
    (k1 : ¬ kd = 0 → Q (some (.int (nI ((n + 1) - 1)))) (xmm (wi u 3 1 (nI (n + 1)))))
    (k2 : kd = 0 → Q (some (.int (nI ((n + 1) - 1)))) (xmm (wi (wi u 3 4 (nI (hc + 1))) 3 1 (nI (n + 1))))) : xE mX4_addFact 15 [(0, .ref 3), (1, .int (nI (kd)))] [] (xmm u) Q := by
  refine xe_iload_n 1 dX4_addFact_15 rfl rfl ?_
  refine xn_if_ne 29 dX4_addFact_16 (by decide) (by omega) (fun c1 => ?_) (fun c1 => ?_)
  · refine xe_aload_n 0 dX4_addFact_29 rfl rfl ?_
    refine xe_dup dX4_addFact_30 rfl ?_
    refine xr_getI (v := nI (n)) dX4_addFact_31 fX4_26 sh3 (by decide) v2 ?_
    refine xe_iconst (v := nI (1)) dX4_addFact_34 xc1 ?_
    refine xn_iadd dX4_addFact_35 ?_
    refine xr_putI dX4_addFact_36 fX4_26 sh3 (by decide) ?_
    refine xe_aload_n 0 dX4_addFact_39 rfl rfl ?_
    refine xr_getI (v := nI (n + 1)) dX4_addFact_40 fX4_26 sh3 (by decide) wi_self ?_
    refine xe_iconst (v := nI (1)) dX4_addFact_43 xc1 ?_
    refine xn_isub dX4_addFact_44 (by omega) ?_
    exact xe_ret (r := (some (.int (nI ((n + 1) - 1))))) dX4_addFact_45 trivial (k1 c1)
  · refine xe_aload_n 0 dX4_addFact_19 rfl rfl ?_
    refine xe_dup dX4_addFact_20 rfl ?_
    refine xr_getI (v := nI (hc)) dX4_addFact_21 fX4_29 sh3 (by decide) v3 ?_
    refine xe_iconst (v := nI (1)) dX4_addFact_24 xc1 ?_
    refine xn_iadd dX4_addFact_25 ?_
    refine xr_putI dX4_addFact_26 fX4_29 sh3 (by decide) ?_
    refine xe_aload_n 0 dX4_addFact_29 rfl rfl ?_
    refine xe_dup dX4_addFact_30 rfl ?_
    refine xr_getI (v := nI (n)) dX4_addFact_31 fX4_26 sh3 (by decide) ((wi_nek (by decide)).trans v2) ?_
    refine xe_iconst (v := nI (1)) dX4_addFact_34 xc1 ?_
    refine xn_iadd dX4_addFact_35 ?_
    refine xr_putI dX4_addFact_36 fX4_26 sh3 (by decide) ?_
    refine xe_aload_n 0 dX4_addFact_39 rfl rfl ?_
    refine xr_getI (v := nI (n + 1)) dX4_addFact_40 fX4_26 sh3 (by decide) wi_self ?_
    refine xe_iconst (v := nI (1)) dX4_addFact_43 xc1 ?_
    refine xn_isub dX4_addFact_44 (by omega) ?_
    exact xe_ret (r := (some (.int (nI ((n + 1) - 1))))) dX4_addFact_45 trivial (k2 c1)

theorem gX4_addComparison_0 (u : xU) (nn n hc : Nat) (kd k : Nat) (b v : Int32) {Q : Option Value → xM → Prop} (hnn : nn ≤ 6) (hn : n < 10) (hhc : hc ≤ 5) (v1 : u.1 3 0 = nI (nn)) (v2 : u.1 3 1 = nI (n)) (v3 : u.1 3 4 = nI (hc))
    (k1 : xC mX3_open [.ref (6 + 4 * n), .int (nI (kd)), .int (-1), .int (nI (2))] (xmm u) (fun r μ1 => xE mX4_addComparison 19 [(0, .ref 3), (2, .int (nI (k))), (3, .int (b)), (4, .int (v)), (5, .ref (6 + 4 * n))] (r.toList ++ []) μ1 Q)) : xE mX4_addComparison 0 [(0, .ref 3), (1, .int (nI (kd))), (2, .int (nI (k))), (3, .int (b)), (4, .int (v))] [] (xmm u) Q := by
  refine xe_aload_n 0 dX4_addComparison_0 rfl rfl ?_
  refine xr_getR (b := 4) dX4_addComparison_1 fX4_11 rfl sh3 (by decide) rfl ?_
  refine xe_aload_n 0 dX4_addComparison_4 rfl rfl ?_
  refine xr_getI (v := nI (n)) dX4_addComparison_5 fX4_26 sh3 (by decide) v2 ?_
  refine xr_aald (k := n) (b := (6 + 4 * n)) dX4_addComparison_8 sh4 (by decide) (by decide) (by decide) (by omega) (by decide) (rParts (by omega)) ?_
  refine xe_astore (L2 := [(0, .ref 3), (1, .int (nI (kd))), (2, .int (nI (k))), (3, .int (b)), (4, .int (v)), (5, .ref (6 + 4 * n))]) dX4_addComparison_9 (by decide) rfl ?_
  refine xe_aload 5 dX4_addComparison_11 rfl ?_
  refine xe_iload_n 1 dX4_addComparison_13 rfl rfl ?_
  refine xe_iconst (v := -1) dX4_addComparison_14 xcm1 ?_
  refine xe_iconst (v := nI (2)) dX4_addComparison_15 xc2 ?_
  refine xE.sub [0, 2, 3, 4, 5] rfl ?_
  refine xe_callV (As := [.int (nI (kd)), .int (-1), .int (nI (2))]) (rest := []) dX4_addComparison_16 wX3_open lX4_39 iX3_open sX3_open ⟨by decide, by decide⟩ (shP _ (by omega)) rfl (xin_mm (by omega)) rfl rfl (by simp [Value.category]) ?_
  exact k1

theorem gX4_addComparison_19 (u : xU) (nn n hc : Nat) (k : Nat) (b v : Int32) {Q : Option Value → xM → Prop} (hnn : nn ≤ 6) (hn : n < 10) (hhc : hc ≤ 5) (v1 : u.1 3 0 = nI (nn)) (v2 : u.1 3 1 = nI (n)) (v3 : u.1 3 4 = nI (hc))
    (k1 : xC mX3_addName [.ref (6 + 4 * n), .int (nI (k))] (xmm u) (fun r μ1 => xE mX4_addComparison 25 [(0, .ref 3), (3, .int (b)), (4, .int (v)), (5, .ref (6 + 4 * n))] (r.toList ++ []) μ1 Q)) : xE mX4_addComparison 19 [(0, .ref 3), (2, .int (nI (k))), (3, .int (b)), (4, .int (v)), (5, .ref (6 + 4 * n))] [] (xmm u) Q := by
  refine xe_aload 4 dX4_addComparison_19 rfl ?_
  refine xe_iload_n 1 dX4_addComparison_21 rfl rfl ?_
  refine xE.sub [0, 2, 3, 4] rfl ?_
  refine xe_callV (As := [.int (nI (k))]) (rest := []) dX4_addComparison_22 wX3_addName lX4_43 iX3_addName sX3_addName ⟨by decide, by decide⟩ (shP _ (by omega)) rfl (xin_mm (by omega)) rfl rfl (by simp [Value.category]) ?_
  exact k1

