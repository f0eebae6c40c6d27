/-! answers: what is told of them -/
theorem in_N {i : Int32} {m : Nat} (hm : m < 2147483648) (h0 : 0 ≤ i) (h1 : i < nI m) : ∃ j, j < m ∧ i = nI j := by
  rw [Int32.le_iff_toInt_le] at h0
  rw [Int32.lt_iff_toInt_lt, nI_toI hm] at h1
  have z : (0 : Int32).toInt = 0 := rfl
  rw [z] at h0
  refine ⟨i.toInt.toNat, by omega, Int32.toInt_inj.mp ?_⟩
  rw [nI_toI (by omega)]
  omega
theorem nn_N (j : Nat) (hj : j < 2147483648) : 0 ≤ nI j := by
  rw [Int32.le_iff_toInt_le, nI_toI hj]
  show (0 : Int) ≤ j
  omega
def cry (n : Nat) (r : Option (List (Nat → Int32))) (k : Int32) : Bool := r.isSome && decide (0 ≤ k) && decide (k < nI n)
theorem cry_t {n : Nat} {r : Option (List (Nat → Int32))} {k : Int32} (hn : n ≤ 6) (h : cry n r k = true) : ∃ l j, r = some l ∧ j < n ∧ k = nI j := by
  unfold cry at h
  rw [Bool.and_eq_true, Bool.and_eq_true, decide_eq_true_eq, decide_eq_true_eq] at h
  obtain ⟨⟨h1, h2⟩, h3⟩ := h
  obtain ⟨j, j1, j2⟩ := in_N (by omega) h2 h3
  cases r with
  | none => cases h1
  | some l => exact ⟨l, j, rfl, j1, j2⟩
theorem cry_n {n : Nat} {l : List (Nat → Int32)} {j : Nat} (hn : n ≤ 6) (h : j < n) : cry n (some l) (nI j) = true := by
  unfold cry
  rw [Bool.and_eq_true, Bool.and_eq_true, decide_eq_true_eq, decide_eq_true_eq]
  exact ⟨⟨rfl, nn_N j (by omega)⟩, (nI_ltn (by omega) (by omega)).mpr h⟩
theorem CA.nm {A n : Nat} {r : Option (List (Nat → Int32))} {u : xU} (h : CA A n r u) : u.1 A 0 = nI n := by
  cases r with
  | none => exact h.1
  | some l => exact h.1
theorem CA.sz {A n : Nat} {r : Option (List (Nat → Int32))} {u : xU} (h : CA A n r u) : u.1 A 1 = szI r := by
  cases r with
  | none => exact h.2
  | some l => exact h.2.1
theorem szI_m {r : Option (List (Nat → Int32))} (h : ∀ l, r = some l → l.length ≤ 500) : szI r = -1 ↔ r = none := by
  cases r with
  | none => exact ⟨fun _ => rfl, fun _ => rfl⟩
  | some l =>
    have := h l rfl
    exact ⟨fun z => absurd z (nIm1 (by omega)), fun z => by cases z⟩
theorem qX0_carries {u : xU} {A n : Nat} {r : Option (List (Nat → Int32))} (hA : A = 47 ∨ A = 59) (hI : AI n r) (h : CA A n r u) (k : Int32) : xC mX0_carries [.ref A, .int k] (xmm u) (fun r' μ' => r' = some (.int (xb (cry n r k = true))) ∧ μ' = xmm u) := by
  have hs := szI_m (fun l hl => (hI.2 l hl).1)
  refine xC.of xpl0 (Nat.le_of_ble_eq_true rfl) (gX0_carries_0 u A n k _ hA h.sz h.nm (fun z => ⟨ret_f (fun q => ?_), rfl⟩) (fun z y => ⟨ret_f (fun q => ?_), rfl⟩) (fun z y x => ⟨ret_f (fun q => ?_), rfl⟩) (fun z y x => ⟨ret_t ?_, rfl⟩))
  · obtain ⟨l, j, e, -⟩ := cry_t hI.1 q
    rw [hs.mp z] at e
    cases e
  · unfold cry at q
    rw [Bool.and_eq_true, Bool.and_eq_true, decide_eq_true_eq, decide_eq_true_eq] at q
    exact neg_nn y q.1.2
  · unfold cry at q
    rw [Bool.and_eq_true, Bool.and_eq_true, decide_eq_true_eq, decide_eq_true_eq] at q
    exact Int32.not_lt.mpr x q.2
  · unfold cry
    rw [Bool.and_eq_true, Bool.and_eq_true, decide_eq_true_eq, decide_eq_true_eq]
    refine ⟨⟨?_, Int32.not_lt.mp y⟩, Int32.not_le.mp x⟩
    cases r with
    | none => exact absurd (hs.mpr rfl) z
    | some l => rfl
/-- a value of an answer -/
def atV (n : Nat) (r : Option (List (Nat → Int32))) (i k : Int32) : Int32 := match r with
  | none => 0
  | some l => if 0 ≤ i ∧ i < nI l.length ∧ cry n (some l) k = true then (l.getD i.toNatClampNeg (fun _ => 0)) k.toNatClampNeg else 0
theorem qX0_atN {u : xU} {A n : Nat} {l : List (Nat → Int32)} (hA : A = 47 ∨ A = 59) (hI : AI n (some l)) (h : CA A n (some l) u) {i k : Nat} {a : Nat → Int32} (ha : l[i]? = some a) (hk : k < n) : xC mX0_at [.ref A, .int (nI i), .int (nI k)] (xmm u) (fun r' μ' => r' = some (.int (a k)) ∧ μ' = xmm u) := by
  have hn6 := hI.1
  have l5 := (hI.2 l rfl).1
  have hi := (List.getElem?_eq_some_iff.mp ha).1
  have hc := qX0_carries hA hI h (nI k)
  obtain ⟨h1, h2, Z, D, h3, h4⟩ := h
  obtain ⟨m, m1, m2, m3⟩ := h4 i a ha
  obtain ⟨s1, s2⟩ := m3 k hk
  have s40 := (h3 k hk).1.1
  exact xC.of xpl0 (Nat.le_of_ble_eq_true rfl) (gX0_at_N u A i k l.length (spN m k) (nL m) (a k) _ hA (by omega) l5 (by omega) (by omega) hc (qX9_spotIn u (by omega) m2) h2 m1 (by rw [(h3 k hk).2 _ s1, s2]) (fun z => absurd hi (by omega)) (fun _ _ => ⟨rfl, rfl⟩) (fun _ z => absurd (cry_n hn6 hk) z))
theorem atV_n {n : Nat} {l : List (Nat → Int32)} {i k : Nat} {a : Nat → Int32} (hn : n ≤ 6) (l5 : l.length ≤ 500) (ha : l[i]? = some a) (hk : k < n) : atV n (some l) (nI i) (nI k) = a k := by
  have hi := (List.getElem?_eq_some_iff.mp ha).1
  unfold atV
  dsimp only
  rw [if_pos ⟨nn_N i (by omega), (nI_ltn (by omega) (by omega)).mpr hi, cry_n hn hk⟩, nI_nat (by omega), nI_nat (by omega), List.getD_eq_getElem?_getD, ha]
  rfl
theorem qX0_at {u : xU} {A n : Nat} {r : Option (List (Nat → Int32))} (hA : A = 47 ∨ A = 59) (hI : AI n r) (h : CA A n r u) (i k : Int32) : xC mX0_at [.ref A, .int i, .int k] (xmm u) (fun r' μ' => r' = some (.int (atV n r i k)) ∧ μ' = xmm u) := by
  have hc := qX0_carries hA hI h k
  by_cases hin : ∃ l, r = some l ∧ 0 ≤ i ∧ i < nI l.length ∧ cry n r k = true
  · obtain ⟨l, rfl, i1, i2, i3⟩ := hin
    have l5 := (hI.2 l rfl).1
    obtain ⟨i', i4, rfl⟩ := in_N (by omega) i1 i2
    obtain ⟨_, k', -, k2, rfl⟩ := cry_t hI.1 i3
    have ha := List.getElem?_eq_getElem i4
    rw [atV_n hI.1 l5 ha k2]
    exact qX0_atN hA hI h ha k2
  · have e : atV n r i k = 0 := by
      unfold atV
      cases r with
      | none => rfl
      | some l =>
        dsimp only
        rw [if_neg (fun q => hin ⟨l, rfl, q⟩)]
    rw [e]
    refine xC.of xpl0 (Nat.le_of_ble_eq_true rfl) (gX0_at_I u A i k _ _ hA hc h.sz (fun _ => ⟨rfl, rfl⟩) (fun _ _ => ⟨rfl, rfl⟩) (fun z y x => hin ?_) (fun _ _ _ => ⟨rfl, rfl⟩))
    obtain ⟨l, _, rfl, -⟩ := cry_t hI.1 x
    exact ⟨l, rfl, Int32.not_lt.mp z, Int32.not_le.mp y, x⟩
/-! sums over the first rows -/
theorem fold_snoc {α : Type} {f : α → (Nat → Int32) → α} {z : α} {l : List (Nat → Int32)} {i : Nat} {a : Nat → Int32} (ha : l[i]? = some a) : (l.take (i + 1)).foldl f z = f ((l.take i).foldl f z) a := by
  rw [List.take_succ, ha, List.foldl_append]
  rfl
theorem fold_all {α : Type} {f : α → (Nat → Int32) → α} {z : α} {l : List (Nat → Int32)} {i : Nat} (h : l.length ≤ i) : (l.take i).foldl f z = l.foldl f z := by rw [List.take_of_length_le h]
def nz (v : Int32) : Int32 := if v = -2147483648 then 0 else v
def totF (k : Nat) : Int64 → (Nat → Int32) → Int64 := fun t a => t + (nz (a k)).toInt64
def cntF (k : Nat) (w : Int32) : Nat → (Nat → Int32) → Nat := fun f a => if a k = w then f + 1 else f
def grtF (k : Nat) : Int32 → (Nat → Int32) → Int32 := fun g a => if g < a k then a k else g
def lstF (k : Nat) : Int32 → (Nat → Int32) → Int32 := fun g a => if ky (a k) < ky g then a k else g
def twF (k j : Nat) (w : Int32) : Int64 → (Nat → Int32) → Int64 := fun t a => if a k = w then t + (nz (a j)).toInt64 else t
theorem qX0_numberOrZero {u : xU} {A n : Nat} {l : List (Nat → Int32)} (hA : A = 47 ∨ A = 59) (hI : AI n (some l)) (h : CA A n (some l) u) {i k : Nat} {a : Nat → Int32} (ha : l[i]? = some a) (hk : k < n) : xC mX0_numberOrZero [.ref A, .int (nI i), .int (nI k)] (xmm u) (fun r' μ' => r' = some (.int (nz (a k))) ∧ μ' = xmm u) := xC.of xpl0 (Nat.le_of_ble_eq_true rfl) (gX0_numberOrZero_0 u A i k (a k) hA (qX0_atN hA hI h ha hk) (fun z => ⟨by unfold nz; rw [if_neg z], rfl⟩) (fun z => ⟨by unfold nz; rw [if_pos z]; rfl, rfl⟩))

theorem qX0_total {u : xU} {A n : Nat} {l : List (Nat → Int32)} (hA : A = 47 ∨ A = 59) (hI : AI n (some l)) (h : CA A n (some l) u) {k : Nat} (hk : k < n) : xC mX0_total [.ref A, .int (nI k)] (xmm u) (fun r' μ' => r' = some (.long (l.foldl (totF k) 0)) ∧ μ' = xmm u) := by
  have l5 := (hI.2 l rfl).1
  refine xC.of xpl0 (Nat.le_of_ble_eq_true rfl) (gX0_total_0 u A k ?_)
  have loop : ∀ d i, l.length - i = d → i ≤ l.length → xE mX0_total 5 [(0, .ref A), (1, .int (nI k)), (2, .long ((l.take i).foldl (totF k) 0)), (4, .int (nI i))] [] (xmm u) (fun r' μ' => r' = some (.long (l.foldl (totF k) 0)) ∧ μ' = xmm u) := by
    intro d
    induction d with
    | zero =>
      intro i hd hi
      exact gX0_total_e u A k l.length i _ hA l5 (by omega) h.2.1 (fun _ => ⟨by rw [fold_all (by omega)], rfl⟩) (fun z => absurd (by omega) z)
    | succ d ih =>
      intro i hd hi
      have hil : i < l.length := by omega
      have ha := List.getElem?_eq_getElem hil
      have := ih (i + 1) (by omega) hil
      rw [fold_snoc ha] at this
      exact gX0_total_5 u A k l.length i _ _ hA l5 hil (qX0_numberOrZero hA hI h ha hk) h.2.1 (fun z => absurd hil (by omega)) (fun _ => this)
  exact loop _ 0 rfl (Nat.zero_le _)
theorem qX0_howManyWith {u : xU} {A n : Nat} {l : List (Nat → Int32)} (hA : A = 47 ∨ A = 59) (hI : AI n (some l)) (h : CA A n (some l) u) {k : Nat} (hk : k < n) (w : Int32) : xC mX0_howManyWith [.ref A, .int (nI k), .int w] (xmm u) (fun r' μ' => r' = some (.long (nI (l.foldl (cntF k w) 0)).toInt64) ∧ μ' = xmm u) := by
  have l5 := (hI.2 l rfl).1
  refine xC.of xpl0 (Nat.le_of_ble_eq_true rfl) (gX0_howManyWith_0 u A k w ?_)
  have loop : ∀ d i, l.length - i = d → i ≤ l.length → xE mX0_howManyWith 5 [(0, .ref A), (1, .int (nI k)), (2, .int w), (3, .int (nI ((l.take i).foldl (cntF k w) 0))), (4, .int (nI i))] [] (xmm u) (fun r' μ' => r' = some (.long (nI (l.foldl (cntF k w) 0)).toInt64) ∧ μ' = xmm u) := by
    intro d
    induction d with
    | zero =>
      intro i hd hi
      exact gX0_howManyWith_e u A k l.length i _ w hA l5 (by omega) h.2.1 (fun _ => ⟨by rw [fold_all (by omega)], rfl⟩) (fun z => absurd (by omega) z)
    | succ d ih =>
      intro i hd hi
      have hil : i < l.length := by omega
      have ha := List.getElem?_eq_getElem hil
      have := ih (i + 1) (by omega) hil
      rw [fold_snoc ha] at this
      refine gX0_howManyWith_5 u A k l.length i _ w _ hA l5 hil (qX0_atN hA hI h ha hk) h.2.1 (fun z => absurd hil (by omega)) (fun _ z => ?_) (fun _ z => ?_)
      · rw [show cntF k w ((l.take i).foldl (cntF k w) 0) l[i] = (l.take i).foldl (cntF k w) 0 from if_neg z] at this
        exact this
      · rw [show cntF k w ((l.take i).foldl (cntF k w) 0) l[i] = (l.take i).foldl (cntF k w) 0 + 1 from if_pos z] at this
        exact this
  exact loop _ 0 rfl (Nat.zero_le _)
theorem qX0_numbers {u : xU} {A n : Nat} {l : List (Nat → Int32)} (hA : A = 47 ∨ A = 59) (hI : AI n (some l)) (h : CA A n (some l) u) {k : Nat} (hk : k < n) : xC mX0_numbers [.ref A, .int (nI k)] (xmm u) (fun r' μ' => r' = some (.long ((nI l.length).toInt64 - (nI (l.foldl (cntF k (-2147483648)) 0)).toInt64)) ∧ μ' = xmm u) := xC.of xpl0 (Nat.le_of_ble_eq_true rfl) (gX0_numbers_0 u A k l.length _ hA (qX0_howManyWith hA hI h hk _) h.2.1 ⟨rfl, rfl⟩)
theorem qX0_greatest {u : xU} {A n : Nat} {l : List (Nat → Int32)} (hA : A = 47 ∨ A = 59) (hI : AI n (some l)) (h : CA A n (some l) u) {k : Nat} (hk : k < n) : xC mX0_greatest [.ref A, .int (nI k)] (xmm u) (fun r' μ' => r' = some (.long (l.foldl (grtF k) (-2147483648)).toInt64) ∧ μ' = xmm u) := by
  have l5 := (hI.2 l rfl).1
  refine xC.of xpl0 (Nat.le_of_ble_eq_true rfl) (gX0_greatest_0 u A k ?_)
  have loop : ∀ d i, l.length - i = d → i ≤ l.length → xE mX0_greatest 5 [(0, .ref A), (1, .int (nI k)), (2, .int ((l.take i).foldl (grtF k) (-2147483648))), (3, .int (nI i))] [] (xmm u) (fun r' μ' => r' = some (.long (l.foldl (grtF k) (-2147483648)).toInt64) ∧ μ' = xmm u) := by
    intro d
    induction d with
    | zero =>
      intro i hd hi
      exact gX0_greatest_e u A k l.length i _ hA l5 (by omega) h.2.1 (fun _ => ⟨by rw [fold_all (by omega)], rfl⟩) (fun z => absurd (by omega) z)
    | succ d ih =>
      intro i hd hi
      have hil : i < l.length := by omega
      have ha := List.getElem?_eq_getElem hil
      have := ih (i + 1) (by omega) hil
      rw [fold_snoc ha] at this
      exact gX0_greatest_5 u A k l.length i _ _ hA l5 hil (qX0_atN hA hI h ha hk) h.2.1 (fun z => absurd hil (by omega)) (fun _ => this)
  exact loop _ 0 rfl (Nat.zero_le _)
theorem qX0_least {u : xU} {A n : Nat} {l : List (Nat → Int32)} (hA : A = 47 ∨ A = 59) (hI : AI n (some l)) (h : CA A n (some l) u) {k : Nat} (hk : k < n) : xC mX0_least [.ref A, .int (nI k)] (xmm u) (fun r' μ' => r' = some (.long (l.foldl (lstF k) (-2147483648)).toInt64) ∧ μ' = xmm u) := by
  have l5 := (hI.2 l rfl).1
  refine xC.of xpl0 (Nat.le_of_ble_eq_true rfl) (gX0_least_0 u A k ?_)
  have loop : ∀ d i, l.length - i = d → i ≤ l.length → xE mX0_least 5 [(0, .ref A), (1, .int (nI k)), (2, .int ((l.take i).foldl (lstF k) (-2147483648))), (3, .int (nI i))] [] (xmm u) (fun r' μ' => r' = some (.long (l.foldl (lstF k) (-2147483648)).toInt64) ∧ μ' = xmm u) := by
    intro d
    induction d with
    | zero =>
      intro i hd hi
      exact gX0_least_e u A k l.length i _ hA l5 (by omega) h.2.1 (fun _ => ⟨by rw [fold_all (by omega)], rfl⟩) (fun z => absurd (by omega) z)
    | succ d ih =>
      intro i hd hi
      have hil : i < l.length := by omega
      have ha := List.getElem?_eq_getElem hil
      have := ih (i + 1) (by omega) hil
      rw [fold_snoc ha] at this
      refine gX0_least_5 u A k l.length i _ _ hA l5 hil (qX0_atN hA hI h ha hk) h.2.1 (fun z => absurd hil (by omega)) (fun _ z => ?_) (fun _ z => ?_)
      · rw [show lstF k ((l.take i).foldl (lstF k) (-2147483648)) l[i] = (l.take i).foldl (lstF k) (-2147483648) from if_neg z] at this
        exact this
      · rw [show lstF k ((l.take i).foldl (lstF k) (-2147483648)) l[i] = l[i] k from if_pos z] at this
        exact this
  exact loop _ 0 rfl (Nat.zero_le _)
theorem qX0_totalWith {u : xU} {A n : Nat} {l : List (Nat → Int32)} (hA : A = 47 ∨ A = 59) (hI : AI n (some l)) (h : CA A n (some l) u) {k j : Nat} (hk : k < n) (hj : j < n) (w : Int32) : xC mX0_totalWith [.ref A, .int (nI k), .int w, .int (nI j)] (xmm u) (fun r' μ' => r' = some (.long (l.foldl (twF k j w) 0)) ∧ μ' = xmm u) := by
  have l5 := (hI.2 l rfl).1
  refine xC.of xpl0 (Nat.le_of_ble_eq_true rfl) (gX0_totalWith_0 u A k j w ?_)
  have loop : ∀ d i, l.length - i = d → i ≤ l.length → xE mX0_totalWith 6 [(0, .ref A), (1, .int (nI k)), (2, .int w), (3, .int (nI j)), (4, .long ((l.take i).foldl (twF k j w) 0)), (6, .int (nI i))] [] (xmm u) (fun r' μ' => r' = some (.long (l.foldl (twF k j w) 0)) ∧ μ' = xmm u) := by
    intro d
    induction d with
    | zero =>
      intro i hd hi
      exact gX0_totalWith_e u A k j l.length i w _ hA l5 (by omega) h.2.1 (fun _ => ⟨by rw [fold_all (by omega)], rfl⟩) (fun z => absurd (by omega) z)
    | succ d ih =>
      intro i hd hi
      have hil : i < l.length := by omega
      have ha := List.getElem?_eq_getElem hil
      have := ih (i + 1) (by omega) hil
      rw [fold_snoc ha] at this
      refine gX0_totalWith_6 u A k j l.length i w _ _ _ hA l5 hil (qX0_atN hA hI h ha hk) (qX0_numberOrZero hA hI h ha hj) h.2.1 (fun z => absurd hil (by omega)) (fun _ z => ?_) (fun _ z => ?_)
      · rw [show twF k j w ((l.take i).foldl (twF k j w) 0) l[i] = (l.take i).foldl (twF k j w) 0 from if_neg z] at this
        exact this
      · rw [show twF k j w ((l.take i).foldl (twF k j w) 0) l[i] = (l.take i).foldl (twF k j w) 0 + (nz (l[i] j)).toInt64 from if_pos z] at this
        exact this
  exact loop _ 0 rfl (Nat.zero_le _)

