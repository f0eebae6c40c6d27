/-! what was woven: how many names, the rows, how many parts, the meetings, each HAS's number, each HAS's witness -/
abbrev WVN : Type := Nat × Option (List (Nat → Int32)) × Nat × (Nat → Nat) × (Nat → Option Nat) × (Nat → (Nat → Int32) → Nat)
abbrev wN (W : WVN) : Nat := W.1
abbrev wR (W : WVN) : Option (List (Nat → Int32)) := W.2.1
abbrev wP (W : WVN) : Nat := W.2.2.1
abbrev wM (W : WVN) : Nat → Nat := W.2.2.2.1
abbrev wH (W : WVN) : Nat → Option Nat := W.2.2.2.2.1
abbrev wW (W : WVN) : Nat → (Nat → Int32) → Nat := W.2.2.2.2.2
/-- rows in order, name by name -/
def lexR (n : Nat) (a b : Nat → Int32) : Prop := ∃ k, k < n ∧ (∀ j, j < k → a j = b j) ∧ ky (a k) < ky (b k)
def AI (n : Nat) (r : Option (List (Nat → Int32))) : Prop := n ≤ 6 ∧ ∀ l, r = some l → l.length ≤ 500 ∧ l.Pairwise (lexR n) ∧ ∀ a, a ∈ l → ∀ j, ¬ j < n → a j = 0
/-- answers in the class's memory -/
def CAs (A n : Nat) (l : List (Nat → Int32)) (u : xU) : Prop := u.1 A 0 = nI n ∧ u.1 A 1 = nI l.length ∧ ∃ (Z : Nat → Nat) (D : Nat → Nat → Int32), (∀ k, k < n → DO (Z k) (D k) ∧ ∀ s, s < Z k → u.1 (A + 2 + k) s = D k s) ∧ ∀ i a, l[i]? = some a → ∃ m, u.2.1 (A + 8) i = nL m ∧ m < 2 ^ 36 ∧ ∀ k, k < n → spN m k < Z k ∧ D k (spN m k) = a k
def CA (A n : Nat) (r : Option (List (Nat → Int32))) (u : xU) : Prop := match r with
  | none => u.1 A 0 = nI n ∧ u.1 A 1 = -1
  | some l => CAs A n l u
theorem CA.keep {A n : Nat} {r : Option (List (Nat → Int32))} {u u' : xU} (h : CA A n r u) (hn : n ≤ 6) (f1 : ∀ x, x = A ∨ A + 2 ≤ x ∧ x < A + 8 → u'.1 x = u.1 x) (f2 : u'.2.1 (A + 8) = u.2.1 (A + 8)) : CA A n r u' := by
  cases r with
  | none => exact ⟨by rw [f1 A (Or.inl rfl)]; exact h.1, by rw [f1 A (Or.inl rfl)]; exact h.2⟩
  | some l =>
    obtain ⟨h1, h2, Z, D, h3, h4⟩ := h
    refine ⟨by rw [f1 A (Or.inl rfl)]; exact h1, by rw [f1 A (Or.inl rfl)]; exact h2, Z, D, fun k hk => ⟨(h3 k hk).1, fun s hs => by rw [f1 _ (Or.inr ⟨by omega, by omega⟩)]; exact (h3 k hk).2 s hs⟩, fun i a ha => by rw [f2]; exact h4 i a ha⟩
def frTk (A : Nat) (u u' : xU) : Prop := (∀ x, x ≠ A → ¬ (A + 2 ≤ x ∧ x < A + 8) → u'.1 x = u.1 x) ∧ (∀ x, x ≠ A + 8 → u'.2.1 x = u.2.1 x) ∧ u'.2.2 = u.2.2

theorem qX0_takeW {u : xU} {A c n m : Nat} (hA : A = 47 ∨ A = 59) (hc : c < 2) : xC mX0_take [.ref A, .int (nI n), .int (nI m), .ref 76, .ref (148 + c)] (xmm u) (fun r μ' => ∃ u', μ' = xmm u' ∧ r = none ∧ u'.1 A 0 = nI n ∧ u'.1 A 1 = nI m ∧ (∀ k, k < 6 → ∀ s, s < 64 → u'.1 (A + 2 + k) s = u.1 (77 + k) s) ∧ (∀ i, i < 500 → u'.2.1 (A + 8) i = u.2.1 (148 + c) i) ∧ frTk A u u') := by
  refine xC.of xpl0 (Nat.le_of_ble_eq_true rfl) (gX0_takeW_0 u A c n m hA hc ?_)
  have loop : ∀ d i (v : xU), 6 - i = d → i ≤ 6 → v.1 A 0 = nI n → v.1 A 1 = nI m → (∀ k, k < i → ∀ s, s < 64 → v.1 (A + 2 + k) s = u.1 (77 + k) s) → (∀ x, x ≠ A → ¬ (A + 2 ≤ x ∧ x < A + 8) → v.1 x = u.1 x) → v.2 = u.2 → xE mX0_take 13 [(0, .ref A), (3, .ref 76), (4, .ref (148 + c)), (5, .int (nI i))] [] (xmm v) (fun r μ' => ∃ u', μ' = xmm u' ∧ r = none ∧ u'.1 A 0 = nI n ∧ u'.1 A 1 = nI m ∧ (∀ k, k < 6 → ∀ s, s < 64 → u'.1 (A + 2 + k) s = u.1 (77 + k) s) ∧ (∀ i, i < 500 → u'.2.1 (A + 8) i = u.2.1 (148 + c) i) ∧ frTk A u u') := by
    intro d
    induction d with
    | zero =>
      intro i v hd hi h0 h1 h2 h3 h4
      refine gX0_takeW_13 v A c i hA hi hc (fun _ => ⟨_, rfl, rfl, h0, h1, fun k hk s hs => h2 k (by omega) s hs, fun j hj => ?_, h3, fun x hx => ?_, by rw [← h4]; rfl⟩) (fun z => absurd (by omega) z)
      · rw [wcl_app, if_pos ⟨rfl, Nat.zero_le _, by omega⟩, h4, Nat.sub_zero, Nat.zero_add]
      · rw [wcl_row hx, h4]
    | succ d ih =>
      intro i v hd hi h0 h1 h2 h3 h4
      refine gX0_takeW_13 v A c i hA hi hc (fun z => absurd z (by omega)) (fun _ => ih (i + 1) _ (by omega) (by omega) (by rw [wci_row (by omega)]; exact h0) (by rw [wci_row (by omega)]; exact h1) (fun k hk s hs => ?_) (fun x hx hx2 => by rw [wci_row (by omega)]; exact h3 x hx hx2) h4)
      by_cases ek : k = i
      · subst ek
        rw [wci_app, if_pos ⟨rfl, Nat.zero_le _, by omega⟩, h3 _ (by omega) (by omega), Nat.sub_zero, Nat.zero_add]
      · rw [wci_row (by omega)]
        exact h2 k (by omega) s hs
  refine loop _ 0 _ rfl (Nat.zero_le _) (by rw [wi_nek (by decide), wi_self]) wi_self (fun k hk => absurd hk (Nat.not_lt_zero k)) (fun x hx hx2 => by rw [wi_row hx, wi_row hx]) rfl

theorem qX0_takeB {u : xU} {A B n m : Nat} (hA : A = 47 ∨ A = 59) (hB : B = 47 ∨ B = 59) (hAB : A ≠ B) : xC mX0_take [.ref A, .int (nI n), .int (nI m), .ref (B + 1), .ref (B + 8)] (xmm u) (fun r μ' => ∃ u', μ' = xmm u' ∧ r = none ∧ u'.1 A 0 = nI n ∧ u'.1 A 1 = nI m ∧ (∀ k, k < 6 → ∀ s, s < 64 → u'.1 (A + 2 + k) s = u.1 (B + 2 + k) s) ∧ (∀ i, i < 500 → u'.2.1 (A + 8) i = u.2.1 (B + 8) i) ∧ frTk A u u') := by
  refine xC.of xpl0 (Nat.le_of_ble_eq_true rfl) (gX0_takeB_0 u A B n m hA hB hAB ?_)
  have loop : ∀ d i (v : xU), 6 - i = d → i ≤ 6 → v.1 A 0 = nI n → v.1 A 1 = nI m → (∀ k, k < i → ∀ s, s < 64 → v.1 (A + 2 + k) s = u.1 (B + 2 + k) s) → (∀ x, x ≠ A → ¬ (A + 2 ≤ x ∧ x < A + 8) → v.1 x = u.1 x) → v.2 = u.2 → xE mX0_take 13 [(0, .ref A), (3, .ref (B + 1)), (4, .ref (B + 8)), (5, .int (nI i))] [] (xmm v) (fun r μ' => ∃ u', μ' = xmm u' ∧ r = none ∧ u'.1 A 0 = nI n ∧ u'.1 A 1 = nI m ∧ (∀ k, k < 6 → ∀ s, s < 64 → u'.1 (A + 2 + k) s = u.1 (B + 2 + k) s) ∧ (∀ i, i < 500 → u'.2.1 (A + 8) i = u.2.1 (B + 8) i) ∧ frTk A u u') := by
    intro d
    induction d with
    | zero =>
      intro i v hd hi h0 h1 h2 h3 h4
      refine gX0_takeB_13 v A B i hA hi hB hAB (fun _ => ⟨_, rfl, rfl, h0, h1, fun k hk s hs => h2 k (by omega) s hs, fun j hj => ?_, h3, fun x hx => ?_, by rw [← h4]; rfl⟩) (fun z => absurd (by omega) z)
      · rw [wcl_app, if_pos ⟨rfl, Nat.zero_le _, by omega⟩, h4, Nat.sub_zero, Nat.zero_add]
      · rw [wcl_row hx, h4]
    | succ d ih =>
      intro i v hd hi h0 h1 h2 h3 h4
      refine gX0_takeB_13 v A B i hA hi hB hAB (fun z => absurd z (by omega)) (fun _ => ih (i + 1) _ (by omega) (by omega) (by rw [wci_row (by omega)]; exact h0) (by rw [wci_row (by omega)]; exact h1) (fun k hk s hs => ?_) (fun x hx hx2 => by rw [wci_row (by omega)]; exact h3 x hx hx2) h4)
      by_cases ek : k = i
      · subst ek
        rw [wci_app, if_pos ⟨rfl, Nat.zero_le _, by omega⟩, h3 _ (by omega) (by omega), Nat.sub_zero, Nat.zero_add]
      · rw [wci_row (by omega)]
        exact h2 k (by omega) s hs
  refine loop _ 0 _ rfl (Nat.zero_le _) (by rw [wi_nek (by decide), wi_self]) wi_self (fun k hk => absurd hk (Nat.not_lt_zero k)) (fun x hx hx2 => by rw [wi_row hx, wi_row hx]) rfl

theorem hasN_le {f : Nat → Nat} : ∀ n, hasN f n ≤ n
  | 0 => Nat.le_refl _
  | n + 1 => by
    have := hasN_le (f := f) n
    unfold hasN
    split <;> omega
theorem hasN_mono {f : Nat → Nat} {p : Nat} : ∀ {n : Nat}, p ≤ n → hasN f p ≤ hasN f n
  | 0, h => by
    have : p = 0 := by omega
    subst this
    exact Nat.le_refl _
  | n + 1, h => by
    by_cases e : p = n + 1
    · subst e; exact Nat.le_refl _
    · have := hasN_mono (f := f) (p := p) (n := n) (by omega)
      rw [show hasN f (n + 1) = hasN f n + if f n = 0 then 1 else 0 from rfl]
      omega
theorem hasN_s {f : Nat → Nat} {p : Nat} (h : f p = 0) : hasN f (p + 1) = hasN f p + 1 := by
  show hasN f p + (if f p = 0 then 1 else 0) = _
  rw [if_pos h]
theorem hasN_n {f : Nat → Nat} {p : Nat} (h : ¬ f p = 0) : hasN f (p + 1) = hasN f p := by
  show hasN f p + (if f p = 0 then 1 else 0) = _
  rw [if_neg h]
  rfl
theorem hasN_lt {f : Nat → Nat} {p n : Nat} (hp : p < n) (h : f p = 0) : hasN f p < hasN f n := by
  have := hasN_mono (f := f) (show p + 1 ≤ n from hp)
  rw [hasN_s h] at this
  omega
/-- each HAS's number -/
def hNo (Q : QST) (p : Nat) : Option Nat := if qK Q p = 0 then some (hasN (qK Q) p) else none
theorem qX8_takeParts {u : xU} {T : TBL} {Q : QST} (hQ : QI T Q) (h : CQ T Q u) : xC mX8_takeParts [.ref 46, .ref 3] (xmm u) (fun r μ' => ∃ u', μ' = xmm u' ∧ r = none ∧ u'.1 46 1 = nI (qP Q) ∧ (∀ p, p < qP Q → u'.1 56 p = nmI (hNo Q p)) ∧ (∀ x, x ≠ 46 → x ≠ 56 → u'.1 x = u.1 x) ∧ u'.2 = u.2) := by
  have hp10 := hQ.2.1
  refine xC.of xpl8 (Nat.le_of_ble_eq_true rfl) (gX8_takeParts_0 u (qP Q) h.2.1 ?_)
  have loop : ∀ d p (v : xU), qP Q - p = d → p ≤ qP Q → v.1 46 1 = nI (qP Q) → (∀ j, j < p → v.1 56 j = nmI (hNo Q j)) → (∀ x, x ≠ 46 → x ≠ 56 → v.1 x = u.1 x) → v.2 = u.2 → xE mX8_takeParts 12 [(0, .ref 46), (1, .ref 3), (2, .int (nI (hasN (qK Q) p))), (3, .int (nI p))] [] (xmm v) (fun r μ' => ∃ u', μ' = xmm u' ∧ r = none ∧ u'.1 46 1 = nI (qP Q) ∧ (∀ p, p < qP Q → u'.1 56 p = nmI (hNo Q p)) ∧ (∀ x, x ≠ 46 → x ≠ 56 → u'.1 x = u.1 x) ∧ u'.2 = u.2) := by
    intro d
    induction d with
    | zero =>
      intro p v hd hp h1 h2 h3 h4
      exact gX8_takeParts_e v (qP Q) _ p hp10 (by omega) h1 (fun _ => ⟨v, rfl, rfl, h1, fun j hj => h2 j (by omega), h3, h4⟩) (fun z => absurd (by omega) z) (fun z => absurd (by omega) z)
    | succ d ih =>
      intro p v hd hp h1 h2 h3 h4
      have hpl : p < qP Q := by omega
      have cp := h.2.2.2.2 p hpl
      have hk3 := (hQ.2.2.2.2.1 p hpl).1
      have hle := hasN_le (f := qK Q) p
      have kv : v.1 (6 + 4 * p) 0 = nI (qK Q p) := by rw [h3 _ (by omega) (by omega)]; exact cp.1
      have nx : ∀ x : Int32, x = nmI (hNo Q p) → ∀ f, f = hasN (qK Q) (p + 1) → xE mX8_takeParts 12 [(0, .ref 46), (1, .ref 3), (2, .int (nI f)), (3, .int (nI (p + 1)))] [] (xmm (wi v 56 p x)) (fun r μ' => ∃ u', μ' = xmm u' ∧ r = none ∧ u'.1 46 1 = nI (qP Q) ∧ (∀ p, p < qP Q → u'.1 56 p = nmI (hNo Q p)) ∧ (∀ x, x ≠ 46 → x ≠ 56 → u'.1 x = u.1 x) ∧ u'.2 = u.2) := fun x hx f hf => by
        subst hf
        refine ih (p + 1) _ (by omega) hpl (by rw [wi_ne (by decide)]; exact h1) (fun j hj => ?_) (fun y h5 h6 => by rw [wi_row h6]; exact h3 y h5 h6) h4
        by_cases e : j = p
        · subst e; rw [wi_self, hx]
        · rw [wi_nek e]; exact h2 j (by omega)
      refine gX8_takeParts_12 v (qP Q) _ p (qK Q p) hp10 hpl (by omega) hk3 h1 kv (fun z => absurd hpl (by omega)) (fun _ z => nx _ ?_ _ ?_) (fun _ z => nx _ ?_ _ ?_)
      · unfold hNo
        rw [if_neg z]
        rfl
      · rw [hasN_n z]
        rfl
      · unfold hNo
        rw [if_pos z]
        rfl
      · rw [hasN_s z]
  exact loop _ 0 _ rfl (Nat.zero_le _) wi_self (fun j hj => absurd hj (Nat.not_lt_zero j)) (fun x h5 _ => wi_row h5) rfl
/-! witnesses -/
theorem pk_hi {M k a : Nat} (h : M < 2 ^ k) : (M + a * 2 ^ k) / 2 ^ k = a := by
  rw [Nat.add_mul_div_right _ _ (Nat.two_pow_pos k), Nat.div_eq_of_lt h, Nat.zero_add]
theorem pk_lo {M k a i : Nat} (h : i + 6 ≤ k) : (M + a * 2 ^ k) / 2 ^ i % 64 = M / 2 ^ i % 64 := by
  have e : 2 ^ k = 2 ^ (k - i - 6) * 64 * 2 ^ i := by
    rw [Nat.mul_assoc, show 64 = 2 ^ 6 from rfl, ← Nat.pow_add, ← Nat.pow_add]
    congr 1
    omega
  rw [e, ← Nat.mul_assoc, Nat.add_mul_div_right _ _ (Nat.two_pow_pos i), ← Nat.mul_assoc, Nat.add_mul_mod_self_right]
theorem nI_shl : ∀ k, k < 31 → ∀ a, nI a <<< (nI k &&& 31) = nI (a * 2 ^ k) := by
  intro k hk a
  have e : (nI k &&& 31).toBitVec = BitVec.ofNat 32 k := by
    have : ∀ k, k < 31 → (nI k &&& 31).toBitVec = BitVec.ofNat 32 k := by decide +kernel
    exact this k hk
  apply Int32.toBitVec_inj.mp
  have e1 : ∀ x, (nI x).toBitVec = BitVec.ofNat 32 x := fun _ => rfl
  have s1 : (BitVec.ofNat 32 k).smod 32 = BitVec.ofNat 32 k := by
    have : ∀ k, k < 31 → (BitVec.ofNat 32 k).smod 32 = BitVec.ofNat 32 k := by decide +kernel
    exact this k hk
  apply BitVec.eq_of_toNat_eq
  rw [Int32.toBitVec_shiftLeft, e, s1, e1, e1, BitVec.shiftLeft_eq', BitVec.toNat_shiftLeft, BitVec.toNat_ofNat, BitVec.toNat_ofNat, BitVec.toNat_ofNat, Nat.mod_eq_of_lt (show k < 2 ^ 32 by omega), Nat.shiftLeft_eq, Nat.mod_mul_mod]
theorem nI_or {a b : Nat} (ha : a < 2 ^ 31) (hb : b < 2 ^ 31) : nI a ||| nI b = nI (a ||| b) := by
  apply Int32.toBitVec_inj.mp
  apply BitVec.eq_of_toNat_eq
  have e1 : ∀ x, (nI x).toBitVec = BitVec.ofNat 32 x := fun _ => rfl
  have := Nat.or_lt_two_pow ha hb
  rw [Int32.toBitVec_or, e1, e1, e1, BitVec.toNat_or, BitVec.toNat_ofNat, BitVec.toNat_ofNat, BitVec.toNat_ofNat, Nat.mod_eq_of_lt (by omega), Nat.mod_eq_of_lt (by omega), Nat.mod_eq_of_lt (by omega)]
theorem or_pk {M k a : Nat} (h : M < 2 ^ k) (ha : a < 64) : M ||| a * 2 ^ k = M + a * 2 ^ k := by
  have := or_add (A := 0) h ha
  rw [Nat.mul_zero, Nat.mul_zero, Nat.zero_add, Nat.zero_add, Nat.mul_comm, Nat.add_comm] at this
  rw [Nat.mul_comm a]
  exact this
theorem lowb_fs {T : TBL} {Q : QST} {p S m : Nat} {a : Nat → Int32} (h : BO (agR T Q p S a) (rwN T Q p) m) (hm : m < 2 ^ 40) (hr : hasR T Q p S a) : m ≠ 0 ∧ lowb m = fsR T Q p S a := by
  have h0 : m ≠ 0 := fun z => (BO_nz h).mp z hr
  obtain ⟨t1, t2, -, -⟩ := lowb_bits h0 hm
  obtain ⟨r, r1, r2⟩ := hr
  obtain ⟨x1, x2, x3⟩ := fstB_ex (f := fun r => bP (agR T Q p S a r)) (n := rwN T Q p) ⟨r, r1, bP_iff.mpr r2⟩
  refine ⟨h0, ?_⟩
  have a1 : ¬ lowb m < fsR T Q p S a := fun z => x3 _ z (bP_iff.mpr ((h.2 _).mp t1).2)
  have a2 : ¬ fsR T Q p S a < lowb m := fun z => t2 _ z ((h.2 _).mpr ⟨x1, bP_iff.mp x2⟩)
  omega
theorem qX7_witnessesNow {u : xU} {T : TBL} {Q : QST} (hT : TI T) (hQ : QI T Q) (h : CQ T Q u) {S : Nat} {a : Nat → Int32} (hx : ∀ p, p < qP Q → qK Q p ≤ 1 → ∃ w, u.2.1 152 p = nL w ∧ BO (agR T Q p S a) (rwN T Q p) w) (hr : ∀ p, p < qP Q → qK Q p = 0 → hasR T Q p S a) : xC mX7_witnessesNow [.ref 74, .ref 3] (xmm u) (fun r μ' => ∃ M, r = some (.int (nI M)) ∧ M < 2 ^ 30 ∧ (∀ p, p < qP Q → qK Q p = 0 → M / 2 ^ (6 * hasN (qK Q) p) % 64 = fsR T Q p S a) ∧ μ' = xmm u) := by
  have hp10 := hQ.2.1
  have h5 := hQ.2.2.1
  refine xC.of xpl7 (Nat.le_of_ble_eq_true rfl) (gX7_witnessesNow_0 u ?_)
  have loop : ∀ d p M, qP Q - p = d → p ≤ qP Q → M < 2 ^ (6 * hasN (qK Q) p) → (∀ j, j < p → qK Q j = 0 → M / 2 ^ (6 * hasN (qK Q) j) % 64 = fsR T Q j S a) → xE mX7_witnessesNow 7 [(0, .ref 74), (1, .ref 3), (2, .int (nI M)), (3, .int (nI (6 * hasN (qK Q) p))), (4, .int (nI p))] [] (xmm u) (fun r μ' => ∃ M, r = some (.int (nI M)) ∧ M < 2 ^ 30 ∧ (∀ p, p < qP Q → qK Q p = 0 → M / 2 ^ (6 * hasN (qK Q) p) % 64 = fsR T Q p S a) ∧ μ' = xmm u) := by
    intro d
    induction d with
    | zero =>
      intro p M hd hp hM hj
      have e : p = qP Q := by omega
      subst e
      refine gX7_witnessesNow_e u (qP Q) _ _ _ hp10 rfl h.2.1 (fun _ => ⟨M, rfl, Nat.lt_of_lt_of_le hM (Nat.pow_le_pow_right (by decide) (by omega)), hj, rfl⟩) (fun z => absurd (Nat.le_refl _) z) (fun z => absurd (Nat.le_refl _) z)
    | succ d ih =>
      intro p M hd hp hM hj
      have hpl : p < qP Q := by omega
      have cp := h.2.2.2.2 p hpl
      have hk3 := (hQ.2.2.2.2.1 p hpl).1
      have hle := hasN_mono (f := qK Q) hp
      by_cases hk : qK Q p = 0
      · obtain ⟨w, w1, w2⟩ := hx p hpl (by omega)
        have hn40 : rwN T Q p ≤ 40 := (hT _ ((hQ.2.2.2.2.1 p hpl).2.1 (by omega)).1).2.1
        have h40 : 2 ^ rwN T Q p ≤ 2 ^ 40 := Nat.pow_le_pow_right (by decide) hn40
        have lw := w2.1
        obtain ⟨w0, we⟩ := lowb_fs w2 (by omega) (hr p hpl hk)
        have hlt := hasN_lt hpl hk
        have fs64 : fsR T Q p S a < 64 := by
          have := fsR_lt.mpr (hr p hpl hk)
          omega
        have h24 : 2 ^ (6 * hasN (qK Q) p) ≤ 2 ^ 24 := Nat.pow_le_pow_right (by decide) (by omega)
        have hb : fsR T Q p S a * 2 ^ (6 * hasN (qK Q) p) ≤ 64 * 2 ^ 24 := Nat.mul_le_mul (by omega) h24
        refine gX7_witnessesNow_7 u (qP Q) p (6 * hasN (qK Q) p) (qK Q p) (lowb w) (nI M) (nL w) hp10 hpl (by omega) hk (qX9_lowestPlace u w0 (by omega)) h.2.1 cp.1 w1 (fun z => absurd hpl (by omega)) (fun _ z => absurd hk z) (fun _ _ => ?_)
        rw [we, nI_shl _ (by omega), nI_or (by omega) (by omega), or_pk hM fs64]
        have e6 : 6 * hasN (qK Q) p + 6 = 6 * hasN (qK Q) (p + 1) := by rw [hasN_s hk]; omega
        rw [e6]
        refine ih (p + 1) _ (by omega) hpl ?_ (fun j hj1 hj2 => ?_)
        · rw [← e6, Nat.pow_add]
          have : fsR T Q p S a * 2 ^ (6 * hasN (qK Q) p) ≤ 63 * 2 ^ (6 * hasN (qK Q) p) := Nat.mul_le_mul (by omega) (Nat.le_refl _)
          omega
        · by_cases e : j = p
          · subst e
            rw [pk_hi hM, Nat.mod_eq_of_lt fs64]
          · have hlj := hasN_lt (show j < p by omega) hj2
            rw [pk_lo (by omega)]
            exact hj j (by omega) hj2
      · refine gX7_witnessesNow_n u (qP Q) p (6 * hasN (qK Q) p) (qK Q p) (nI M) hp10 hpl (by omega) (by omega) hk3 h.2.1 cp.1 (fun z => absurd hpl (by omega)) (fun _ _ => ?_) (fun _ z => absurd z hk)
        rw [show hasN (qK Q) p = hasN (qK Q) (p + 1) from (hasN_n hk).symm] at hM ⊢
        refine ih (p + 1) M (by omega) hpl hM (fun j hj1 hj2 => ?_)
        by_cases e : j = p
        · subst e; exact absurd hj2 hk
        · exact hj j (by omega) hj2
  exact loop _ 0 0 rfl (Nat.zero_le _) (Nat.two_pow_pos _) (fun j hj => absurd hj (Nat.not_lt_zero j))

