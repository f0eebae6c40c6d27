/-! what weaving means: sets of names are bits, a meeting gives each name of its set a value and all others 0 -/
def cel (T : TBL) (Q : QST) (p r i : Nat) : Int32 := T.2.2 (qOf Q p) r i
def rwN (T : TBL) (Q : QST) (p : Nat) : Nat := T.2.1 (qOf Q p)
/-- a row has the told values, and one value wherever one name stands -/
def fitR (T : TBL) (Q : QST) (p r : Nat) : Prop := ∀ i, i < qL Q p → (qM Q p i = none → cel T Q p r i = qV Q p i) ∧ ∀ n, qM Q p i = some n → ∀ k, k < i → qM Q p k = some n → cel T Q p r k = cel T Q p r i
def agR (T : TBL) (Q : QST) (p S : Nat) (a : Nat → Int32) (r : Nat) : Prop := fitR T Q p r ∧ ∀ i, i < qL Q p → ∀ n, qM Q p i = some n → S.testBit n = true → cel T Q p r i = a n
def hasR (T : TBL) (Q : QST) (p S : Nat) (a : Nat → Int32) : Prop := ∃ r, r < rwN T Q p ∧ agR T Q p S a r
def whl (Q : QST) (p S : Nat) : Prop := ∀ i, i < qL Q p → ∀ n, qM Q p i = some n → S.testBit n = true
def tch (Q : QST) (p S : Nat) : Prop := ∃ i, i < qL Q p ∧ ∃ n, qM Q p i = some n ∧ S.testBit n = true
def tld (Q : QST) (a : Nat → Int32) (p i : Nat) : Int32 := match qM Q p i with
  | none => qV Q p i
  | some n => a n
def trP (T : TBL) (Q : QST) (p S : Nat) (a : Nat → Int32) : Prop :=
  (qK Q p = 0 → (pNmd Q p = true ∧ ¬ tch Q p S) ∨ hasR T Q p S a) ∧ (qK Q p = 1 → whl Q p S → ¬ hasR T Q p S a) ∧ (qK Q p = 2 → whl Q p S → tld Q a p 0 = tld Q a p 1) ∧ (3 ≤ qK Q p → whl Q p S → ky (tld Q a p 0) < ky (tld Q a p 1))
def arT (T : TBL) (Q : QST) (S : Nat) (a : Nat → Int32) : Prop := ∀ p, p < qP Q → trP T Q p S a
/-- the first HAS that has a name, and the name's first place there -/
def fH (Q : QST) (k : Nat) : Nat := fstB (fun p => decide (qK Q p = 0) && pHas Q p k) (qP Q)
def fC (Q : QST) (p k : Nat) : Nat := pOf (qM Q p) k (qL Q p)
def Dm (T : TBL) (Q : QST) (k : Nat) (v : Int32) : Prop := ∃ r, r < rwN T Q (fH Q k) ∧ cel T Q (fH Q k) r (fC Q (fH Q k) k) = v
def MEM (T : TBL) (Q : QST) (S : Nat) (a : Nat → Int32) : Prop := (∀ j, ¬ S.testBit j = true → a j = 0) ∧ (∀ k, S.testBit k = true → Dm T Q k (a k)) ∧ arT T Q S a
theorem pHas_iff {Q : QST} {p k : Nat} : pHas Q p k = true ↔ ∃ i, i < qL Q p ∧ qM Q p i = some k := by
  unfold pHas
  rw [anyN_iff]
  simp only [decide_eq_true_eq]
theorem pNmd_iff {Q : QST} {p : Nat} : pNmd Q p = true ↔ ∃ i, i < qL Q p ∧ qM Q p i ≠ none := by
  unfold pNmd
  rw [anyN_iff]
  simp only [decide_eq_true_eq]
theorem bit_add {S k n : Nat} : (S ||| 2 ^ k).testBit n = true ↔ S.testBit n = true ∨ n = k := by
  rw [Nat.testBit_or, Bool.or_eq_true, Nat.testBit_two_pow, decide_eq_true_eq]
  constructor
  · rintro (h | h)
    · exact Or.inl h
    · exact Or.inr h.symm
  · rintro (h | h)
    · exact Or.inl h
    · exact Or.inr h.symm
/-- only values of the part's names count -/
theorem hasR_val {T : TBL} {Q : QST} {p S : Nat} {a b : Nat → Int32} (h : ∀ n, pHas Q p n = true → S.testBit n = true → a n = b n) (q : hasR T Q p S a) : hasR T Q p S b := by
  obtain ⟨r, hr, f, g⟩ := q
  exact ⟨r, hr, f, fun i hi n hn hs => by rw [← h n (pHas_iff.mpr ⟨i, hi, hn⟩) hs]; exact g i hi n hn hs⟩
theorem tld_val {Q : QST} {p S i : Nat} {a b : Nat → Int32} (h : ∀ n, pHas Q p n = true → S.testBit n = true → a n = b n) (hw : whl Q p S) (hi : i < qL Q p) : tld Q a p i = tld Q b p i := by
  unfold tld
  cases hm : qM Q p i with
  | none => rfl
  | some n => exact h n (pHas_iff.mpr ⟨i, hi, hm⟩) (hw i hi n hm)
theorem trP_val {T : TBL} {Q : QST} (hQ : QI T Q) {p S : Nat} (hp : p < qP Q) {a b : Nat → Int32} (h : ∀ n, pHas Q p n = true → S.testBit n = true → a n = b n) (q : trP T Q p S a) : trP T Q p S b := by
  obtain ⟨q0, q1, q2, q3⟩ := q
  have h' : ∀ n, pHas Q p n = true → S.testBit n = true → b n = a n := fun n x y => (h n x y).symm
  have l2 : 2 ≤ qK Q p → qL Q p = 2 := fun z => ((hQ.2.2.2.2.1 p hp).2.2.1 z).1
  refine ⟨fun z => (q0 z).imp id (hasR_val h), fun z w y => q1 z w (hasR_val h' y), fun z w => ?_, fun z w => ?_⟩
  · have := l2 (by omega)
    rw [← tld_val h w (i := 0) (by omega), ← tld_val h w (i := 1) (by omega)]
    exact q2 z w
  · have := l2 (by omega)
    rw [← tld_val h w (i := 0) (by omega), ← tld_val h w (i := 1) (by omega)]
    exact q3 z w
theorem agR_sub {T : TBL} {Q : QST} {p S k r : Nat} {a : Nat → Int32} (q : agR T Q p (S ||| 2 ^ k) a r) : agR T Q p S a r := ⟨q.1, fun i hi n hn hs => q.2 i hi n hn (bit_add.mpr (Or.inl hs))⟩
theorem whl_sup {Q : QST} {p S k : Nat} (q : whl Q p S) : whl Q p (S ||| 2 ^ k) := fun i hi n hn => bit_add.mpr (Or.inl (q i hi n hn))
/-- a part without the newest name -/
theorem trP_no {T : TBL} {Q : QST} {p S k : Nat} (hk : ¬ pHas Q p k = true) {a : Nat → Int32} : trP T Q p (S ||| 2 ^ k) a ↔ trP T Q p S a := by
  have nb : ∀ i, i < qL Q p → ∀ n, qM Q p i = some n → ((S ||| 2 ^ k).testBit n = true ↔ S.testBit n = true) := fun i hi n hn => by
    rw [bit_add]
    exact ⟨fun z => z.resolve_right (fun e => hk (pHas_iff.mpr ⟨i, hi, by rw [hn, e]⟩)), Or.inl⟩
  have e1 : hasR T Q p (S ||| 2 ^ k) a ↔ hasR T Q p S a := by
    constructor
    · rintro ⟨r, hr, q⟩
      exact ⟨r, hr, agR_sub q⟩
    · rintro ⟨r, hr, q⟩
      exact ⟨r, hr, q.1, fun i hi n hn hs => q.2 i hi n hn ((nb i hi n hn).mp hs)⟩
  have e2 : whl Q p (S ||| 2 ^ k) ↔ whl Q p S := ⟨fun q i hi n hn => (nb i hi n hn).mp (q i hi n hn), whl_sup⟩
  have e3 : tch Q p (S ||| 2 ^ k) ↔ tch Q p S := by
    constructor
    · rintro ⟨i, hi, n, hn, hs⟩
      exact ⟨i, hi, n, hn, (nb i hi n hn).mp hs⟩
    · rintro ⟨i, hi, n, hn, hs⟩
      exact ⟨i, hi, n, hn, (nb i hi n hn).mpr hs⟩
  unfold trP
  rw [e1, e2, e3]
/-- what is true of more names is true of fewer -/
theorem trP_sub {T : TBL} {Q : QST} {p S k : Nat} {a : Nat → Int32} (q : trP T Q p (S ||| 2 ^ k) a) : trP T Q p S a := by
  by_cases hk : pHas Q p k = true
  · obtain ⟨q0, q1, q2, q3⟩ := q
    refine ⟨fun z => ?_, fun z w y => ?_, fun z w => q2 z (whl_sup w), fun z w => q3 z (whl_sup w)⟩
    · rcases q0 z with ⟨h1, h2⟩ | ⟨r, hr, h⟩
      · exact Or.inl ⟨h1, fun ⟨i, hi, n, hn, hs⟩ => h2 ⟨i, hi, n, hn, bit_add.mpr (Or.inl hs)⟩⟩
      · exact Or.inr ⟨r, hr, agR_sub h⟩
    · refine q1 z (whl_sup w) ?_
      obtain ⟨r, hr, h⟩ := y
      exact ⟨r, hr, h.1, fun i hi n hn hs => h.2 i hi n hn (w i hi n hn)⟩
  · exact (trP_no hk).mp q
theorem setT_bit {S k : Nat} {a : Nat → Int32} {v : Int32} (hk : ¬ S.testBit k = true) : ∀ n, S.testBit n = true → setT a k v n = a n := fun n hn => setT_ne (fun e => hk (by rw [← e]; exact hn))
theorem arT_sub {T : TBL} {Q : QST} (hQ : QI T Q) {S k : Nat} {a : Nat → Int32} {v : Int32} (hk : ¬ S.testBit k = true) (h : arT T Q (S ||| 2 ^ k) (setT a k v)) : arT T Q S a := fun p hp => trP_val hQ hp (fun n _ hs => setT_bit hk n hs) (trP_sub (h p hp))
/-- one name more -/
theorem MEM_ext {T : TBL} {Q : QST} (hQ : QI T Q) {S k : Nat} (hk : ¬ S.testBit k = true) {b : Nat → Int32} : MEM T Q (S ||| 2 ^ k) b ↔ ∃ a v, MEM T Q S a ∧ Dm T Q k v ∧ b = setT a k v ∧ ∀ p, p < qP Q → pHas Q p k = true → trP T Q p (S ||| 2 ^ k) b := by
  constructor
  · rintro ⟨h1, h2, h3⟩
    have e : setT (setT b k 0) k (b k) = b := by
      funext j
      by_cases ej : j = k
      · subst ej; rw [setT_at]
      · rw [setT_ne ej, setT_ne ej]
    refine ⟨setT b k 0, b k, ⟨fun j hj => ?_, fun n hn => ?_, ?_⟩, h2 k (bit_add.mpr (Or.inr rfl)), e.symm, fun p hp _ => h3 p hp⟩
    · by_cases ej : j = k
      · subst ej; exact setT_at
      · rw [setT_ne ej]
        exact h1 j (fun z => (bit_add.mp z).elim hj ej)
    · rw [setT_bit hk n hn]
      exact h2 n (bit_add.mpr (Or.inl hn))
    · exact arT_sub hQ hk (a := setT b k 0) (v := b k) (by rw [e]; exact h3)
  · rintro ⟨a, v, ⟨h1, h2, h3⟩, hv, rfl, hp⟩
    refine ⟨fun j hj => ?_, fun n hn => ?_, fun p hpl => ?_⟩
    · have hn : ¬ (S.testBit j = true ∨ j = k) := fun z => hj (bit_add.mpr z)
      rw [setT_ne (fun e => hn (Or.inr e))]
      exact h1 j (fun z => hn (Or.inl z))
    · rcases bit_add.mp hn with z | z
      · rw [setT_bit hk n z]
        exact h2 n z
      · rw [z, setT_at]
        exact hv
    · by_cases hh : pHas Q p k = true
      · exact hp p hpl hh
      · exact (trP_no hh).mpr (trP_val hQ hpl (fun n _ hs => (setT_bit hk n hs).symm) (h3 p hpl))
/-! how many: complete and no more than 500, or 501 of them -/
def CNT (P : (Nat → Int32) → Prop) : Option Nat → Prop
  | some n => n ≤ 500 ∧ ∃ l : List (Nat → Int32), l.Nodup ∧ (∀ a, a ∈ l ↔ P a) ∧ l.length = n
  | none => ∃ l : List (Nat → Int32), l.Nodup ∧ (∀ a, a ∈ l → P a) ∧ l.length = 501
theorem sub_len {l m : List (Nat → Int32)} (hl : l.Nodup) (h : ∀ a, a ∈ l → a ∈ m) : l.length ≤ m.length := List.Nodup.length_le_of_subset hl h
theorem CNT_uniq {P : (Nat → Int32) → Prop} {o o' : Option Nat} (h : CNT P o) (h' : CNT P o') : o = o' := by
  cases o with
  | none =>
    cases o' with
    | none => rfl
    | some m =>
      obtain ⟨l, l1, l2, l3⟩ := h
      obtain ⟨hm, k, k1, k2, k3⟩ := h'
      have := sub_len l1 (m := k) (fun a ha => (k2 a).mpr (l2 a ha))
      omega
  | some n =>
    obtain ⟨hn, l, l1, l2, l3⟩ := h
    cases o' with
    | none =>
      obtain ⟨k, k1, k2, k3⟩ := h'
      have := sub_len k1 (m := l) (fun a ha => (l2 a).mpr (k2 a ha))
      omega
    | some m =>
      obtain ⟨hm, k, k1, k2, k3⟩ := h'
      have a := sub_len l1 (m := k) (fun a ha => (k2 a).mpr ((l2 a).mp ha))
      have b := sub_len k1 (m := l) (fun a ha => (l2 a).mpr ((k2 a).mp ha))
      have : n = m := by omega
      rw [this]
noncomputable def cntS (T : TBL) (Q : QST) (S : Nat) : Option Nat := Classical.epsilon (CNT (MEM T Q S))
theorem cntS_of {T : TBL} {Q : QST} {S : Nat} {o : Option Nat} (h : CNT (MEM T Q S) o) : cntS T Q S = o := CNT_uniq (Classical.epsilon_spec (p := CNT (MEM T Q S)) ⟨o, h⟩) h

