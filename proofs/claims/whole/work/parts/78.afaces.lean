/-! counting bits -/
theorem byt_bit {m j t : Nat} (ht : t < 8) : (m / 2 ^ (8 * j) % 256).testBit t = m.testBit (8 * j + t) := by
  rw [show 256 = 2 ^ 8 from rfl, Nat.testBit_mod_two_pow, Nat.testBit_div_two_pow, decide_eq_true ht, Bool.true_and, Nat.add_comm]
theorem byte_or {m s j : Nat} : (m ||| 2 ^ s) / 2 ^ (8 * j) % 256 = (m / 2 ^ (8 * j) % 256) ||| (if 8 * j ≤ s ∧ s < 8 * j + 8 then 2 ^ (s - 8 * j) else 0) := by
  apply Nat.eq_of_testBit_eq
  intro t
  by_cases ht : t < 8
  · rw [byt_bit ht, Nat.testBit_or, Nat.testBit_or, byt_bit ht, Nat.testBit_two_pow]
    congr 1
    split
    · rw [Nat.testBit_two_pow]
      by_cases e : s = 8 * j + t
      · rw [decide_eq_true e, decide_eq_true (by omega)]
      · rw [decide_eq_false e, decide_eq_false (by omega)]
    · rw [Nat.zero_testBit, decide_eq_false (by omega)]
  · have h1 : ∀ x, (x % 256).testBit t = false := fun x => Nat.testBit_lt_two_pow (Nat.lt_of_lt_of_le (Nat.mod_lt x (by decide)) (Nat.pow_le_pow_right (n := 2) (by decide) (show 8 ≤ t by omega)))
    rw [Nat.testBit_or, h1, h1, Bool.false_or]
    split
    · rw [Nat.testBit_two_pow, decide_eq_false (by omega)]
    · rw [Nat.zero_testBit]
theorem pc8_or : ∀ b, b < 256 → ∀ t, t < 8 → b.testBit t = false → pc8 (b ||| 2 ^ t) = pc8 b + 1 := by decide +kernel
theorem pcN_bytes (m : Nat) : pcN m = pc8 (m / 2 ^ (8 * 0) % 256) + pc8 (m / 2 ^ (8 * 1) % 256) + pc8 (m / 2 ^ (8 * 2) % 256) + pc8 (m / 2 ^ (8 * 3) % 256) + pc8 (m / 2 ^ (8 * 4) % 256) := by
  unfold pcN
  simp only [Nat.mul_zero, Nat.pow_zero, Nat.div_one]
theorem byte_in {m s j : Nat} (h1 : 8 * j ≤ s) (h2 : s < 8 * j + 8) (hb : m.testBit s = false) : pc8 ((m ||| 2 ^ s) / 2 ^ (8 * j) % 256) = pc8 (m / 2 ^ (8 * j) % 256) + 1 := by
  rw [byte_or, if_pos ⟨h1, h2⟩]
  refine pc8_or _ (Nat.mod_lt _ (by decide)) _ (by omega) ?_
  rw [byt_bit (by omega), show 8 * j + (s - 8 * j) = s by omega]
  exact hb
theorem byte_out {m s j : Nat} (h : ¬ (8 * j ≤ s ∧ s < 8 * j + 8)) : pc8 ((m ||| 2 ^ s) / 2 ^ (8 * j) % 256) = pc8 (m / 2 ^ (8 * j) % 256) := by
  rw [byte_or, if_neg h, Nat.or_zero]
theorem pcN_bit {m s : Nat} (hs : s < 40) (hb : m.testBit s = false) : pcN (m ||| 2 ^ s) = pcN m + 1 := by
  rw [pcN_bytes, pcN_bytes]
  rcases (show (8 * 0 ≤ s ∧ s < 8 * 0 + 8) ∨ (8 * 1 ≤ s ∧ s < 8 * 1 + 8) ∨ (8 * 2 ≤ s ∧ s < 8 * 2 + 8) ∨ (8 * 3 ≤ s ∧ s < 8 * 3 + 8) ∨ (8 * 4 ≤ s ∧ s < 8 * 4 + 8) by omega) with ⟨a, b⟩ | ⟨a, b⟩ | ⟨a, b⟩ | ⟨a, b⟩ | ⟨a, b⟩
  · rw [byte_in a b hb, byte_out (j := 1) (by omega), byte_out (j := 2) (by omega), byte_out (j := 3) (by omega), byte_out (j := 4) (by omega)]; omega
  · rw [byte_in a b hb, byte_out (j := 0) (by omega), byte_out (j := 2) (by omega), byte_out (j := 3) (by omega), byte_out (j := 4) (by omega)]; omega
  · rw [byte_in a b hb, byte_out (j := 0) (by omega), byte_out (j := 1) (by omega), byte_out (j := 3) (by omega), byte_out (j := 4) (by omega)]; omega
  · rw [byte_in a b hb, byte_out (j := 0) (by omega), byte_out (j := 1) (by omega), byte_out (j := 2) (by omega), byte_out (j := 4) (by omega)]; omega
  · rw [byte_in a b hb, byte_out (j := 0) (by omega), byte_out (j := 1) (by omega), byte_out (j := 2) (by omega), byte_out (j := 3) (by omega)]; omega
/-- how many different values the first rows have -/
def sawV (k : Nat) (l : List (Nat → Int32)) (i : Nat) : Prop := ∃ j a b, j < i ∧ l[j]? = some a ∧ l[i]? = some b ∧ a k = b k
noncomputable def ndF (k : Nat) (l : List (Nat → Int32)) : Nat → Nat
  | 0 => 0
  | i + 1 => ndF k l i + if bP (sawV k l i) = true then 0 else 1
theorem ndF_le {k : Nat} {l : List (Nat → Int32)} : ∀ i, ndF k l i ≤ i
  | 0 => Nat.le_refl _
  | i + 1 => by
    have := ndF_le (k := k) (l := l) i
    unfold ndF
    split <;> omega
theorem DO_inj {z : Nat} {D : Nat → Int32} (h : DO z D) {s s' : Nat} (hs : s < z) (hs' : s' < z) (e : D s = D s') : s = s' := by
  by_cases h1 : s < s'
  · have := h.2 s s' h1 hs'
    rw [e] at this; omega
  · by_cases h2 : s' < s
    · have := h.2 s' s h2 hs
      rw [e] at this; omega
    · omega
theorem qX0_differentValues {u : xU} {A n : Nat} {l : List (Nat → Int32)} (hA : A = 47 ∨ A = 59) (hI : AI n (some l)) (h : CA A n (some l) u) {k : Nat} (hk : k < n) : xC mX0_differentValues [.ref A, .int (nI k)] (xmm u) (fun r' μ' => r' = some (.long (nI (ndF k l l.length)).toInt64) ∧ μ' = xmm u) := by
  have l5 := (hI.2 l rfl).1
  have hn6 := hI.1
  obtain ⟨h1, h2, Z, D, h3, h4⟩ := h
  have hD := (h3 k hk).1
  have hz40 := hD.1
  refine xC.of xpl0 (Nat.le_of_ble_eq_true rfl) (gX0_differentValues_0 u A k ?_)
  have loop : ∀ d i M, l.length - i = d → i ≤ l.length → M < 2 ^ 40 → (∀ s, M.testBit s = true ↔ s < Z k ∧ ∃ j a, j < i ∧ l[j]? = some a ∧ a k = D k s) → pcN M = ndF k l i → xE mX0_differentValues 5 [(0, .ref A), (1, .int (nI k)), (2, .long (nL M)), (4, .int (nI i))] [] (xmm u) (fun r' μ' => r' = some (.long (nI (ndF k l l.length)).toInt64) ∧ μ' = xmm u) := by
    intro d
    induction d with
    | zero =>
      intro i M hd hi hM hb hp
      have e : i = l.length := by omega
      subst e
      exact gX0_differentValues_e u A k l.length _ _ _ hA l5 rfl (qJ13_bitCount u hM) h2 (fun _ => ⟨by rw [hp], rfl⟩) (fun z => absurd (Nat.le_refl _) z)
    | succ d ih =>
      intro i M hd hi hM hb hp
      have hil : i < l.length := by omega
      have ha := List.getElem?_eq_getElem hil
      generalize l[i] = b at ha
      obtain ⟨m, m1, m2, m3⟩ := h4 i b ha
      obtain ⟨s1, s2⟩ := m3 k hk
      generalize hsd : spN m k = s at s1 s2
      refine gX0_differentValues_5 u A k l.length i s _ (nL m) hA l5 hil (by rw [← hsd]; exact qX9_spotIn u (by omega) m2) h2 m1 (fun z => absurd hil (by omega)) (fun _ => ?_)
      have h2s : 2 ^ s < 2 ^ 40 := Nat.pow_lt_pow_right (by decide) (by omega)
      have e1 : nL M ||| (1 <<< ((nI s).toInt64 &&& 63)) = nL (M ||| 2 ^ s) := by
        rw [show (1 : Int64) = nL 1 from rfl, nL_shl (by omega), Nat.one_mul, nL_or (by omega) (by omega)]
      rw [e1]
      have hM' : M ||| 2 ^ s < 2 ^ 40 := Nat.or_lt_two_pow hM h2s
      have hb' : ∀ x, (M ||| 2 ^ s).testBit x = true ↔ x < Z k ∧ ∃ j a, j < i + 1 ∧ l[j]? = some a ∧ a k = D k x := fun x => by
        rw [bit_add, hb x]
        constructor
        · rintro (⟨q1, j, a, q2, q3⟩ | rfl)
          · exact ⟨q1, j, a, by omega, q3⟩
          · exact ⟨s1, i, b, by omega, ha, s2.symm⟩
        · rintro ⟨q1, j, a, q2, q3, q4⟩
          by_cases e : j = i
          · subst e
            rw [ha] at q3
            cases q3
            exact Or.inr (DO_inj hD q1 s1 (q4.symm.trans s2.symm))
          · exact Or.inl ⟨q1, j, a, by omega, q3, q4⟩
      have hsaw : sawV k l i ↔ M.testBit s = true := by
        rw [hb s]
        constructor
        · rintro ⟨j, a, b', q1, q2, q3, q4⟩
          rw [ha] at q3
          cases q3
          exact ⟨s1, j, a, q1, q2, q4.trans s2.symm⟩
        · rintro ⟨-, j, a, q1, q2, q3⟩
          exact ⟨j, a, b, q1, q2, ha, q3.trans s2⟩
      refine ih (i + 1) _ (by omega) hil hM' hb' ?_
      show pcN _ = ndF k l i + if bP (sawV k l i) = true then 0 else 1
      by_cases hs : sawV k l i
      · rw [if_pos (bP_iff.mpr hs), ← hp, Nat.add_zero]
        congr 1
        apply Nat.eq_of_testBit_eq
        intro x
        cases hx : M.testBit x with
        | true => exact bit_add.mpr (Or.inl hx)
        | false =>
          cases hx2 : (M ||| 2 ^ s).testBit x with
          | false => rfl
          | true =>
            rcases bit_add.mp hx2 with q | q
            · rw [hx] at q; cases q
            · rw [q, hsaw.mp hs] at hx; cases hx
      · rw [if_neg (fun q => hs (bP_iff.mp q)), ← hp]
        refine pcN_bit (by omega) ?_
        cases hx : M.testBit s with
        | false => rfl
        | true => exact absurd (hsaw.mpr hx) hs
  exact loop _ 0 0 rfl (Nat.zero_le _) (by decide) (fun s => ⟨fun z => by simp at z, fun ⟨_, j, _, q, _⟩ => absurd q (Nat.not_lt_zero j)⟩) (by show pcN 0 = 0; decide)
/-! the faces -/
def aMeet (W : WVN) (i : Int32) : Int32 := if cry (wN W) (wR W) i = true then nI (wM W i.toNatClampNeg) else -1
def aWit (W : WVN) (i p : Int32) : Int32 := match wR W with
  | none => -1
  | some l => if (0 ≤ i ∧ i < nI l.length) ∧ 0 ≤ p ∧ p < nI (wP W) then (match wH W p.toNatClampNeg with
    | none => -1
    | some _ => nI (wW W p.toNatClampNeg (l.getD i.toNatClampNeg (fun _ => 0)))) else -1
noncomputable def aSum (W : WVN) (k w : Int32) : Int64 := match wR W with
  | none => 0
  | some l => if cry (wN W) (some l) k = true then (if w = nI 0 then l.foldl (totF k.toNatClampNeg) 0 else if w = nI 1 then (nI l.length).toInt64 - (nI (l.foldl (cntF k.toNatClampNeg (-2147483648)) 0)).toInt64 else if w = nI 2 then (l.foldl (grtF k.toNatClampNeg) (-2147483648)).toInt64 else if w = nI 3 then (l.foldl (lstF k.toNatClampNeg) (-2147483648)).toInt64 else if w = nI 4 then (nI (ndF k.toNatClampNeg l l.length)).toInt64 else 0) else 0
def aGroup (W : WVN) (k v w j : Int32) : Int64 := match wR W with
  | none => 0
  | some l => if cry (wN W) (some l) k = true then (if w = 0 then (nI (l.foldl (cntF k.toNatClampNeg v) 0)).toInt64 else if w = 1 then (if cry (wN W) (some l) j = true then l.foldl (twF k.toNatClampNeg j.toNatClampNeg v) 0 else 0) else 0) else 0
abbrev KPT : Type := Nat × Option (List (Nat → Int32))
def aKeep (W : WVN) (K : KPT) : Int32 × KPT := match wR W with
  | none => (-1, K)
  | some l => (nI l.length, (wN W, some l))
theorem nI_shr {M k : Nat} (hM : M < 2 ^ 31) (hk : k < 31) : nI M >>> (nI k &&& 31) = nI (M / 2 ^ k) := by
  have e : (nI k &&& 31).toBitVec = BitVec.ofNat 32 k := by
    have : ∀ k, k < 31 → (nI k &&& 31).toBitVec = BitVec.ofNat 32 k := by decide +kernel
    exact this k hk
  have s1 : (BitVec.ofNat 32 k).smod 32 = BitVec.ofNat 32 k := by
    have : ∀ k, k < 31 → (BitVec.ofNat 32 k).smod 32 = BitVec.ofNat 32 k := by decide +kernel
    exact this k hk
  have e1 : ∀ x, (nI x).toBitVec = BitVec.ofNat 32 x := fun _ => rfl
  have hmsb : (BitVec.ofNat 32 M).msb = false := by
    rw [BitVec.msb_eq_false_iff_two_mul_lt, BitVec.toNat_ofNat, Nat.mod_eq_of_lt (by omega)]
    omega
  have hd : M / 2 ^ k ≤ M := Nat.div_le_self _ _
  apply Int32.toBitVec_inj.mp
  apply BitVec.eq_of_toNat_eq
  rw [Int32.toBitVec_shiftRight, e, s1, e1, e1, BitVec.sshiftRight_eq', BitVec.sshiftRight_eq_of_msb_false hmsb, BitVec.toNat_ushiftRight, BitVec.toNat_ofNat, BitVec.toNat_ofNat, BitVec.toNat_ofNat, Nat.mod_eq_of_lt (show k < 2 ^ 32 by omega), Nat.mod_eq_of_lt (show M < 2 ^ 32 by omega), Nat.mod_eq_of_lt (show M / 2 ^ k < 2 ^ 32 by omega), Nat.shiftRight_eq_div_pow]
theorem qX9_answer {u : xU} {W : WVN} (hW : WI W) (h : CW W u) (i k : Int32) : xC mX9_answer [.ref 1, .int i, .int k] (xmm u) (fun r μ' => r = some (.int (atV (wN W) (wR W) i k)) ∧ μ' = xmm u) := xC.of xpl9 (Nat.le_of_ble_eq_true rfl) (gX9_answer_0 u i k _ (qX0_at (Or.inl rfl) hW.1 h.1 i k) ⟨rfl, rfl⟩)
theorem qX9_meetings {u : xU} {W : WVN} (hW : WI W) (h : CW W u) (i : Int32) : xC mX9_meetings [.ref 1, .int i] (xmm u) (fun r μ' => r = some (.int (aMeet W i)) ∧ μ' = xmm u) := by
  have hme : xC mX8_metAt [.ref 46, .int i] (xmm u) (fun r μ' => r = some (.int (aMeet W i)) ∧ μ' = xmm u) := by
    have hc := qX0_carries (Or.inl rfl) hW.1 h.1 i
    unfold aMeet
    by_cases hin : cry (wN W) (wR W) i = true
    · obtain ⟨l, j, e, j1, rfl⟩ := cry_t hW.1.1 hin
      have hn6 := hW.1.1
      rw [if_pos hin, nI_nat (by omega)]
      exact xC.of xpl8 (Nat.le_of_ble_eq_true rfl) (gX8_metAt_N u j _ _ (by omega) hc ((h.2 l e).2.2.1 j j1) (fun z => absurd hin z) (fun _ => ⟨rfl, rfl⟩))
    · rw [if_neg hin]
      exact xC.of xpl8 (Nat.le_of_ble_eq_true rfl) (gX8_metAt_I u i _ hc (fun _ => ⟨rfl, rfl⟩) (fun z => hin z))
  exact xC.of xpl9 (Nat.le_of_ble_eq_true rfl) (gX9_meetings_0 u i _ hme ⟨rfl, rfl⟩)
theorem qX9_witness {u : xU} {W : WVN} (hW : WI W) (h : CW W u) (i p : Int32) : xC mX9_witness [.ref 1, .int i, .int p] (xmm u) (fun r μ' => r = some (.int (aWit W i p)) ∧ μ' = xmm u) := by
  have hwi : xC mX8_witnessOf [.ref 46, .int i, .int p] (xmm u) (fun r μ' => r = some (.int (aWit W i p)) ∧ μ' = xmm u) := by
    unfold aWit
    cases hr : wR W with
    | none =>
      have hs := h.1.sz
      rw [hr] at hs
      exact xC.of xpl8 (Nat.le_of_ble_eq_true rfl) (gX8_witnessOf_I u i p (-1) _ hs rfl (fun _ => ⟨rfl, rfl⟩) (fun _ _ => ⟨rfl, rfl⟩) (fun _ _ _ => ⟨rfl, rfl⟩) (fun _ _ _ _ => ⟨rfl, rfl⟩) (fun z y _ _ => by
        rw [Int32.lt_iff_toInt_lt] at z
        rw [Int32.le_iff_toInt_le] at y
        have e0 : (0 : Int32).toInt = 0 := rfl
        have e1 : (-1 : Int32).toInt = -1 := rfl
        omega))
    | some l =>
      dsimp only
      obtain ⟨c1, c2, c3, c4⟩ := h.2 l hr
      have hs := h.1.sz
      rw [hr] at hs
      have l5 := (hW.1.2 l hr).1
      have hP := hW.2.1
      by_cases hin : (0 ≤ i ∧ i < nI l.length) ∧ 0 ≤ p ∧ p < nI (wP W)
      · rw [if_pos hin]
        obtain ⟨⟨i1, i2⟩, p1, p2⟩ := hin
        obtain ⟨i', i3, rfl⟩ := in_N (by omega) i1 i2
        obtain ⟨p', p3, rfl⟩ := in_N (by omega) p1 p2
        rw [nI_nat (by omega), nI_nat (by omega)]
        have ha := List.getElem?_eq_getElem i3
        have e : l.getD i' (fun _ => 0) = l[i'] := by rw [List.getD_eq_getElem?_getD, ha]; rfl
        rw [e]
        have hn := c2 p' p3
        cases hh : wH W p' with
        | none =>
          rw [hh] at hn
          exact xC.of xpl8 (Nat.le_of_ble_eq_true rfl) (gX8_witnessOf_n u i' p' l.length (wP W) i3 l5 p3 hP hs c1 hn (fun z => absurd i3 (by omega)) (fun _ z => absurd p3 (by omega)) (fun _ _ => ⟨rfl, rfl⟩))
        | some q =>
          rw [hh] at hn
          have q5 := hW.2.2.1 p' p3 q hh
          obtain ⟨M, M1, M2, M3⟩ := c4 i' _ ha
          refine xC.of xpl8 (Nat.le_of_ble_eq_true rfl) (gX8_witnessOf_h u i' p' l.length (wP W) q (nI M) i3 l5 p3 hP q5 hs c1 hn M1 (fun z => absurd i3 (by omega)) (fun _ z => absurd p3 (by omega)) (fun _ _ _ => ⟨?_, rfl⟩) (fun _ _ z => absurd z (nIm1 (by omega))))
          rw [nI_shr (by omega) (by omega), and63, Nat.mul_comm q 6, M3 p' p3 q hh]
      · rw [if_neg hin]
        refine xC.of xpl8 (Nat.le_of_ble_eq_true rfl) (gX8_witnessOf_I u i p _ _ hs c1 (fun _ => ⟨rfl, rfl⟩) (fun _ _ => ⟨rfl, rfl⟩) (fun _ _ _ => ⟨rfl, rfl⟩) (fun _ _ _ _ => ⟨rfl, rfl⟩) (fun z y x w => hin ⟨⟨Int32.not_lt.mp z, Int32.not_le.mp y⟩, Int32.not_lt.mp x, Int32.not_le.mp w⟩))
  exact xC.of xpl9 (Nat.le_of_ble_eq_true rfl) (gX9_witness_0 u i p _ hwi ⟨rfl, rfl⟩)
theorem qX9_sum {u : xU} {W : WVN} (hW : WI W) (h : CW W u) (k w : Int32) : xC mX9_sum [.ref 1, .int k, .int w] (xmm u) (fun r μ' => r = some (.long (aSum W k w)) ∧ μ' = xmm u) := by
  have hc := qX0_carries (Or.inl rfl) hW.1 h.1 k
  unfold aSum
  by_cases hin : cry (wN W) (wR W) k = true
  · obtain ⟨l, j, e, j1, rfl⟩ := cry_t hW.1.1 hin
    have hn6 := hW.1.1
    have hI := hW.1
    have hca := h.1
    rw [e] at hI hca hc
    rw [e] at hin ⊢
    dsimp only
    rw [if_pos hin, nI_nat (by omega)]
    rw [xb_eq (show (cry (wN W) (some l) (nI j) = true) ↔ True from ⟨fun _ => True.intro, fun _ => hin⟩)] at hc
    refine xC.of xpl9 (Nat.le_of_ble_eq_true rfl) (gX9_sum_N u j w _ _ _ _ _ hc (qX0_total (Or.inl rfl) hI hca j1) (qX0_numbers (Or.inl rfl) hI hca j1) (qX0_greatest (Or.inl rfl) hI hca j1) (qX0_least (Or.inl rfl) hI hca j1) (qX0_differentValues (Or.inl rfl) hI hca j1) (fun _ a => ⟨?_, rfl⟩) (fun _ a b => ⟨?_, rfl⟩) (fun _ a b c => ⟨?_, rfl⟩) (fun _ a b c d => ⟨?_, rfl⟩) (fun _ a b c d f => ⟨?_, rfl⟩) (fun _ a b c d f => ⟨?_, rfl⟩) (fun z => absurd True.intro z))
    · rw [if_pos a]
    · rw [if_neg a, if_pos b]
    · rw [if_neg a, if_neg b, if_pos c]
    · rw [if_neg a, if_neg b, if_neg c, if_pos d]
    · rw [if_neg a, if_neg b, if_neg c, if_neg d, if_pos f]
    · rw [if_neg a, if_neg b, if_neg c, if_neg d, if_neg f]
  · rw [xb_eq (show (cry (wN W) (wR W) k = true) ↔ False from ⟨fun q => hin q, fun q => q.elim⟩)] at hc
    refine xC.of xpl9 (Nat.le_of_ble_eq_true rfl) (gX9_sum_I u k w hc (fun z => z.elim) (fun _ => ⟨?_, rfl⟩))
    cases hr : wR W with
    | none => rfl
    | some l =>
      rw [hr] at hin
      dsimp only
      rw [if_neg hin]
theorem qX9_group {u : xU} {W : WVN} (hW : WI W) (h : CW W u) (k v w j : Int32) : xC mX9_group [.ref 1, .int k, .int v, .int w, .int j] (xmm u) (fun r μ' => r = some (.long (aGroup W k v w j)) ∧ μ' = xmm u) := by
  have hc := qX0_carries (Or.inl rfl) hW.1 h.1 k
  have hcj := qX0_carries (Or.inl rfl) hW.1 h.1 j
  unfold aGroup
  by_cases hin : cry (wN W) (wR W) k = true
  · obtain ⟨l, k', e, k1, rfl⟩ := cry_t hW.1.1 hin
    have hn6 := hW.1.1
    have hI := hW.1
    have hca := h.1
    rw [e] at hI hca hc hcj
    rw [e] at hin ⊢
    dsimp only
    rw [if_pos hin, nI_nat (by omega)]
    rw [xb_eq (show (cry (wN W) (some l) (nI k') = true) ↔ True from ⟨fun _ => True.intro, fun _ => hin⟩)] at hc
    have hhw := qX0_howManyWith (Or.inl rfl) hI hca k1 v
    by_cases hj : cry (wN W) (some l) j = true
    · obtain ⟨_, j', -, j1, rfl⟩ := cry_t hW.1.1 hj
      rw [xb_eq (show (cry (wN W) (some l) (nI j') = true) ↔ True from ⟨fun _ => True.intro, fun _ => hj⟩)] at hcj
      refine xC.of xpl9 (Nat.le_of_ble_eq_true rfl) (gX9_group_N u k' j' v w _ _ hc hcj hhw (qX0_totalWith (Or.inl rfl) hI hca k1 j1 v) (fun _ a b => ⟨?_, rfl⟩) (fun _ _ _ z => absurd True.intro z) (fun _ a b _ => ⟨?_, rfl⟩) (fun _ a => ⟨?_, rfl⟩) (fun z => absurd True.intro z))
      · rw [if_neg a, if_neg b]
      · rw [if_neg a, if_pos b, if_pos hj, nI_nat (by omega)]
      · rw [if_pos a]
    · rw [xb_eq (show (cry (wN W) (some l) j = true) ↔ False from ⟨fun q => hj q, fun q => q.elim⟩)] at hcj
      refine xC.of xpl9 (Nat.le_of_ble_eq_true rfl) (gX9_group_J u k' v w j _ hc hcj hhw (fun _ a b => ⟨?_, rfl⟩) (fun _ a b _ => ⟨?_, rfl⟩) (fun _ _ _ z => z.elim) (fun _ a => ⟨?_, rfl⟩) (fun z => absurd True.intro z))
      · rw [if_neg a, if_neg b]
      · rw [if_neg a, if_pos b, if_neg hj]
      · rw [if_pos a]
  · rw [xb_eq (show (cry (wN W) (wR W) k = true) ↔ False from ⟨fun q => hin q, fun q => q.elim⟩)] at hc
    refine xC.of xpl9 (Nat.le_of_ble_eq_true rfl) (gX9_group_I u k v w j hc (fun z => z.elim) (fun _ => ⟨?_, rfl⟩))
    cases hr : wR W with
    | none => rfl
    | some l =>
      rw [hr] at hin
      dsimp only
      rw [if_neg hin]
theorem qX9_keep {u : xU} {W : WVN} {K : KPT} (hW : WI W) (h : CW W u) (hk : CA 59 K.1 K.2 u) : xC mX9_keep [.ref 1] (xmm u) (fun r μ' => ∃ u', μ' = xmm u' ∧ r = some (.int (aKeep W K).1) ∧ CA 59 (aKeep W K).2.1 (aKeep W K).2.2 u' ∧ frTk 59 u u') := by
  unfold aKeep
  cases hr : wR W with
  | none =>
    have hs := h.1.sz
    rw [hr] at hs
    exact xC.of xpl9 (Nat.le_of_ble_eq_true rfl) (gX9_keep_n u hs ⟨u, rfl, rfl, hk, fun _ _ _ => rfl, fun _ _ => rfl, rfl⟩)
  | some l =>
    have hca := h.1
    rw [hr] at hca
    have l5 := (hW.1.2 l hr).1
    have hn6 := hW.1.1
    refine xC.of xpl9 (Nat.le_of_ble_eq_true rfl) (gX9_keep_s u l.length hca.sz (fun _ => ?_) (fun z => absurd z (nIm1 (by omega))))
    have hcf : xC mX0_copyFrom [.ref 59, .ref 47] (xmm u) (fun r μ' => ∃ u', μ' = xmm u' ∧ r = none ∧ u'.1 59 0 = nI (wN W) ∧ u'.1 59 1 = nI l.length ∧ (∀ k, k < 6 → ∀ s, s < 64 → u'.1 (59 + 2 + k) s = u.1 (47 + 2 + k) s) ∧ (∀ i, i < 500 → u'.2.1 (59 + 8) i = u.2.1 (47 + 8) i) ∧ frTk 59 u u') := by
      refine xC.of xpl0 (Nat.le_of_ble_eq_true rfl) (gX0_copyFrom_0 u 59 47 (wN W) l.length (Or.inr rfl) (Or.inl rfl) hca.nm hca.sz ?_)
      refine (qX0_takeB (u := u) (A := 59) (B := 47) (n := wN W) (m := l.length) (Or.inr rfl) (Or.inl rfl) (by decide)).mono ?_
      rintro r μ' ⟨v, rfl, rfl, t⟩
      exact gX0_copyFrom_20 v ⟨v, rfl, rfl, t⟩
    refine hcf.mono ?_
    rintro r μ' ⟨v, rfl, rfl, t0, t1, t2, t3, t4⟩
    obtain ⟨c1, c2, Z, D, c3, c4⟩ := hca
    refine gX9_keep_30 v _ t1 ⟨v, rfl, rfl, ⟨t0, t1, Z, D, fun k hk' => ⟨(c3 k hk').1, fun s hs => ?_⟩, fun i a ha => ?_⟩, t4⟩
    · have := (c3 k hk').1.1
      have hk2 : k < wN W := hk'
      rw [t2 k (by omega) s (by omega)]
      exact (c3 k hk').2 s hs
    · have hi := (List.getElem?_eq_some_iff.mp ha).1
      rw [t3 i (by omega)]
      exact c4 i a ha

