theorem gX9_lowestPlace_0 (u : xU) (x : Int64) {Q : Option Value → xM → Prop}  
    (k1 : xC mJ13_bitCount_95d88 [.long ((x &&& (-x)) - 1)] (xmm u) (fun r μ1 => xE mX9_lowestPlace 9 [] (r.toList ++ []) μ1 Q)) : xE mX9_lowestPlace 0 [(0, .long (x))] [] (xmm u) Q := by
  refine xe_lload_n 0 dX9_lowestPlace_0 rfl rfl ?_
  refine xe_lload_n 0 dX9_lowestPlace_1 rfl rfl ?_
  refine xe_lneg dX9_lowestPlace_2 ?_
  refine xe_land dX9_lowestPlace_3 ?_
  refine xe_lconst (v := 1) dX9_lowestPlace_4 (by decide) ?_
  refine xe_lsub dX9_lowestPlace_5 ?_
  refine xE.sub [] rfl ?_
  refine xe_callS (As := [.long ((x &&& (-x)) - 1)]) (rest := []) dX9_lowestPlace_6 wJ13_bitCount_95d88 lX9_243 tJ13_bitCount_95d88 ⟨by decide, by decide⟩ rfl rfl (by simp [Value.category]) ?_
  exact k1

theorem gX9_spotIn_0 (u : xU) (k : Nat) (x : Int64) {Q : Option Value → xM → Prop} (hk : k < 6) (hsh : xC mX9_shift [.int (nI k)] (xmm u) (fun r μ' => r = some (.int (nI ((5 - k) * 6))) ∧ μ' = xmm u)) 
    (k1 : Q (some (.int ((((x.toUInt64 >>> ((nI ((5 - k) * 6)).toInt64.toUInt64 &&& Int64.toUInt64 63)).toInt64).toInt32) &&& 63))) (xmm u)) : xE mX9_spotIn 0 [(0, .long (x)), (2, .int (nI (k)))] [] (xmm u) Q := by
  refine xe_lload_n 0 dX9_spotIn_0 rfl rfl ?_
  refine xe_iload_n 1 dX9_spotIn_1 rfl rfl ?_
  refine xe_callS (As := [.int (nI (k))]) (rest := [.long (x)]) dX9_spotIn_2 wX9_shift lX9_240 tX9_shift ⟨by decide, by decide⟩ rfl rfl (by simp [Value.category]) (xC.pure (v := .int (nI ((5 - k) * 6))) (hsh) ?_)
  refine xe_lushr dX9_spotIn_5 ?_
  refine xe_l2i dX9_spotIn_6 ?_
  refine xe_bipush (v := nI (63)) dX9_spotIn_7 xcb63 ?_
  refine xe_iand dX9_spotIn_9 ?_
  exact xe_ret (r := (some (.int ((((x.toUInt64 >>> ((nI ((5 - k) * 6)).toInt64.toUInt64 &&& Int64.toUInt64 63)).toInt64).toInt32) &&& 63)))) dX9_spotIn_10 trivial (k1)

theorem pc8_cnt : ∀ a, a < 256 → pc8 a = cntB (fun i => a.testBit i) 8 := by decide +kernel
theorem cntB_add {f : Nat → Bool} {n : Nat} : ∀ k, cntB f (n + k) = cntB f n + cntB (fun i => f (n + i)) k
  | 0 => rfl
  | k + 1 => by
    show cntB f (n + k) + (if f (n + k) = true then 1 else 0) = cntB f n + (cntB (fun i => f (n + i)) k + if f (n + k) = true then 1 else 0)
    rw [cntB_add k]
    omega
theorem cntB_congr {f g : Nat → Bool} : ∀ {n : Nat}, (∀ i, i < n → f i = g i) → cntB f n = cntB g n
  | 0, _ => rfl
  | n + 1, h => by
    show cntB f n + (if f n = true then 1 else 0) = cntB g n + if g n = true then 1 else 0
    rw [cntB_congr (fun i hi => h i (by omega)), h n (by omega)]
theorem byte_bit {m s i : Nat} (hi : i < 8) : (m / 2 ^ s % 256).testBit i = m.testBit (s + i) := by
  rw [show 256 = 2 ^ 8 from rfl, Nat.testBit_mod_two_pow, decide_eq_true hi, Bool.true_and, Nat.testBit_div_two_pow, Nat.add_comm]
theorem pcN_cnt (m : Nat) : pcN m = cntB (fun i => m.testBit i) 40 := by
  have b : ∀ s, pc8 (m / 2 ^ s % 256) = cntB (fun i => m.testBit (s + i)) 8 := fun s => by
    rw [pc8_cnt _ (by omega)]
    exact cntB_congr (fun i hi => byte_bit hi)
  have b0 := b 0
  have b1 := b 8
  have b2 := b 16
  have b3 := b 24
  have b4 := b 32
  rw [Nat.pow_zero, Nat.div_one] at b0
  rw [show (2 : Nat) ^ 8 = 256 from rfl] at b1
  rw [show (2 : Nat) ^ 16 = 65536 from rfl] at b2
  rw [show (2 : Nat) ^ 24 = 16777216 from rfl] at b3
  rw [show (2 : Nat) ^ 32 = 4294967296 from rfl] at b4
  have c1 := cntB_add (f := fun i => m.testBit i) (n := 0) 8
  have c2 := cntB_add (f := fun i => m.testBit i) (n := 8) 8
  have c3 := cntB_add (f := fun i => m.testBit i) (n := 16) 8
  have c4 := cntB_add (f := fun i => m.testBit i) (n := 24) 8
  have c5 := cntB_add (f := fun i => m.testBit i) (n := 32) 8
  have c0 : cntB (fun i => m.testBit i) 0 = 0 := rfl
  unfold pcN
  rw [b0, b1, b2, b3, b4]
  simp only [Nat.reduceAdd] at c1 c2 c3 c4 c5 ⊢
  omega
/-- the first that is well, or n -/
def fstB (f : Nat → Bool) : Nat → Nat
  | 0 => 0
  | n + 1 => if f (fstB f n) = true then fstB f n else n + 1
theorem fstB_none {f : Nat → Bool} : ∀ {n : Nat}, (∀ i, i < n → ¬ f i = true) → fstB f n = n
  | 0, _ => rfl
  | n + 1, h => by
    unfold fstB
    rw [fstB_none (fun i hi => h i (by omega)), if_neg (h n (by omega))]
theorem fstB_eq {f : Nat → Bool} {j : Nat} (hf : f j = true) (hb : ∀ i, i < j → ¬ f i = true) : ∀ {n : Nat}, j < n → fstB f n = j
  | 0, h => absurd h (Nat.not_lt_zero j)
  | n + 1, h => by
    unfold fstB
    by_cases e : j = n
    · subst e
      rw [fstB_none hb, if_pos hf]
    · rw [fstB_eq hf hb (by omega), if_pos hf]
theorem fstB_ex {f : Nat → Bool} : ∀ {n : Nat}, (∃ i, i < n ∧ f i = true) → fstB f n < n ∧ f (fstB f n) = true ∧ ∀ i, i < fstB f n → ¬ f i = true
  | 0, h => by obtain ⟨i, hi, -⟩ := h; omega
  | n + 1, h => by
    by_cases he : ∃ i, i < n ∧ f i = true
    · obtain ⟨h1, h2, h3⟩ := fstB_ex he
      have e : fstB f (n + 1) = fstB f n := by
        show (if f (fstB f n) = true then fstB f n else n + 1) = fstB f n
        exact if_pos h2
      rw [e]
      exact ⟨by omega, h2, h3⟩
    · obtain ⟨i, hi, hf⟩ := h
      have hin : i = n := Classical.byContradiction fun q => he ⟨i, by omega, hf⟩
      subst hin
      have hno : ∀ j, j < i → ¬ f j = true := fun j hj q => he ⟨j, hj, q⟩
      have e := fstB_eq (n := i + 1) hf hno (by omega)
      rw [e]
      exact ⟨by omega, hf, hno⟩
def lowb (m : Nat) : Nat := fstB (fun i => m.testBit i) 40
theorem odd_form : ∀ m, m ≠ 0 → ∃ k q, m = 2 ^ k * (2 * q + 1)
  | 0, h => absurd rfl h
  | m + 1, _ => by
    by_cases ho : (m + 1) % 2 = 1
    · exact ⟨0, (m + 1) / 2, by omega⟩
    · obtain ⟨k, q, e⟩ := odd_form ((m + 1) / 2) (by omega)
      refine ⟨k + 1, q, ?_⟩
      rw [Nat.pow_succ, Nat.mul_comm (2 ^ k) 2, Nat.mul_assoc, ← e]
      omega
  decreasing_by omega
theorem lowb_bits {m : Nat} (h0 : m ≠ 0) (hm : m < 2 ^ 40) : m.testBit (lowb m) = true ∧ (∀ i, i < lowb m → ¬ m.testBit i = true) ∧ lowb m < 40 ∧ m &&& (2 ^ 64 - m) = 2 ^ lowb m := by
  obtain ⟨k, q, e⟩ := odd_form m h0
  have tb : ∀ i, m.testBit i = if i < k then false else (2 * q + 1).testBit (i - k) := fun i => by
    have := Nat.testBit_two_pow_mul_add (2 * q + 1) (Nat.two_pow_pos k) i
    rw [Nat.add_zero, ← e] at this
    rw [this]
    split
    · simp
    · rfl
  have tk : m.testBit k = true := by
    rw [tb, if_neg (by omega), Nat.sub_self]
    simp
  have tl : ∀ i, i < k → ¬ m.testBit i = true := fun i hi => by
    rw [tb, if_pos hi]
    simp
  have k40 : k < 40 := Classical.byContradiction fun z => by
    have := Nat.testBit_lt_two_pow (Nat.lt_of_lt_of_le hm (Nat.pow_le_pow_right (n := 2) (by decide) (show 40 ≤ k by omega)))
    rw [this] at tk
    cases tk
  have hl : lowb m = k := fstB_eq (f := fun i => m.testBit i) tk tl k40
  rw [hl]
  refine ⟨tk, tl, k40, ?_⟩
  apply Nat.eq_of_testBit_eq
  intro i
  have hm1 : m - 1 < 2 ^ 64 := by omega
  have e64 : 2 ^ 64 - m = 2 ^ 64 - (m - 1 + 1) := by omega
  have e1 : m - 1 = 2 ^ k * (2 * q) + (2 ^ k - 1) := by
    have := Nat.two_pow_pos k
    rw [e, Nat.mul_add, Nat.mul_one]
    omega
  have t1 : (m - 1).testBit i = if i < k then (2 ^ k - 1).testBit i else (2 * q).testBit (i - k) := by
    rw [e1]
    exact Nat.testBit_two_pow_mul_add (2 * q) (by have := Nat.two_pow_pos k; omega) i
  rw [Nat.testBit_and, e64, Nat.testBit_two_pow_sub_succ hm1, Nat.testBit_two_pow, tb, t1]
  rcases Nat.lt_trichotomy i k with h | h | h
  · rw [if_pos h, if_pos h, decide_eq_false (show ¬ k = i by omega)]
    simp
  · subst h
    rw [if_neg (by omega), if_neg (by omega), Nat.sub_self]
    simp
    omega
  · rw [if_neg (by omega), if_neg (by omega), decide_eq_false (show ¬ k = i by omega)]
    obtain ⟨j, hj⟩ : ∃ j, i - k = j + 1 := ⟨i - k - 1, by omega⟩
    rw [hj, Nat.testBit_succ, Nat.testBit_succ, show (2 * q + 1) / 2 = q by omega, show 2 * q / 2 = q by omega]
    cases q.testBit j <;> simp
theorem nL_neg {m : Nat} (hm : m ≤ 2 ^ 64) : -nL m = nL (2 ^ 64 - m) := by
  apply Int64.toBitVec_inj.mp
  apply BitVec.eq_of_toNat_eq
  rw [Int64.toBitVec_neg, nL_bv, nL_bv, BitVec.toNat_neg, BitVec.toNat_ofNat, BitVec.toNat_ofNat]
  omega
theorem pow_cnt : ∀ k, k < 40 → pcN (2 ^ k - 1) = k := by decide +kernel
theorem qX9_lowestPlace (u : xU) {m : Nat} (h0 : m ≠ 0) (hm : m < 2 ^ 40) : xC mX9_lowestPlace [.long (nL m)] (xmm u) (fun r μ' => r = some (.int (nI (lowb m))) ∧ μ' = xmm u) := by
  obtain ⟨h1, h2, h3, h4⟩ := lowb_bits h0 hm
  refine xC.of xpl9 (Nat.le_of_ble_eq_true rfl) (gX9_lowestPlace_0 u _ ?_)
  have hp := Nat.two_pow_pos (lowb m)
  have hlt : 2 ^ lowb m < 2 ^ 40 := Nat.pow_lt_pow_right (by decide) h3
  rw [nL_neg (by omega), nL_and (by omega) (by omega), h4, show (1 : Int64) = nL 1 from rfl, nL_sub hp]
  refine (qJ13_bitCount u (m := 2 ^ lowb m - 1) (by omega)).mono ?_
  rintro r μ' ⟨rfl, rfl⟩
  rw [pow_cnt _ h3]
  exact xe_ret (r := some (.int _)) dX9_lowestPlace_9 trivial ⟨rfl, rfl⟩

