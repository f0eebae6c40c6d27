theorem clr_bits {m : Nat} (h0 : m ≠ 0) (hm : m < 2 ^ 40) (i : Nat) : (m &&& (m - 1)).testBit i = true ↔ m.testBit i = true ∧ i ≠ lowb m := by
  obtain ⟨t1, t2, t3, t4⟩ := lowb_bits h0 hm
  -- the bits of 2^64 - m are those that m - 1 has not
  have e64 : 2 ^ 64 - m = 2 ^ 64 - (m - 1 + 1) := by omega
  have b := congrArg (fun x => x.testBit i) t4
  simp only [Nat.testBit_and, Nat.testBit_two_pow] at b
  rw [e64, Nat.testBit_two_pow_sub_succ (show m - 1 < 2 ^ 64 by omega)] at b
  rw [Nat.testBit_and, Bool.and_eq_true]
  by_cases hi : i < 64
  · rw [decide_eq_true hi, Bool.true_and] at b
    constructor
    · rintro ⟨p, q⟩
      refine ⟨p, fun e => ?_⟩
      rw [p, q] at b
      subst e
      simp at b
    · rintro ⟨p, q⟩
      refine ⟨p, ?_⟩
      rw [p, decide_eq_false (show ¬ lowb m = i from fun e => q e.symm)] at b
      cases hq : (m - 1).testBit i
      · rw [hq] at b; simp at b
      · rfl
  · have hz : m.testBit i = false := Nat.testBit_lt_two_pow (Nat.lt_of_lt_of_le hm (Nat.pow_le_pow_right (n := 2) (by decide) (by omega)))
    rw [hz]
    constructor
    · rintro ⟨p, -⟩; cases p
    · rintro ⟨p, -⟩; cases p
theorem nL_clr {m : Nat} (h0 : m ≠ 0) (hm : m < 2 ^ 40) : nL m &&& (nL m - 1) = nL (m &&& (m - 1)) := by
  rw [show (1 : Int64) = nL 1 from rfl, nL_sub (by omega), nL_and (by omega) (by omega)]
theorem nL_not {z : Nat} (hz : z < 2 ^ 40) : nL z ^^^ (-1) = nL (2 ^ 64 - (z + 1)) := by
  apply Int64.toBitVec_inj.mp
  apply BitVec.eq_of_toNat_eq
  have e : (-1 : Int64).toBitVec = BitVec.allOnes 64 := rfl
  rw [Int64.toBitVec_xor, e, BitVec.xor_allOnes, BitVec.toNat_not, nL_bv, nL_bv, BitVec.toNat_ofNat, BitVec.toNat_ofNat]
  omega
theorem nL_off {m z : Nat} (hm : m < 2 ^ 40) (hz : z < 2 ^ 40) : nL m &&& (nL z ^^^ (-1)) = nL (m &&& (2 ^ 64 - (z + 1))) := by
  rw [nL_not hz, nL_and (by omega) (by omega)]
theorem off_bits {m z i : Nat} (hm : m < 2 ^ 40) (hz : z < 2 ^ 40) : (m &&& (2 ^ 64 - (z + 1))).testBit i = true ↔ m.testBit i = true ∧ ¬ z.testBit i = true := by
  rw [Nat.testBit_and, Bool.and_eq_true, Nat.testBit_two_pow_sub_succ (show z < 2 ^ 64 by omega)]
  by_cases hi : i < 64
  · rw [decide_eq_true hi, Bool.true_and, Bool.not_eq_true']
    simp
  · have h1 : m.testBit i = false := Nat.testBit_lt_two_pow (Nat.lt_of_lt_of_le hm (Nat.pow_le_pow_right (n := 2) (by decide) (by omega)))
    rw [h1]
    simp
theorem or_add {A B s sh : Nat} (hB : B < 2 ^ sh) (hs : s < 64) : (2 ^ sh * (64 * A) + B) ||| s * 2 ^ sh = 2 ^ sh * (64 * A + s) + B := by
  apply Nat.eq_of_testBit_eq
  intro i
  have e0 : s * 2 ^ sh = 2 ^ sh * s + 0 := by rw [Nat.add_zero, Nat.mul_comm]
  have p0 := Nat.two_pow_pos sh
  rw [Nat.testBit_or, e0, Nat.testBit_two_pow_mul_add _ hB, Nat.testBit_two_pow_mul_add _ p0, Nat.testBit_two_pow_mul_add _ hB]
  split
  · simp
  · have h1 := Nat.testBit_two_pow_mul_add A (show s < 2 ^ 6 by omega) (i - sh)
    have h2 := Nat.testBit_two_pow_mul_add A (show 0 < 2 ^ 6 by decide) (i - sh)
    rw [show 2 ^ 6 = 64 from rfl] at h1 h2
    rw [Nat.add_zero] at h2
    rw [h1, h2]
    split
    · simp
    · rename_i hj
      have : s.testBit (i - sh) = false := Nat.testBit_lt_two_pow (Nat.lt_of_lt_of_le (show s < 2 ^ 6 by omega) (Nat.pow_le_pow_right (n := 2) (by decide) (by omega)))
      rw [this]
      simp
theorem nI_L {s : Nat} (hs : s < 64) : (nI s).toInt64 = nL s := by
  have : ∀ s, s < 64 → (nI s).toInt64 = nL s := by decide +kernel
  exact this s hs
/-- a meeting with one name more -/
def xtm (m s k : Nat) : Nat := m ||| s * 2 ^ ((5 - k) * 6)
theorem xtm_L {m s k : Nat} (hm : m < 2 ^ 36) (hs : s < 64) (hk : k < 6) : nL m ||| ((nI s).toInt64 <<< ((nI ((5 - k) * 6)).toInt64 &&& 63)) = nL (xtm m s k) := by
  have h1 : s * 2 ^ ((5 - k) * 6) ≤ 64 * 2 ^ 30 := Nat.mul_le_mul (by omega) (Nat.pow_le_pow_right (by decide) (by omega))
  rw [nI_L hs, nL_shl (by omega), nL_or (by omega) (by omega)]
  rfl
theorem xtm_eq {m s k : Nat} (hs : s < 64) (h0 : spN m k = 0) : xtm m s k = m + s * 2 ^ ((5 - k) * 6) := by
  unfold spN at h0
  have p0 := Nat.two_pow_pos ((5 - k) * 6)
  have e1 := Nat.div_add_mod m (2 ^ ((5 - k) * 6))
  have e2 : m / 2 ^ ((5 - k) * 6) = 64 * (m / 2 ^ ((5 - k) * 6) / 64) := by omega
  have hB := Nat.mod_lt m p0
  have := or_add (A := m / 2 ^ ((5 - k) * 6) / 64) hB hs
  unfold xtm
  rw [← e2, e1] at this
  rw [this, Nat.mul_add, Nat.mul_comm s]
  omega
theorem xtm_sp {m s k : Nat} (hm : m < 2 ^ 36) (hs : s < 64) (hk : k < 6) (h0 : spN m k = 0) : xtm m s k < 2 ^ 36 ∧ spN (xtm m s k) k = s ∧ ∀ j, j < 6 → j ≠ k → spN (xtm m s k) j = spN m j := by
  rw [xtm_eq hs h0]
  unfold spN at *
  rcases (show k = 0 ∨ k = 1 ∨ k = 2 ∨ k = 3 ∨ k = 4 ∨ k = 5 by omega) with rfl | rfl | rfl | rfl | rfl | rfl <;>
  · simp only [Nat.reduceSub, Nat.reduceMul, Nat.reducePow] at h0 ⊢
    refine ⟨by omega, by omega, fun j hj hne => ?_⟩
    rcases (show j = 0 ∨ j = 1 ∨ j = 2 ∨ j = 3 ∨ j = 4 ∨ j = 5 by omega) with rfl | rfl | rfl | rfl | rfl | rfl <;> first
    | exact absurd rfl hne
    | (simp only [Nat.reduceSub, Nat.reduceMul, Nat.reducePow]; omega)

