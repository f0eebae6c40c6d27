theorem clr_bits {m : Nat} (h0 : m ≠ 0) (hm : m < 2 ^ 40) (i : Nat) : (m &&& (m - 1)).testBit i = true ↔ m.testBit i = true ∧ i ≠ lowb m := by
  obtain ⟨t1, t2, t3, t4⟩ := lowb_bits h0 hm
  -- the bits of 2^64 - m are those that m - 1 has not
  have e64 : 2 ^ 64 - m = 2 ^ 64 - (m - 1 + 1) := by omega
  have b := congrArg (fun x => x.testBit i) t4
  simp only [Nat.testBit_and, Nat.testBit_two_pow] at b
  rw [e64, Nat.testBit_two_pow_sub_succ (show m - 1 < 2 ^ 64 by omega)] at b
  rw [Nat.testBit_and, Bool.and_eq_true]
  by_cases hi : i < 64
  · rw [decide_eq_true hi, Bool.true_and] at b
    constructor
    · rintro ⟨p, q⟩
      refine ⟨p, fun e => ?_⟩
      rw [p, q] at b
      subst e
      simp at b
    · rintro ⟨p, q⟩
      refine ⟨p, ?_⟩
      rw [p, decide_eq_false (show ¬ lowb m = i from fun e => q e.symm)] at b
      cases hq : (m - 1).testBit i
      · rw [hq] at b; simp at b
      · rfl
  · have hz : m.testBit i = false := Nat.testBit_lt_two_pow (Nat.lt_of_lt_of_le hm (Nat.pow_le_pow_right (n := 2) (by decide) (by omega)))
    rw [hz]
    constructor
    · rintro ⟨p, -⟩; cases p
    · rintro ⟨p, -⟩; cases p
theorem nL_clr {m : Nat} (h0 : m ≠ 0) (hm : m < 2 ^ 40) : nL m &&& (nL m - 1) = nL (m &&& (m - 1)) := by
  rw [show (1 : Int64) = nL 1 from rfl, nL_sub (by omega), nL_and (by omega) (by omega)]
theorem nL_not {z : Nat} (hz : z < 2 ^ 40) : nL z ^^^ (-1) = nL (2 ^ 64 - (z + 1)) := by
  apply Int64.toBitVec_inj.mp
  apply BitVec.eq_of_toNat_eq
  have e : (-1 : Int64).toBitVec = BitVec.allOnes 64 := rfl
  rw [Int64.toBitVec_xor, e, BitVec.xor_allOnes, BitVec.toNat_not, nL_bv, nL_bv, BitVec.toNat_ofNat, BitVec.toNat_ofNat]
  omega
theorem nL_off {m z : Nat} (hm : m < 2 ^ 40) (hz : z < 2 ^ 40) : nL m &&& (nL z ^^^ (-1)) = nL (m &&& (2 ^ 64 - (z + 1))) := by
  rw [nL_not hz, nL_and (by omega) (by omega)]
theorem off_bits {m z i : Nat} (hm : m < 2 ^ 40) (hz : z < 2 ^ 40) : (m &&& (2 ^ 64 - (z + 1))).testBit i = true ↔ m.testBit i = true ∧ ¬ z.testBit i = true := by
  rw [Nat.testBit_and, Bool.and_eq_true, Nat.testBit_two_pow_sub_succ (show z < 2 ^ 64 by omega)]
  by_cases hi : i < 64
  · rw [decide_eq_true hi, Bool.true_and, Bool.not_eq_true']
    simp
  · have h1 : m.testBit i = false := Nat.testBit_lt_two_pow (Nat.lt_of_lt_of_le hm (Nat.pow_le_pow_right (n := 2) (by decide) (by omega)))
    rw [h1]
    simp

