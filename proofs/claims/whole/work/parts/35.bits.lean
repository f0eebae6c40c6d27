theorem sw1_z (m : Nat) : sw1 m 0 = 0 := by unfold sw1; simp
theorem sw2_z (m : Nat) : sw2 m 0 = 0 := by unfold sw2; simp
theorem sw3_z (m : Nat) : sw3 m 0 = 0 := by unfold sw3; simp
theorem sw1_1 {a m : Nat} (ha : a < 256) : sw1 (85 + 256 * m) a = sw1 85 a := by
  have := sw1_st (a := a) (b := 0) (m := m) ha
  rw [Nat.mul_zero, Nat.add_zero, sw1_z, Nat.mul_zero, Nat.add_zero] at this
  exact this
theorem sw2_1 {a m : Nat} (ha : a < 256) : sw2 (51 + 256 * m) a = sw2 51 a := by
  have := sw2_st (a := a) (b := 0) (m := m) ha
  rw [Nat.mul_zero, Nat.add_zero, sw2_z, Nat.mul_zero, Nat.add_zero] at this
  exact this
theorem sw3_1 {a m : Nat} (ha : a < 69) : sw3 (15 + 256 * m) a = sw3 15 a := by
  have := sw3_st (a := a) (b := 0) (m := m) ha (by decide)
  rw [Nat.mul_zero, Nat.add_zero, sw3_z, Nat.mul_zero, Nat.add_zero] at this
  exact this
theorem swall {a b c d e : Nat} (ha : a < 256) (hb : b < 256) (hc : c < 256) (hd : d < 256) (he : e < 256) : sw3 1085102592571150095 (sw2 3689348814741910323 (sw1 6148914691236517205 (a + 256 * (b + 256 * (c + 256 * (d + 256 * e)))))) = pc8 a + 256 * (pc8 b + 256 * (pc8 c + 256 * (pc8 d + 256 * pc8 e))) := by
  rw [show 6148914691236517205 = 85 + 256 * (85 + 256 * (85 + 256 * (85 + 256 * (85 + 256 * 5592405)))) from rfl, show 3689348814741910323 = 51 + 256 * (51 + 256 * (51 + 256 * (51 + 256 * (51 + 256 * 3355443)))) from rfl, show 1085102592571150095 = 15 + 256 * (15 + 256 * (15 + 256 * (15 + 256 * (15 + 256 * 986895)))) from rfl]
  have a1 := sw1_le a ha
  have b1 := sw1_le b hb
  have c1 := sw1_le c hc
  have d1 := sw1_le d hd
  have e1 := sw1_le e he
  have a2 := sw2_b a ha
  have b2 := sw2_b b hb
  have c2 := sw2_b c hc
  have d2 := sw2_b d hd
  have e2 := sw2_b e he
  rw [sw1_st ha, sw1_st hb, sw1_st hc, sw1_st hd, sw1_1 he, sw2_st a1.2, sw2_st b1.2, sw2_st c1.2, sw2_st d1.2, sw2_1 e1.2]
  rw [sw3_st (by omega) (by omega), sw3_st (by omega) (by omega), sw3_st (by omega) (by omega), sw3_st (by omega) (by omega), sw3_1 (by omega)]
  rfl
/-- how many bits are set below bit 40 -/
def pcN (m : Nat) : Nat := pc8 (m % 256) + pc8 (m / 256 % 256) + pc8 (m / 65536 % 256) + pc8 (m / 16777216 % 256) + pc8 (m / 4294967296 % 256)
theorem pcN_le (m : Nat) : pcN m ≤ 40 := by
  have h : ∀ x, pc8 (x % 256) ≤ 8 := fun x => (sw2_b (x % 256) (by omega)).2.2
  have := h m
  have := h (m / 256)
  have := h (m / 65536)
  have := h (m / 16777216)
  have := h (m / 4294967296)
  unfold pcN
  omega
theorem mL1 : (6148914691236517205 : Int64) = nL 6148914691236517205 := by decide +kernel
theorem mL2 : (3689348814741910323 : Int64) = nL 3689348814741910323 := by decide +kernel
theorem mL3 : (1085102592571150095 : Int64) = nL 1085102592571150095 := by decide +kernel
theorem qJ13_bitCount (u : xU) {m : Nat} (hm : m < 2 ^ 40) : xC mJ13_bitCount_95d88 [.long (nL m)] (xmm u) (fun r μ' => r = some (.int (nI (pcN m))) ∧ μ' = xmm u) := by
  have e0 : m = m % 256 + 256 * (m / 256 % 256 + 256 * (m / 65536 % 256 + 256 * (m / 16777216 % 256 + 256 * (m / 4294967296 % 256)))) := by omega
  have h : ∀ x, pc8 (x % 256) ≤ 8 := fun x => (sw2_b (x % 256) (by omega)).2.2
  have p0 := h m
  have p1 := h (m / 256)
  have p2 := h (m / 65536)
  have p3 := h (m / 16777216)
  have p4 := h (m / 4294967296)
  have hall := swall (a := m % 256) (b := m / 256 % 256) (c := m / 65536 % 256) (d := m / 16777216 % 256) (e := m / 4294967296 % 256) (by omega) (by omega) (by omega) (by omega) (by omega)
  rw [← e0] at hall
  refine xC.of xplJ13 (Nat.le_of_ble_eq_true rfl) (gJ13_bitCount_95d88_0 u _ ?_)
  have s1le : m / 2 &&& 6148914691236517205 ≤ m := Nat.le_trans Nat.and_le_left (Nat.div_le_self _ _)
  have b1 : sw1 6148914691236517205 m < 2 ^ 40 := by unfold sw1; omega
  rw [nL_ushr (by omega) (by decide), mL1, nL_and (by omega) (by decide), nL_sub s1le]
  refine gJ13_bitCount_95d88_10 u _ ?_
  have e1 : m - (m / 2 ^ 1 &&& 6148914691236517205) = sw1 6148914691236517205 m := rfl
  rw [e1]
  generalize sw1 6148914691236517205 m = x1 at hall b1
  have b2 : sw2 3689348814741910323 x1 < 2 ^ 42 := by
    have h1 : x1 &&& 3689348814741910323 ≤ x1 := Nat.and_le_left
    have h2 : x1 / 4 &&& 3689348814741910323 ≤ x1 / 4 := Nat.and_le_left
    unfold sw2
    omega
  rw [nL_ushr (by omega) (by decide), mL2, nL_and (by omega) (by decide), nL_and (by omega) (by decide), nL_add]
  refine gJ13_bitCount_95d88_24 u _ ?_
  have e2 : (x1 &&& 3689348814741910323) + (x1 / 2 ^ 2 &&& 3689348814741910323) = sw2 3689348814741910323 x1 := rfl
  rw [e2]
  generalize sw2 3689348814741910323 x1 = x2 at hall b2
  rw [nL_ushr (by omega) (by decide), mL3, nL_add, nL_and (by omega) (by decide)]
  refine gJ13_bitCount_95d88_34 u _ ?_
  have e3 : x2 + x2 / 2 ^ 4 &&& 1085102592571150095 = sw3 1085102592571150095 x2 := rfl
  have epc : pcN m = pc8 (m % 256) + pc8 (m / 256 % 256) + pc8 (m / 65536 % 256) + pc8 (m / 16777216 % 256) + pc8 (m / 4294967296 % 256) := rfl
  rw [e3, hall]
  generalize pc8 (m % 256) = q0 at *
  generalize pc8 (m / 256 % 256) = q1 at *
  generalize pc8 (m / 65536 % 256) = q2 at *
  generalize pc8 (m / 16777216 % 256) = q3 at *
  generalize pc8 (m / 4294967296 % 256) = q4 at *
  rw [nL_ushr (by omega) (by decide), nL_add]
  refine gJ13_bitCount_95d88_41 u _ ?_
  rw [nL_ushr (by omega) (by decide), nL_add]
  refine gJ13_bitCount_95d88_48 u _ ?_
  rw [nL_ushr (by omega) (by decide), nL_add]
  refine gJ13_bitCount_95d88_55 u _ ?_
  rw [nL_l2i, and127]
  refine ⟨?_, rfl⟩
  have : ∀ a b : Nat, a = b → some (Value.int (nI a)) = some (Value.int (nI b)) := fun a b h => by rw [h]
  apply this
  rw [epc]
  clear hall e0 e3 e2 e1 b2 b1 s1le this epc h
  have f1 : (q0 + 256 * (q1 + 256 * (q2 + 256 * (q3 + 256 * q4)))) / 2 ^ 8 = q1 + 256 * (q2 + 256 * (q3 + 256 * q4)) := by omega
  rw [f1]
  have f2 : (q0 + 256 * (q1 + 256 * (q2 + 256 * (q3 + 256 * q4))) + (q1 + 256 * (q2 + 256 * (q3 + 256 * q4)))) / 2 ^ 16 = (q2 + q3) + 256 * (q3 + q4 + 256 * q4) := by omega
  rw [f2]
  have f3 : (q0 + 256 * (q1 + 256 * (q2 + 256 * (q3 + 256 * q4))) + (q1 + 256 * (q2 + 256 * (q3 + 256 * q4))) + ((q2 + q3) + 256 * (q3 + q4 + 256 * q4))) / 2 ^ 32 = q4 := by omega
  rw [f3]
  omega

