theorem gJ13_bitCount_95d88_0 (u : xU) (x : Int64) {Q : Option Value → xM → Prop}  
    (k1 : xE mJ13_bitCount_95d88 10 [(0, .long (x - (((x.toUInt64 >>> ((nI (1)).toInt64.toUInt64 &&& Int64.toUInt64 63)).toInt64) &&& 6148914691236517205)))] [] (xmm u) Q) : xE mJ13_bitCount_95d88 0 [(0, .long (x))] [] (xmm u) Q := by
  refine xe_lload_n 0 dJ13_bitCount_95d88_0 rfl rfl ?_
  refine xe_lload_n 0 dJ13_bitCount_95d88_1 rfl rfl ?_
  refine xe_iconst (v := nI (1)) dJ13_bitCount_95d88_2 xc1 ?_
  refine xe_lushr dJ13_bitCount_95d88_3 ?_
  refine xe_ldc2 dJ13_bitCount_95d88_4 kJ13_314 ?_
  refine xe_land dJ13_bitCount_95d88_7 ?_
  refine xe_lsub dJ13_bitCount_95d88_8 ?_
  refine xe_lstore_n (L2 := [(0, .long (x - (((x.toUInt64 >>> ((nI (1)).toInt64.toUInt64 &&& Int64.toUInt64 63)).toInt64) &&& 6148914691236517205)))]) dJ13_bitCount_95d88_9 rfl (by decide) rfl ?_
  exact k1

theorem gJ13_bitCount_95d88_10 (u : xU) (x : Int64) {Q : Option Value → xM → Prop}  
    (k1 : xE mJ13_bitCount_95d88 24 [(0, .long ((x &&& 3689348814741910323) + (((x.toUInt64 >>> ((nI (2)).toInt64.toUInt64 &&& Int64.toUInt64 63)).toInt64) &&& 3689348814741910323)))] [] (xmm u) Q) : xE mJ13_bitCount_95d88 10 [(0, .long (x))] [] (xmm u) Q := by
  refine xe_lload_n 0 dJ13_bitCount_95d88_10 rfl rfl ?_
  refine xe_ldc2 dJ13_bitCount_95d88_11 kJ13_316 ?_
  refine xe_land dJ13_bitCount_95d88_14 ?_
  refine xe_lload_n 0 dJ13_bitCount_95d88_15 rfl rfl ?_
  refine xe_iconst (v := nI (2)) dJ13_bitCount_95d88_16 xc2 ?_
  refine xe_lushr dJ13_bitCount_95d88_17 ?_
  refine xe_ldc2 dJ13_bitCount_95d88_18 kJ13_316 ?_
  refine xe_land dJ13_bitCount_95d88_21 ?_
  refine xe_ladd dJ13_bitCount_95d88_22 ?_
  refine xe_lstore_n (L2 := [(0, .long ((x &&& 3689348814741910323) + (((x.toUInt64 >>> ((nI (2)).toInt64.toUInt64 &&& Int64.toUInt64 63)).toInt64) &&& 3689348814741910323)))]) dJ13_bitCount_95d88_23 rfl (by decide) rfl ?_
  exact k1

theorem gJ13_bitCount_95d88_24 (u : xU) (x : Int64) {Q : Option Value → xM → Prop}  
    (k1 : xE mJ13_bitCount_95d88 34 [(0, .long ((x + ((x.toUInt64 >>> ((nI (4)).toInt64.toUInt64 &&& Int64.toUInt64 63)).toInt64)) &&& 1085102592571150095))] [] (xmm u) Q) : xE mJ13_bitCount_95d88 24 [(0, .long (x))] [] (xmm u) Q := by
  refine xe_lload_n 0 dJ13_bitCount_95d88_24 rfl rfl ?_
  refine xe_lload_n 0 dJ13_bitCount_95d88_25 rfl rfl ?_
  refine xe_iconst (v := nI (4)) dJ13_bitCount_95d88_26 xc4 ?_
  refine xe_lushr dJ13_bitCount_95d88_27 ?_
  refine xe_ladd dJ13_bitCount_95d88_28 ?_
  refine xe_ldc2 dJ13_bitCount_95d88_29 kJ13_318 ?_
  refine xe_land dJ13_bitCount_95d88_32 ?_
  refine xe_lstore_n (L2 := [(0, .long ((x + ((x.toUInt64 >>> ((nI (4)).toInt64.toUInt64 &&& Int64.toUInt64 63)).toInt64)) &&& 1085102592571150095))]) dJ13_bitCount_95d88_33 rfl (by decide) rfl ?_
  exact k1

theorem gJ13_bitCount_95d88_34 (u : xU) (x : Int64) {Q : Option Value → xM → Prop}  
    (k1 : xE mJ13_bitCount_95d88 41 [(0, .long (x + ((x.toUInt64 >>> ((nI (8)).toInt64.toUInt64 &&& Int64.toUInt64 63)).toInt64)))] [] (xmm u) Q) : xE mJ13_bitCount_95d88 34 [(0, .long (x))] [] (xmm u) Q := by
  refine xe_lload_n 0 dJ13_bitCount_95d88_34 rfl rfl ?_
  refine xe_lload_n 0 dJ13_bitCount_95d88_35 rfl rfl ?_
  refine xe_bipush (v := nI (8)) dJ13_bitCount_95d88_36 xcb8 ?_
  refine xe_lushr dJ13_bitCount_95d88_38 ?_
  refine xe_ladd dJ13_bitCount_95d88_39 ?_
  refine xe_lstore_n (L2 := [(0, .long (x + ((x.toUInt64 >>> ((nI (8)).toInt64.toUInt64 &&& Int64.toUInt64 63)).toInt64)))]) dJ13_bitCount_95d88_40 rfl (by decide) rfl ?_
  exact k1

theorem gJ13_bitCount_95d88_41 (u : xU) (x : Int64) {Q : Option Value → xM → Prop}  
    (k1 : xE mJ13_bitCount_95d88 48 [(0, .long (x + ((x.toUInt64 >>> ((nI (16)).toInt64.toUInt64 &&& Int64.toUInt64 63)).toInt64)))] [] (xmm u) Q) : xE mJ13_bitCount_95d88 41 [(0, .long (x))] [] (xmm u) Q := by
  refine xe_lload_n 0 dJ13_bitCount_95d88_41 rfl rfl ?_
  refine xe_lload_n 0 dJ13_bitCount_95d88_42 rfl rfl ?_
  refine xe_bipush (v := nI (16)) dJ13_bitCount_95d88_43 xcb16 ?_
  refine xe_lushr dJ13_bitCount_95d88_45 ?_
  refine xe_ladd dJ13_bitCount_95d88_46 ?_
  refine xe_lstore_n (L2 := [(0, .long (x + ((x.toUInt64 >>> ((nI (16)).toInt64.toUInt64 &&& Int64.toUInt64 63)).toInt64)))]) dJ13_bitCount_95d88_47 rfl (by decide) rfl ?_
  exact k1

theorem gJ13_bitCount_95d88_48 (u : xU) (x : Int64) {Q : Option Value → xM → Prop}  
    (k1 : xE mJ13_bitCount_95d88 55 [(0, .long (x + ((x.toUInt64 >>> ((nI (32)).toInt64.toUInt64 &&& Int64.toUInt64 63)).toInt64)))] [] (xmm u) Q) : xE mJ13_bitCount_95d88 48 [(0, .long (x))] [] (xmm u) Q := by
  refine xe_lload_n 0 dJ13_bitCount_95d88_48 rfl rfl ?_
  refine xe_lload_n 0 dJ13_bitCount_95d88_49 rfl rfl ?_
  refine xe_bipush (v := nI (32)) dJ13_bitCount_95d88_50 xcb32 ?_
  refine xe_lushr dJ13_bitCount_95d88_52 ?_
  refine xe_ladd dJ13_bitCount_95d88_53 ?_
  refine xe_lstore_n (L2 := [(0, .long (x + ((x.toUInt64 >>> ((nI (32)).toInt64.toUInt64 &&& Int64.toUInt64 63)).toInt64)))]) dJ13_bitCount_95d88_54 rfl (by decide) rfl ?_
  exact k1

theorem gJ13_bitCount_95d88_55 (u : xU) (x : Int64) {Q : Option Value → xM → Prop}  
    (k1 : Q (some (.int (x.toInt32 &&& 127))) (xmm u)) : xE mJ13_bitCount_95d88 55 [(0, .long (x))] [] (xmm u) Q := by
  refine xe_lload_n 0 dJ13_bitCount_95d88_55 rfl rfl ?_
  refine xe_l2i dJ13_bitCount_95d88_56 ?_
  refine xe_bipush (v := nI (127)) dJ13_bitCount_95d88_57 xcb127 ?_
  refine xe_iand dJ13_bitCount_95d88_59 ?_
  exact xe_ret (r := (some (.int (x.toInt32 &&& 127)))) dJ13_bitCount_95d88_60 trivial (k1)

theorem gJ6_bitCount_0f7a4_0 (u : xU) (x : Int32) {Q : Option Value → xM → Prop}  
    (k1 : xE mJ6_bitCount_0f7a4 10 [(0, .int (x - (((x.toUInt32 >>> ((nI (1)).toUInt32 &&& Int32.toUInt32 31)).toInt32) &&& 1431655765)))] [] (xmm u) Q) : xE mJ6_bitCount_0f7a4 0 [(0, .int (x))] [] (xmm u) Q := by
  refine xe_iload_n 0 dJ6_bitCount_0f7a4_0 rfl rfl ?_
  refine xe_iload_n 0 dJ6_bitCount_0f7a4_1 rfl rfl ?_
  refine xe_iconst (v := nI (1)) dJ6_bitCount_0f7a4_2 xc1 ?_
  refine xe_iushr dJ6_bitCount_0f7a4_3 ?_
  refine xe_ldcw dJ6_bitCount_0f7a4_4 kJ6_265 ?_
  refine xe_iand dJ6_bitCount_0f7a4_7 ?_
  refine xe_isub dJ6_bitCount_0f7a4_8 ?_
  refine xe_istore_n (L2 := [(0, .int (x - (((x.toUInt32 >>> ((nI (1)).toUInt32 &&& Int32.toUInt32 31)).toInt32) &&& 1431655765)))]) dJ6_bitCount_0f7a4_9 rfl (by decide) rfl ?_
  exact k1

theorem gJ6_bitCount_0f7a4_10 (u : xU) (x : Int32) {Q : Option Value → xM → Prop}  
    (k1 : xE mJ6_bitCount_0f7a4 24 [(0, .int ((x &&& 858993459) + (((x.toUInt32 >>> ((nI (2)).toUInt32 &&& Int32.toUInt32 31)).toInt32) &&& 858993459)))] [] (xmm u) Q) : xE mJ6_bitCount_0f7a4 10 [(0, .int (x))] [] (xmm u) Q := by
  refine xe_iload_n 0 dJ6_bitCount_0f7a4_10 rfl rfl ?_
  refine xe_ldcw dJ6_bitCount_0f7a4_11 kJ6_266 ?_
  refine xe_iand dJ6_bitCount_0f7a4_14 ?_
  refine xe_iload_n 0 dJ6_bitCount_0f7a4_15 rfl rfl ?_
  refine xe_iconst (v := nI (2)) dJ6_bitCount_0f7a4_16 xc2 ?_
  refine xe_iushr dJ6_bitCount_0f7a4_17 ?_
  refine xe_ldcw dJ6_bitCount_0f7a4_18 kJ6_266 ?_
  refine xe_iand dJ6_bitCount_0f7a4_21 ?_
  refine xe_iadd dJ6_bitCount_0f7a4_22 ?_
  refine xe_istore_n (L2 := [(0, .int ((x &&& 858993459) + (((x.toUInt32 >>> ((nI (2)).toUInt32 &&& Int32.toUInt32 31)).toInt32) &&& 858993459)))]) dJ6_bitCount_0f7a4_23 rfl (by decide) rfl ?_
  exact k1

theorem gJ6_bitCount_0f7a4_24 (u : xU) (x : Int32) {Q : Option Value → xM → Prop}  
    (k1 : xE mJ6_bitCount_0f7a4 34 [(0, .int ((x + ((x.toUInt32 >>> ((nI (4)).toUInt32 &&& Int32.toUInt32 31)).toInt32)) &&& 252645135))] [] (xmm u) Q) : xE mJ6_bitCount_0f7a4 24 [(0, .int (x))] [] (xmm u) Q := by
  refine xe_iload_n 0 dJ6_bitCount_0f7a4_24 rfl rfl ?_
  refine xe_iload_n 0 dJ6_bitCount_0f7a4_25 rfl rfl ?_
  refine xe_iconst (v := nI (4)) dJ6_bitCount_0f7a4_26 xc4 ?_
  refine xe_iushr dJ6_bitCount_0f7a4_27 ?_
  refine xe_iadd dJ6_bitCount_0f7a4_28 ?_
  refine xe_ldcw dJ6_bitCount_0f7a4_29 kJ6_267 ?_
  refine xe_iand dJ6_bitCount_0f7a4_32 ?_
  refine xe_istore_n (L2 := [(0, .int ((x + ((x.toUInt32 >>> ((nI (4)).toUInt32 &&& Int32.toUInt32 31)).toInt32)) &&& 252645135))]) dJ6_bitCount_0f7a4_33 rfl (by decide) rfl ?_
  exact k1

theorem gJ6_bitCount_0f7a4_34 (u : xU) (x : Int32) {Q : Option Value → xM → Prop}  
    (k1 : xE mJ6_bitCount_0f7a4 41 [(0, .int (x + ((x.toUInt32 >>> ((nI (8)).toUInt32 &&& Int32.toUInt32 31)).toInt32)))] [] (xmm u) Q) : xE mJ6_bitCount_0f7a4 34 [(0, .int (x))] [] (xmm u) Q := by
  refine xe_iload_n 0 dJ6_bitCount_0f7a4_34 rfl rfl ?_
  refine xe_iload_n 0 dJ6_bitCount_0f7a4_35 rfl rfl ?_
  refine xe_bipush (v := nI (8)) dJ6_bitCount_0f7a4_36 xcb8 ?_
  refine xe_iushr dJ6_bitCount_0f7a4_38 ?_
  refine xe_iadd dJ6_bitCount_0f7a4_39 ?_
  refine xe_istore_n (L2 := [(0, .int (x + ((x.toUInt32 >>> ((nI (8)).toUInt32 &&& Int32.toUInt32 31)).toInt32)))]) dJ6_bitCount_0f7a4_40 rfl (by decide) rfl ?_
  exact k1

theorem gJ6_bitCount_0f7a4_41 (u : xU) (x : Int32) {Q : Option Value → xM → Prop}  
    (k1 : xE mJ6_bitCount_0f7a4 48 [(0, .int (x + ((x.toUInt32 >>> ((nI (16)).toUInt32 &&& Int32.toUInt32 31)).toInt32)))] [] (xmm u) Q) : xE mJ6_bitCount_0f7a4 41 [(0, .int (x))] [] (xmm u) Q := by
  refine xe_iload_n 0 dJ6_bitCount_0f7a4_41 rfl rfl ?_
  refine xe_iload_n 0 dJ6_bitCount_0f7a4_42 rfl rfl ?_
  refine xe_bipush (v := nI (16)) dJ6_bitCount_0f7a4_43 xcb16 ?_
  refine xe_iushr dJ6_bitCount_0f7a4_45 ?_
  refine xe_iadd dJ6_bitCount_0f7a4_46 ?_
  refine xe_istore_n (L2 := [(0, .int (x + ((x.toUInt32 >>> ((nI (16)).toUInt32 &&& Int32.toUInt32 31)).toInt32)))]) dJ6_bitCount_0f7a4_47 rfl (by decide) rfl ?_
  exact k1

theorem gJ6_bitCount_0f7a4_48 (u : xU) (x : Int32) {Q : Option Value → xM → Prop}  
    (k1 : Q (some (.int (x &&& 63))) (xmm u)) : xE mJ6_bitCount_0f7a4 48 [(0, .int (x))] [] (xmm u) Q := by
  refine xe_iload_n 0 dJ6_bitCount_0f7a4_48 rfl rfl ?_
  refine xe_bipush (v := nI (63)) dJ6_bitCount_0f7a4_49 xcb63 ?_
  refine xe_iand dJ6_bitCount_0f7a4_51 ?_
  exact xe_ret (r := (some (.int (x &&& 63)))) dJ6_bitCount_0f7a4_52 trivial (k1)

theorem gX9_shift_0 (u : xU) (k : Nat) {Q : Option Value → xM → Prop} (hk : k < 6) 
    (k1 : Q (some (.int (nI ((5 - k) * 6)))) (xmm u)) : xE mX9_shift 0 [(0, .int (nI (k)))] [] (xmm u) Q := by
  refine xe_iconst (v := nI (5)) dX9_shift_0 xc5 ?_
  refine xe_iload_n 0 dX9_shift_1 rfl rfl ?_
  refine xn_isub dX9_shift_2 (by omega) ?_
  refine xe_bipush (v := nI (6)) dX9_shift_3 xcb6 ?_
  refine xn_imul dX9_shift_5 ?_
  exact xe_ret (r := (some (.int (nI ((5 - k) * 6))))) dX9_shift_6 trivial (k1)

theorem gX7_pair_0 (u : xU) (p c : Nat) {Q : Option Value → xM → Prop} (hp : p < 10) (hc : c < 3) 
    (k1 : Q (some (.int (nI ((p * 3) + c)))) (xmm u)) : xE mX7_pair 0 [(0, .int (nI (p))), (1, .int (nI (c)))] [] (xmm u) Q := by
  refine xe_iload_n 0 dX7_pair_0 rfl rfl ?_
  refine xe_iconst (v := nI (3)) dX7_pair_1 xc3 ?_
  refine xn_imul dX7_pair_2 ?_
  refine xe_iload_n 1 dX7_pair_3 rfl rfl ?_
  refine xn_iadd dX7_pair_4 ?_
  exact xe_ret (r := (some (.int (nI ((p * 3) + c))))) dX7_pair_5 trivial (k1)

def nL (k : Nat) : Int64 := Int64.ofNat k
theorem nL_bv (k : Nat) : (nL k).toBitVec = BitVec.ofNat 64 k := rfl
theorem nL_and {a b : Nat} (ha : a < 2 ^ 64) (hb : b < 2 ^ 64) : nL a &&& nL b = nL (a &&& b) := by
  apply Int64.toBitVec_inj.mp
  apply BitVec.eq_of_toNat_eq
  simp only [Int64.toBitVec_and, nL_bv, BitVec.toNat_and, BitVec.toNat_ofNat]
  rw [Nat.mod_eq_of_lt ha, Nat.mod_eq_of_lt hb, Nat.mod_eq_of_lt (Nat.and_lt_two_pow _ hb)]
theorem nL_or {a b : Nat} (ha : a < 2 ^ 64) (hb : b < 2 ^ 64) : nL a ||| nL b = nL (a ||| b) := by
  apply Int64.toBitVec_inj.mp
  apply BitVec.eq_of_toNat_eq
  simp only [Int64.toBitVec_or, nL_bv, BitVec.toNat_or, BitVec.toNat_ofNat]
  rw [Nat.mod_eq_of_lt ha, Nat.mod_eq_of_lt hb, Nat.mod_eq_of_lt (Nat.or_lt_two_pow ha hb)]
theorem nL_add (a b : Nat) : nL a + nL b = nL (a + b) := (Int64.ofNat_add a b).symm
theorem nL_sub {a b : Nat} (h : b ≤ a) : nL a - nL b = nL (a - b) := (Int64.ofNat_sub a b h).symm
theorem nL_inj {a b : Nat} (ha : a < 2 ^ 64) (hb : b < 2 ^ 64) : nL a = nL b ↔ a = b := by
  constructor
  · intro h
    have h1 := congrArg (fun x : Int64 => x.toBitVec.toNat) h
    simp only [nL_bv, BitVec.toNat_ofNat] at h1
    rwa [Nat.mod_eq_of_lt ha, Nat.mod_eq_of_lt hb] at h1
  · intro h
    rw [h]
theorem shL63 : ∀ k, k < 64 → (nI k).toInt64 &&& 63 = nL k := by decide +kernel
theorem smod64 : ∀ k, k < 64 → (nL k).toBitVec.smod 64 = BitVec.ofNat 64 k := by decide +kernel
theorem nL_shl {a k : Nat} (hk : k < 64) : nL a <<< ((nI k).toInt64 &&& 63) = nL (a * 2 ^ k) := by
  rw [shL63 k hk]
  apply Int64.toBitVec_inj.mp
  apply BitVec.eq_of_toNat_eq
  rw [Int64.toBitVec_shiftLeft, smod64 k hk, nL_bv, nL_bv, BitVec.shiftLeft_eq', BitVec.toNat_shiftLeft, BitVec.toNat_ofNat, BitVec.toNat_ofNat, BitVec.toNat_ofNat, Nat.mod_eq_of_lt (show k < 2 ^ 64 by omega), Nat.shiftLeft_eq]
  exact Nat.mod_mul_mod _ _ _
theorem ush64 : ∀ k, k < 64 → ((nI k).toInt64.toUInt64 &&& Int64.toUInt64 63).toBitVec % 64 = BitVec.ofNat 64 k := by decide +kernel
theorem nL_ushr {a k : Nat} (ha : a < 2 ^ 64) (hk : k < 64) : ((nL a).toUInt64 >>> ((nI k).toInt64.toUInt64 &&& Int64.toUInt64 63)).toInt64 = nL (a / 2 ^ k) := by
  apply Int64.toBitVec_inj.mp
  apply BitVec.eq_of_toNat_eq
  have e : ((nL a).toUInt64 >>> ((nI k).toInt64.toUInt64 &&& Int64.toUInt64 63)).toInt64.toBitVec = ((nL a).toUInt64 >>> ((nI k).toInt64.toUInt64 &&& Int64.toUInt64 63)).toBitVec := rfl
  have e2 : (nL a).toUInt64.toBitVec = BitVec.ofNat 64 a := rfl
  have hle : a / 2 ^ k < 2 ^ 64 := Nat.lt_of_le_of_lt (Nat.div_le_self _ _) ha
  rw [e, UInt64.toBitVec_shiftRight, ush64 k hk, e2, nL_bv, BitVec.ushiftRight_eq', BitVec.toNat_ushiftRight, BitVec.toNat_ofNat, BitVec.toNat_ofNat, BitVec.toNat_ofNat, Nat.mod_eq_of_lt (show k < 2 ^ 64 by omega), Nat.mod_eq_of_lt ha, Nat.mod_eq_of_lt hle, Nat.shiftRight_eq_div_pow]
theorem nL_l2i (a : Nat) : (nL a).toInt32 = nI a := by
  apply Int32.toBitVec_inj.mp
  apply BitVec.eq_of_toNat_eq
  have e2 : (nI a).toBitVec = BitVec.ofNat 32 a := rfl
  rw [Int64.toBitVec_toInt32, e2, BitVec.signExtend_eq_setWidth_of_le _ (by decide), BitVec.toNat_setWidth, nL_bv, BitVec.toNat_ofNat, BitVec.toNat_ofNat]
  omega
theorem and127 (a : Nat) : nI a &&& 127 = nI (a % 128) := by
  apply Int32.toBitVec_inj.mp
  apply BitVec.eq_of_toNat_eq
  have e1 : ∀ x, (nI x).toBitVec = BitVec.ofNat 32 x := fun _ => rfl
  have e2 : (127 : Int32).toBitVec = BitVec.ofNat 32 127 := rfl
  rw [Int32.toBitVec_and, e1, e1, e2, BitVec.toNat_and, BitVec.toNat_ofNat, BitVec.toNat_ofNat, BitVec.toNat_ofNat, Nat.mod_eq_of_lt (show 127 < 2 ^ 32 by decide), Nat.mod_eq_of_lt (show a % 128 < 2 ^ 32 by omega)]
  rw [show a % 2 ^ 32 &&& 127 = a % 2 ^ 32 % 2 ^ 7 from Nat.and_two_pow_sub_one_eq_mod _ 7]
  omega
theorem and63 (a : Nat) : nI a &&& 63 = nI (a % 64) := by
  apply Int32.toBitVec_inj.mp
  apply BitVec.eq_of_toNat_eq
  have e1 : ∀ x, (nI x).toBitVec = BitVec.ofNat 32 x := fun _ => rfl
  have e2 : (63 : Int32).toBitVec = BitVec.ofNat 32 63 := rfl
  rw [Int32.toBitVec_and, e1, e1, e2, BitVec.toNat_and, BitVec.toNat_ofNat, BitVec.toNat_ofNat, BitVec.toNat_ofNat, Nat.mod_eq_of_lt (show 63 < 2 ^ 32 by decide), Nat.mod_eq_of_lt (show a % 64 < 2 ^ 32 by omega)]
  rw [show a % 2 ^ 32 &&& 63 = a % 2 ^ 32 % 2 ^ 6 from Nat.and_two_pow_sub_one_eq_mod _ 6]
  omega
/-! bit counts, byte by byte -/
theorem and8 {a b c d : Nat} (ha : a < 256) (hc : c < 256) : (a + 256 * b) &&& (c + 256 * d) = (a &&& c) + 256 * (b &&& d) := by
  apply Nat.eq_of_testBit_eq
  intro i
  have hac : a &&& c < 2 ^ 8 := Nat.and_lt_two_pow _ (by omega)
  have f : ∀ x y, x < 2 ^ 8 → (x + 256 * y).testBit i = if i < 8 then x.testBit i else y.testBit (i - 8) := fun x y hx => by
    rw [Nat.add_comm, show 256 = 2 ^ 8 from rfl]
    exact Nat.testBit_two_pow_mul_add y hx i
  rw [Nat.testBit_and, f _ _ (by omega), f _ _ (by omega), f _ _ hac]
  split
  · rw [Nat.testBit_and]
  · rw [Nat.testBit_and]
/-- the three steps that count within bytes, with a mask's rest -/
def sw1 (m x : Nat) : Nat := x - (x / 2 &&& m)
def sw2 (m x : Nat) : Nat := (x &&& m) + (x / 4 &&& m)
def sw3 (m x : Nat) : Nat := (x + x / 16) &&& m
def pc8 (a : Nat) : Nat := sw3 15 (sw2 51 (sw1 85 a))
theorem sw1_8 : ∀ a, a < 256 → ∀ t, t < 2 → (a / 2 + 128 * t) &&& 85 = a / 2 &&& 85 := by decide +kernel
theorem sw1_le : ∀ a, a < 256 → (a / 2 &&& 85) ≤ a ∧ sw1 85 a < 256 := by decide +kernel
theorem sw2_8 : ∀ a, a < 256 → ∀ t, t < 4 → (a / 4 + 64 * t) &&& 51 = a / 4 &&& 51 := by decide +kernel
theorem sw2_b : ∀ a, a < 256 → sw2 51 (sw1 85 a) ≤ 68 ∧ sw2 51 (sw1 85 a) % 16 ≤ 4 ∧ pc8 a ≤ 8 := by decide +kernel
theorem sw3_8 : ∀ a, a < 69 → ∀ t, t < 5 → (a + a / 16 + 16 * t) &&& 15 = (a + a / 16) &&& 15 := by decide +kernel
theorem sw1_st {a b m : Nat} (ha : a < 256) : sw1 (85 + 256 * m) (a + 256 * b) = sw1 85 a + 256 * sw1 m b := by
  have h1 := sw1_le a ha
  have h2 : (b / 2 &&& m) ≤ b := Nat.le_trans Nat.and_le_left (Nat.div_le_self _ _)
  unfold sw1 at *
  have e : (a + 256 * b) / 2 = (a / 2 + 128 * (b % 2)) + 256 * (b / 2) := by omega
  rw [e, and8 (by omega) (by decide), sw1_8 a ha _ (by omega)]
  omega
theorem sw2_st {a b m : Nat} (ha : a < 256) : sw2 (51 + 256 * m) (a + 256 * b) = sw2 51 a + 256 * sw2 m b := by
  unfold sw2
  have e : (a + 256 * b) / 4 = (a / 4 + 64 * (b % 4)) + 256 * (b / 4) := by omega
  rw [e, and8 ha (by decide), and8 (by omega) (by decide), sw2_8 a ha _ (by omega)]
  omega
theorem sw3_st {a b m : Nat} (ha : a < 69) (hb : b % 16 ≤ 4) : sw3 (15 + 256 * m) (a + 256 * b) = sw3 15 a + 256 * sw3 m b := by
  unfold sw3
  have e : a + 256 * b + (a + 256 * b) / 16 = (a + a / 16 + 16 * (b % 16)) + 256 * (b + b / 16) := by omega
  rw [e, and8 (by omega) (by decide), sw3_8 a ha _ (by omega)]

