theorem gX0_carries_0 (u : xU) (A n : Nat) (k z : Int32) {Q : Option Value → xM → Prop} (hA : A = 47 ∨ A = 59) (v1 : u.1 A 1 = z) (v2 : u.1 A 0 = nI (n))
    (k1 : z = (-1) → Q (some (.int (nI (0)))) (xmm u))
    (k2 : ¬ z = (-1) → k < 0 → Q (some (.int (nI (0)))) (xmm u))
    (k3 : ¬ z = (-1) → ¬ k < 0 → (nI (n)) ≤ k → Q (some (.int (nI (0)))) (xmm u))
    (k4 : ¬ z = (-1) → ¬ k < 0 → ¬ (nI (n)) ≤ k → Q (some (.int (nI (1)))) (xmm u)) : xE mX0_carries 0 [(0, .ref A), (1, .int (k))] [] (xmm u) Q := by
  refine xe_aload_n 0 dX0_carries_0 rfl rfl ?_
  refine xr_getI (v := z) dX0_carries_1 fX0_9 (shA hA).1 (by omega) v1 ?_
  refine xe_iconst (v := -1) dX0_carries_4 xcm1 ?_
  refine xe_icmp_eq 24 dX0_carries_5 (by decide) (fun c1 => ?_) (fun c1 => ?_)
  · refine xe_iconst (v := nI (0)) dX0_carries_24 xc0 ?_
    exact xe_ret (r := (some (.int (nI (0))))) dX0_carries_25 (Or.inl rfl) (k1 c1)
  · refine xe_iload_n 1 dX0_carries_8 rfl rfl ?_
    refine xe_if_lt 24 dX0_carries_9 (by decide) (fun c2 => ?_) (fun c2 => ?_)
    · refine xe_iconst (v := nI (0)) dX0_carries_24 xc0 ?_
      exact xe_ret (r := (some (.int (nI (0))))) dX0_carries_25 (Or.inl rfl) (k2 c1 c2)
    · refine xe_iload_n 1 dX0_carries_12 rfl rfl ?_
      refine xe_aload_n 0 dX0_carries_13 rfl rfl ?_
      refine xr_getI (v := nI (n)) dX0_carries_14 fX0_24 (shA hA).1 (by omega) v2 ?_
      refine xe_icmp_ge 24 dX0_carries_17 (by decide) (fun c3 => ?_) (fun c3 => ?_)
      · refine xe_iconst (v := nI (0)) dX0_carries_24 xc0 ?_
        exact xe_ret (r := (some (.int (nI (0))))) dX0_carries_25 (Or.inl rfl) (k3 c1 c2 c3)
      · refine xe_iconst (v := nI (1)) dX0_carries_20 xc1 ?_
        refine xe_goto 25 dX0_carries_21 (by decide) ?_
        exact xe_ret (r := (some (.int (nI (1))))) dX0_carries_25 (Or.inr rfl) (k4 c1 c2 c3)

theorem gX0_takeW_0 (u : xU) (A c n m : Nat) {Q : Option Value → xM → Prop} (hA : A = 47 ∨ A = 59) (hc : c < 2) 
    (k1 : xE mX0_take 13 [(0, .ref A), (3, .ref 76), (4, .ref (148 + c)), (5, .int (nI (0)))] [] (xmm (wi (wi u A 0 (nI (n))) A 1 (nI (m)))) Q) : xE mX0_take 0 [(0, .ref A), (1, .int (nI (n))), (2, .int (nI (m))), (3, .ref 76), (4, .ref (148 + c))] [] (xmm u) Q := by
  refine xe_aload_n 0 dX0_take_0 rfl rfl ?_
  refine xe_iload_n 1 dX0_take_1 rfl rfl ?_
  refine xr_putI dX0_take_2 fX0_24 (shA hA).1 (by omega) ?_
  refine xe_aload_n 0 dX0_take_5 rfl rfl ?_
  refine xe_iload_n 2 dX0_take_6 rfl rfl ?_
  refine xr_putI dX0_take_7 fX0_9 (shA hA).1 (by omega) ?_
  refine xe_iconst (v := nI (0)) dX0_take_10 xc0 ?_
  refine xe_istore (L2 := [(0, .ref A), (1, .int (nI (n))), (2, .int (nI (m))), (3, .ref 76), (4, .ref (148 + c)), (5, .int (nI (0)))]) dX0_take_11 (by decide) rfl ?_
  refine xE.sub [0, 3, 4, 5] rfl ?_
  exact k1

theorem gX0_takeW_13 (u : xU) (A c i : Nat) {Q : Option Value → xM → Prop} (hA : A = 47 ∨ A = 59) (hi : i ≤ 6) (hc : c < 2) 
    (k1 : 6 ≤ i → Q none (xmm (wcl u (148 + c) (A + 8) 0 0 500)))
    (k2 : ¬ 6 ≤ i → xE mX0_take 13 [(0, .ref A), (3, .ref 76), (4, .ref (148 + c)), (5, .int (nI (i + 1)))] [] (xmm (wci u (77 + i) (A + 2 + i) 0 0 64)) Q) : xE mX0_take 13 [(0, .ref A), (3, .ref 76), (4, .ref (148 + c)), (5, .int (nI (i)))] [] (xmm u) Q := by
  refine xe_iload 3 dX0_take_13 rfl ?_
  refine xe_bipush (v := nI (6)) dX0_take_15 xcb6 ?_
  refine xn_icmp_ge 44 dX0_take_17 (by decide) (by omega) (by omega) (fun c1 => ?_) (fun c1 => ?_)
  · refine xe_aload 2 dX0_take_44 rfl ?_
    refine xe_iconst (v := nI (0)) dX0_take_46 xc0 ?_
    refine xe_aload_n 0 dX0_take_47 rfl rfl ?_
    refine xr_getR (b := (A + 8)) dX0_take_48 fX0_20 rfl (shA hA).1 (by omega) (rA hA).2 ?_
    refine xe_iconst (v := nI (0)) dX0_take_51 xc0 ?_
    refine xe_sipush (v := nI (500)) dX0_take_52 xcs500 ?_
    refine xr_copyl (sp := 0) (dp := 0) (m9 := 500) dX0_take_55 lX0_27 (by decide) (shSL _ (by omega)) (by omega) (shA hA).2.2 (by omega) (by omega) (by omega) (by omega) (by omega) (by omega) ?_
    exact xe_ret (r := none) dX0_take_58 trivial (k1 c1)
  · refine xe_aload_n 1 dX0_take_20 rfl rfl ?_
    refine xe_iload 3 dX0_take_21 rfl ?_
    refine xr_aald (k := i) (b := (77 + i)) dX0_take_23 sh76 (by decide) (by decide) (by decide) (by omega) (by decide) (rWD (by omega)) ?_
    refine xe_iconst (v := nI (0)) dX0_take_24 xc0 ?_
    refine xe_aload_n 0 dX0_take_25 rfl rfl ?_
    refine xr_getR (b := (A + 1)) dX0_take_26 fX0_17 rfl (shA hA).1 (by omega) (rA hA).1 ?_
    refine xe_iload 3 dX0_take_29 rfl ?_
    refine xr_aald (k := i) (b := (A + 2 + i)) dX0_take_31 (shA hA).2.1 (by decide) (by decide) (by omega) (by omega) (by decide) (rAD hA (by omega)) ?_
    refine xe_iconst (v := nI (0)) dX0_take_32 xc0 ?_
    refine xe_bipush (v := nI (64)) dX0_take_33 xcb64 ?_
    refine xr_copyi (sp := 0) (dp := 0) (m9 := 64) dX0_take_35 lX0_27 (by decide) (shWD _ (by omega)) (by omega) (shAD hA (by omega)) (by omega) (by omega) (by omega) (by omega) (by omega) (by omega) ?_
    refine xn_iinc (c := 1) (L2 := [(0, .ref A), (3, .ref 76), (4, .ref (148 + c)), (5, .int (nI (i + 1)))]) 3 dX0_take_38 rfl (by decide) rfl ?_
    refine xe_goto 13 dX0_take_41 (by decide) ?_
    exact k2 c1

theorem gX0_takeB_0 (u : xU) (A B n m : Nat) {Q : Option Value → xM → Prop} (hA : A = 47 ∨ A = 59) (hB : B = 47 ∨ B = 59) (hAB : A ≠ B) 
    (k1 : xE mX0_take 13 [(0, .ref A), (3, .ref (B + 1)), (4, .ref (B + 8)), (5, .int (nI (0)))] [] (xmm (wi (wi u A 0 (nI (n))) A 1 (nI (m)))) Q) : xE mX0_take 0 [(0, .ref A), (1, .int (nI (n))), (2, .int (nI (m))), (3, .ref (B + 1)), (4, .ref (B + 8))] [] (xmm u) Q := by
  refine xe_aload_n 0 dX0_take_0 rfl rfl ?_
  refine xe_iload_n 1 dX0_take_1 rfl rfl ?_
  refine xr_putI dX0_take_2 fX0_24 (shA hA).1 (by omega) ?_
  refine xe_aload_n 0 dX0_take_5 rfl rfl ?_
  refine xe_iload_n 2 dX0_take_6 rfl rfl ?_
  refine xr_putI dX0_take_7 fX0_9 (shA hA).1 (by omega) ?_
  refine xe_iconst (v := nI (0)) dX0_take_10 xc0 ?_
  refine xe_istore (L2 := [(0, .ref A), (1, .int (nI (n))), (2, .int (nI (m))), (3, .ref (B + 1)), (4, .ref (B + 8)), (5, .int (nI (0)))]) dX0_take_11 (by decide) rfl ?_
  refine xE.sub [0, 3, 4, 5] rfl ?_
  exact k1

theorem gX0_takeB_13 (u : xU) (A B i : Nat) {Q : Option Value → xM → Prop} (hA : A = 47 ∨ A = 59) (hi : i ≤ 6) (hB : B = 47 ∨ B = 59) (hAB : A ≠ B) 
    (k1 : 6 ≤ i → Q none (xmm (wcl u (B + 8) (A + 8) 0 0 500)))
    (k2 : ¬ 6 ≤ i → xE mX0_take 13 [(0, .ref A), (3, .ref (B + 1)), (4, .ref (B + 8)), (5, .int (nI (i + 1)))] [] (xmm (wci u (B + 2 + i) (A + 2 + i) 0 0 64)) Q) : xE mX0_take 13 [(0, .ref A), (3, .ref (B + 1)), (4, .ref (B + 8)), (5, .int (nI (i)))] [] (xmm u) Q := by
  refine xe_iload 3 dX0_take_13 rfl ?_
  refine xe_bipush (v := nI (6)) dX0_take_15 xcb6 ?_
  refine xn_icmp_ge 44 dX0_take_17 (by decide) (by omega) (by omega) (fun c1 => ?_) (fun c1 => ?_)
  · refine xe_aload 2 dX0_take_44 rfl ?_
    refine xe_iconst (v := nI (0)) dX0_take_46 xc0 ?_
    refine xe_aload_n 0 dX0_take_47 rfl rfl ?_
    refine xr_getR (b := (A + 8)) dX0_take_48 fX0_20 rfl (shA hA).1 (by omega) (rA hA).2 ?_
    refine xe_iconst (v := nI (0)) dX0_take_51 xc0 ?_
    refine xe_sipush (v := nI (500)) dX0_take_52 xcs500 ?_
    refine xr_copyl (sp := 0) (dp := 0) (m9 := 500) dX0_take_55 lX0_27 (by decide) (shA hB).2.2 (by omega) (shA hA).2.2 (by omega) (by omega) (by omega) (by omega) (by omega) (by omega) ?_
    exact xe_ret (r := none) dX0_take_58 trivial (k1 c1)
  · refine xe_aload_n 1 dX0_take_20 rfl rfl ?_
    refine xe_iload 3 dX0_take_21 rfl ?_
    refine xr_aald (k := i) (b := (B + 2 + i)) dX0_take_23 (shA hB).2.1 (by decide) (by decide) (by omega) (by omega) (by decide) (rAD hB (by omega)) ?_
    refine xe_iconst (v := nI (0)) dX0_take_24 xc0 ?_
    refine xe_aload_n 0 dX0_take_25 rfl rfl ?_
    refine xr_getR (b := (A + 1)) dX0_take_26 fX0_17 rfl (shA hA).1 (by omega) (rA hA).1 ?_
    refine xe_iload 3 dX0_take_29 rfl ?_
    refine xr_aald (k := i) (b := (A + 2 + i)) dX0_take_31 (shA hA).2.1 (by decide) (by decide) (by omega) (by omega) (by decide) (rAD hA (by omega)) ?_
    refine xe_iconst (v := nI (0)) dX0_take_32 xc0 ?_
    refine xe_bipush (v := nI (64)) dX0_take_33 xcb64 ?_
    refine xr_copyi (sp := 0) (dp := 0) (m9 := 64) dX0_take_35 lX0_27 (by decide) (shAD hB (by omega)) (by omega) (shAD hA (by omega)) (by omega) (by omega) (by omega) (by omega) (by omega) (by omega) ?_
    refine xn_iinc (c := 1) (L2 := [(0, .ref A), (3, .ref (B + 1)), (4, .ref (B + 8)), (5, .int (nI (i + 1)))]) 3 dX0_take_38 rfl (by decide) rfl ?_
    refine xe_goto 13 dX0_take_41 (by decide) ?_
    exact k2 c1

theorem gX8_takeParts_0 (u : xU) (n : Nat) {Q : Option Value → xM → Prop}  (v1 : u.1 3 1 = nI (n))
    (k1 : xE mX8_takeParts 12 [(0, .ref 46), (1, .ref 3), (2, .int (nI (0))), (3, .int (nI (0)))] [] (xmm (wi u 46 1 (nI (n)))) Q) : xE mX8_takeParts 0 [(0, .ref 46), (1, .ref 3)] [] (xmm u) Q := by
  refine xe_iconst (v := nI (0)) dX8_takeParts_0 xc0 ?_
  refine xe_istore_n (L2 := [(0, .ref 46), (1, .ref 3), (2, .int (nI (0)))]) dX8_takeParts_1 rfl (by decide) rfl ?_
  refine xe_aload_n 0 dX8_takeParts_2 rfl rfl ?_
  refine xe_aload_n 1 dX8_takeParts_3 rfl rfl ?_
  refine xr_getI (v := nI (n)) dX8_takeParts_4 fX8_28 sh3 (by decide) v1 ?_
  refine xr_putI dX8_takeParts_7 fX8_34 sh46 (by decide) ?_
  refine xe_iconst (v := nI (0)) dX8_takeParts_10 xc0 ?_
  refine xe_istore_n (L2 := [(0, .ref 46), (1, .ref 3), (2, .int (nI (0))), (3, .int (nI (0)))]) dX8_takeParts_11 rfl (by decide) rfl ?_
  exact k1

theorem gX8_takeParts_12 (u : xU) (n f p kd : Nat) {Q : Option Value → xM → Prop} (hn : n ≤ 10) (hp : p < n) (hf : f ≤ 10) (hkd : kd ≤ 3) (v1 : u.1 46 1 = nI (n)) (v2 : u.1 (6 + 4 * p) 0 = nI (kd))
    (k1 : n ≤ p → Q none (xmm u))
    (k2 : ¬ n ≤ p → ¬ kd = 0 → xE mX8_takeParts 12 [(0, .ref 46), (1, .ref 3), (2, .int (nI (f + 0))), (3, .int (nI (p + 1)))] [] (xmm (wi u 56 p (-1))) Q)
    (k3 : ¬ n ≤ p → kd = 0 → xE mX8_takeParts 12 [(0, .ref 46), (1, .ref 3), (2, .int (nI (f + 1))), (3, .int (nI (p + 1)))] [] (xmm (wi u 56 p (nI (f)))) Q) : xE mX8_takeParts 12 [(0, .ref 46), (1, .ref 3), (2, .int (nI (f))), (3, .int (nI (p)))] [] (xmm u) Q := by
  refine xe_iload_n 3 dX8_takeParts_12 rfl rfl ?_
  refine xe_aload_n 0 dX8_takeParts_13 rfl rfl ?_
  refine xr_getI (v := nI (n)) dX8_takeParts_14 fX8_34 sh46 (by decide) v1 ?_
  refine xn_icmp_ge 74 dX8_takeParts_17 (by decide) (by omega) (by omega) (fun c1 => ?_) (fun c1 => ?_)
  · exact xe_ret (r := none) dX8_takeParts_74 trivial (k1 c1)
  · refine xe_aload_n 1 dX8_takeParts_20 rfl rfl ?_
    refine xr_getR (b := 4) dX8_takeParts_21 fX8_37 rfl sh3 (by decide) rfl ?_
    refine xe_iload_n 3 dX8_takeParts_24 rfl rfl ?_
    refine xr_aald (k := p) (b := (6 + 4 * p)) dX8_takeParts_25 sh4 (by decide) (by decide) (by decide) (by omega) (by decide) (rParts (by omega)) ?_
    refine xr_getI (v := nI (kd)) dX8_takeParts_26 fX8_40 (shP _ (by omega)) (by omega) v2 ?_
    refine xn_if_ne 36 dX8_takeParts_29 (by decide) (by omega) (fun c2 => ?_) (fun c2 => ?_)
    · refine xe_iconst (v := nI (0)) dX8_takeParts_36 xc0 ?_
      refine xe_istore (L2 := [(0, .ref 46), (1, .ref 3), (2, .int (nI (f))), (3, .int (nI (p))), (4, .int (nI (0)))]) dX8_takeParts_37 (by decide) rfl ?_
      refine xe_aload_n 0 dX8_takeParts_39 rfl rfl ?_
      refine xr_getR (b := 56) dX8_takeParts_40 fX8_18 rfl sh46 (by decide) rfl ?_
      refine xe_iload_n 3 dX8_takeParts_43 rfl rfl ?_
      refine xe_iload 4 dX8_takeParts_44 rfl ?_
      refine xn_if_eq 53 dX8_takeParts_46 (by decide) (by omega) (fun _ => ?_) (fun q => absurd q (by decide))
      refine xe_iconst (v := -1) dX8_takeParts_53 xcm1 ?_
      refine xr_iast (k := p) dX8_takeParts_54 sh56 (by decide) (by omega) (by decide) ?_
      refine xe_iload_n 2 dX8_takeParts_55 rfl rfl ?_
      refine xe_iload 4 dX8_takeParts_56 rfl ?_
      refine xn_if_eq 65 dX8_takeParts_58 (by decide) (by omega) (fun _ => ?_) (fun q => absurd q (by decide))
      refine xe_iconst (v := nI (0)) dX8_takeParts_65 xc0 ?_
      refine xn_iadd dX8_takeParts_66 ?_
      refine xe_istore_n (L2 := [(0, .ref 46), (1, .ref 3), (2, .int (nI (f + 0))), (3, .int (nI (p))), (4, .int (nI (0)))]) dX8_takeParts_67 rfl (by decide) rfl ?_
      refine xn_iinc (c := 1) (L2 := [(0, .ref 46), (1, .ref 3), (2, .int (nI (f + 0))), (3, .int (nI (p + 1))), (4, .int (nI (0)))]) 3 dX8_takeParts_68 rfl (by decide) rfl ?_
      refine xe_goto 12 dX8_takeParts_71 (by decide) ?_
      refine xE.sub [0, 1, 2, 3] rfl ?_
      exact k2 c1 c2
    · refine xe_iconst (v := nI (1)) dX8_takeParts_32 xc1 ?_
      refine xe_goto 37 dX8_takeParts_33 (by decide) ?_
      refine xe_istore (L2 := [(0, .ref 46), (1, .ref 3), (2, .int (nI (f))), (3, .int (nI (p))), (4, .int (nI (1)))]) dX8_takeParts_37 (by decide) rfl ?_
      refine xe_aload_n 0 dX8_takeParts_39 rfl rfl ?_
      refine xr_getR (b := 56) dX8_takeParts_40 fX8_18 rfl sh46 (by decide) rfl ?_
      refine xe_iload_n 3 dX8_takeParts_43 rfl rfl ?_
      refine xe_iload 4 dX8_takeParts_44 rfl ?_
      refine xn_if_eq 53 dX8_takeParts_46 (by decide) (by omega) (fun q => absurd q (by decide)) (fun _ => ?_)
      refine xe_iload_n 2 dX8_takeParts_49 rfl rfl ?_
      refine xe_goto 54 dX8_takeParts_50 (by decide) ?_
      refine xr_iast (k := p) dX8_takeParts_54 sh56 (by decide) (by omega) (by decide) ?_
      refine xe_iload_n 2 dX8_takeParts_55 rfl rfl ?_
      refine xe_iload 4 dX8_takeParts_56 rfl ?_
      refine xn_if_eq 65 dX8_takeParts_58 (by decide) (by omega) (fun q => absurd q (by decide)) (fun _ => ?_)
      refine xe_iconst (v := nI (1)) dX8_takeParts_61 xc1 ?_
      refine xe_goto 66 dX8_takeParts_62 (by decide) ?_
      refine xn_iadd dX8_takeParts_66 ?_
      refine xe_istore_n (L2 := [(0, .ref 46), (1, .ref 3), (2, .int (nI (f + 1))), (3, .int (nI (p))), (4, .int (nI (1)))]) dX8_takeParts_67 rfl (by decide) rfl ?_
      refine xn_iinc (c := 1) (L2 := [(0, .ref 46), (1, .ref 3), (2, .int (nI (f + 1))), (3, .int (nI (p + 1))), (4, .int (nI (1)))]) 3 dX8_takeParts_68 rfl (by decide) rfl ?_
      refine xe_goto 12 dX8_takeParts_71 (by decide) ?_
      refine xE.sub [0, 1, 2, 3] rfl ?_
      exact k3 c1 c2

theorem gX8_takeParts_e (u : xU) (n f p : Nat) {Q : Option Value → xM → Prop} (hn : n ≤ 10) (hp : p = n) (v1 : u.1 46 1 = nI (n))
    (k1 : n ≤ p → Q none (xmm u))
    (k2 : ¬ n ≤ p → ¬ (u.1 (6 + 4 * p) 0) = 0 → xE mX8_takeParts 12 [(0, .ref 46), (1, .ref 3), (2, .int (nI (f + 0))), (3, .int (nI (p + 1)))] [] (xmm (wi u 56 p (-1))) Q)
    (k3 : ¬ n ≤ p → (u.1 (6 + 4 * p) 0) = 0 → xE mX8_takeParts 12 [(0, .ref 46), (1, .ref 3), (2, .int (nI (f + 1))), (3, .int (nI (p + 1)))] [] (xmm (wi u 56 p (nI (f)))) Q) : xE mX8_takeParts 12 [(0, .ref 46), (1, .ref 3), (2, .int (nI (f))), (3, .int (nI (p)))] [] (xmm u) Q := by
  refine xe_iload_n 3 dX8_takeParts_12 rfl rfl ?_
  refine xe_aload_n 0 dX8_takeParts_13 rfl rfl ?_
  refine xr_getI (v := nI (n)) dX8_takeParts_14 fX8_34 sh46 (by decide) v1 ?_
  refine xn_icmp_ge 74 dX8_takeParts_17 (by decide) (by omega) (by omega) (fun c1 => ?_) (fun c1 => ?_)
  · exact xe_ret (r := none) dX8_takeParts_74 trivial (k1 c1)
  · refine xe_aload_n 1 dX8_takeParts_20 rfl rfl ?_
    refine xr_getR (b := 4) dX8_takeParts_21 fX8_37 rfl sh3 (by decide) rfl ?_
    refine xe_iload_n 3 dX8_takeParts_24 rfl rfl ?_
    refine xr_aald (k := p) (b := (6 + 4 * p)) dX8_takeParts_25 sh4 (by decide) (by decide) (by decide) (by omega) (by decide) (rParts (by omega)) ?_
    refine xr_getI (v := u.1 (6 + 4 * p) 0) dX8_takeParts_26 fX8_40 (shP _ (by omega)) (by omega) rfl ?_
    refine xe_if_ne 36 dX8_takeParts_29 (by decide) (fun c2 => ?_) (fun c2 => ?_)
    · refine xe_iconst (v := nI (0)) dX8_takeParts_36 xc0 ?_
      refine xe_istore (L2 := [(0, .ref 46), (1, .ref 3), (2, .int (nI (f))), (3, .int (nI (p))), (4, .int (nI (0)))]) dX8_takeParts_37 (by decide) rfl ?_
      refine xe_aload_n 0 dX8_takeParts_39 rfl rfl ?_
      refine xr_getR (b := 56) dX8_takeParts_40 fX8_18 rfl sh46 (by decide) rfl ?_
      refine xe_iload_n 3 dX8_takeParts_43 rfl rfl ?_
      refine xe_iload 4 dX8_takeParts_44 rfl ?_
      refine xn_if_eq 53 dX8_takeParts_46 (by decide) (by omega) (fun _ => ?_) (fun q => absurd q (by decide))
      refine xe_iconst (v := -1) dX8_takeParts_53 xcm1 ?_
      refine xr_iast (k := p) dX8_takeParts_54 sh56 (by decide) (by omega) (by decide) ?_
      refine xe_iload_n 2 dX8_takeParts_55 rfl rfl ?_
      refine xe_iload 4 dX8_takeParts_56 rfl ?_
      refine xn_if_eq 65 dX8_takeParts_58 (by decide) (by omega) (fun _ => ?_) (fun q => absurd q (by decide))
      refine xe_iconst (v := nI (0)) dX8_takeParts_65 xc0 ?_
      refine xn_iadd dX8_takeParts_66 ?_
      refine xe_istore_n (L2 := [(0, .ref 46), (1, .ref 3), (2, .int (nI (f + 0))), (3, .int (nI (p))), (4, .int (nI (0)))]) dX8_takeParts_67 rfl (by decide) rfl ?_
      refine xn_iinc (c := 1) (L2 := [(0, .ref 46), (1, .ref 3), (2, .int (nI (f + 0))), (3, .int (nI (p + 1))), (4, .int (nI (0)))]) 3 dX8_takeParts_68 rfl (by decide) rfl ?_
      refine xe_goto 12 dX8_takeParts_71 (by decide) ?_
      refine xE.sub [0, 1, 2, 3] rfl ?_
      exact k2 c1 c2
    · refine xe_iconst (v := nI (1)) dX8_takeParts_32 xc1 ?_
      refine xe_goto 37 dX8_takeParts_33 (by decide) ?_
      refine xe_istore (L2 := [(0, .ref 46), (1, .ref 3), (2, .int (nI (f))), (3, .int (nI (p))), (4, .int (nI (1)))]) dX8_takeParts_37 (by decide) rfl ?_
      refine xe_aload_n 0 dX8_takeParts_39 rfl rfl ?_
      refine xr_getR (b := 56) dX8_takeParts_40 fX8_18 rfl sh46 (by decide) rfl ?_
      refine xe_iload_n 3 dX8_takeParts_43 rfl rfl ?_
      refine xe_iload 4 dX8_takeParts_44 rfl ?_
      refine xn_if_eq 53 dX8_takeParts_46 (by decide) (by omega) (fun q => absurd q (by decide)) (fun _ => ?_)
      refine xe_iload_n 2 dX8_takeParts_49 rfl rfl ?_
      refine xe_goto 54 dX8_takeParts_50 (by decide) ?_
      refine xr_iast (k := p) dX8_takeParts_54 sh56 (by decide) (by omega) (by decide) ?_
      refine xe_iload_n 2 dX8_takeParts_55 rfl rfl ?_
      refine xe_iload 4 dX8_takeParts_56 rfl ?_
      refine xn_if_eq 65 dX8_takeParts_58 (by decide) (by omega) (fun q => absurd q (by decide)) (fun _ => ?_)
      refine xe_iconst (v := nI (1)) dX8_takeParts_61 xc1 ?_
      refine xe_goto 66 dX8_takeParts_62 (by decide) ?_
      refine xn_iadd dX8_takeParts_66 ?_
      refine xe_istore_n (L2 := [(0, .ref 46), (1, .ref 3), (2, .int (nI (f + 1))), (3, .int (nI (p))), (4, .int (nI (1)))]) dX8_takeParts_67 rfl (by decide) rfl ?_
      refine xn_iinc (c := 1) (L2 := [(0, .ref 46), (1, .ref 3), (2, .int (nI (f + 1))), (3, .int (nI (p + 1))), (4, .int (nI (1)))]) 3 dX8_takeParts_68 rfl (by decide) rfl ?_
      refine xe_goto 12 dX8_takeParts_71 (by decide) ?_
      refine xE.sub [0, 1, 2, 3] rfl ?_
      exact k3 c1 c2

theorem gX8_setMet_0 (u : xU) (i : Nat) (x : Int32) (b : Bool) {Q : Option Value → xM → Prop} (hi : i < 6) (hca : xC mX0_carries [.ref 47, .int (nI i)] (xmm u) (fun r μ' => r = some (.int (xb (b = true))) ∧ μ' = xmm u)) 
    (k1 : ¬ (b = true) → Q none (xmm u))
    (k2 : b = true → Q none (xmm (wi u 57 i (x)))) : xE mX8_setMet 0 [(0, .ref 46), (1, .int (nI (i))), (2, .int (x))] [] (xmm u) Q := by
  refine xe_aload_n 0 dX8_setMet_0 rfl rfl ?_
  refine xr_getR (b := 47) dX8_setMet_1 fX8_12 rfl sh46 (by decide) rfl ?_
  refine xe_iload_n 1 dX8_setMet_4 rfl rfl ?_
  refine xe_callV (As := [.int (nI (i))]) (rest := []) dX8_setMet_5 wX0_carries lX8_45 iX0_carries sX0_carries ⟨by decide, by decide⟩ sh47 rfl (xin_mm (by decide)) rfl rfl (by simp [Value.category]) (xC.pure (v := .int (xb (b = true))) (hca) ?_)
  refine xb_if_eq 18 dX8_setMet_8 (by decide) (fun c1 => ?_) (fun c1 => ?_)
  · exact xe_ret (r := none) dX8_setMet_18 trivial (k1 c1)
  · refine xe_aload_n 0 dX8_setMet_11 rfl rfl ?_
    refine xr_getR (b := 57) dX8_setMet_12 fX8_22 rfl sh46 (by decide) rfl ?_
    refine xe_iload_n 1 dX8_setMet_15 rfl rfl ?_
    refine xe_iload_n 2 dX8_setMet_16 rfl rfl ?_
    refine xr_iast (k := i) dX8_setMet_17 sh57 (by decide) (by omega) (by decide) ?_
    exact xe_ret (r := none) dX8_setMet_18 trivial (k2 c1)

theorem gX8_setWitnesses_0 (u : xU) (i m : Nat) (x : Int32) {Q : Option Value → xM → Prop} (hi : i < 500) (hm : m ≤ 500) (v1 : u.1 47 1 = nI (m))
    (k1 : m ≤ i → Q none (xmm u))
    (k2 : ¬ m ≤ i → Q none (xmm (wi u 58 i (x)))) : xE mX8_setWitnesses 0 [(0, .ref 46), (1, .int (nI (i))), (2, .int (x))] [] (xmm u) Q := by
  refine xe_iload_n 1 dX8_setWitnesses_0 rfl rfl ?_
  refine xn_if_lt 22 dX8_setWitnesses_1 (by decide) (by omega) (fun q => absurd q (by omega)) (fun _ => ?_)
  refine xe_iload_n 1 dX8_setWitnesses_4 rfl rfl ?_
  refine xe_aload_n 0 dX8_setWitnesses_5 rfl rfl ?_
  refine xr_getR (b := 47) dX8_setWitnesses_6 fX8_12 rfl sh46 (by decide) rfl ?_
  refine xr_getI (v := nI (m)) dX8_setWitnesses_9 fX8_49 sh47 (by decide) v1 ?_
  refine xn_icmp_ge 22 dX8_setWitnesses_12 (by decide) (by omega) (by omega) (fun c1 => ?_) (fun c1 => ?_)
  · exact xe_ret (r := none) dX8_setWitnesses_22 trivial (k1 c1)
  · refine xe_aload_n 0 dX8_setWitnesses_15 rfl rfl ?_
    refine xr_getR (b := 58) dX8_setWitnesses_16 fX8_25 rfl sh46 (by decide) rfl ?_
    refine xe_iload_n 1 dX8_setWitnesses_19 rfl rfl ?_
    refine xe_iload_n 2 dX8_setWitnesses_20 rfl rfl ?_
    refine xr_iast (k := i) dX8_setWitnesses_21 sh58 (by decide) (by omega) (by decide) ?_
    exact xe_ret (r := none) dX8_setWitnesses_22 trivial (k2 c1)

theorem gX7_witnessesNow_0 (u : xU) {Q : Option Value → xM → Prop}  
    (k1 : xE mX7_witnessesNow 7 [(0, .ref 74), (1, .ref 3), (2, .int (nI (0))), (3, .int (nI (0))), (4, .int (nI (0)))] [] (xmm u) Q) : xE mX7_witnessesNow 0 [(0, .ref 74), (1, .ref 3)] [] (xmm u) Q := by
  refine xe_iconst (v := nI (0)) dX7_witnessesNow_0 xc0 ?_
  refine xe_istore_n (L2 := [(0, .ref 74), (1, .ref 3), (2, .int (nI (0)))]) dX7_witnessesNow_1 rfl (by decide) rfl ?_
  refine xe_iconst (v := nI (0)) dX7_witnessesNow_2 xc0 ?_
  refine xe_istore_n (L2 := [(0, .ref 74), (1, .ref 3), (2, .int (nI (0))), (3, .int (nI (0)))]) dX7_witnessesNow_3 rfl (by decide) rfl ?_
  refine xe_iconst (v := nI (0)) dX7_witnessesNow_4 xc0 ?_
  refine xe_istore (L2 := [(0, .ref 74), (1, .ref 3), (2, .int (nI (0))), (3, .int (nI (0))), (4, .int (nI (0)))]) dX7_witnessesNow_5 (by decide) rfl ?_
  exact k1

theorem gX7_witnessesNow_7 (u : xU) (n p sh kd lo : Nat) (x : Int32) (y : Int64) {Q : Option Value → xM → Prop} (hn : n ≤ 10) (hp : p < n) (hsh : sh ≤ 60) (hkd : kd = 0) (hlo : xC mX9_lowestPlace [.long y] (xmm u) (fun r μ' => r = some (.int (nI lo)) ∧ μ' = xmm u)) (v1 : u.1 3 1 = nI (n)) (v2 : u.1 (6 + 4 * p) 0 = nI (kd)) (v3 : u.2.1 152 p = y)
    (k1 : n ≤ p → Q (some (.int (x))) (xmm u))
    (k2 : ¬ n ≤ p → ¬ kd = 0 → xE mX7_witnessesNow 7 [(0, .ref 74), (1, .ref 3), (2, .int (x)), (3, .int (nI (sh))), (4, .int (nI (p + 1)))] [] (xmm u) Q)
    (k3 : ¬ n ≤ p → kd = 0 → xE mX7_witnessesNow 7 [(0, .ref 74), (1, .ref 3), (2, .int (x ||| ((nI (lo)) <<< ((nI (sh)) &&& 31)))), (3, .int (nI (sh + 6))), (4, .int (nI (p + 1)))] [] (xmm u) Q) : xE mX7_witnessesNow 7 [(0, .ref 74), (1, .ref 3), (2, .int (x)), (3, .int (nI (sh))), (4, .int (nI (p)))] [] (xmm u) Q := by
  refine xe_iload 4 dX7_witnessesNow_7 rfl ?_
  refine xe_aload_n 1 dX7_witnessesNow_9 rfl rfl ?_
  refine xr_getI (v := nI (n)) dX7_witnessesNow_10 fX7_56 sh3 (by decide) v1 ?_
  refine xn_icmp_ge 53 dX7_witnessesNow_13 (by decide) (by omega) (by omega) (fun c1 => ?_) (fun c1 => ?_)
  · refine xe_iload_n 2 dX7_witnessesNow_53 rfl rfl ?_
    exact xe_ret (r := (some (.int (x)))) dX7_witnessesNow_54 trivial (k1 c1)
  · refine xe_aload_n 1 dX7_witnessesNow_16 rfl rfl ?_
    refine xr_getR (b := 4) dX7_witnessesNow_17 fX7_62 rfl sh3 (by decide) rfl ?_
    refine xe_iload 4 dX7_witnessesNow_20 rfl ?_
    refine xr_aald (k := p) (b := (6 + 4 * p)) dX7_witnessesNow_22 sh4 (by decide) (by decide) (by decide) (by omega) (by decide) (rParts (by omega)) ?_
    refine xr_getI (v := nI (kd)) dX7_witnessesNow_23 fX7_82 (shP _ (by omega)) (by omega) v2 ?_
    refine xn_if_ne 47 dX7_witnessesNow_26 (by decide) (by omega) (fun c2 => ?_) (fun c2 => ?_)
    · refine xn_iinc (c := 1) (L2 := [(0, .ref 74), (1, .ref 3), (2, .int (x)), (3, .int (nI (sh))), (4, .int (nI (p + 1)))]) 4 dX7_witnessesNow_47 rfl (by decide) rfl ?_
      refine xe_goto 7 dX7_witnessesNow_50 (by decide) ?_
      exact k2 c1 c2
    · refine xe_iload_n 2 dX7_witnessesNow_29 rfl rfl ?_
      refine xe_aload_n 0 dX7_witnessesNow_30 rfl rfl ?_
      refine xr_getR (b := 152) dX7_witnessesNow_31 fX7_44 rfl sh74 (by decide) rfl ?_
      refine xe_iload 4 dX7_witnessesNow_34 rfl ?_
      refine xr_lald (k := p) (v := y) dX7_witnessesNow_36 sh152 (by decide) (by omega) (by decide) v3 ?_
      refine xe_callSN (As := [.long (y)]) (rest := [.int (x)]) dX7_witnessesNow_37 wX9_lowestPlace lX7_211 tX9_lowestPlace ⟨by decide, by decide⟩ rfl rfl (by simp [Value.category]) (xC.pure (v := .int (nI (lo))) (hlo) ?_)
      refine xe_iload_n 3 dX7_witnessesNow_40 rfl rfl ?_
      refine xe_ishl dX7_witnessesNow_41 ?_
      refine xe_ior dX7_witnessesNow_42 ?_
      refine xe_istore_n (L2 := [(0, .ref 74), (1, .ref 3), (2, .int (x ||| ((nI (lo)) <<< ((nI (sh)) &&& 31)))), (3, .int (nI (sh))), (4, .int (nI (p)))]) dX7_witnessesNow_43 rfl (by decide) rfl ?_
      refine xn_iinc (c := 6) (L2 := [(0, .ref 74), (1, .ref 3), (2, .int (x ||| ((nI (lo)) <<< ((nI (sh)) &&& 31)))), (3, .int (nI (sh + 6))), (4, .int (nI (p)))]) 3 dX7_witnessesNow_44 rfl (by decide) rfl ?_
      refine xn_iinc (c := 1) (L2 := [(0, .ref 74), (1, .ref 3), (2, .int (x ||| ((nI (lo)) <<< ((nI (sh)) &&& 31)))), (3, .int (nI (sh + 6))), (4, .int (nI (p + 1)))]) 4 dX7_witnessesNow_47 rfl (by decide) rfl ?_
      refine xe_goto 7 dX7_witnessesNow_50 (by decide) ?_
      exact k3 c1 c2

theorem gX7_witnessesNow_n (u : xU) (n p sh kd : Nat) (x : Int32) {Q : Option Value → xM → Prop} (hn : n ≤ 10) (hp : p < n) (hsh : sh ≤ 60) (hk0 : 1 ≤ kd) (hkd : kd ≤ 3) (v1 : u.1 3 1 = nI (n)) (v2 : u.1 (6 + 4 * p) 0 = nI (kd))
    (k1 : n ≤ p → Q (some (.int (x))) (xmm u))
    (k2 : ¬ n ≤ p → ¬ kd = 0 → xE mX7_witnessesNow 7 [(0, .ref 74), (1, .ref 3), (2, .int (x)), (3, .int (nI (sh))), (4, .int (nI (p + 1)))] [] (xmm u) Q)
    (k3 : ¬ n ≤ p → kd = 0 → xC mX9_lowestPlace [.long (u.2.1 152 p)] (xmm u) (fun r μ1 => xE mX7_witnessesNow 40 [(0, .ref 74), (1, .ref 3), (3, .int (nI (sh))), (4, .int (nI (p)))] (r.toList ++ [.int (x)]) μ1 Q)) : xE mX7_witnessesNow 7 [(0, .ref 74), (1, .ref 3), (2, .int (x)), (3, .int (nI (sh))), (4, .int (nI (p)))] [] (xmm u) Q := by
  refine xe_iload 4 dX7_witnessesNow_7 rfl ?_
  refine xe_aload_n 1 dX7_witnessesNow_9 rfl rfl ?_
  refine xr_getI (v := nI (n)) dX7_witnessesNow_10 fX7_56 sh3 (by decide) v1 ?_
  refine xn_icmp_ge 53 dX7_witnessesNow_13 (by decide) (by omega) (by omega) (fun c1 => ?_) (fun c1 => ?_)
  · refine xe_iload_n 2 dX7_witnessesNow_53 rfl rfl ?_
    exact xe_ret (r := (some (.int (x)))) dX7_witnessesNow_54 trivial (k1 c1)
  · refine xe_aload_n 1 dX7_witnessesNow_16 rfl rfl ?_
    refine xr_getR (b := 4) dX7_witnessesNow_17 fX7_62 rfl sh3 (by decide) rfl ?_
    refine xe_iload 4 dX7_witnessesNow_20 rfl ?_
    refine xr_aald (k := p) (b := (6 + 4 * p)) dX7_witnessesNow_22 sh4 (by decide) (by decide) (by decide) (by omega) (by decide) (rParts (by omega)) ?_
    refine xr_getI (v := nI (kd)) dX7_witnessesNow_23 fX7_82 (shP _ (by omega)) (by omega) v2 ?_
    refine xn_if_ne 47 dX7_witnessesNow_26 (by decide) (by omega) (fun c2 => ?_) (fun c2 => ?_)
    · refine xn_iinc (c := 1) (L2 := [(0, .ref 74), (1, .ref 3), (2, .int (x)), (3, .int (nI (sh))), (4, .int (nI (p + 1)))]) 4 dX7_witnessesNow_47 rfl (by decide) rfl ?_
      refine xe_goto 7 dX7_witnessesNow_50 (by decide) ?_
      exact k2 c1 c2
    · refine xe_iload_n 2 dX7_witnessesNow_29 rfl rfl ?_
      refine xe_aload_n 0 dX7_witnessesNow_30 rfl rfl ?_
      refine xr_getR (b := 152) dX7_witnessesNow_31 fX7_44 rfl sh74 (by decide) rfl ?_
      refine xe_iload 4 dX7_witnessesNow_34 rfl ?_
      refine xr_lald (k := p) (v := u.2.1 152 p) dX7_witnessesNow_36 sh152 (by decide) (by omega) (by decide) rfl ?_
      refine xE.sub [0, 1, 3, 4] rfl ?_
      refine xe_callSN (As := [.long (u.2.1 152 p)]) (rest := [.int (x)]) dX7_witnessesNow_37 wX9_lowestPlace lX7_211 tX9_lowestPlace ⟨by decide, by decide⟩ rfl rfl (by simp [Value.category]) ?_
      exact k3 c1 c2

theorem gX7_witnessesNow_e (u : xU) (n p sh : Nat) (x : Int32) {Q : Option Value → xM → Prop} (hn : n ≤ 10) (hp : p = n) (v1 : u.1 3 1 = nI (n))
    (k1 : n ≤ p → Q (some (.int (x))) (xmm u))
    (k2 : ¬ n ≤ p → ¬ (u.1 (6 + 4 * p) 0) = 0 → xE mX7_witnessesNow 7 [(0, .ref 74), (1, .ref 3), (2, .int (x)), (3, .int (nI (sh))), (4, .int (nI (p + 1)))] [] (xmm u) Q)
    (k3 : ¬ n ≤ p → (u.1 (6 + 4 * p) 0) = 0 → xC mX9_lowestPlace [.long (u.2.1 152 p)] (xmm u) (fun r μ1 => xE mX7_witnessesNow 40 [(0, .ref 74), (1, .ref 3), (3, .int (nI (sh))), (4, .int (nI (p)))] (r.toList ++ [.int (x)]) μ1 Q)) : xE mX7_witnessesNow 7 [(0, .ref 74), (1, .ref 3), (2, .int (x)), (3, .int (nI (sh))), (4, .int (nI (p)))] [] (xmm u) Q := by
  refine xe_iload 4 dX7_witnessesNow_7 rfl ?_
  refine xe_aload_n 1 dX7_witnessesNow_9 rfl rfl ?_
  refine xr_getI (v := nI (n)) dX7_witnessesNow_10 fX7_56 sh3 (by decide) v1 ?_
  refine xn_icmp_ge 53 dX7_witnessesNow_13 (by decide) (by omega) (by omega) (fun c1 => ?_) (fun c1 => ?_)
  · refine xe_iload_n 2 dX7_witnessesNow_53 rfl rfl ?_
    exact xe_ret (r := (some (.int (x)))) dX7_witnessesNow_54 trivial (k1 c1)
  · refine xe_aload_n 1 dX7_witnessesNow_16 rfl rfl ?_
    refine xr_getR (b := 4) dX7_witnessesNow_17 fX7_62 rfl sh3 (by decide) rfl ?_
    refine xe_iload 4 dX7_witnessesNow_20 rfl ?_
    refine xr_aald (k := p) (b := (6 + 4 * p)) dX7_witnessesNow_22 sh4 (by decide) (by decide) (by decide) (by omega) (by decide) (rParts (by omega)) ?_
    refine xr_getI (v := u.1 (6 + 4 * p) 0) dX7_witnessesNow_23 fX7_82 (shP _ (by omega)) (by omega) rfl ?_
    refine xe_if_ne 47 dX7_witnessesNow_26 (by decide) (fun c2 => ?_) (fun c2 => ?_)
    · refine xn_iinc (c := 1) (L2 := [(0, .ref 74), (1, .ref 3), (2, .int (x)), (3, .int (nI (sh))), (4, .int (nI (p + 1)))]) 4 dX7_witnessesNow_47 rfl (by decide) rfl ?_
      refine xe_goto 7 dX7_witnessesNow_50 (by decide) ?_
      exact k2 c1 c2
    · refine xe_iload_n 2 dX7_witnessesNow_29 rfl rfl ?_
      refine xe_aload_n 0 dX7_witnessesNow_30 rfl rfl ?_
      refine xr_getR (b := 152) dX7_witnessesNow_31 fX7_44 rfl sh74 (by decide) rfl ?_
      refine xe_iload 4 dX7_witnessesNow_34 rfl ?_
      refine xr_lald (k := p) (v := u.2.1 152 p) dX7_witnessesNow_36 sh152 (by decide) (by omega) (by decide) rfl ?_
      refine xE.sub [0, 1, 3, 4] rfl ?_
      refine xe_callSN (As := [.long (u.2.1 152 p)]) (rest := [.int (x)]) dX7_witnessesNow_37 wX9_lowestPlace lX7_211 tX9_lowestPlace ⟨by decide, by decide⟩ rfl rfl (by simp [Value.category]) ?_
      exact k3 c1 c2

theorem gX7_weaveInto_0 (u : xU) (n : Nat) {Q : Option Value → xM → Prop} (hn : n ≤ 6) (v1 : u.1 3 0 = nI (n))
    (k1 : xC mX7_meetAlong [.ref 74, .ref 3, .ref 5, .int (nI (n))] (xmm u) (fun r μ1 => xE mX7_weaveInto 15 [(0, .ref 74), (1, .ref 3), (2, .ref 46), (3, .int (nI (n)))] (r.toList ++ []) μ1 Q)) : xE mX7_weaveInto 0 [(0, .ref 74), (1, .ref 3), (2, .ref 46)] [] (xmm u) Q := by
  refine xe_aload_n 1 dX7_weaveInto_0 rfl rfl ?_
  refine xr_getI (v := nI (n)) dX7_weaveInto_1 fX7_85 sh3 (by decide) v1 ?_
  refine xe_istore_n (L2 := [(0, .ref 74), (1, .ref 3), (2, .ref 46), (3, .int (nI (n)))]) dX7_weaveInto_4 rfl (by decide) rfl ?_
  refine xe_aload_n 0 dX7_weaveInto_5 rfl rfl ?_
  refine xe_aload_n 1 dX7_weaveInto_6 rfl rfl ?_
  refine xe_aload_n 1 dX7_weaveInto_7 rfl rfl ?_
  refine xr_getR (b := 5) dX7_weaveInto_8 fX7_106 rfl sh3 (by decide) rfl ?_
  refine xe_iload_n 3 dX7_weaveInto_11 rfl rfl ?_
  refine xe_callV (As := [.ref 3, .ref 5, .int (nI (n))]) (rest := []) dX7_weaveInto_12 wX7_meetAlong lX7_109 iX7_meetAlong sX7_meetAlong ⟨by decide, by decide⟩ sh74 rfl (xin_mm (by decide)) rfl rfl (by simp [Value.category]) ?_
  exact k1

theorem gX7_weaveInto_f (u : xU) (n : Nat) {Q : Option Value → xM → Prop} (hn : n ≤ 6) 
    (k1 : Q (some (.int (nI (0)))) (xmm u)) : xE mX7_weaveInto 15 [(0, .ref 74), (1, .ref 3), (2, .ref 46), (3, .int (nI (n)))] [.int ((-2))] (xmm u) Q := by
  refine xe_bipush (v := -2) dX7_weaveInto_15 xcbm2 ?_
  refine xe_icmp_ne 22 dX7_weaveInto_17 (by decide) (fun q => absurd rfl q) (fun _ => ?_)
  refine xe_iconst (v := nI (0)) dX7_weaveInto_20 xc0 ?_
  exact xe_ret (r := (some (.int (nI (0))))) dX7_weaveInto_21 (Or.inl rfl) (k1)

theorem gX7_weaveInto_t (u : xU) (n m : Nat) {Q : Option Value → xM → Prop} (hn : n ≤ 6) (hm : m ≤ 500) (v1 : u.1 146 n = nI (m))
    (k1 : ¬ (nI (m)) = (-2) → xC mX7_sort [.ref (148 + (n % 2)), .int (nI (m))] (xmm u) (fun r μ1 => xE mX7_weaveInto 43 [(0, .ref 74), (1, .ref 3), (2, .ref 46), (3, .int (nI (n))), (4, .ref (148 + (n % 2)))] (r.toList ++ []) μ1 Q))
    (k2 : (nI (m)) = (-2) → Q (some (.int (nI (0)))) (xmm u)) : xE mX7_weaveInto 15 [(0, .ref 74), (1, .ref 3), (2, .ref 46), (3, .int (nI (n)))] [.int (nI (m))] (xmm u) Q := by
  refine xe_bipush (v := -2) dX7_weaveInto_15 xcbm2 ?_
  refine xe_icmp_ne 22 dX7_weaveInto_17 (by decide) (fun c1 => ?_) (fun c1 => ?_)
  · refine xe_aload_n 0 dX7_weaveInto_22 rfl rfl ?_
    refine xr_getR (b := 147) dX7_weaveInto_23 fX7_35 rfl sh74 (by decide) rfl ?_
    refine xe_iload_n 3 dX7_weaveInto_26 rfl rfl ?_
    refine xe_iconst (v := nI (1)) dX7_weaveInto_27 xc1 ?_
    refine xn_odd dX7_weaveInto_28 ?_
    refine xr_aald (k := n % 2) (b := (148 + (n % 2))) dX7_weaveInto_29 sh147 (by decide) (by decide) (by decide) (by omega) (by decide) (rSL (by omega)) ?_
    refine xe_astore (L2 := [(0, .ref 74), (1, .ref 3), (2, .ref 46), (3, .int (nI (n))), (4, .ref (148 + (n % 2)))]) dX7_weaveInto_30 (by decide) rfl ?_
    refine xe_aload 4 dX7_weaveInto_32 rfl ?_
    refine xe_aload_n 0 dX7_weaveInto_34 rfl rfl ?_
    refine xr_getR (b := 146) dX7_weaveInto_35 fX7_32 rfl sh74 (by decide) rfl ?_
    refine xe_iload_n 3 dX7_weaveInto_38 rfl rfl ?_
    refine xr_iald (k := n) (v := nI (m)) dX7_weaveInto_39 sh146 (by decide) (by omega) (by decide) v1 ?_
    refine xe_callS (As := [.ref (148 + (n % 2)), .int (nI (m))]) (rest := []) dX7_weaveInto_40 wX7_sort lX7_113 tX7_sort ⟨by decide, by decide⟩ rfl rfl (by simp [Value.category]) ?_
    exact k1 c1
  · refine xe_iconst (v := nI (0)) dX7_weaveInto_20 xc0 ?_
    exact xe_ret (r := (some (.int (nI (0))))) dX7_weaveInto_21 (Or.inl rfl) (k2 c1)

theorem gX7_weaveInto_43 (u : xU) (n m : Nat) {Q : Option Value → xM → Prop} (hn : n ≤ 6) (hm : m ≤ 500) (v1 : u.1 146 n = nI (m))
    (k1 : xC mX0_take [.ref 47, .int (nI (n)), .int (nI (m)), .ref 76, .ref (148 + (n % 2))] (xmm u) (fun r μ1 => xE mX7_weaveInto 63 [(0, .ref 74), (1, .ref 3), (2, .ref 46), (3, .int (nI (n))), (4, .ref (148 + (n % 2)))] (r.toList ++ []) μ1 Q)) : xE mX7_weaveInto 43 [(0, .ref 74), (1, .ref 3), (2, .ref 46), (3, .int (nI (n))), (4, .ref (148 + (n % 2)))] [] (xmm u) Q := by
  refine xe_aload_n 2 dX7_weaveInto_43 rfl rfl ?_
  refine xr_getR (b := 47) dX7_weaveInto_44 fX7_117 rfl sh46 (by decide) rfl ?_
  refine xe_iload_n 3 dX7_weaveInto_47 rfl rfl ?_
  refine xe_aload_n 0 dX7_weaveInto_48 rfl rfl ?_
  refine xr_getR (b := 146) dX7_weaveInto_49 fX7_32 rfl sh74 (by decide) rfl ?_
  refine xe_iload_n 3 dX7_weaveInto_52 rfl rfl ?_
  refine xr_iald (k := n) (v := nI (m)) dX7_weaveInto_53 sh146 (by decide) (by omega) (by decide) v1 ?_
  refine xe_aload_n 0 dX7_weaveInto_54 rfl rfl ?_
  refine xr_getR (b := 76) dX7_weaveInto_55 fX7_17 rfl sh74 (by decide) rfl ?_
  refine xe_aload 4 dX7_weaveInto_58 rfl ?_
  refine xe_callV (As := [.int (nI (n)), .int (nI (m)), .ref 76, .ref (148 + (n % 2))]) (rest := []) dX7_weaveInto_60 wX0_take lX7_123 iX0_take sX0_take ⟨by decide, by decide⟩ sh47 rfl (xin_mm (by decide)) rfl rfl (by simp [Value.category]) ?_
  exact k1

theorem gX7_weaveInto_63 (u : xU) (n : Nat) {Q : Option Value → xM → Prop} (hn : n ≤ 6) 
    (k1 : xC mX8_takeParts [.ref 46, .ref 3] (xmm u) (fun r μ1 => xE mX7_weaveInto 68 [(0, .ref 74), (1, .ref 3), (2, .ref 46), (3, .int (nI (n))), (4, .ref (148 + (n % 2)))] (r.toList ++ []) μ1 Q)) : xE mX7_weaveInto 63 [(0, .ref 74), (1, .ref 3), (2, .ref 46), (3, .int (nI (n))), (4, .ref (148 + (n % 2)))] [] (xmm u) Q := by
  refine xe_aload_n 2 dX7_weaveInto_63 rfl rfl ?_
  refine xe_aload_n 1 dX7_weaveInto_64 rfl rfl ?_
  refine xe_callV (As := [.ref 3]) (rest := []) dX7_weaveInto_65 wX8_takeParts lX7_129 iX8_takeParts sX8_takeParts ⟨by decide, by decide⟩ sh46 rfl (xin_mm (by decide)) rfl rfl (by simp [Value.category]) ?_
  exact k1

theorem gX7_weaveInto_68 (u : xU) (n : Nat) {Q : Option Value → xM → Prop} (hn : n ≤ 6) 
    (k1 : xE mX7_weaveInto 71 [(0, .ref 74), (1, .ref 3), (2, .ref 46), (3, .int (nI (n))), (4, .ref (148 + (n % 2))), (5, .int (nI (0)))] [] (xmm u) Q) : xE mX7_weaveInto 68 [(0, .ref 74), (1, .ref 3), (2, .ref 46), (3, .int (nI (n))), (4, .ref (148 + (n % 2)))] [] (xmm u) Q := by
  refine xe_iconst (v := nI (0)) dX7_weaveInto_68 xc0 ?_
  refine xe_istore (L2 := [(0, .ref 74), (1, .ref 3), (2, .ref 46), (3, .int (nI (n))), (4, .ref (148 + (n % 2))), (5, .int (nI (0)))]) dX7_weaveInto_69 (by decide) rfl ?_
  exact k1

theorem gX7_weaveInto_71 (u : xU) (n i : Nat) (x : Int32) {Q : Option Value → xM → Prop} (hn : n ≤ 6) (hi : i ≤ n) (v1 : u.1 146 (i + 1) = x)
    (k1 : n ≤ i → xE mX7_weaveInto 101 [(0, .ref 74), (1, .ref 3), (2, .ref 46), (3, .int (nI (n))), (4, .ref (148 + (n % 2))), (5, .int (nI (0)))] [] (xmm u) Q)
    (k2 : ¬ n ≤ i → xC mX8_setMet [.ref 46, .int (nI (i)), .int (x)] (xmm u) (fun r μ1 => xE mX7_weaveInto 92 [(0, .ref 74), (1, .ref 3), (2, .ref 46), (3, .int (nI (n))), (4, .ref (148 + (n % 2))), (5, .int (nI (i)))] (r.toList ++ []) μ1 Q)) : xE mX7_weaveInto 71 [(0, .ref 74), (1, .ref 3), (2, .ref 46), (3, .int (nI (n))), (4, .ref (148 + (n % 2))), (5, .int (nI (i)))] [] (xmm u) Q := by
  refine xe_iload 5 dX7_weaveInto_71 rfl ?_
  refine xe_iload_n 3 dX7_weaveInto_73 rfl rfl ?_
  refine xn_icmp_ge 98 dX7_weaveInto_74 (by decide) (by omega) (by omega) (fun c1 => ?_) (fun c1 => ?_)
  · refine xe_iconst (v := nI (0)) dX7_weaveInto_98 xc0 ?_
    refine xe_istore (L2 := [(0, .ref 74), (1, .ref 3), (2, .ref 46), (3, .int (nI (n))), (4, .ref (148 + (n % 2))), (5, .int (nI (0)))]) dX7_weaveInto_99 (by decide) rfl ?_
    exact k1 c1
  · refine xe_aload_n 2 dX7_weaveInto_77 rfl rfl ?_
    refine xe_iload 5 dX7_weaveInto_78 rfl ?_
    refine xe_aload_n 0 dX7_weaveInto_80 rfl rfl ?_
    refine xr_getR (b := 146) dX7_weaveInto_81 fX7_32 rfl sh74 (by decide) rfl ?_
    refine xe_iload 5 dX7_weaveInto_84 rfl ?_
    refine xe_iconst (v := nI (1)) dX7_weaveInto_86 xc1 ?_
    refine xn_iadd dX7_weaveInto_87 ?_
    refine xr_iald (k := i + 1) (v := x) dX7_weaveInto_88 sh146 (by decide) (by omega) (by decide) v1 ?_
    refine xe_callV (As := [.int (nI (i)), .int (x)]) (rest := []) dX7_weaveInto_89 wX8_setMet lX7_133 iX8_setMet sX8_setMet ⟨by decide, by decide⟩ sh46 rfl (xin_mm (by decide)) rfl rfl (by simp [Value.category]) ?_
    exact k2 c1

theorem gX7_weaveInto_92 (u : xU) (n i : Nat) {Q : Option Value → xM → Prop} (hn : n ≤ 6) (hi : i < n) 
    (k1 : xE mX7_weaveInto 71 [(0, .ref 74), (1, .ref 3), (2, .ref 46), (3, .int (nI (n))), (4, .ref (148 + (n % 2))), (5, .int (nI (i + 1)))] [] (xmm u) Q) : xE mX7_weaveInto 92 [(0, .ref 74), (1, .ref 3), (2, .ref 46), (3, .int (nI (n))), (4, .ref (148 + (n % 2))), (5, .int (nI (i)))] [] (xmm u) Q := by
  refine xn_iinc (c := 1) (L2 := [(0, .ref 74), (1, .ref 3), (2, .ref 46), (3, .int (nI (n))), (4, .ref (148 + (n % 2))), (5, .int (nI (i + 1)))]) 5 dX7_weaveInto_92 rfl (by decide) rfl ?_
  refine xe_goto 71 dX7_weaveInto_95 (by decide) ?_
  exact k1

theorem gX7_weaveInto_101 (u : xU) (n i m : Nat) (x : Int64) {Q : Option Value → xM → Prop} (hn : n ≤ 6) (hi : i ≤ 500) (hm : m ≤ 500) (v1 : u.1 146 n = nI (m)) (v2 : u.2.1 (148 + (n % 2)) i = x)
    (k1 : m ≤ i → Q (some (.int (nI (1)))) (xmm u))
    (k2 : ¬ m ≤ i → xC mX7_agree [.ref 74, .ref 3, .long (x), .int ((1 <<< ((nI (n)) &&& 31)) - 1)] (xmm u) (fun r μ1 => xE mX7_weaveInto 127 [(0, .ref 74), (1, .ref 3), (2, .ref 46), (3, .int (nI (n))), (4, .ref (148 + (n % 2))), (5, .int (nI (i)))] (r.toList ++ []) μ1 Q)) : xE mX7_weaveInto 101 [(0, .ref 74), (1, .ref 3), (2, .ref 46), (3, .int (nI (n))), (4, .ref (148 + (n % 2))), (5, .int (nI (i)))] [] (xmm u) Q := by
  refine xe_iload 5 dX7_weaveInto_101 rfl ?_
  refine xe_aload_n 0 dX7_weaveInto_103 rfl rfl ?_
  refine xr_getR (b := 146) dX7_weaveInto_104 fX7_32 rfl sh74 (by decide) rfl ?_
  refine xe_iload_n 3 dX7_weaveInto_107 rfl rfl ?_
  refine xr_iald (k := n) (v := nI (m)) dX7_weaveInto_108 sh146 (by decide) (by omega) (by decide) v1 ?_
  refine xn_icmp_ge 144 dX7_weaveInto_109 (by decide) (by omega) (by omega) (fun c1 => ?_) (fun c1 => ?_)
  · refine xe_iconst (v := nI (1)) dX7_weaveInto_144 xc1 ?_
    exact xe_ret (r := (some (.int (nI (1))))) dX7_weaveInto_145 (Or.inr rfl) (k1 c1)
  · refine xe_aload_n 0 dX7_weaveInto_112 rfl rfl ?_
    refine xe_aload_n 1 dX7_weaveInto_113 rfl rfl ?_
    refine xe_aload 4 dX7_weaveInto_114 rfl ?_
    refine xe_iload 5 dX7_weaveInto_116 rfl ?_
    refine xr_lald (k := i) (v := x) dX7_weaveInto_118 (shSL _ (by omega)) (by omega) (by omega) (by decide) v2 ?_
    refine xe_iconst (v := nI (1)) dX7_weaveInto_119 xc1 ?_
    refine xe_iload_n 3 dX7_weaveInto_120 rfl rfl ?_
    refine xe_ishl dX7_weaveInto_121 ?_
    refine xe_iconst (v := nI (1)) dX7_weaveInto_122 xc1 ?_
    refine xe_isub dX7_weaveInto_123 ?_
    refine xe_callV (As := [.ref 3, .long (x), .int ((1 <<< ((nI (n)) &&& 31)) - 1)]) (rest := []) dX7_weaveInto_124 wX7_agree lX7_136 iX7_agree sX7_agree ⟨by decide, by decide⟩ sh74 rfl (xin_mm (by decide)) rfl rfl (by simp [Value.category]) ?_
    exact k2 c1

theorem gX7_weaveInto_127 (u : xU) (n i : Nat) {Q : Option Value → xM → Prop} (hn : n ≤ 6) (hi : i < 500) 
    (k1 : xC mX7_witnessesNow [.ref 74, .ref 3] (xmm u) (fun r μ1 => xE mX7_weaveInto 135 [(0, .ref 74), (1, .ref 3), (2, .ref 46), (3, .int (nI (n))), (4, .ref (148 + (n % 2))), (5, .int (nI (i)))] (r.toList ++ [.int (nI (i)), .ref 46]) μ1 Q)) : xE mX7_weaveInto 127 [(0, .ref 74), (1, .ref 3), (2, .ref 46), (3, .int (nI (n))), (4, .ref (148 + (n % 2))), (5, .int (nI (i)))] [] (xmm u) Q := by
  refine xe_aload_n 2 dX7_weaveInto_127 rfl rfl ?_
  refine xe_iload 5 dX7_weaveInto_128 rfl ?_
  refine xe_aload_n 0 dX7_weaveInto_130 rfl rfl ?_
  refine xe_aload_n 1 dX7_weaveInto_131 rfl rfl ?_
  refine xe_callV (As := [.ref 3]) (rest := [.int (nI (i)), .ref 46]) dX7_weaveInto_132 wX7_witnessesNow lX7_140 iX7_witnessesNow sX7_witnessesNow ⟨by decide, by decide⟩ sh74 rfl (xin_mm (by decide)) rfl rfl (by simp [Value.category]) ?_
  exact k1

theorem gX7_weaveInto_135 (u : xU) (n i : Nat) (x : Int32) {Q : Option Value → xM → Prop} (hn : n ≤ 6) (hi : i < 500) 
    (k1 : xC mX8_setWitnesses [.ref 46, .int (nI (i)), .int (x)] (xmm u) (fun r μ1 => xE mX7_weaveInto 138 [(0, .ref 74), (1, .ref 3), (2, .ref 46), (3, .int (nI (n))), (4, .ref (148 + (n % 2))), (5, .int (nI (i)))] (r.toList ++ []) μ1 Q)) : xE mX7_weaveInto 135 [(0, .ref 74), (1, .ref 3), (2, .ref 46), (3, .int (nI (n))), (4, .ref (148 + (n % 2))), (5, .int (nI (i)))] [.int (x), .int (nI (i)), .ref 46] (xmm u) Q := by
  refine xe_callV (As := [.int (nI (i)), .int (x)]) (rest := []) dX7_weaveInto_135 wX8_setWitnesses lX7_144 iX8_setWitnesses sX8_setWitnesses ⟨by decide, by decide⟩ sh46 rfl (xin_mm (by decide)) rfl rfl (by simp [Value.category]) ?_
  exact k1

theorem gX7_weaveInto_138 (u : xU) (n i : Nat) {Q : Option Value → xM → Prop} (hn : n ≤ 6) (hi : i < 500) 
    (k1 : xE mX7_weaveInto 101 [(0, .ref 74), (1, .ref 3), (2, .ref 46), (3, .int (nI (n))), (4, .ref (148 + (n % 2))), (5, .int (nI (i + 1)))] [] (xmm u) Q) : xE mX7_weaveInto 138 [(0, .ref 74), (1, .ref 3), (2, .ref 46), (3, .int (nI (n))), (4, .ref (148 + (n % 2))), (5, .int (nI (i)))] [] (xmm u) Q := by
  refine xn_iinc (c := 1) (L2 := [(0, .ref 74), (1, .ref 3), (2, .ref 46), (3, .int (nI (n))), (4, .ref (148 + (n % 2))), (5, .int (nI (i + 1)))]) 5 dX7_weaveInto_138 rfl (by decide) rfl ?_
  refine xe_goto 101 dX7_weaveInto_141 (by decide) ?_
  exact k1

