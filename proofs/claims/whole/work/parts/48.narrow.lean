theorem gX7_narrowest_0 (u : xU) (k : Nat) {Q : Option Value → xM → Prop}  
    (k1 : xE mX7_narrowest 9 [(0, .ref 74), (1, .ref 3), (2, .int (nI (k))), (3, .int (-1)), (4, .int (nI (41))), (5, .int (nI (0)))] [] (xmm u) Q) : xE mX7_narrowest 0 [(0, .ref 74), (1, .ref 3), (2, .int (nI (k)))] [] (xmm u) Q := by
  refine xe_iconst (v := -1) dX7_narrowest_0 xcm1 ?_
  refine xe_istore_n (L2 := [(0, .ref 74), (1, .ref 3), (2, .int (nI (k))), (3, .int (-1))]) dX7_narrowest_1 rfl (by decide) rfl ?_
  refine xe_bipush (v := nI (41)) dX7_narrowest_2 xcb41 ?_
  refine xe_istore (L2 := [(0, .ref 74), (1, .ref 3), (2, .int (nI (k))), (3, .int (-1)), (4, .int (nI (41)))]) dX7_narrowest_4 (by decide) rfl ?_
  refine xe_iconst (v := nI (0)) dX7_narrowest_6 xc0 ?_
  refine xe_istore (L2 := [(0, .ref 74), (1, .ref 3), (2, .int (nI (k))), (3, .int (-1)), (4, .int (nI (41))), (5, .int (nI (0)))]) dX7_narrowest_7 (by decide) rfl ?_
  exact k1

theorem gX7_narrowest_9 (u : xU) (n k few p kd m bc : Nat) (nar : Int32) (y : Int64) {Q : Option Value → xM → Prop} (hn : n ≤ 10) (hp : p < n) (hk : k < 6) (hkd : kd ≤ 3) (hm : m < 64) (hf : few ≤ 41) (hb : bc ≤ 40) (hbc : xC mJ13_bitCount_95d88 [.long y] (xmm u) (fun r μ' => r = some (.int (nI bc)) ∧ μ' = xmm u)) (v1 : u.1 3 1 = nI (n)) (v2 : u.1 (6 + 4 * p) 0 = nI (kd)) (v3 : u.1 (6 + 4 * p) 3 = nI (m)) (v4 : u.2.1 152 p = y)
    (k1 : n ≤ p → Q (some (.int (nar))) (xmm u))
    (k2 : ¬ n ≤ p → ¬ kd = 0 → xE mX7_narrowest 9 [(0, .ref 74), (1, .ref 3), (2, .int (nI (k))), (3, .int (nar)), (4, .int (nI (few))), (5, .int (nI (p + 1)))] [] (xmm u) Q)
    (k3 : ¬ n ≤ p → kd = 0 → ¬ (m.testBit k = true) → xE mX7_narrowest 9 [(0, .ref 74), (1, .ref 3), (2, .int (nI (k))), (3, .int (nar)), (4, .int (nI (few))), (5, .int (nI (p + 1)))] [] (xmm u) Q)
    (k4 : ¬ n ≤ p → kd = 0 → m.testBit k = true → few ≤ bc → xE mX7_narrowest 9 [(0, .ref 74), (1, .ref 3), (2, .int (nI (k))), (3, .int (nar)), (4, .int (nI (few))), (5, .int (nI (p + 1)))] [] (xmm u) Q)
    (k5 : ¬ n ≤ p → kd = 0 → m.testBit k = true → ¬ few ≤ bc → xE mX7_narrowest 9 [(0, .ref 74), (1, .ref 3), (2, .int (nI (k))), (3, .int (nI (p))), (4, .int (nI (bc))), (5, .int (nI (p + 1)))] [] (xmm u) Q) : xE mX7_narrowest 9 [(0, .ref 74), (1, .ref 3), (2, .int (nI (k))), (3, .int (nar)), (4, .int (nI (few))), (5, .int (nI (p)))] [] (xmm u) Q := by
  refine xe_iload 5 dX7_narrowest_9 rfl ?_
  refine xe_aload_n 1 dX7_narrowest_11 rfl rfl ?_
  refine xr_getI (v := nI (n)) dX7_narrowest_12 fX7_56 sh3 (by decide) v1 ?_
  refine xn_icmp_ge 80 dX7_narrowest_15 (by decide) (by omega) (by omega) (fun c1 => ?_) (fun c1 => ?_)
  · refine xe_iload_n 3 dX7_narrowest_80 rfl rfl ?_
    exact xe_ret (r := (some (.int (nar)))) dX7_narrowest_81 trivial (k1 c1)
  · refine xe_aload_n 1 dX7_narrowest_18 rfl rfl ?_
    refine xr_getR (b := 4) dX7_narrowest_19 fX7_62 rfl sh3 (by decide) rfl ?_
    refine xe_iload 5 dX7_narrowest_22 rfl ?_
    refine xr_aald (k := p) (b := (6 + 4 * p)) dX7_narrowest_24 sh4 (by decide) (by decide) (by decide) (by omega) (by decide) (rParts (by omega)) ?_
    refine xe_astore (L2 := [(0, .ref 74), (1, .ref 3), (2, .int (nI (k))), (3, .int (nar)), (4, .int (nI (few))), (5, .int (nI (p))), (6, .ref (6 + 4 * p))]) dX7_narrowest_25 (by decide) rfl ?_
    refine xe_aload 6 dX7_narrowest_27 rfl ?_
    refine xr_getI (v := nI (kd)) dX7_narrowest_29 fX7_82 (shP _ (by omega)) (by omega) v2 ?_
    refine xn_if_ne 74 dX7_narrowest_32 (by decide) (by omega) (fun c2 => ?_) (fun c2 => ?_)
    · refine xn_iinc (c := 1) (L2 := [(0, .ref 74), (1, .ref 3), (2, .int (nI (k))), (3, .int (nar)), (4, .int (nI (few))), (5, .int (nI (p + 1))), (6, .ref (6 + 4 * p))]) 5 dX7_narrowest_74 rfl (by decide) rfl ?_
      refine xe_goto 9 dX7_narrowest_77 (by decide) ?_
      refine xE.sub [0, 1, 2, 3, 4, 5] rfl ?_
      exact k2 c1 c2
    · refine xe_aload 6 dX7_narrowest_35 rfl ?_
      refine xe_iload_n 2 dX7_narrowest_37 rfl rfl ?_
      refine xe_callV (As := [.int (nI (k))]) (rest := []) dX7_narrowest_38 wX3_carries lX7_178 iX3_carries sX3_carries ⟨by decide, by decide⟩ (shP _ (by omega)) rfl (xin_mm (by omega)) rfl rfl (by simp [Value.category]) (xC.pure (v := .int (xb (m.testBit k = true))) (qX3_carries u p m k (by omega) (by omega) (by omega) v3) ?_)
      refine xb_if_eq 74 dX7_narrowest_41 (by decide) (fun c3 => ?_) (fun c3 => ?_)
      · refine xn_iinc (c := 1) (L2 := [(0, .ref 74), (1, .ref 3), (2, .int (nI (k))), (3, .int (nar)), (4, .int (nI (few))), (5, .int (nI (p + 1))), (6, .ref (6 + 4 * p))]) 5 dX7_narrowest_74 rfl (by decide) rfl ?_
        refine xe_goto 9 dX7_narrowest_77 (by decide) ?_
        refine xE.sub [0, 1, 2, 3, 4, 5] rfl ?_
        exact k3 c1 c2 c3
      · refine xe_aload_n 0 dX7_narrowest_44 rfl rfl ?_
        refine xr_getR (b := 152) dX7_narrowest_45 fX7_44 rfl sh74 (by decide) rfl ?_
        refine xe_iload 5 dX7_narrowest_48 rfl ?_
        refine xr_lald (k := p) (v := y) dX7_narrowest_50 sh152 (by decide) (by omega) (by decide) v4 ?_
        refine xe_callS (As := [.long (y)]) (rest := []) dX7_narrowest_51 wJ13_bitCount_95d88 lX7_224 tJ13_bitCount_95d88 ⟨by decide, by decide⟩ rfl rfl (by simp [Value.category]) (xC.pure (v := .int (nI (bc))) (hbc) ?_)
        refine xe_iload 4 dX7_narrowest_54 rfl ?_
        refine xn_icmp_ge 74 dX7_narrowest_56 (by decide) (by omega) (by omega) (fun c4 => ?_) (fun c4 => ?_)
        · refine xn_iinc (c := 1) (L2 := [(0, .ref 74), (1, .ref 3), (2, .int (nI (k))), (3, .int (nar)), (4, .int (nI (few))), (5, .int (nI (p + 1))), (6, .ref (6 + 4 * p))]) 5 dX7_narrowest_74 rfl (by decide) rfl ?_
          refine xe_goto 9 dX7_narrowest_77 (by decide) ?_
          refine xE.sub [0, 1, 2, 3, 4, 5] rfl ?_
          exact k4 c1 c2 c3 c4
        · refine xe_iload 5 dX7_narrowest_59 rfl ?_
          refine xe_istore_n (L2 := [(0, .ref 74), (1, .ref 3), (2, .int (nI (k))), (3, .int (nI (p))), (4, .int (nI (few))), (5, .int (nI (p))), (6, .ref (6 + 4 * p))]) dX7_narrowest_61 rfl (by decide) rfl ?_
          refine xe_aload_n 0 dX7_narrowest_62 rfl rfl ?_
          refine xr_getR (b := 152) dX7_narrowest_63 fX7_44 rfl sh74 (by decide) rfl ?_
          refine xe_iload 5 dX7_narrowest_66 rfl ?_
          refine xr_lald (k := p) (v := y) dX7_narrowest_68 sh152 (by decide) (by omega) (by decide) v4 ?_
          refine xe_callS (As := [.long (y)]) (rest := []) dX7_narrowest_69 wJ13_bitCount_95d88 lX7_224 tJ13_bitCount_95d88 ⟨by decide, by decide⟩ rfl rfl (by simp [Value.category]) (xC.pure (v := .int (nI (bc))) (hbc) ?_)
          refine xe_istore (L2 := [(0, .ref 74), (1, .ref 3), (2, .int (nI (k))), (3, .int (nI (p))), (4, .int (nI (bc))), (5, .int (nI (p))), (6, .ref (6 + 4 * p))]) dX7_narrowest_72 (by decide) rfl ?_
          refine xn_iinc (c := 1) (L2 := [(0, .ref 74), (1, .ref 3), (2, .int (nI (k))), (3, .int (nI (p))), (4, .int (nI (bc))), (5, .int (nI (p + 1))), (6, .ref (6 + 4 * p))]) 5 dX7_narrowest_74 rfl (by decide) rfl ?_
          refine xe_goto 9 dX7_narrowest_77 (by decide) ?_
          refine xE.sub [0, 1, 2, 3, 4, 5] rfl ?_
          exact k5 c1 c2 c3 c4

theorem gX7_narrowest_n (u : xU) (n k few p kd m : Nat) (nar : Int32) {Q : Option Value → xM → Prop} (hn : n ≤ 10) (hp : p < n) (hk : k < 6) (hkd : kd ≤ 3) (hm : m < 64) (hf : few ≤ 41) (v1 : u.1 3 1 = nI (n)) (v2 : u.1 (6 + 4 * p) 0 = nI (kd)) (v3 : u.1 (6 + 4 * p) 3 = nI (m))
    (k1 : n ≤ p → Q (some (.int (nar))) (xmm u))
    (k2 : ¬ n ≤ p → ¬ kd = 0 → xE mX7_narrowest 9 [(0, .ref 74), (1, .ref 3), (2, .int (nI (k))), (3, .int (nar)), (4, .int (nI (few))), (5, .int (nI (p + 1)))] [] (xmm u) Q)
    (k3 : ¬ n ≤ p → kd = 0 → ¬ (m.testBit k = true) → xE mX7_narrowest 9 [(0, .ref 74), (1, .ref 3), (2, .int (nI (k))), (3, .int (nar)), (4, .int (nI (few))), (5, .int (nI (p + 1)))] [] (xmm u) Q)
    (k4 : ¬ n ≤ p → kd = 0 → m.testBit k = true → xC mJ13_bitCount_95d88 [.long (u.2.1 152 p)] (xmm u) (fun r μ1 => xE mX7_narrowest 54 [(0, .ref 74), (1, .ref 3), (2, .int (nI (k))), (3, .int (nar)), (4, .int (nI (few))), (5, .int (nI (p)))] (r.toList ++ []) μ1 Q)) : xE mX7_narrowest 9 [(0, .ref 74), (1, .ref 3), (2, .int (nI (k))), (3, .int (nar)), (4, .int (nI (few))), (5, .int (nI (p)))] [] (xmm u) Q := by
  refine xe_iload 5 dX7_narrowest_9 rfl ?_
  refine xe_aload_n 1 dX7_narrowest_11 rfl rfl ?_
  refine xr_getI (v := nI (n)) dX7_narrowest_12 fX7_56 sh3 (by decide) v1 ?_
  refine xn_icmp_ge 80 dX7_narrowest_15 (by decide) (by omega) (by omega) (fun c1 => ?_) (fun c1 => ?_)
  · refine xe_iload_n 3 dX7_narrowest_80 rfl rfl ?_
    exact xe_ret (r := (some (.int (nar)))) dX7_narrowest_81 trivial (k1 c1)
  · refine xe_aload_n 1 dX7_narrowest_18 rfl rfl ?_
    refine xr_getR (b := 4) dX7_narrowest_19 fX7_62 rfl sh3 (by decide) rfl ?_
    refine xe_iload 5 dX7_narrowest_22 rfl ?_
    refine xr_aald (k := p) (b := (6 + 4 * p)) dX7_narrowest_24 sh4 (by decide) (by decide) (by decide) (by omega) (by decide) (rParts (by omega)) ?_
    refine xe_astore (L2 := [(0, .ref 74), (1, .ref 3), (2, .int (nI (k))), (3, .int (nar)), (4, .int (nI (few))), (5, .int (nI (p))), (6, .ref (6 + 4 * p))]) dX7_narrowest_25 (by decide) rfl ?_
    refine xe_aload 6 dX7_narrowest_27 rfl ?_
    refine xr_getI (v := nI (kd)) dX7_narrowest_29 fX7_82 (shP _ (by omega)) (by omega) v2 ?_
    refine xn_if_ne 74 dX7_narrowest_32 (by decide) (by omega) (fun c2 => ?_) (fun c2 => ?_)
    · refine xn_iinc (c := 1) (L2 := [(0, .ref 74), (1, .ref 3), (2, .int (nI (k))), (3, .int (nar)), (4, .int (nI (few))), (5, .int (nI (p + 1))), (6, .ref (6 + 4 * p))]) 5 dX7_narrowest_74 rfl (by decide) rfl ?_
      refine xe_goto 9 dX7_narrowest_77 (by decide) ?_
      refine xE.sub [0, 1, 2, 3, 4, 5] rfl ?_
      exact k2 c1 c2
    · refine xe_aload 6 dX7_narrowest_35 rfl ?_
      refine xe_iload_n 2 dX7_narrowest_37 rfl rfl ?_
      refine xe_callV (As := [.int (nI (k))]) (rest := []) dX7_narrowest_38 wX3_carries lX7_178 iX3_carries sX3_carries ⟨by decide, by decide⟩ (shP _ (by omega)) rfl (xin_mm (by omega)) rfl rfl (by simp [Value.category]) (xC.pure (v := .int (xb (m.testBit k = true))) (qX3_carries u p m k (by omega) (by omega) (by omega) v3) ?_)
      refine xb_if_eq 74 dX7_narrowest_41 (by decide) (fun c3 => ?_) (fun c3 => ?_)
      · refine xn_iinc (c := 1) (L2 := [(0, .ref 74), (1, .ref 3), (2, .int (nI (k))), (3, .int (nar)), (4, .int (nI (few))), (5, .int (nI (p + 1))), (6, .ref (6 + 4 * p))]) 5 dX7_narrowest_74 rfl (by decide) rfl ?_
        refine xe_goto 9 dX7_narrowest_77 (by decide) ?_
        refine xE.sub [0, 1, 2, 3, 4, 5] rfl ?_
        exact k3 c1 c2 c3
      · refine xe_aload_n 0 dX7_narrowest_44 rfl rfl ?_
        refine xr_getR (b := 152) dX7_narrowest_45 fX7_44 rfl sh74 (by decide) rfl ?_
        refine xe_iload 5 dX7_narrowest_48 rfl ?_
        refine xr_lald (k := p) (v := u.2.1 152 p) dX7_narrowest_50 sh152 (by decide) (by omega) (by decide) rfl ?_
        refine xE.sub [0, 1, 2, 3, 4, 5] rfl ?_
        refine xe_callS (As := [.long (u.2.1 152 p)]) (rest := []) dX7_narrowest_51 wJ13_bitCount_95d88 lX7_224 tJ13_bitCount_95d88 ⟨by decide, by decide⟩ rfl rfl (by simp [Value.category]) ?_
        exact k4 c1 c2 c3

theorem gX7_narrowest_e (u : xU) (n k few p : Nat) (nar : Int32) {Q : Option Value → xM → Prop} (hn : n ≤ 10) (hp : p = n) (hk : k < 6) (hf : few ≤ 41) (v1 : u.1 3 1 = nI (n))
    (k1 : n ≤ p → Q (some (.int (nar))) (xmm u))
    (k2 : ¬ n ≤ p → ¬ (u.1 (6 + 4 * p) 0) = 0 → xE mX7_narrowest 9 [(0, .ref 74), (1, .ref 3), (2, .int (nI (k))), (3, .int (nar)), (4, .int (nI (few))), (5, .int (nI (p + 1)))] [] (xmm u) Q)
    (k3 : ¬ n ≤ p → (u.1 (6 + 4 * p) 0) = 0 → xC mX3_carries [.ref (6 + 4 * p), .int (nI (k))] (xmm u) (fun r μ1 => xE mX7_narrowest 41 [(0, .ref 74), (1, .ref 3), (2, .int (nI (k))), (3, .int (nar)), (4, .int (nI (few))), (5, .int (nI (p)))] (r.toList ++ []) μ1 Q)) : xE mX7_narrowest 9 [(0, .ref 74), (1, .ref 3), (2, .int (nI (k))), (3, .int (nar)), (4, .int (nI (few))), (5, .int (nI (p)))] [] (xmm u) Q := by
  refine xe_iload 5 dX7_narrowest_9 rfl ?_
  refine xe_aload_n 1 dX7_narrowest_11 rfl rfl ?_
  refine xr_getI (v := nI (n)) dX7_narrowest_12 fX7_56 sh3 (by decide) v1 ?_
  refine xn_icmp_ge 80 dX7_narrowest_15 (by decide) (by omega) (by omega) (fun c1 => ?_) (fun c1 => ?_)
  · refine xe_iload_n 3 dX7_narrowest_80 rfl rfl ?_
    exact xe_ret (r := (some (.int (nar)))) dX7_narrowest_81 trivial (k1 c1)
  · refine xe_aload_n 1 dX7_narrowest_18 rfl rfl ?_
    refine xr_getR (b := 4) dX7_narrowest_19 fX7_62 rfl sh3 (by decide) rfl ?_
    refine xe_iload 5 dX7_narrowest_22 rfl ?_
    refine xr_aald (k := p) (b := (6 + 4 * p)) dX7_narrowest_24 sh4 (by decide) (by decide) (by decide) (by omega) (by decide) (rParts (by omega)) ?_
    refine xe_astore (L2 := [(0, .ref 74), (1, .ref 3), (2, .int (nI (k))), (3, .int (nar)), (4, .int (nI (few))), (5, .int (nI (p))), (6, .ref (6 + 4 * p))]) dX7_narrowest_25 (by decide) rfl ?_
    refine xe_aload 6 dX7_narrowest_27 rfl ?_
    refine xr_getI (v := u.1 (6 + 4 * p) 0) dX7_narrowest_29 fX7_82 (shP _ (by omega)) (by omega) rfl ?_
    refine xe_if_ne 74 dX7_narrowest_32 (by decide) (fun c2 => ?_) (fun c2 => ?_)
    · refine xn_iinc (c := 1) (L2 := [(0, .ref 74), (1, .ref 3), (2, .int (nI (k))), (3, .int (nar)), (4, .int (nI (few))), (5, .int (nI (p + 1))), (6, .ref (6 + 4 * p))]) 5 dX7_narrowest_74 rfl (by decide) rfl ?_
      refine xe_goto 9 dX7_narrowest_77 (by decide) ?_
      refine xE.sub [0, 1, 2, 3, 4, 5] rfl ?_
      exact k2 c1 c2
    · refine xe_aload 6 dX7_narrowest_35 rfl ?_
      refine xe_iload_n 2 dX7_narrowest_37 rfl rfl ?_
      refine xE.sub [0, 1, 2, 3, 4, 5] rfl ?_
      refine xe_callV (As := [.int (nI (k))]) (rest := []) dX7_narrowest_38 wX3_carries lX7_178 iX3_carries sX3_carries ⟨by decide, by decide⟩ (shP _ (by omega)) rfl (xin_mm (by omega)) rfl rfl (by simp [Value.category]) ?_
      exact k3 c1 c2

theorem qX7_narrowest {u : xU} {T : TBL} {Q : QST} (hT : TI T) (hQ : QI T Q) (h : CQ T Q u) {S k : Nat} {a : Nat → Int32} (hk : k < qN Q) (hh : fH Q k < qP Q) (hx : ∀ p, p < qP Q → qK Q p ≤ 1 → ∃ w, u.2.1 152 p = nL w ∧ BO (agR T Q p S a) (rwN T Q p) w) : xC mX7_narrowest [.ref 74, .ref 3, .int (nI k)] (xmm u) (fun r μ' => ∃ q, q < qP Q ∧ qK Q q = 0 ∧ pHas Q q k = true ∧ r = some (.int (nI q)) ∧ μ' = xmm u) := by
  have hp10 := hQ.2.1
  have hn6 := hQ.1
  have hex : ∃ p, p < qP Q ∧ (decide (qK Q p = 0) && pHas Q p k) = true := Classical.byContradiction fun q => by
    have : fH Q k = qP Q := fstB_none (fun i hi z => q ⟨i, hi, z⟩)
    omega
  refine xC.of xpl7 (Nat.le_of_ble_eq_true rfl) (gX7_narrowest_0 u k ?_)
  have loop : ∀ d p (nar : Int32) few, qP Q - p = d → p ≤ qP Q → few ≤ 41 → ((few = 41 ∧ ∀ j, j < p → ¬ (qK Q j = 0 ∧ pHas Q j k = true)) ∨ ∃ q, q < qP Q ∧ qK Q q = 0 ∧ pHas Q q k = true ∧ nar = nI q) → xE mX7_narrowest 9 [(0, .ref 74), (1, .ref 3), (2, .int (nI k)), (3, .int nar), (4, .int (nI few)), (5, .int (nI p))] [] (xmm u) (fun r μ' => ∃ q, q < qP Q ∧ qK Q q = 0 ∧ pHas Q q k = true ∧ r = some (.int (nI q)) ∧ μ' = xmm u) := by
    intro d
    induction d with
    | zero =>
      intro p nar few hd hp hf hi
      refine gX7_narrowest_e u (qP Q) k few p nar hp10 (by omega) (by omega) hf h.2.1 (fun _ => ?_) (fun z => by omega) (fun z => by omega)
      rcases hi with ⟨-, hno⟩ | ⟨q, q1, q2, q3, rfl⟩
      · obtain ⟨j, j1, j2⟩ := hex
        rw [Bool.and_eq_true, decide_eq_true_eq] at j2
        exact absurd j2 (hno j (by omega))
      · exact ⟨q, q1, q2, q3, rfl, rfl⟩
    | succ d ih =>
      intro p nar few hd hp hf hi
      have hpl : p < qP Q := by clear hi; omega
      have hd' : qP Q - (p + 1) = d := by clear hi; omega
      have cp := h.2.2.2.2 p hpl
      have hk3 := (hQ.2.2.2.2.1 p hpl).1
      by_cases hc : qK Q p = 0 ∧ pHas Q p k = true
      · obtain ⟨w, w1, w2⟩ := hx p hpl (by omega)
        have h40 : 2 ^ rwN T Q p ≤ 2 ^ 40 := Nat.pow_le_pow_right (by decide) (hT _ ((hQ.2.2.2.2.1 p hpl).2.1 (by omega)).1).2.1
        have lw := w2.1
        have hb := pcN_le w
        refine gX7_narrowest_9 u (qP Q) k few p (qK Q p) _ (pcN w) nar (nL w) hp10 hpl (by omega) hk3 (msk_q hQ hpl) hf hb (qJ13_bitCount u (by omega)) h.2.1 cp.1 cp.2.2.2.1 w1 (fun z => by omega) (fun _ z => absurd hc.1 z) (fun _ _ z => absurd (pHas_msk.mp hc.2) z) ?_ ?_
        · intro _ _ _ z
          refine ih (p + 1) nar few hd' hpl hf (Or.inr (hi.resolve_left (fun y => ?_)))
          omega
        · intro _ _ _ z
          exact ih (p + 1) (nI p) (pcN w) hd' hpl (by clear hi; omega) (Or.inr ⟨p, hpl, hc.1, hc.2, rfl⟩)
      · have nx := ih (p + 1) nar few hd' hpl hf (hi.imp (fun y => ⟨y.1, fun j hj => by
          by_cases e : j = p
          · subst e; exact hc
          · exact y.2 j (by omega)⟩) id)
        refine gX7_narrowest_n u (qP Q) k few p (qK Q p) _ nar hp10 hpl (by omega) hk3 (msk_q hQ hpl) hf h.2.1 cp.1 cp.2.2.2.1 (fun z => by omega) (fun _ _ => nx) (fun _ _ _ => nx) (fun _ z y => absurd ⟨z, pHas_msk.mpr y⟩ hc)
  exact loop _ 0 (-1) 41 rfl (Nat.zero_le _) (Nat.le_refl _) (Or.inl ⟨rfl, fun j hj => absurd hj (Nat.not_lt_zero j)⟩)

