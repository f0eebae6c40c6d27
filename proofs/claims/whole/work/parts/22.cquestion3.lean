theorem gX4_nameInOrder_0 (u : xU) (nn n hc : Nat) (w : Int32) {Q : Option Value → xM → Prop} (hnn : nn ≤ 6) (hn : n ≤ 10) (hhc : hc ≤ 5) (v1 : u.1 3 0 = nI (nn)) (v2 : u.1 3 1 = nI (n)) (v3 : u.1 3 4 = nI (hc))
    (k1 : w < 10 → Q (some (.int (-1))) (xmm u))
    (k2 : ¬ w < 10 → (w - 10) < (nI (nn)) → False)
    (k3 : ¬ w < 10 → ¬ (w - 10) < (nI (nn)) → Q (some (.int (-1))) (xmm u)) : xE mX4_nameInOrder 0 [(0, .ref 3), (1, .int (w))] [] (xmm u) Q := by
  refine xe_iload_n 1 dX4_nameInOrder_0 rfl rfl ?_
  refine xe_bipush (v := nI (10)) dX4_nameInOrder_1 xcb10 ?_
  refine xe_icmp_lt 17 dX4_nameInOrder_3 (by decide) (fun c1 => ?_) (fun c1 => ?_)
  · refine xe_iconst (v := -1) dX4_nameInOrder_17 xcm1 ?_
    refine xe_goto 30 dX4_nameInOrder_18 (by decide) ?_
    exact xe_ret (r := (some (.int (-1)))) dX4_nameInOrder_30 trivial (k1 c1)
  · refine xe_iload_n 1 dX4_nameInOrder_6 rfl rfl ?_
    refine xe_bipush (v := nI (10)) dX4_nameInOrder_7 xcb10 ?_
    refine xe_isub dX4_nameInOrder_9 ?_
    refine xe_aload_n 0 dX4_nameInOrder_10 rfl rfl ?_
    refine xr_getI (v := nI (nn)) dX4_nameInOrder_11 fX4_22 sh3 (by decide) v1 ?_
    refine xe_icmp_lt 21 dX4_nameInOrder_14 (by decide) (fun c2 => ?_) (fun c2 => ?_)
    · refine xe_aload_n 0 dX4_nameInOrder_21 rfl rfl ?_
      refine xr_getR (b := 5) dX4_nameInOrder_22 fX4_17 rfl sh3 (by decide) rfl ?_
      refine xe_iload_n 1 dX4_nameInOrder_25 rfl rfl ?_
      refine xe_bipush (v := nI (10)) dX4_nameInOrder_26 xcb10 ?_
      refine xe_isub dX4_nameInOrder_28 ?_
      exact (k2 c1 c2).elim
    · refine xe_iconst (v := -1) dX4_nameInOrder_17 xcm1 ?_
      refine xe_goto 30 dX4_nameInOrder_18 (by decide) ?_
      exact xe_ret (r := (some (.int (-1)))) dX4_nameInOrder_30 trivial (k3 c1 c2)

theorem gX4_nameInOrder_N (u : xU) (nn n hc : Nat) (w o : Nat) {Q : Option Value → xM → Prop} (hnn : nn ≤ 6) (hn : n ≤ 10) (hhc : hc ≤ 5) (hw : w < 2147483648) (v1 : u.1 3 0 = nI (nn)) (v2 : u.1 3 1 = nI (n)) (v3 : u.1 3 4 = nI (hc)) (v4 : u.1 5 (w - 10) = nI (o))
    (k1 : w < 10 → Q (some (.int (-1))) (xmm u))
    (k2 : ¬ w < 10 → (w - 10) < nn → Q (some (.int (nI (o)))) (xmm u))
    (k3 : ¬ w < 10 → ¬ (w - 10) < nn → Q (some (.int (-1))) (xmm u)) : xE mX4_nameInOrder 0 [(0, .ref 3), (1, .int (nI (w)))] [] (xmm u) Q := by
  refine xe_iload_n 1 dX4_nameInOrder_0 rfl rfl ?_
  refine xe_bipush (v := nI (10)) dX4_nameInOrder_1 xcb10 ?_
  refine xn_icmp_lt 17 dX4_nameInOrder_3 (by decide) (by omega) (by omega) (fun c1 => ?_) (fun c1 => ?_)
  · refine xe_iconst (v := -1) dX4_nameInOrder_17 xcm1 ?_
    refine xe_goto 30 dX4_nameInOrder_18 (by decide) ?_
    exact xe_ret (r := (some (.int (-1)))) dX4_nameInOrder_30 trivial (k1 c1)
  · refine xe_iload_n 1 dX4_nameInOrder_6 rfl rfl ?_
    refine xe_bipush (v := nI (10)) dX4_nameInOrder_7 xcb10 ?_
    refine xn_isub dX4_nameInOrder_9 (by omega) ?_
    refine xe_aload_n 0 dX4_nameInOrder_10 rfl rfl ?_
    refine xr_getI (v := nI (nn)) dX4_nameInOrder_11 fX4_22 sh3 (by decide) v1 ?_
    refine xn_icmp_lt 21 dX4_nameInOrder_14 (by decide) (by omega) (by omega) (fun c2 => ?_) (fun c2 => ?_)
    · refine xe_aload_n 0 dX4_nameInOrder_21 rfl rfl ?_
      refine xr_getR (b := 5) dX4_nameInOrder_22 fX4_17 rfl sh3 (by decide) rfl ?_
      refine xe_iload_n 1 dX4_nameInOrder_25 rfl rfl ?_
      refine xe_bipush (v := nI (10)) dX4_nameInOrder_26 xcb10 ?_
      refine xn_isub dX4_nameInOrder_28 (by omega) ?_
      refine xr_iald (k := w - 10) (v := nI (o)) dX4_nameInOrder_29 sh5 (by decide) (by omega) (by decide) v4 ?_
      exact xe_ret (r := (some (.int (nI (o))))) dX4_nameInOrder_30 trivial (k2 c1 c2)
    · refine xe_iconst (v := -1) dX4_nameInOrder_17 xcm1 ?_
      refine xe_goto 30 dX4_nameInOrder_18 (by decide) ?_
      exact xe_ret (r := (some (.int (-1)))) dX4_nameInOrder_30 trivial (k3 c1 c2)

theorem gX4_nameInOrder_M (u : xU) (nn n hc : Nat) (w : Nat) {Q : Option Value → xM → Prop} (hnn : nn ≤ 6) (hn : n ≤ 10) (hhc : hc ≤ 5) (hw : w < 2147483648) (v1 : u.1 3 0 = nI (nn)) (v2 : u.1 3 1 = nI (n)) (v3 : u.1 3 4 = nI (hc))
    (k1 : w < 10 → Q (some (.int (-1))) (xmm u))
    (k2 : ¬ w < 10 → (w - 10) < nn → Q (some (.int (u.1 5 (w - 10)))) (xmm u))
    (k3 : ¬ w < 10 → ¬ (w - 10) < nn → Q (some (.int (-1))) (xmm u)) : xE mX4_nameInOrder 0 [(0, .ref 3), (1, .int (nI (w)))] [] (xmm u) Q := by
  refine xe_iload_n 1 dX4_nameInOrder_0 rfl rfl ?_
  refine xe_bipush (v := nI (10)) dX4_nameInOrder_1 xcb10 ?_
  refine xn_icmp_lt 17 dX4_nameInOrder_3 (by decide) (by omega) (by omega) (fun c1 => ?_) (fun c1 => ?_)
  · refine xe_iconst (v := -1) dX4_nameInOrder_17 xcm1 ?_
    refine xe_goto 30 dX4_nameInOrder_18 (by decide) ?_
    exact xe_ret (r := (some (.int (-1)))) dX4_nameInOrder_30 trivial (k1 c1)
  · refine xe_iload_n 1 dX4_nameInOrder_6 rfl rfl ?_
    refine xe_bipush (v := nI (10)) dX4_nameInOrder_7 xcb10 ?_
    refine xn_isub dX4_nameInOrder_9 (by omega) ?_
    refine xe_aload_n 0 dX4_nameInOrder_10 rfl rfl ?_
    refine xr_getI (v := nI (nn)) dX4_nameInOrder_11 fX4_22 sh3 (by decide) v1 ?_
    refine xn_icmp_lt 21 dX4_nameInOrder_14 (by decide) (by omega) (by omega) (fun c2 => ?_) (fun c2 => ?_)
    · refine xe_aload_n 0 dX4_nameInOrder_21 rfl rfl ?_
      refine xr_getR (b := 5) dX4_nameInOrder_22 fX4_17 rfl sh3 (by decide) rfl ?_
      refine xe_iload_n 1 dX4_nameInOrder_25 rfl rfl ?_
      refine xe_bipush (v := nI (10)) dX4_nameInOrder_26 xcb10 ?_
      refine xn_isub dX4_nameInOrder_28 (by omega) ?_
      refine xr_iald (k := w - 10) (v := u.1 5 (w - 10)) dX4_nameInOrder_29 sh5 (by decide) (by omega) (by decide) rfl ?_
      exact xe_ret (r := (some (.int (u.1 5 (w - 10))))) dX4_nameInOrder_30 trivial (k2 c1 c2)
    · refine xe_iconst (v := -1) dX4_nameInOrder_17 xcm1 ?_
      refine xe_goto 30 dX4_nameInOrder_18 (by decide) ?_
      exact xe_ret (r := (some (.int (-1)))) dX4_nameInOrder_30 trivial (k3 c1 c2)

theorem gX9_count_0 (u : xU) (w a b c d : Int32) (es : Bool) {Q : Option Value → xM → Prop} (hst : xC mX4_stands [.ref 3] (xmm u) (fun r μ' => r = some (.int (xb (es = true))) ∧ μ' = xmm u)) (v1 : u.1 3 0 = a) (v2 : u.1 3 1 = b) (v3 : u.1 47 1 = c) (v4 : u.1 59 1 = d)
    (k1 : w = nI 0 → Q (some (.int (a))) (xmm u))
    (k2 : ¬ w = nI 0 → w = nI 1 → Q (some (.int (b))) (xmm u))
    (k3 : ¬ w = nI 0 → ¬ w = nI 1 → w = nI 2 → Q (some (.int (c))) (xmm u))
    (k4 : ¬ w = nI 0 → ¬ w = nI 1 → ¬ w = nI 2 → w = nI 3 → Q (some (.int (d))) (xmm u))
    (k5 : ¬ w = nI 0 → ¬ w = nI 1 → ¬ w = nI 2 → ¬ w = nI 3 → w = nI 4 → ¬ (es = true) → Q (some (.int (nI (0)))) (xmm u))
    (k6 : ¬ w = nI 0 → ¬ w = nI 1 → ¬ w = nI 2 → ¬ w = nI 3 → w = nI 4 → es = true → Q (some (.int (nI (1)))) (xmm u))
    (k7 : ¬ w = nI 0 → ¬ w = nI 1 → ¬ w = nI 2 → ¬ w = nI 3 → ¬ w = nI 4 → xC mX4_nameInOrder [.ref 3, .int (w)] (xmm u) (fun r μ1 => xE mX9_count 95 [] (r.toList ++ []) μ1 Q)) : xE mX9_count 0 [(0, .ref 1), (1, .int (w))] [] (xmm u) Q := by
  refine xe_iload_n 1 dX9_count_0 rfl rfl ?_
  by_cases c1 : w = nI 0
  · refine xe_tableIn (off := 35) 36 dX9_count_1 (by rw [c1]; decide) (by rw [c1]; decide) (by rw [c1]; decide) (by decide) ?_
    refine xe_aload_n 0 dX9_count_36 rfl rfl ?_
    refine xr_getR (b := 3) dX9_count_37 fX9_18 rfl sh1 (by decide) rfl ?_
    refine xr_getI (v := a) dX9_count_40 fX9_200 sh3 (by decide) v1 ?_
    exact xe_ret (r := (some (.int (a)))) dX9_count_43 trivial (k1 c1)
  · by_cases c2 : w = nI 1
    · refine xe_tableIn (off := 43) 44 dX9_count_1 (by rw [c2]; decide) (by rw [c2]; decide) (by rw [c2]; decide) (by decide) ?_
      refine xe_aload_n 0 dX9_count_44 rfl rfl ?_
      refine xr_getR (b := 3) dX9_count_45 fX9_18 rfl sh1 (by decide) rfl ?_
      refine xr_getI (v := b) dX9_count_48 fX9_218 sh3 (by decide) v2 ?_
      exact xe_ret (r := (some (.int (b)))) dX9_count_51 trivial (k2 c1 c2)
    · by_cases c3 : w = nI 2
      · refine xe_tableIn (off := 51) 52 dX9_count_1 (by rw [c3]; decide) (by rw [c3]; decide) (by rw [c3]; decide) (by decide) ?_
        refine xe_aload_n 0 dX9_count_52 rfl rfl ?_
        refine xr_getR (b := 46) dX9_count_53 fX9_25 rfl sh1 (by decide) rfl ?_
        refine xr_getR (b := 47) dX9_count_56 fX9_139 rfl sh46 (by decide) rfl ?_
        refine xr_getI (v := c) dX9_count_59 fX9_142 sh47 (by decide) v3 ?_
        exact xe_ret (r := (some (.int (c)))) dX9_count_62 trivial (k3 c1 c2 c3)
      · by_cases c4 : w = nI 3
        · refine xe_tableIn (off := 62) 63 dX9_count_1 (by rw [c4]; decide) (by rw [c4]; decide) (by rw [c4]; decide) (by decide) ?_
          refine xe_aload_n 0 dX9_count_63 rfl rfl ?_
          refine xr_getR (b := 59) dX9_count_64 fX9_32 rfl sh1 (by decide) rfl ?_
          refine xr_getI (v := d) dX9_count_67 fX9_142 sh59 (by decide) v4 ?_
          exact xe_ret (r := (some (.int (d)))) dX9_count_70 trivial (k4 c1 c2 c3 c4)
        · by_cases c5 : w = nI 4
          · refine xe_tableIn (off := 70) 71 dX9_count_1 (by rw [c5]; decide) (by rw [c5]; decide) (by rw [c5]; decide) (by decide) ?_
            refine xe_aload_n 0 dX9_count_71 rfl rfl ?_
            refine xr_getR (b := 3) dX9_count_72 fX9_18 rfl sh1 (by decide) rfl ?_
            refine xe_callV (As := []) (rest := []) dX9_count_75 wX4_stands lX9_127 iX4_stands sX4_stands ⟨by decide, by decide⟩ sh3 rfl (xin_mm (by decide)) rfl rfl (by simp [Value.category]) (xC.pure (v := .int (xb (es = true))) (hst) ?_)
            refine xb_if_eq 85 dX9_count_78 (by decide) (fun c6 => ?_) (fun c6 => ?_)
            · refine xe_iconst (v := nI (0)) dX9_count_85 xc0 ?_
              exact xe_ret (r := (some (.int (nI (0))))) dX9_count_86 trivial (k5 c1 c2 c3 c4 c5 c6)
            · refine xe_iconst (v := nI (1)) dX9_count_81 xc1 ?_
              refine xe_goto 86 dX9_count_82 (by decide) ?_
              exact xe_ret (r := (some (.int (nI (1))))) dX9_count_86 trivial (k6 c1 c2 c3 c4 c5 c6)
          · refine xe_tableOut 87 dX9_count_1 (by have z0 := lv_neT c1 (show (nI 0).toInt = 0 from by decide); have z1 := lv_neT c2 (show (nI 1).toInt = 1 from by decide); have z2 := lv_neT c3 (show (nI 2).toInt = 2 from by decide); have z3 := lv_neT c4 (show (nI 3).toInt = 3 from by decide); have z4 := lv_neT c5 (show (nI 4).toInt = 4 from by decide); omega) (by decide) ?_
            refine xe_aload_n 0 dX9_count_87 rfl rfl ?_
            refine xr_getR (b := 3) dX9_count_88 fX9_18 rfl sh1 (by decide) rfl ?_
            refine xe_iload_n 1 dX9_count_91 rfl rfl ?_
            refine xE.sub [] rfl ?_
            refine xe_callV (As := [.int (w)]) (rest := []) dX9_count_92 wX4_nameInOrder lX9_219 iX4_nameInOrder sX4_nameInOrder ⟨by decide, by decide⟩ sh3 rfl (xin_mm (by decide)) rfl rfl (by simp [Value.category]) ?_
            exact k7 c1 c2 c3 c4 c5

theorem gX9_table_J (u : xU) (t c : Int32) {Q : Option Value → xM → Prop}  
    (k1 : t < 0 → Q (some (.int (nI (0)))) (xmm u))
    (k2 : ¬ t < 0 → 8 ≤ t → Q (some (.int (nI (0)))) (xmm u))
    (k3 : ¬ t < 0 → ¬ 8 ≤ t → c < 1 → Q (some (.int (nI (0)))) (xmm u))
    (k4 : ¬ t < 0 → ¬ 8 ≤ t → ¬ c < 1 → 3 < c → Q (some (.int (nI (0)))) (xmm u))
    (k5 : ¬ t < 0 → ¬ 8 ≤ t → ¬ c < 1 → ¬ 3 < c → xC mX4_asksOf [.ref 3, .int (t)] (xmm u) (fun r μ1 => xE mX9_table 28 [(0, .ref 1), (1, .int (t)), (2, .int (c))] (r.toList ++ []) μ1 Q)) : xE mX9_table 0 [(0, .ref 1), (1, .int (t)), (2, .int (c))] [] (xmm u) Q := by
  refine xe_iload_n 1 dX9_table_0 rfl rfl ?_
  refine xe_if_lt 31 dX9_table_1 (by decide) (fun c1 => ?_) (fun c1 => ?_)
  · refine xe_iconst (v := nI (0)) dX9_table_31 xc0 ?_
    exact xe_ret (r := (some (.int (nI (0))))) dX9_table_32 (Or.inl rfl) (k1 c1)
  · refine xe_iload_n 1 dX9_table_4 rfl rfl ?_
    refine xe_bipush (v := nI (8)) dX9_table_5 xcb8 ?_
    refine xe_icmp_ge 31 dX9_table_7 (by decide) (fun c2 => ?_) (fun c2 => ?_)
    · refine xe_iconst (v := nI (0)) dX9_table_31 xc0 ?_
      exact xe_ret (r := (some (.int (nI (0))))) dX9_table_32 (Or.inl rfl) (k2 c1 c2)
    · refine xe_iload_n 2 dX9_table_10 rfl rfl ?_
      refine xe_iconst (v := nI (1)) dX9_table_11 xc1 ?_
      refine xe_icmp_lt 31 dX9_table_12 (by decide) (fun c3 => ?_) (fun c3 => ?_)
      · refine xe_iconst (v := nI (0)) dX9_table_31 xc0 ?_
        exact xe_ret (r := (some (.int (nI (0))))) dX9_table_32 (Or.inl rfl) (k3 c1 c2 c3)
      · refine xe_iload_n 2 dX9_table_15 rfl rfl ?_
        refine xe_iconst (v := nI (3)) dX9_table_16 xc3 ?_
        refine xe_icmp_gt 31 dX9_table_17 (by decide) (fun c4 => ?_) (fun c4 => ?_)
        · refine xe_iconst (v := nI (0)) dX9_table_31 xc0 ?_
          exact xe_ret (r := (some (.int (nI (0))))) dX9_table_32 (Or.inl rfl) (k4 c1 c2 c3 c4)
        · refine xe_aload_n 0 dX9_table_20 rfl rfl ?_
          refine xr_getR (b := 3) dX9_table_21 fX9_18 rfl sh1 (by decide) rfl ?_
          refine xe_iload_n 1 dX9_table_24 rfl rfl ?_
          refine xe_callV (As := [.int (t)]) (rest := []) dX9_table_25 wX4_asksOf lX9_65 iX4_asksOf sX4_asksOf ⟨by decide, by decide⟩ sh3 rfl (xin_mm (by decide)) rfl rfl (by simp [Value.category]) ?_
          exact k5 c1 c2 c3 c4

/-! the order -/
theorem posO_none {f : Nat → Nat} {k : Nat} : ∀ {n : Nat}, (∀ i, i < n → f i ≠ k) → posO f k n = n
  | 0, _ => rfl
  | n + 1, h => by
    unfold posO
    rw [posO_none (fun i hi => h i (by omega)), if_neg (h n (by omega))]
theorem posO_eq {f : Nat → Nat} {k j : Nat} (hf : f j = k) (hb : ∀ i, i < j → f i ≠ k) : ∀ {n : Nat}, j < n → posO f k n = j
  | 0, h => absurd h (Nat.not_lt_zero j)
  | n + 1, h => by
    unfold posO
    by_cases e : j = n
    · subst e
      rw [posO_none hb, if_pos hf]
    · rw [posO_eq hf hb (by omega), if_pos hf]
theorem posO_lt {T : TBL} {Q : QST} (hQ : QI T Q) {k : Nat} (hk : k < qN Q) : posO (qO Q) k (qN Q) < qN Q ∧ qO Q (posO (qO Q) k (qN Q)) = k := by
  obtain ⟨i, hi, he⟩ := hQ.2.2.2.2.2.2.2 k hk
  have := posO_eq (f := qO Q) (k := k) (j := i) he (fun j hj z => by
    have := hQ.2.2.2.2.2.2.1 i j hi (by omega) (he.trans z.symm)
    omega) hi
  rw [this]
  exact ⟨hi, he⟩
theorem posO_uniq {T : TBL} {Q : QST} (hQ : QI T Q) {k j : Nat} (hj : j < qN Q) (he : qO Q j = k) : posO (qO Q) k (qN Q) = j := by
  have hk : k < qN Q := he ▸ hQ.2.2.2.2.2.1 j hj
  obtain ⟨h1, h2⟩ := posO_lt hQ hk
  exact hQ.2.2.2.2.2.2.1 _ _ h1 hj (h2.trans he.symm)
theorem swpO_at {f : Nat → Nat} {n i k j : Nat} : swpO f n i k j = if j = i then k else if j = posO f k n then f i else f j := by
  unfold swpO setT
  rfl
theorem QI_ord {T : TBL} {Q : QST} (hQ : QI T Q) (o : Nat → Nat) (h1 : ∀ i, i < qN Q → o i < qN Q) (h2 : ∀ i j, i < qN Q → j < qN Q → o i = o j → i = j) (h3 : ∀ k, k < qN Q → ∃ i, i < qN Q ∧ o i = k) : QI T (qN Q, qP Q, qK Q, qOf Q, qL Q, qM Q, qV Q, o) := by
  obtain ⟨q1, q2, q3, q4, q5, q6⟩ := hQ
  exact ⟨q1, q2, q3, q4, q5, h1, h2, h3⟩
theorem QI_swp {T : TBL} {Q : QST} (hQ : QI T Q) {i k : Nat} (hi : i < qN Q) (hk : k < qN Q) : QI T (qN Q, qP Q, qK Q, qOf Q, qL Q, qM Q, qV Q, swpO (qO Q) (qN Q) i k) := by
  obtain ⟨h1, h2⟩ := posO_lt hQ hk
  have hq := hQ
  obtain ⟨q1, q2, q3, q4, q5, q6, q7, q8⟩ := hQ
  refine QI_ord hq _ (fun j hj => ?_) (fun a b ha hb hab => ?_) (fun c hc => ?_)
  · rw [swpO_at]
    split
    · exact hk
    · split
      · exact q6 i hi
      · exact q6 j hj
  · rw [swpO_at, swpO_at] at hab
    by_cases a1 : a = i
    · rw [if_pos a1] at hab
      by_cases b1 : b = i
      · omega
      · rw [if_neg b1] at hab
        by_cases b2 : b = posO (qO Q) k (qN Q)
        · rw [if_pos b2] at hab
          have := posO_uniq hq hi hab.symm
          omega
        · rw [if_neg b2] at hab
          exact absurd (posO_uniq hq hb hab.symm).symm b2
    · rw [if_neg a1] at hab
      by_cases b1 : b = i
      · rw [if_pos b1] at hab
        by_cases a2 : a = posO (qO Q) k (qN Q)
        · rw [if_pos a2] at hab
          have := posO_uniq hq hi hab
          omega
        · rw [if_neg a2] at hab
          exact absurd (posO_uniq hq ha hab).symm a2
      · rw [if_neg b1] at hab
        by_cases a2 : a = posO (qO Q) k (qN Q)
        · rw [if_pos a2] at hab
          by_cases b2 : b = posO (qO Q) k (qN Q)
          · omega
          · rw [if_neg b2] at hab
            exact absurd (q7 i b hi hb hab).symm b1
        · rw [if_neg a2] at hab
          by_cases b2 : b = posO (qO Q) k (qN Q)
          · rw [if_pos b2] at hab
            exact absurd (q7 a i ha hi hab) a1
          · rw [if_neg b2] at hab
            exact q7 a b ha hb hab
  · by_cases c1 : c = k
    · exact ⟨i, hi, by rw [swpO_at, if_pos rfl]; exact c1.symm⟩
    · obtain ⟨j, hj, he⟩ := q8 c hc
      by_cases j1 : j = i
      · refine ⟨posO (qO Q) k (qN Q), h1, ?_⟩
        rw [swpO_at, if_neg (fun z => c1 (by rw [← he, j1, ← z]; exact h2)), if_pos rfl, ← j1]
        exact he
      · refine ⟨j, hj, ?_⟩
        rw [swpO_at, if_neg j1, if_neg (fun z => c1 (by rw [← he, z]; exact h2))]
        exact he
theorem CQ_ord {T : TBL} {Q : QST} {u u' : xU} (h : CQ T Q u) (hb : qP Q ≤ 10) (o : Nat → Nat) (h5 : ∀ i, i < qN Q → u'.1 5 i = nI (o i)) (hf : ∀ x, x ≠ 5 → u'.1 x = u.1 x) : CQ T (qN Q, qP Q, qK Q, qOf Q, qL Q, qM Q, qV Q, o) u' := by
  obtain ⟨c1, c2, c3, c4, c5⟩ := h
  refine ⟨by rw [hf 3 (by decide)]; exact c1, by rw [hf 3 (by decide)]; exact c2, by rw [hf 3 (by decide)]; exact c3, h5, fun p hp => (c5 p hp).keep (fun x a b => hf x (by omega))⟩
theorem qX9_order {u : xU} {T : TBL} {Q : QST} (hQ : QI T Q) (h : CQ T Q u) (i k : Int32) : xC mX9_order [.ref 1, .int i, .int k] (xmm u) (pQ T u (some (.int (xb ((aOrder Q i k).1 = true)))) (aOrder Q i k).2) := by
  have hn6 := hQ.1
  have no : ¬ (isNm Q i = true ∧ isNm Q k = true) → pQ T u (some (.int (xb ((aOrder Q i k).1 = true)))) (aOrder Q i k).2 (some (.int (nI 0))) (xmm u) := fun z => by
    have ea : aOrder Q i k = (false, Q) := by
      unfold aOrder
      rw [if_neg (by rw [Bool.and_eq_true]; exact z)]
    rw [ea]
    exact ⟨u, rfl, ret_f (fun q => by cases q), h, frQ.rf⟩
  refine xC.of xpl9 (Nat.le_of_ble_eq_true rfl) (gX9_order_0 u i k (isNm Q i) (isNm Q k) (qX4_hasName hQ h i) (qX4_hasName hQ h k) (fun q => no fun z => q z.1) (fun q z => ?_) (fun q z => no fun y => z y.2))
  have ea : aOrder Q i k = (true, (qN Q, qP Q, qK Q, qOf Q, qL Q, qM Q, qV Q, swpO (qO Q) (qN Q) i.toNatClampNeg k.toNatClampNeg)) := by
    unfold aOrder
    rw [if_pos (by rw [Bool.and_eq_true]; exact ⟨q, z⟩)]
  rw [ea]
  obtain ⟨a, ha, rfl, e1⟩ := isNm_t hQ q
  obtain ⟨b, hb, rfl, e2⟩ := isNm_t hQ z
  rw [e1, e2]
  refine xC.of xpl4 (Nat.le_of_ble_eq_true rfl) (gX4_bringForward_0 u a b ?_)
  obtain ⟨p1, p2⟩ := posO_lt hQ hb
  have loop : ∀ d j, posO (qO Q) b (qN Q) - j = d → j ≤ posO (qO Q) b (qN Q) → xE mX4_bringForward 2 [(0, .ref 3), (1, .int (nI a)), (2, .int (nI b)), (3, .int (nI j))] [] (xmm u) (fun r μ1 => xE mX9_order 33 [] (r.toList ++ []) μ1 (pQ T u (some (.int (xb ((true, ((qN Q, qP Q, qK Q, qOf Q, qL Q, qM Q, qV Q, swpO (qO Q) (qN Q) a b) : QST)).1 = true)))) (true, ((qN Q, qP Q, qK Q, qOf Q, qL Q, qM Q, qV Q, swpO (qO Q) (qN Q) a b) : QST)).2)) := by
    intro d
    induction d with
    | zero =>
      intro j hd hj
      have hjp : j = posO (qO Q) b (qN Q) := by omega
      refine gX4_bringForward_2 u (qN Q) (qP Q) _ a b j (qO Q a) (qO Q j) hn6 hQ.2.1 hQ.2.2.1 ha hb (by omega) (hQ.2.2.2.2.2.1 _ ha) (hQ.2.2.2.2.2.1 _ (by omega)) h.1 h.2.1 h.2.2.1 (h.2.2.2.1 _ (by omega)) (h.2.2.2.1 _ ha) (fun y => by omega) (fun _ y => absurd (by rw [hjp]; exact p2) y) (fun _ y => ?_)
      refine gX9_order_33 _ ⟨_, rfl, ret_t rfl, CQ_ord h hQ.2.1 _ (fun i hi => ?_) (fun x x5 => by rw [wi_row x5, wi_row x5]), ⟨fun x x3 x5 _ => by rw [wi_row x5, wi_row x5], rfl⟩⟩
      rw [swpO_at]
      by_cases i1 : i = a
      · subst i1
        rw [if_pos rfl, wi_self]
      · rw [if_neg i1, wi_nek i1]
        by_cases i2 : i = posO (qO Q) b (qN Q)
        · rw [if_pos i2, i2, ← hjp, wi_self]
        · rw [if_neg i2, wi_nek (by omega)]
          exact h.2.2.2.1 i hi
    | succ d ih =>
      intro j hd hj
      refine gX4_bringForward_2 u (qN Q) (qP Q) _ a b j (qO Q a) (qO Q j) hn6 hQ.2.1 hQ.2.2.1 ha hb (by omega) (hQ.2.2.2.2.2.1 _ ha) (hQ.2.2.2.2.2.1 _ (by omega)) h.1 h.2.1 h.2.2.1 (h.2.2.2.1 _ (by omega)) (h.2.2.2.1 _ ha) (fun y => by omega) (fun _ y => ih (j + 1) (by omega) (by omega)) (fun _ y => ?_)
      have := posO_uniq hQ (j := j) (by omega) y
      omega
  exact loop _ 0 rfl (Nat.zero_le _)
/-! does the question stand -/
def fnd (Q : QST) : Nat → Nat
  | 0 => 0
  | n + 1 => fnd Q n ||| if qK Q n = 0 then msk (qM Q n) (qL Q n) else 0
theorem fnd_bit {Q : QST} {k : Nat} : ∀ {n : Nat}, (fnd Q n).testBit k = true ↔ ∃ p, p < n ∧ qK Q p = 0 ∧ pHas Q p k = true
  | 0 => by simp [fnd]
  | n + 1 => by
    unfold fnd
    rw [Nat.testBit_or, Bool.or_eq_true, fnd_bit]
    constructor
    · rintro (⟨p, h1, h2⟩ | h)
      · exact ⟨p, by omega, h2⟩
      · by_cases hk : qK Q n = 0
        · rw [if_pos hk] at h
          exact ⟨n, by omega, hk, pHas_msk.mpr h⟩
        · rw [if_neg hk] at h
          simp at h
    · rintro ⟨p, h1, h2, h3⟩
      by_cases e : p = n
      · subst e
        rw [if_pos h2]
        exact Or.inr (pHas_msk.mp h3)
      · exact Or.inl ⟨p, by omega, h2, h3⟩
theorem msk_lt2 {f : Nat → Option Nat} {n : Nat} : ∀ {l : Nat}, (∀ i, i < l → ∀ k, f i = some k → k < n) → msk f l < 2 ^ n
  | 0, _ => by unfold msk; exact Nat.two_pow_pos n
  | l + 1, h => by
    unfold msk
    have h1 := msk_lt2 (f := f) (n := n) (l := l) (fun i hi => h i (by omega))
    refine Nat.or_lt_two_pow h1 ?_
    cases hf : f l with
    | none => exact Nat.two_pow_pos n
    | some k => exact Nat.pow_lt_pow_right (by decide) (h l (by omega) k hf)
theorem fnd_lt {T : TBL} {Q : QST} (hQ : QI T Q) : ∀ {n : Nat}, n ≤ qP Q → fnd Q n < 2 ^ qN Q
  | 0, _ => Nat.two_pow_pos _
  | n + 1, h => by
    unfold fnd
    refine Nat.or_lt_two_pow (fnd_lt hQ (by omega)) ?_
    split
    · exact msk_lt2 (fun i hi k hk => qM_lt hQ (by omega) hi hk)
    · exact Nat.two_pow_pos _
theorem pow6 {n : Nat} (h : n ≤ 6) : 2 ^ n ≤ 64 := Nat.pow_le_pow_right (n := 2) (by decide) h
theorem orN : ∀ a, a < 64 → ∀ b, b < 64 → nI a ||| nI b = nI (a ||| b) := by decide +kernel
theorem shN1 : ∀ n, n ≤ 6 → ((1 : Int32) <<< (nI n &&& 31)) - 1 = nI (2 ^ n - 1) := by decide +kernel
theorem allbits {m n : Nat} (h : m < 2 ^ n) : m = 2 ^ n - 1 ↔ ∀ k, k < n → m.testBit k = true := by
  constructor
  · intro e k hk
    rw [e, Nat.testBit_two_pow_sub_one]
    exact decide_eq_true hk
  · intro a
    apply Nat.eq_of_testBit_eq
    intro i
    rw [Nat.testBit_two_pow_sub_one]
    by_cases hi : i < n
    · rw [a i hi, decide_eq_true hi]
    · rw [decide_eq_false hi]
      exact Nat.testBit_lt_two_pow (Nat.lt_of_lt_of_le h (Nat.pow_le_pow_right (by decide) (by omega)))
theorem aStands_iff {T : TBL} {Q : QST} : aStands T Q = true ↔ qN Q ≠ 0 ∧ (∀ p, p < qP Q → 2 ≤ qK Q p ∨ T.1 (qOf Q p) ≤ qL Q p) ∧ ∀ k, k < qN Q → ∃ p, p < qP Q ∧ qK Q p = 0 ∧ pHas Q p k = true := by
  unfold aStands
  rw [Bool.and_eq_true, Bool.and_eq_true, allN_iff, allN_iff]
  simp only [anyN_iff, Bool.and_eq_true, Bool.or_eq_true, decide_eq_true_eq, and_assoc]
theorem qX4_stands {u : xU} {T : TBL} {Q : QST} (hT : TI T) (hQ : QI T Q) (h : CQ T Q u) : xC mX4_stands [.ref 3] (xmm u) (fun r μ' => r = some (.int (xb (aStands T Q = true))) ∧ μ' = xmm u) := by
  have hn6 := hQ.1
  have hp10 := hQ.2.1
  have h64 := pow6 hn6
  refine xC.of xpl4 (Nat.le_of_ble_eq_true rfl) (gX4_stands_0 u ?_)
  have loop : ∀ d p, qP Q - p = d → p ≤ qP Q → (∀ j, j < p → 2 ≤ qK Q j ∨ T.1 (qOf Q j) ≤ qL Q j) → xE mX4_stands 4 [(0, .ref 3), (1, .int (nI (fnd Q p))), (2, .int (nI p))] [] (xmm u) (fun r μ' => r = some (.int (xb (aStands T Q = true))) ∧ μ' = xmm u) := by
    intro d
    induction d with
    | zero =>
      intro p hd hp hj
      have hpe : p = qP Q := by omega
      have hfl := fnd_lt hQ hp
      have hx : nI (fnd Q p) = ((1 : Int32) <<< (nI (qN Q) &&& 31)) - 1 ↔ ∀ k, k < qN Q → ∃ p, p < qP Q ∧ qK Q p = 0 ∧ pHas Q p k = true := by
        rw [shN1 _ hn6, nI_inj (by omega) (by omega), allbits hfl, hpe]
        simp only [fnd_bit]
      refine gX4_stands_e u (qN Q) (qP Q) _ p _ hQ.1 hQ.2.1 hQ.2.2.1 hpe h.1 h.2.1 h.2.2.1 (fun _ z => ⟨ret_f (fun y => ?_), rfl⟩) (fun _ z y => ⟨ret_f (fun x => ?_), rfl⟩) (fun _ z y => ⟨ret_t ?_, rfl⟩) (fun y => by omega)
      · have := (aStands_iff.mp y).1
        omega
      · exact y (hx.mpr (aStands_iff.mp x).2.2)
      · exact aStands_iff.mpr ⟨by omega, fun j hjp => hj j (by omega), hx.mp y⟩
    | succ d ih =>
      intro p hd hp hj
      have hpl : p < qP Q := by omega
      have c := h.2.2.2.2 p hpl
      have hdu := qDue_le hT hQ hpl
      have hl := qL_le hT hQ hpl
      have q5 := hQ.2.2.2.2.1 p hpl
      have fl : qDue T Q p ≤ qL Q p ↔ 2 ≤ qK Q p ∨ T.1 (qOf Q p) ≤ qL Q p := by
        unfold qDue
        by_cases hk : qK Q p ≤ 1
        · rw [if_pos hk]; omega
        · rw [if_neg hk, (q5.2.2.1 (by omega)).1]; omega
      have nx : qDue T Q p ≤ qL Q p → ∀ j, j < p + 1 → 2 ≤ qK Q j ∨ T.1 (qOf Q j) ≤ qL Q j := fun z j hjp => by
        by_cases e : j = p
        · subst e; exact fl.mp z
        · exact hj j (by omega)
      refine gX4_stands_4 u (qN Q) (qP Q) _ p (qL Q p) (msk (qM Q p) (qL Q p)) (qDue T Q p) (qK Q p) _ hQ.1 hQ.2.1 hQ.2.2.1 hpl q5.1 (by omega) hdu h.1 h.2.1 h.2.2.1 c.1 c.2.2.1 c.2.2.2.1 c.2.2.2.2.1 (fun y => by omega) (fun y => by omega) (fun y => by omega) (fun _ z y => ?_) (fun _ z y => ?_) (fun _ z => ⟨ret_f (fun y => z (fl.mpr ((aStands_iff.mp y).2.1 p hpl))), rfl⟩)
      · have e : fnd Q (p + 1) = fnd Q p := by
          show fnd Q p ||| (if qK Q p = 0 then _ else 0) = _
          rw [if_neg y, Nat.or_zero]
        rw [← e]
        exact ih (p + 1) (by omega) (by omega) (nx z)
      · have e : fnd Q (p + 1) = fnd Q p ||| msk (qM Q p) (qL Q p) := by
          show fnd Q p ||| (if qK Q p = 0 then _ else 0) = _
          rw [if_pos y]
        have := fnd_lt hQ (n := p) (by omega)
        have := msk_q hQ hpl
        rw [orN _ (by omega) _ (by omega), ← e]
        exact ih (p + 1) (by omega) (by omega) (nx z)
  exact loop _ 0 rfl (Nat.zero_le _) (fun j hj => absurd hj (Nat.not_lt_zero j))
/-! a table is made -/
theorem lTab_t {Q : QST} {t c : Int32} : lTab Q t c = true ↔ (tOk t ∧ 1 ≤ c ∧ c ≤ 3) ∧ ¬ aAsks Q t.toNatClampNeg = true := by
  unfold tOk
  simp only [lTab, Bool.and_eq_true, decide_eq_true_eq, Bool.not_eq_true', and_assoc, Bool.not_eq_true]
theorem oneTo3 {c : Int32} (h1 : 1 ≤ c) (h3 : c ≤ 3) : ∃ k, 1 ≤ k ∧ k ≤ 3 ∧ c = nI k ∧ c.toNatClampNeg = k := by
  rcases xspl c with z | ⟨k, hk, rfl⟩
  · rw [Int32.lt_iff_toInt_lt, show (0 : Int32).toInt = 0 from by decide] at z
    rw [Int32.le_iff_toInt_le, show (1 : Int32).toInt = 1 from by decide] at h1
    omega
  · exact ⟨k, (nI_len (by decide) hk).mp h1, (nI_len hk (by decide)).mp h3, rfl, nI_nat hk⟩
theorem aTable_f {T : TBL} {Q : QST} {t c : Int32} (h : ¬ lTab Q t c = true) : aTable T Q t c = (false, T) := by
  unfold aTable
  rw [if_neg h]
theorem aTable_t {T : TBL} {Q : QST} {t c : Int32} (h : lTab Q t c = true) : ∃ k j, k < 8 ∧ t = nI k ∧ 1 ≤ j ∧ j ≤ 3 ∧ c = nI j ∧ aAsks Q k ≠ true ∧ aTable T Q t c = (true, (setT T.1 k j, setT T.2.1 k 0, T.2.2)) := by
  obtain ⟨⟨h1, h2, h3⟩, h4⟩ := lTab_t.mp h
  obtain ⟨k, hk, rfl⟩ := tOk_iff.mp h1
  obtain ⟨j, j1, j3, rfl, e⟩ := oneTo3 h2 h3
  rw [nI_nat (by omega)] at h4
  refine ⟨k, j, hk, rfl, j1, j3, rfl, h4, ?_⟩
  unfold aTable
  rw [if_pos h, nI_nat (by omega), e]
theorem aTable_TI {T : TBL} {Q : QST} (hT : TI T) (t c : Int32) : TI (aTable T Q t c).2 := by
  by_cases h : lTab Q t c = true
  · obtain ⟨k, j, hk, rfl, j1, j3, rfl, ha, e⟩ := aTable_t (T := T) h
    rw [e]
    intro s hs
    show setT T.1 k j s ≤ 3 ∧ setT T.2.1 k 0 s ≤ 40 ∧ (setT T.1 k j s = 0 → setT T.2.1 k 0 s = 0) ∧ (∀ i c, i < setT T.2.1 k 0 s → setT T.1 k j s ≤ c → c < 3 → T.2.2 s i c = 0) ∧ ∀ i j', i < j' → j' < setT T.2.1 k 0 s → rlt (T.2.2 s i) (T.2.2 s j')
    by_cases hsk : s = k
    · subst hsk
      simp only [setT_at]
      exact ⟨j3, by omega, fun _ => trivial, fun i c hi => absurd hi (Nat.not_lt_zero i), fun i j' _ hj => absurd hj (Nat.not_lt_zero j')⟩
    · simp only [setT_ne hsk]
      exact hT s hs
  · rw [aTable_f h]
    exact hT
theorem aTable_same {T : TBL} {Q : QST} (t c : Int32) {p : Nat} (hp : p < qP Q) (hk : qK Q p ≤ 1) : (aTable T Q t c).2.1 (qOf Q p) = T.1 (qOf Q p) := by
  by_cases h : lTab Q t c = true
  · obtain ⟨k, j, hk', rfl, j1, j3, rfl, ha, e⟩ := aTable_t (T := T) h
    rw [e]
    exact setT_ne (fun z => ha (aAsks_iff.mpr ⟨p, hp, hk, z⟩))
  · rw [aTable_f h]
theorem QI_T {T T' : TBL} {Q : QST} (h : QI T Q) (hs : ∀ p, p < qP Q → qK Q p ≤ 1 → T'.1 (qOf Q p) = T.1 (qOf Q p)) : QI T' Q := by
  obtain ⟨q1, q2, q3, q4, q5, q6⟩ := h
  refine ⟨q1, q2, q3, q4, fun p hp => ⟨(q5 p hp).1, fun z => ?_, (q5 p hp).2.2⟩, q6⟩
  rw [hs p hp z]
  exact (q5 p hp).2.1 z
theorem CQ_T {T T' : TBL} {Q : QST} {u : xU} (h : CQ T Q u) (hs : ∀ p, p < qP Q → qK Q p ≤ 1 → T'.1 (qOf Q p) = T.1 (qOf Q p)) : CQ T' Q u := by
  obtain ⟨q1, q2, q3, q4, q5⟩ := h
  refine ⟨q1, q2, q3, q4, fun p hp => ?_⟩
  have e : qDue T' Q p = qDue T Q p := by
    unfold qDue
    by_cases z : qK Q p ≤ 1
    · rw [if_pos z, if_pos z, hs p hp z]
    · rw [if_neg z, if_neg z]
  rw [e]
  exact q5 p hp
theorem qX9_table {u : xU} {T : TBL} {Q : QST} (hT : TI T) (hQ : QI T Q) (hC : CT T u) (h : CQ T Q u) (t c : Int32) : xC mX9_table [.ref 1, .int t, .int c] (xmm u) (pT u (.int (xb ((aTable T Q t c).1 = true))) (aTable T Q t c).2) := by
  have no : ¬ ((tOk t ∧ 1 ≤ c ∧ c ≤ 3) ∧ ¬ aAsks Q t.toNatClampNeg = true) → pT u (.int (xb ((aTable T Q t c).1 = true))) (aTable T Q t c).2 (some (.int (nI 0))) (xmm u) := fun z => by
    rw [aTable_f (fun y => z (lTab_t.mp y))]
    exact ⟨u, rfl, ret_f (fun q => by cases q), hC, frT.rf⟩
  by_cases ho : tOk t
  · obtain ⟨k, hk, rfl⟩ := tOk_iff.mp ho
    rw [nI_nat (by omega)] at no
    refine xC.of xpl9 (Nat.le_of_ble_eq_true rfl) (gX9_table_0 u k c (aAsks Q k) hk (qX4_asksOf hQ h k hk) (fun z => by omega) (fun _ z => no fun y => le_not_lt y.1.2.1 z) (fun _ z y => no fun x => le_not_lt x.1.2.2 y) (fun _ z y x => ?_) (fun _ z y x => no fun w => w.2 x))
    have hl : lTab Q (nI k) c = true := lTab_t.mpr ⟨⟨ho, not_lt_le z, not_lt_le y⟩, by rw [nI_nat (by omega)]; exact x⟩
    obtain ⟨k', j, hk', ek, j1, j3, rfl, ha, e⟩ := aTable_t (T := T) hl
    have := (nI_inj (by omega) (by omega)).mp ek
    subst this
    rw [e]
    refine xC.of xpl6 (Nat.le_of_ble_eq_true rfl) (gX6_open_0 u k _ hk ?_)
    refine gX9_table_43 _ ⟨_, rfl, ret_t rfl, fun s hs => ?_, ⟨fun x hx => by rw [wi_row (by omega), wi_row (by omega)], rfl⟩⟩
    show _ = nI (setT T.1 k j s) ∧ _ = nI (setT T.2.1 k 0 s) ∧ ∀ i c, i < setT T.2.1 k 0 s → c < 3 → _ = T.2.2 s i c
    by_cases hsk : s = k
    · subst hsk
      simp only [setT_at]
      exact ⟨by rw [wi_nek (by decide)]; exact wi_self, wi_self, fun i c hi => absurd hi (Nat.not_lt_zero i)⟩
    · simp only [setT_ne hsk]
      obtain ⟨g1, g2, g3⟩ := hC s hs
      exact ⟨by rw [wi_row (by omega), wi_row (by omega)]; exact g1, by rw [wi_row (by omega), wi_row (by omega)]; exact g2, fun i c hi hc => by rw [wi_row (by omega), wi_row (by omega)]; exact g3 i c hi hc⟩
  · have nn := no fun z => ho z.1.1
    have bad : ¬ t < 0 → ¬ 8 ≤ t → False := fun a b => ho (by
      unfold tOk
      rw [Int32.le_iff_toInt_le, show (8 : Int32).toInt = 8 from by decide] at b
      rw [Int32.lt_iff_toInt_lt, show (0 : Int32).toInt = 0 from by decide] at a
      rw [Int32.le_iff_toInt_le, Int32.le_iff_toInt_le, show (7 : Int32).toInt = 7 from by decide, show (0 : Int32).toInt = 0 from by decide]
      omega)
    exact xC.of xpl9 (Nat.le_of_ble_eq_true rfl) (gX9_table_J u t c (fun _ => nn) (fun _ _ => nn) (fun a b => (bad a b).elim) (fun a b => (bad a b).elim) (fun a b => (bad a b).elim))
def aCount (T : TBL) (Q : QST) (c d w : Int32) : Int32 := if w = nI 0 then nI (qN Q) else if w = nI 1 then nI (qP Q) else if w = nI 2 then c else if w = nI 3 then d else if w = nI 4 then xb (aStands T Q = true) else if 10 ≤ w.toNatClampNeg ∧ w.toNatClampNeg - 10 < qN Q then nI (qO Q (w.toNatClampNeg - 10)) else -1
theorem qX4_nameInOrder {u : xU} {T : TBL} {Q : QST} (hQ : QI T Q) (h : CQ T Q u) (w : Int32) : xC mX4_nameInOrder [.ref 3, .int w] (xmm u) (fun r μ' => r = some (.int (if 10 ≤ w.toNatClampNeg ∧ w.toNatClampNeg - 10 < qN Q then nI (qO Q (w.toNatClampNeg - 10)) else -1)) ∧ μ' = xmm u) := by
  have hn6 := hQ.1
  rcases xspl w with z | ⟨k, hk, rfl⟩
  · have w10 : w < 10 := by
      rw [Int32.lt_iff_toInt_lt, show (0 : Int32).toInt = 0 from by decide] at z
      rw [Int32.lt_iff_toInt_lt, show (10 : Int32).toInt = 10 from by decide]
      omega
    have e : w.toNatClampNeg = 0 := by
      rw [Int32.lt_iff_toInt_lt, show (0 : Int32).toInt = 0 from by decide] at z
      show w.toInt.toNat = 0
      omega
    rw [e]
    exact xC.of xpl4 (Nat.le_of_ble_eq_true rfl) (gX4_nameInOrder_0 u (qN Q) (qP Q) _ w hQ.1 hQ.2.1 hQ.2.2.1 h.1 h.2.1 h.2.2.1 (fun _ => ⟨rfl, rfl⟩) (fun y => absurd w10 y) (fun y => absurd w10 y))
  · rw [nI_nat hk]
    refine xC.of xpl4 (Nat.le_of_ble_eq_true rfl) (gX4_nameInOrder_M u (qN Q) (qP Q) _ k hQ.1 hQ.2.1 hQ.2.2.1 hk h.1 h.2.1 h.2.2.1 (fun z => ⟨by rw [if_neg (by omega)], rfl⟩) (fun z y => ⟨by rw [if_pos ⟨by omega, y⟩, h.2.2.2.1 _ y], rfl⟩) (fun z y => ⟨by rw [if_neg (fun x => y x.2)], rfl⟩))
theorem qX9_count {u : xU} {T : TBL} {Q : QST} (hT : TI T) (hQ : QI T Q) (h : CQ T Q u) {c d : Int32} (hc : u.1 47 1 = c) (hd : u.1 59 1 = d) (w : Int32) : xC mX9_count [.ref 1, .int w] (xmm u) (fun r μ' => r = some (.int (aCount T Q c d w)) ∧ μ' = xmm u) := by
  unfold aCount
  refine xC.of xpl9 (Nat.le_of_ble_eq_true rfl) (gX9_count_0 u w _ _ c d (aStands T Q) (qX4_stands hT hQ h) h.1 h.2.1 hc hd (fun z => ?_) (fun z y => ?_) (fun z y x => ?_) (fun z y x v => ?_) (fun z y x v s r => ?_) (fun z y x v s r => ?_) (fun z y x v s => ?_))
  · rw [if_pos z]; exact ⟨rfl, rfl⟩
  · rw [if_neg z, if_pos y]; exact ⟨rfl, rfl⟩
  · rw [if_neg z, if_neg y, if_pos x]; exact ⟨rfl, rfl⟩
  · rw [if_neg z, if_neg y, if_neg x, if_pos v]; exact ⟨rfl, rfl⟩
  · rw [if_neg z, if_neg y, if_neg x, if_neg v, if_pos s]; exact ⟨ret_f r, rfl⟩
  · rw [if_neg z, if_neg y, if_neg x, if_neg v, if_pos s]; exact ⟨ret_t r, rfl⟩
  · rw [if_neg z, if_neg y, if_neg x, if_neg v, if_neg s]
    refine (qX4_nameInOrder hQ h w).mono ?_
    rintro r μ' ⟨rfl, rfl⟩
    exact xe_ret (r := some (.int _)) dX9_count_95 trivial ⟨rfl, rfl⟩

