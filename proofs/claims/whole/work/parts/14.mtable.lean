/-! the model's tables -/
def MT (T : TBL) (u : xU) : Prop := ∀ t, t < 8 → u.1 173 t = nI (T.1 t) ∧ u.1 174 t = nI (T.2.1 t) ∧ ∀ i c, i < T.2.1 t → c < T.1 t → u.1 175 (120 * t + 3 * i + c) = T.2.2 t i c
theorem MT.keep {T : TBL} {u u' : xU} (h : MT T u) (h1 : u'.1 173 = u.1 173) (h2 : u'.1 174 = u.1 174) (h3 : u'.1 175 = u.1 175) : MT T u' := fun t ht => by
  rw [h1, h2, h3]
  exact h t ht
theorem xspl (x : Int32) : x < 0 ∨ ∃ k, k < 2147483648 ∧ x = nI k := by
  by_cases h : x < 0
  · exact Or.inl h
  · right
    have h0 : 0 ≤ x.toInt := by
      have := Int32.not_lt.mp h
      rw [Int32.le_iff_toInt_le] at this
      simpa using this
    have h1 := x.toInt_lt
    refine ⟨x.toInt.toNat, by omega, ?_⟩
    apply Int32.toInt_inj.mp
    rw [nI_toI (by omega)]
    omega

theorem gX10_lies_0 (u : xU) (a b c : Int32) {Q : Option Value → xM → Prop}  
    (k1 : a < b → Q (some (.int (nI (0)))) (xmm u))
    (k2 : ¬ a < b → c < a → Q (some (.int (nI (0)))) (xmm u))
    (k3 : ¬ a < b → ¬ c < a → Q (some (.int (nI (1)))) (xmm u)) : xE mX10_lies 0 [(0, .int (a)), (1, .int (b)), (2, .int (c))] [] (xmm u) Q := by
  refine xe_iload_n 0 dX10_lies_0 rfl rfl ?_
  refine xe_iload_n 1 dX10_lies_1 rfl rfl ?_
  refine xe_icmp_lt 14 dX10_lies_2 (by decide) (fun c1 => ?_) (fun c1 => ?_)
  · refine xe_iconst (v := nI (0)) dX10_lies_14 xc0 ?_
    exact xe_ret (r := (some (.int (nI (0))))) dX10_lies_15 (Or.inl rfl) (k1 c1)
  · refine xe_iload_n 0 dX10_lies_5 rfl rfl ?_
    refine xe_iload_n 2 dX10_lies_6 rfl rfl ?_
    refine xe_icmp_gt 14 dX10_lies_7 (by decide) (fun c2 => ?_) (fun c2 => ?_)
    · refine xe_iconst (v := nI (0)) dX10_lies_14 xc0 ?_
      exact xe_ret (r := (some (.int (nI (0))))) dX10_lies_15 (Or.inl rfl) (k2 c1 c2)
    · refine xe_iconst (v := nI (1)) dX10_lies_10 xc1 ?_
      refine xe_goto 15 dX10_lies_11 (by decide) ?_
      exact xe_ret (r := (some (.int (nI (1))))) dX10_lies_15 (Or.inr rfl) (k3 c1 c2)

theorem qX10_lies (u : xU) (a b c : Int32) : xC mX10_lies [.int a, .int b, .int c] (xmm u) (fun r μ' => r = some (.int (xb (b ≤ a ∧ a ≤ c))) ∧ μ' = xmm u) := by
  refine xC.of xpl10 (Nat.le_of_ble_eq_true rfl) (gX10_lies_0 u a b c ?_ ?_ ?_)
  · intro q
    refine ⟨?_, rfl⟩
    rw [xb_f (fun z => by have := z.1; rw [Int32.le_iff_toInt_le] at this; rw [Int32.lt_iff_toInt_lt] at q; omega)]
    rfl
  · intro q z
    refine ⟨?_, rfl⟩
    rw [xb_f (fun y => by have := y.2; rw [Int32.le_iff_toInt_le] at this; rw [Int32.lt_iff_toInt_lt] at z; omega)]
    rfl
  · intro q z
    refine ⟨?_, rfl⟩
    rw [xb_t (by rw [Int32.le_iff_toInt_le, Int32.le_iff_toInt_le]; rw [Int32.lt_iff_toInt_lt] at q z; omega)]
    rfl
theorem qX10_liesN (u : xU) (a b c : Nat) (ha : a < 2147483648) (hb : b < 2147483648) (hc : c < 2147483648) : xC mX10_lies [.int (nI a), .int (nI b), .int (nI c)] (xmm u) (fun r μ' => r = some (.int (xb (b ≤ a ∧ a ≤ c))) ∧ μ' = xmm u) := by
  have h := qX10_lies u (nI a) (nI b) (nI c)
  rw [xb_eq (show (nI b ≤ nI a ∧ nI a ≤ nI c) ↔ (b ≤ a ∧ a ≤ c) by rw [nI_len hb ha, nI_len ha hc])] at h
  exact h
theorem qX10_liesNm (u : xU) (a : Nat) (b : Nat) (hb : b < 2147483648) (ha : a < 2147483648) (c : Int32) (hc : c = -1) : xC mX10_lies [.int (nI a), .int (nI b), .int c] (xmm u) (fun r μ' => r = some (.int (xb False)) ∧ μ' = xmm u) := by
  have h := qX10_lies u (nI a) (nI b) c
  subst hc
  rw [xb_eq (show (nI b ≤ nI a ∧ nI a ≤ -1) ↔ False by
    refine ⟨fun q => ?_, fun q => q.elim⟩
    have := q.2
    rw [Int32.le_iff_toInt_le, nI_toI ha, show (-1 : Int32).toInt = -1 from by decide] at this
    omega)] at h
  exact h

theorem gX10_rank_0 (u : xU) (a b : Int32) {Q : Option Value → xM → Prop}  
    (k1 : ¬ a = b → ¬ a = ((-2147483648)) → ¬ b = ((-2147483648)) → b ≤ a → Q (some (.int (nI (1)))) (xmm u))
    (k2 : ¬ a = b → ¬ a = ((-2147483648)) → ¬ b = ((-2147483648)) → ¬ b ≤ a → Q (some (.int (-1))) (xmm u))
    (k3 : ¬ a = b → ¬ a = ((-2147483648)) → b = ((-2147483648)) → Q (some (.int (-1))) (xmm u))
    (k4 : ¬ a = b → a = ((-2147483648)) → Q (some (.int (nI (1)))) (xmm u))
    (k5 : a = b → Q (some (.int (nI (0)))) (xmm u)) : xE mX10_rank 0 [(0, .int (a)), (1, .int (b))] [] (xmm u) Q := by
  refine xe_iload_n 0 dX10_rank_0 rfl rfl ?_
  refine xe_iload_n 1 dX10_rank_1 rfl rfl ?_
  refine xe_icmp_ne 7 dX10_rank_2 (by decide) (fun c1 => ?_) (fun c1 => ?_)
  · refine xe_iload_n 0 dX10_rank_7 rfl rfl ?_
    refine xe_ldc dX10_rank_8 kX10_87 ?_
    refine xe_icmp_ne 15 dX10_rank_10 (by decide) (fun c2 => ?_) (fun c2 => ?_)
    · refine xe_iload_n 1 dX10_rank_15 rfl rfl ?_
      refine xe_ldc dX10_rank_16 kX10_87 ?_
      refine xe_icmp_ne 23 dX10_rank_18 (by decide) (fun c3 => ?_) (fun c3 => ?_)
      · refine xe_iload_n 0 dX10_rank_23 rfl rfl ?_
        refine xe_iload_n 1 dX10_rank_24 rfl rfl ?_
        refine xe_icmp_ge 32 dX10_rank_25 (by decide) (fun c4 => ?_) (fun c4 => ?_)
        · refine xe_iconst (v := nI (1)) dX10_rank_32 xc1 ?_
          exact xe_ret (r := (some (.int (nI (1))))) dX10_rank_33 trivial (k1 c1 c2 c3 c4)
        · refine xe_iconst (v := -1) dX10_rank_28 xcm1 ?_
          refine xe_goto 33 dX10_rank_29 (by decide) ?_
          exact xe_ret (r := (some (.int (-1)))) dX10_rank_33 trivial (k2 c1 c2 c3 c4)
      · refine xe_iconst (v := -1) dX10_rank_21 xcm1 ?_
        exact xe_ret (r := (some (.int (-1)))) dX10_rank_22 trivial (k3 c1 c2 c3)
    · refine xe_iconst (v := nI (1)) dX10_rank_13 xc1 ?_
      exact xe_ret (r := (some (.int (nI (1))))) dX10_rank_14 trivial (k4 c1 c2)
  · refine xe_iconst (v := nI (0)) dX10_rank_5 xc0 ?_
    exact xe_ret (r := (some (.int (nI (0))))) dX10_rank_6 trivial (k5 c1)

theorem qX10_rank (u : xU) (a b : Int32) : xC mX10_rank [.int a, .int b] (xmm u) (fun r μ' => r = some (.int (cmpK a b)) ∧ μ' = xmm u) := by
  have key : ∀ v : Int32, cmpK a b = v → (fun (r : Option Value) μ' => r = some (.int (cmpK a b)) ∧ μ' = xmm u) (some (.int v)) (xmm u) := fun v h => ⟨by rw [h], rfl⟩
  have n1 := ky_no
  have a1 := ky_hi a
  have b1 := ky_hi b
  refine xC.of xpl10 (Nat.le_of_ble_eq_true rfl) (gX10_rank_0 u a b (fun q z y x => key _ ?_) (fun q z y x => key _ ?_) (fun q z y => key _ ?_) (fun q z => key _ ?_) (fun q => key _ ?_))
  all_goals unfold cmpK
  · have e1 := ky_num z
    have e2 := ky_num y
    rw [Int32.le_iff_toInt_le] at x
    have e3 : ¬ ky a = ky b := fun h => q (ky_inj h)
    rw [if_neg (by omega), if_neg e3]
    rfl
  · have e1 := ky_num z
    have e2 := ky_num y
    rw [Int32.le_iff_toInt_le] at x
    rw [if_pos (by omega)]
  · have e1 := ky_num z
    have e2 := a.toInt_lt
    rw [y, ky_no, if_pos (by omega)]
  · have e3 : ¬ ky a = ky b := fun h => q (ky_inj h)
    rw [z] at e3 ⊢
    rw [ky_no] at e3 ⊢
    rw [if_neg (by omega), if_neg e3]
    rfl
  · rw [q, if_neg (by omega), if_pos rfl]
    rfl

theorem gX10_isTable_0 (u : xU) (t n cols : Nat) {Q : Option Value → xM → Prop} (ht : t < 8) (hcols : cols ≤ 3) (hn : n ≤ 40) (v1 : u.1 173 t = nI (cols)) (v2 : u.1 174 t = nI (n))
    (k1 : ¬ (0 ≤ t ∧ t ≤ 7) → Q (some (.int (nI (0)))) (xmm u))
    (k2 : 0 ≤ t ∧ t ≤ 7 → cols ≤ 0 → Q (some (.int (nI (0)))) (xmm u))
    (k3 : 0 ≤ t ∧ t ≤ 7 → ¬ cols ≤ 0 → Q (some (.int (nI (1)))) (xmm u)) : xE mX10_isTable 0 [(0, .ref 172), (1, .int (nI (t)))] [] (xmm u) Q := by
  refine xe_iload_n 1 dX10_isTable_0 rfl rfl ?_
  refine xe_iconst (v := nI (0)) dX10_isTable_1 xc0 ?_
  refine xe_bipush (v := nI (7)) dX10_isTable_2 xcb7 ?_
  refine xe_callS (As := [.int (nI (t)), .int (nI (0)), .int (nI (7))]) (rest := []) dX10_isTable_4 wX10_lies lX10_88 tX10_lies ⟨by decide, by decide⟩ rfl rfl (by simp [Value.category]) (xC.pure (v := .int (xb (0 ≤ t ∧ t ≤ 7))) (qX10_liesN u t 0 7 (by omega) (by omega) (by omega)) ?_)
  refine xb_if_eq 23 dX10_isTable_7 (by decide) (fun c1 => ?_) (fun c1 => ?_)
  · refine xe_iconst (v := nI (0)) dX10_isTable_23 xc0 ?_
    exact xe_ret (r := (some (.int (nI (0))))) dX10_isTable_24 (Or.inl rfl) (k1 c1)
  · refine xe_aload_n 0 dX10_isTable_10 rfl rfl ?_
    refine xr_getR (b := 173) dX10_isTable_11 fX10_7 rfl sh172 (by decide) rfl ?_
    refine xe_iload_n 1 dX10_isTable_14 rfl rfl ?_
    refine xr_iald (k := t) (v := nI (cols)) dX10_isTable_15 sh173 (by decide) (by omega) (by decide) v1 ?_
    refine xn_if_le 23 dX10_isTable_16 (by decide) (by omega) (fun c2 => ?_) (fun c2 => ?_)
    · refine xe_iconst (v := nI (0)) dX10_isTable_23 xc0 ?_
      exact xe_ret (r := (some (.int (nI (0))))) dX10_isTable_24 (Or.inl rfl) (k2 c1 c2)
    · refine xe_iconst (v := nI (1)) dX10_isTable_19 xc1 ?_
      refine xe_goto 24 dX10_isTable_20 (by decide) ?_
      exact xe_ret (r := (some (.int (nI (1))))) dX10_isTable_24 (Or.inr rfl) (k3 c1 c2)

theorem gX10_isTable_I (u : xU) (t : Int32) {Q : Option Value → xM → Prop}  
    (k1 : ¬ (0 ≤ t ∧ t ≤ 7) → Q (some (.int (nI (0)))) (xmm u))
    (k2 : 0 ≤ t ∧ t ≤ 7 → False) : xE mX10_isTable 0 [(0, .ref 172), (1, .int (t))] [] (xmm u) Q := by
  refine xe_iload_n 1 dX10_isTable_0 rfl rfl ?_
  refine xe_iconst (v := nI (0)) dX10_isTable_1 xc0 ?_
  refine xe_bipush (v := nI (7)) dX10_isTable_2 xcb7 ?_
  refine xe_callS (As := [.int (t), .int (nI (0)), .int (nI (7))]) (rest := []) dX10_isTable_4 wX10_lies lX10_88 tX10_lies ⟨by decide, by decide⟩ rfl rfl (by simp [Value.category]) (xC.pure (v := .int (xb (0 ≤ t ∧ t ≤ 7))) (qX10_lies u t (nI (0)) (nI (7))) ?_)
  refine xb_if_eq 23 dX10_isTable_7 (by decide) (fun c1 => ?_) (fun c1 => ?_)
  · refine xe_iconst (v := nI (0)) dX10_isTable_23 xc0 ?_
    exact xe_ret (r := (some (.int (nI (0))))) dX10_isTable_24 (Or.inl rfl) (k1 c1)
  · refine xe_aload_n 0 dX10_isTable_10 rfl rfl ?_
    refine xr_getR (b := 173) dX10_isTable_11 fX10_7 rfl sh172 (by decide) rfl ?_
    refine xe_iload_n 1 dX10_isTable_14 rfl rfl ?_
    exact (k2 c1).elim

theorem qX10_isTable (u : xU) (t n cols : Nat) (ht : t < 8) (hc : cols ≤ 3) (hn : n ≤ 40) (v1 : u.1 173 t = nI cols) (v2 : u.1 174 t = nI n) : xC mX10_isTable [.ref 172, .int (nI t)] (xmm u) (fun r μ' => r = some (.int (xb (0 < cols))) ∧ μ' = xmm u) := by
  refine xC.of xpl10 (Nat.le_of_ble_eq_true rfl) (gX10_isTable_0 u t n cols ht hc hn v1 v2 ?_ ?_ ?_)
  · intro q
    exact absurd ⟨Nat.zero_le _, by omega⟩ q
  · intro q z
    exact ⟨by rw [xb_f (by omega)]; rfl, rfl⟩
  · intro q z
    exact ⟨by rw [xb_t (by omega)]; rfl, rfl⟩
/-- the number is that of a table's place -/
def tOk (t : Int32) : Prop := 0 ≤ t ∧ t ≤ 7
theorem tOk_iff {t : Int32} : tOk t ↔ ∃ k, k < 8 ∧ t = nI k := by
  unfold tOk
  constructor
  · intro ⟨h1, h2⟩
    rcases xspl t with q | ⟨k, hk, rfl⟩
    · rw [Int32.lt_iff_toInt_lt] at q
      rw [Int32.le_iff_toInt_le] at h1
      omega
    · have := (nI_len hk (by decide : 7 < 2147483648)).mp h2
      exact ⟨k, by omega, rfl⟩
  · rintro ⟨k, hk, rfl⟩
    exact ⟨(nI_len (by decide : 0 < 2147483648) (by omega)).mpr (Nat.zero_le _), (nI_len (by omega) (by decide : 7 < 2147483648)).mpr (by omega)⟩
theorem qX10_isTableI (u : xU) (t : Int32) (h : ¬ tOk t) : xC mX10_isTable [.ref 172, .int t] (xmm u) (fun r μ' => r = some (.int (xb False)) ∧ μ' = xmm u) := by
  refine xC.of xpl10 (Nat.le_of_ble_eq_true rfl) (gX10_isTable_I u t (fun q => ⟨rfl, rfl⟩) (fun q => h q))

theorem gX10_cell_0 (u : xU) (t i c : Nat) {Q : Option Value → xM → Prop} (ht : t < 8) (hi : i < 40) (hc : c < 3) 
    (k1 : Q (some (.int (u.1 175 (((120 * t) + (3 * i)) + c)))) (xmm u)) : xE mX10_cell 0 [(0, .ref 172), (1, .int (nI (t))), (2, .int (nI (i))), (3, .int (nI (c)))] [] (xmm u) Q := by
  refine xe_aload_n 0 dX10_cell_0 rfl rfl ?_
  refine xr_getR (b := 175) dX10_cell_1 fX10_16 rfl sh172 (by decide) rfl ?_
  refine xe_bipush (v := nI (120)) dX10_cell_4 xcb120 ?_
  refine xe_iload_n 1 dX10_cell_6 rfl rfl ?_
  refine xn_imul dX10_cell_7 ?_
  refine xe_iconst (v := nI (3)) dX10_cell_8 xc3 ?_
  refine xe_iload_n 2 dX10_cell_9 rfl rfl ?_
  refine xn_imul dX10_cell_10 ?_
  refine xn_iadd dX10_cell_11 ?_
  refine xe_iload_n 3 dX10_cell_12 rfl rfl ?_
  refine xn_iadd dX10_cell_13 ?_
  refine xr_iald (k := ((120 * t) + (3 * i)) + c) (v := u.1 175 (((120 * t) + (3 * i)) + c)) dX10_cell_14 sh175 (by decide) (by omega) (by decide) rfl ?_
  exact xe_ret (r := (some (.int (u.1 175 (((120 * t) + (3 * i)) + c))))) dX10_cell_15 trivial (k1)

theorem qX10_cell (u : xU) (t i c : Nat) (ht : t < 8) (hi : i < 40) (hc : c < 3) : xC mX10_cell [.ref 172, .int (nI t), .int (nI i), .int (nI c)] (xmm u) (fun r μ' => r = some (.int (u.1 175 (120 * t + 3 * i + c))) ∧ μ' = xmm u) :=
  xC.of xpl10 (Nat.le_of_ble_eq_true rfl) (gX10_cell_0 u t i c ht hi hc ⟨rfl, rfl⟩)

theorem gX10_against_0 (u : xU) (t cols i : Nat) (a b c : Int32) {Q : Option Value → xM → Prop} (ht : t < 8) (hcols : cols ≤ 3) (hi : i < 40) (v1 : u.1 173 t = nI (cols))
    (k1 : xE mX10_against 3 [(0, .ref 172), (1, .int (nI (t))), (2, .int (nI (i))), (3, .int (a)), (4, .int (b)), (5, .int (c)), (6, .int (nI (0)))] [] (xmm u) Q) : xE mX10_against 0 [(0, .ref 172), (1, .int (nI (t))), (2, .int (nI (i))), (3, .int (a)), (4, .int (b)), (5, .int (c))] [] (xmm u) Q := by
  refine xe_iconst (v := nI (0)) dX10_against_0 xc0 ?_
  refine xe_istore (L2 := [(0, .ref 172), (1, .int (nI (t))), (2, .int (nI (i))), (3, .int (a)), (4, .int (b)), (5, .int (c)), (6, .int (nI (0)))]) dX10_against_1 (by decide) rfl ?_
  exact k1

theorem gX10_against_3 (u : xU) (t cols i k : Nat) (a b c : Int32) {Q : Option Value → xM → Prop} (ht : t < 8) (hcols : cols ≤ 3) (hi : i < 40) (hk : k ≤ 3) (v1 : u.1 173 t = nI (cols))
    (k1 : cols ≤ k → Q (some (.int (nI (0)))) (xmm u))
    (k2 : ¬ cols ≤ k → ¬ k = 0 → ¬ k = 1 → (cmpK (u.1 175 (120 * t + 3 * i + k)) c) = 0 → xE mX10_against 3 [(0, .ref 172), (1, .int (nI (t))), (2, .int (nI (i))), (3, .int (a)), (4, .int (b)), (5, .int (c)), (6, .int (nI (k + 1)))] [] (xmm u) Q)
    (k3 : ¬ cols ≤ k → ¬ k = 0 → ¬ k = 1 → ¬ (cmpK (u.1 175 (120 * t + 3 * i + k)) c) = 0 → Q (some (.int (cmpK (u.1 175 (120 * t + 3 * i + k)) c))) (xmm u))
    (k4 : ¬ cols ≤ k → ¬ k = 0 → k = 1 → (cmpK (u.1 175 (120 * t + 3 * i + k)) b) = 0 → xE mX10_against 3 [(0, .ref 172), (1, .int (nI (t))), (2, .int (nI (i))), (3, .int (a)), (4, .int (b)), (5, .int (c)), (6, .int (nI (k + 1)))] [] (xmm u) Q)
    (k5 : ¬ cols ≤ k → ¬ k = 0 → k = 1 → ¬ (cmpK (u.1 175 (120 * t + 3 * i + k)) b) = 0 → Q (some (.int (cmpK (u.1 175 (120 * t + 3 * i + k)) b))) (xmm u))
    (k6 : ¬ cols ≤ k → k = 0 → (cmpK (u.1 175 (120 * t + 3 * i + k)) a) = 0 → xE mX10_against 3 [(0, .ref 172), (1, .int (nI (t))), (2, .int (nI (i))), (3, .int (a)), (4, .int (b)), (5, .int (c)), (6, .int (nI (k + 1)))] [] (xmm u) Q)
    (k7 : ¬ cols ≤ k → k = 0 → ¬ (cmpK (u.1 175 (120 * t + 3 * i + k)) a) = 0 → Q (some (.int (cmpK (u.1 175 (120 * t + 3 * i + k)) a))) (xmm u)) : xE mX10_against 3 [(0, .ref 172), (1, .int (nI (t))), (2, .int (nI (i))), (3, .int (a)), (4, .int (b)), (5, .int (c)), (6, .int (nI (k)))] [] (xmm u) Q := by
  refine xe_iload 6 dX10_against_3 rfl ?_
  refine xe_aload_n 0 dX10_against_5 rfl rfl ?_
  refine xr_getR (b := 173) dX10_against_6 fX10_7 rfl sh172 (by decide) rfl ?_
  refine xe_iload_n 1 dX10_against_9 rfl rfl ?_
  refine xr_iald (k := t) (v := nI (cols)) dX10_against_10 sh173 (by decide) (by omega) (by decide) v1 ?_
  refine xn_icmp_ge 63 dX10_against_11 (by decide) (by omega) (by omega) (fun c1 => ?_) (fun c1 => ?_)
  · refine xe_iconst (v := nI (0)) dX10_against_63 xc0 ?_
    exact xe_ret (r := (some (.int (nI (0))))) dX10_against_64 trivial (k1 c1)
  · refine xe_aload_n 0 dX10_against_14 rfl rfl ?_
    refine xe_iload_n 1 dX10_against_15 rfl rfl ?_
    refine xe_iload_n 2 dX10_against_16 rfl rfl ?_
    refine xe_iload 6 dX10_against_17 rfl ?_
    refine xe_callV (As := [.int (nI (t)), .int (nI (i)), .int (nI (k))]) (rest := []) dX10_against_19 wX10_cell lX10_95 iX10_cell sX10_cell ⟨by decide, by decide⟩ sh172 rfl (xin_mm (by decide)) rfl rfl (by simp [Value.category]) (xC.pure (v := .int (u.1 175 (120 * t + 3 * i + k))) (qX10_cell u t i k (by omega) (by omega) (by omega)) ?_)
    refine xe_iload 6 dX10_against_22 rfl ?_
    refine xn_if_ne 31 dX10_against_24 (by decide) (by omega) (fun c2 => ?_) (fun c2 => ?_)
    · refine xe_iload 6 dX10_against_31 rfl ?_
      refine xe_iconst (v := nI (1)) dX10_against_33 xc1 ?_
      refine xn_icmp_ne 42 dX10_against_34 (by decide) (by omega) (by omega) (fun c3 => ?_) (fun c3 => ?_)
      · refine xe_iload 5 dX10_against_42 rfl ?_
        refine xe_callS (As := [.int (u.1 175 (120 * t + 3 * i + k)), .int (c)]) (rest := []) dX10_against_44 wX10_rank lX10_99 tX10_rank ⟨by decide, by decide⟩ rfl rfl (by simp [Value.category]) (xC.pure (v := .int (cmpK (u.1 175 (120 * t + 3 * i + k)) c)) (qX10_rank u (u.1 175 (120 * t + 3 * i + k)) c) ?_)
        refine xe_istore (L2 := [(0, .ref 172), (1, .int (nI (t))), (2, .int (nI (i))), (3, .int (a)), (4, .int (b)), (5, .int (c)), (6, .int (nI (k))), (7, .int (cmpK (u.1 175 (120 * t + 3 * i + k)) c))]) dX10_against_47 (by decide) rfl ?_
        refine xe_iload 7 dX10_against_49 rfl ?_
        refine xe_if_eq 57 dX10_against_51 (by decide) (fun c4 => ?_) (fun c4 => ?_)
        · refine xn_iinc (c := 1) (L2 := [(0, .ref 172), (1, .int (nI (t))), (2, .int (nI (i))), (3, .int (a)), (4, .int (b)), (5, .int (c)), (6, .int (nI (k + 1))), (7, .int (cmpK (u.1 175 (120 * t + 3 * i + k)) c))]) 6 dX10_against_57 rfl (by decide) rfl ?_
          refine xe_goto 3 dX10_against_60 (by decide) ?_
          refine xE.sub [0, 1, 2, 3, 4, 5, 6] rfl ?_
          exact k2 c1 c2 c3 c4
        · refine xe_iload 7 dX10_against_54 rfl ?_
          exact xe_ret (r := (some (.int (cmpK (u.1 175 (120 * t + 3 * i + k)) c)))) dX10_against_56 trivial (k3 c1 c2 c3 c4)
      · refine xe_iload 4 dX10_against_37 rfl ?_
        refine xe_goto 44 dX10_against_39 (by decide) ?_
        refine xe_callS (As := [.int (u.1 175 (120 * t + 3 * i + k)), .int (b)]) (rest := []) dX10_against_44 wX10_rank lX10_99 tX10_rank ⟨by decide, by decide⟩ rfl rfl (by simp [Value.category]) (xC.pure (v := .int (cmpK (u.1 175 (120 * t + 3 * i + k)) b)) (qX10_rank u (u.1 175 (120 * t + 3 * i + k)) b) ?_)
        refine xe_istore (L2 := [(0, .ref 172), (1, .int (nI (t))), (2, .int (nI (i))), (3, .int (a)), (4, .int (b)), (5, .int (c)), (6, .int (nI (k))), (7, .int (cmpK (u.1 175 (120 * t + 3 * i + k)) b))]) dX10_against_47 (by decide) rfl ?_
        refine xe_iload 7 dX10_against_49 rfl ?_
        refine xe_if_eq 57 dX10_against_51 (by decide) (fun c5 => ?_) (fun c5 => ?_)
        · refine xn_iinc (c := 1) (L2 := [(0, .ref 172), (1, .int (nI (t))), (2, .int (nI (i))), (3, .int (a)), (4, .int (b)), (5, .int (c)), (6, .int (nI (k + 1))), (7, .int (cmpK (u.1 175 (120 * t + 3 * i + k)) b))]) 6 dX10_against_57 rfl (by decide) rfl ?_
          refine xe_goto 3 dX10_against_60 (by decide) ?_
          refine xE.sub [0, 1, 2, 3, 4, 5, 6] rfl ?_
          exact k4 c1 c2 c3 c5
        · refine xe_iload 7 dX10_against_54 rfl ?_
          exact xe_ret (r := (some (.int (cmpK (u.1 175 (120 * t + 3 * i + k)) b)))) dX10_against_56 trivial (k5 c1 c2 c3 c5)
    · refine xe_iload_n 3 dX10_against_27 rfl rfl ?_
      refine xe_goto 44 dX10_against_28 (by decide) ?_
      refine xe_callS (As := [.int (u.1 175 (120 * t + 3 * i + k)), .int (a)]) (rest := []) dX10_against_44 wX10_rank lX10_99 tX10_rank ⟨by decide, by decide⟩ rfl rfl (by simp [Value.category]) (xC.pure (v := .int (cmpK (u.1 175 (120 * t + 3 * i + k)) a)) (qX10_rank u (u.1 175 (120 * t + 3 * i + k)) a) ?_)
      refine xe_istore (L2 := [(0, .ref 172), (1, .int (nI (t))), (2, .int (nI (i))), (3, .int (a)), (4, .int (b)), (5, .int (c)), (6, .int (nI (k))), (7, .int (cmpK (u.1 175 (120 * t + 3 * i + k)) a))]) dX10_against_47 (by decide) rfl ?_
      refine xe_iload 7 dX10_against_49 rfl ?_
      refine xe_if_eq 57 dX10_against_51 (by decide) (fun c6 => ?_) (fun c6 => ?_)
      · refine xn_iinc (c := 1) (L2 := [(0, .ref 172), (1, .int (nI (t))), (2, .int (nI (i))), (3, .int (a)), (4, .int (b)), (5, .int (c)), (6, .int (nI (k + 1))), (7, .int (cmpK (u.1 175 (120 * t + 3 * i + k)) a))]) 6 dX10_against_57 rfl (by decide) rfl ?_
        refine xe_goto 3 dX10_against_60 (by decide) ?_
        refine xE.sub [0, 1, 2, 3, 4, 5, 6] rfl ?_
        exact k6 c1 c2 c6
      · refine xe_iload 7 dX10_against_54 rfl ?_
        exact xe_ret (r := (some (.int (cmpK (u.1 175 (120 * t + 3 * i + k)) a)))) dX10_against_56 trivial (k7 c1 c2 c6)

theorem nrm_at {n k : Nat} {a b c : Int32} (h : k < n) (h3 : n ≤ 3) : nrm n a b c k = if k = 0 then a else if k = 1 then b else c := by
  unfold nrm row3
  by_cases h0 : k = 0
  · rw [if_pos h0, if_pos h0]
  · rw [if_neg h0, if_neg h0]
    by_cases h1 : k = 1
    · rw [if_pos h1, if_pos h1, if_pos (by omega)]
    · rw [if_neg h1, if_neg h1, if_pos (by omega)]
theorem rcmp_at {f g : Nat → Int32} {k : Nat} (hk : k < 3) (h : ∀ j, j < k → cmpK (f j) (g j) = 0) (hd : ¬ cmpK (f k) (g k) = 0) : rcmp f g = cmpK (f k) (g k) := by
  unfold rcmp
  rcases (by omega : k = 0 ∨ k = 1 ∨ k = 2) with rfl | rfl | rfl
  · rw [if_neg hd]
  · rw [if_pos (h 0 (by omega)), if_neg hd]
  · rw [if_pos (h 0 (by omega)), if_pos (h 1 (by omega))]
theorem rcmp_all {f g : Nat → Int32} (h : ∀ j, j < 3 → cmpK (f j) (g j) = 0) : rcmp f g = 0 := by
  unfold rcmp
  rw [if_pos (h 0 (by omega)), if_pos (h 1 (by omega)), h 2 (by omega)]
theorem against_n {u : xU} {T : TBL} (hT : TI T) {t i : Nat} (ht : t < 8) (h0 : T.1 t ≠ 0) (hi : i < T.2.1 t) (h1 : u.1 173 t = nI (T.1 t)) (h3' : ∀ c, c < T.1 t → u.1 175 (120 * t + 3 * i + c) = T.2.2 t i c) (a b c : Int32) : xC mX10_against [.ref 172, .int (nI t), .int (nI i), .int a, .int b, .int c] (xmm u) (fun r μ' => r = some (.int (rcmp (T.2.2 t i) (nrm (T.1 t) a b c))) ∧ μ' = xmm u) := by
  obtain ⟨i1, i2, i3, i4, i5⟩ := hT t ht
  refine xC.of xpl10 (Nat.le_of_ble_eq_true rfl) (gX10_against_0 u t (T.1 t) i a b c ht i1 (by omega) h1 ?_)
  have loop : ∀ d k, T.1 t - k = d → k ≤ T.1 t → (∀ j, j < k → cmpK (T.2.2 t i j) (nrm (T.1 t) a b c j) = 0) → xE mX10_against 3 [(0, .ref 172), (1, .int (nI (t))), (2, .int (nI (i))), (3, .int (a)), (4, .int (b)), (5, .int (c)), (6, .int (nI (k)))] [] (xmm u) (fun r μ' => r = some (.int (rcmp (T.2.2 t i) (nrm (T.1 t) a b c))) ∧ μ' = xmm u) := by
    intro d
    induction d with
    | zero =>
      intro k hd hk hz
      have fin : rcmp (T.2.2 t i) (nrm (T.1 t) a b c) = 0 := rcmp_all (fun j hj => by
        rcases Nat.lt_or_ge j k with q | q
        · exact hz j q
        · rw [i4 i j hi (by omega) hj, nrm_z h0 j (by omega) hj]
          rfl)
      refine gX10_against_3 u t (T.1 t) i k a b c ht i1 (by omega) (by omega) h1 (fun q => ⟨by rw [fin]; rfl, rfl⟩) ?_ ?_ ?_ ?_ ?_ ?_ <;> intro q <;> omega
    | succ d ih =>
      intro k hd hk hz
      have hx := h3' k (by omega)
      have hn : nrm (T.1 t) a b c k = if k = 0 then a else if k = 1 then b else c := nrm_at (by omega) (by omega)
      have go : cmpK (T.2.2 t i k) (nrm (T.1 t) a b c k) = 0 → xE mX10_against 3 [(0, .ref 172), (1, .int (nI (t))), (2, .int (nI (i))), (3, .int (a)), (4, .int (b)), (5, .int (c)), (6, .int (nI (k + 1)))] [] (xmm u) (fun r μ' => r = some (.int (rcmp (T.2.2 t i) (nrm (T.1 t) a b c))) ∧ μ' = xmm u) := fun e => ih (k + 1) (by omega) (by omega) (fun j hj => by
        rcases Nat.lt_or_ge j k with q | q
        · exact hz j q
        · rw [show j = k by omega]; exact e)
      have stop : ¬ cmpK (T.2.2 t i k) (nrm (T.1 t) a b c k) = 0 → (rcmp (T.2.2 t i) (nrm (T.1 t) a b c)) = cmpK (T.2.2 t i k) (nrm (T.1 t) a b c k) := fun e => rcmp_at (by omega) hz e
      refine gX10_against_3 u t (T.1 t) i k a b c ht i1 (by omega) (by omega) h1 (fun q => by omega) (fun q y x z => ?_) (fun q y x z => ?_) (fun q y x z => ?_) (fun q y x z => ?_) (fun q y z => ?_) (fun q y z => ?_) <;> rw [hx] at z
      · exact go (by rw [hn, if_neg y, if_neg x]; exact z)
      · exact ⟨by rw [hx, stop (by rw [hn, if_neg y, if_neg x]; exact z), hn, if_neg y, if_neg x], rfl⟩
      · exact go (by rw [hn, if_neg y, if_pos x]; exact z)
      · exact ⟨by rw [hx, stop (by rw [hn, if_neg y, if_pos x]; exact z), hn, if_neg y, if_pos x], rfl⟩
      · exact go (by rw [hn, if_pos y]; exact z)
      · exact ⟨by rw [hx, stop (by rw [hn, if_pos y]; exact z), hn, if_pos y], rfl⟩
  exact loop _ 0 rfl (Nat.zero_le _) (fun j hj => absurd hj (Nat.not_lt_zero j))

theorem qX10_against {u : xU} {T : TBL} (hT : TI T) (h : MT T u) (t i : Nat) (a b c : Int32) (ht : t < 8) (h0 : T.1 t ≠ 0) (hi : i < T.2.1 t) : xC mX10_against [.ref 172, .int (nI t), .int (nI i), .int a, .int b, .int c] (xmm u) (fun r μ' => r = some (.int (rcmp (T.2.2 t i) (nrm (T.1 t) a b c))) ∧ μ' = xmm u) :=
  against_n hT ht h0 hi (h t ht).1 (fun j hj => (h t ht).2.2 i j hi hj) a b c

theorem gX10_find_0 (u : xU) (t n cols : Nat) (a b c : Int32) {Q : Option Value → xM → Prop} (ht : t < 8) (hcols : cols ≤ 3) (hn : n ≤ 40) (v1 : u.1 173 t = nI (cols)) (v2 : u.1 174 t = nI (n))
    (k1 : xE mX10_find 3 [(0, .ref 172), (1, .int (nI (t))), (2, .int (a)), (3, .int (b)), (4, .int (c)), (5, .int (nI (0)))] [] (xmm u) Q) : xE mX10_find 0 [(0, .ref 172), (1, .int (nI (t))), (2, .int (a)), (3, .int (b)), (4, .int (c))] [] (xmm u) Q := by
  refine xe_iconst (v := nI (0)) dX10_find_0 xc0 ?_
  refine xe_istore (L2 := [(0, .ref 172), (1, .int (nI (t))), (2, .int (a)), (3, .int (b)), (4, .int (c)), (5, .int (nI (0)))]) dX10_find_1 (by decide) rfl ?_
  exact k1

theorem gX10_find_3 (u : xU) (t n cols : Nat) (i : Nat) (a b c : Int32) (d : Int32) {Q : Option Value → xM → Prop} (ht : t < 8) (hcols : cols ≤ 3) (hn : n ≤ 40) (hi : i ≤ 40) (hd : i < n → xC mX10_against [.ref 172, .int (nI t), .int (nI i), .int a, .int b, .int c] (xmm u) (fun r μ' => r = some (.int d) ∧ μ' = xmm u)) (v1 : u.1 173 t = nI (cols)) (v2 : u.1 174 t = nI (n))
    (k1 : n ≤ i → Q (some (.int (-1))) (xmm u))
    (k2 : ¬ n ≤ i → ¬ d = 0 → xE mX10_find 3 [(0, .ref 172), (1, .int (nI (t))), (2, .int (a)), (3, .int (b)), (4, .int (c)), (5, .int (nI (i + 1)))] [] (xmm u) Q)
    (k3 : ¬ n ≤ i → d = 0 → Q (some (.int (nI (i)))) (xmm u)) : xE mX10_find 3 [(0, .ref 172), (1, .int (nI (t))), (2, .int (a)), (3, .int (b)), (4, .int (c)), (5, .int (nI (i)))] [] (xmm u) Q := by
  refine xe_iload 5 dX10_find_3 rfl ?_
  refine xe_aload_n 0 dX10_find_5 rfl rfl ?_
  refine xr_getR (b := 174) dX10_find_6 fX10_13 rfl sh172 (by decide) rfl ?_
  refine xe_iload_n 1 dX10_find_9 rfl rfl ?_
  refine xr_iald (k := t) (v := nI (n)) dX10_find_10 sh174 (by decide) (by omega) (by decide) v2 ?_
  refine xn_icmp_ge 37 dX10_find_11 (by decide) (by omega) (by omega) (fun c1 => ?_) (fun c1 => ?_)
  · refine xe_iconst (v := -1) dX10_find_37 xcm1 ?_
    exact xe_ret (r := (some (.int (-1)))) dX10_find_38 trivial (k1 c1)
  · refine xe_aload_n 0 dX10_find_14 rfl rfl ?_
    refine xe_iload_n 1 dX10_find_15 rfl rfl ?_
    refine xe_iload 5 dX10_find_16 rfl ?_
    refine xe_iload_n 2 dX10_find_18 rfl rfl ?_
    refine xe_iload_n 3 dX10_find_19 rfl rfl ?_
    refine xe_iload 4 dX10_find_20 rfl ?_
    refine xe_callV (As := [.int (nI (t)), .int (nI (i)), .int (a), .int (b), .int (c)]) (rest := []) dX10_find_22 wX10_against lX10_103 iX10_against sX10_against ⟨by decide, by decide⟩ sh172 rfl (xin_mm (by decide)) rfl rfl (by simp [Value.category]) (xC.pure (v := .int (d)) (hd (by omega)) ?_)
    refine xe_if_ne 31 dX10_find_25 (by decide) (fun c2 => ?_) (fun c2 => ?_)
    · refine xn_iinc (c := 1) (L2 := [(0, .ref 172), (1, .int (nI (t))), (2, .int (a)), (3, .int (b)), (4, .int (c)), (5, .int (nI (i + 1)))]) 5 dX10_find_31 rfl (by decide) rfl ?_
      refine xe_goto 3 dX10_find_34 (by decide) ?_
      exact k2 c1 c2
    · refine xe_iload 5 dX10_find_28 rfl ?_
      exact xe_ret (r := (some (.int (nI (i))))) dX10_find_30 trivial (k3 c1 c2)

/-- where a row stands, or -1 -/
noncomputable def tFind (T : TBL) (t : Nat) (r : Nat → Int32) : Int32 := if tHas T t r = true then nI (tpos T t r) else -1
theorem tpos_req {T : TBL} (hT : TI T) {t i : Nat} {r : Nat → Int32} (ht : t < 8) (hi : i < T.2.1 t) (h : rcmp (T.2.2 t i) r = 0) : tpos T t r = i ∧ tHas T t r = true := by
  obtain ⟨i1, i2, i3, i4, i5⟩ := hT t ht
  have hq := rcmp_eq.mp h
  have e : tpos T t r = i := cntlt_of (by omega) (fun j hj => rlt_req (i5 j i hj hi) hq) (fun j a b => by
    rcases Nat.eq_or_lt_of_le a with q | q
    · rw [← q]; exact fun z => req_irr hq z
    · exact fun z => rlt_irr z (req_rlt (req_symm hq) (i5 i j q b)))
  exact ⟨e, by simp only [tHas, Bool.and_eq_true, decide_eq_true_eq]; rw [e]; exact ⟨hi, h⟩⟩
theorem qX10_find {u : xU} {T : TBL} (hT : TI T) (h : MT T u) (t : Nat) (a b c : Int32) (ht : t < 8) (h0 : T.1 t ≠ 0) : xC mX10_find [.ref 172, .int (nI t), .int a, .int b, .int c] (xmm u) (fun r μ' => r = some (.int (tFind T t (nrm (T.1 t) a b c))) ∧ μ' = xmm u) := by
  obtain ⟨h1, h2, h3⟩ := h t ht
  obtain ⟨i1, i2, i3, i4, i5⟩ := hT t ht
  refine xC.of xpl10 (Nat.le_of_ble_eq_true rfl) (gX10_find_0 u t (T.2.1 t) (T.1 t) a b c ht i1 i2 h1 h2 ?_)
  have loop : ∀ d i, T.2.1 t - i = d → i ≤ T.2.1 t → (∀ j, j < i → ¬ rcmp (T.2.2 t j) (nrm (T.1 t) a b c) = 0) → xE mX10_find 3 [(0, .ref 172), (1, .int (nI (t))), (2, .int (a)), (3, .int (b)), (4, .int (c)), (5, .int (nI (i)))] [] (xmm u) (fun r μ' => r = some (.int (tFind T t (nrm (T.1 t) a b c))) ∧ μ' = xmm u) := by
    intro d
    induction d with
    | zero =>
      intro i hd hi hz
      refine gX10_find_3 u t (T.2.1 t) (T.1 t) i a b c 0 ht i1 i2 (by omega) (fun q => by omega) h1 h2 (fun q => ⟨?_, rfl⟩) (fun q z => by omega) (fun q z => by omega)
      unfold tFind
      rw [if_neg]
      simp only [tHas, Bool.and_eq_true, decide_eq_true_eq]
      exact fun z => hz _ (by omega) z.2
    | succ d ih =>
      intro i hd hi hz
      refine gX10_find_3 u t (T.2.1 t) (T.1 t) i a b c _ ht i1 i2 (by omega) (fun q => qX10_against hT h t i a b c ht h0 q) h1 h2 (fun q => by omega) ?_ ?_
      all_goals intro q z
      · first | exact ih (i + 1) (by omega) (by omega) (fun j hj => by rcases Nat.lt_or_ge j i with y | y; exact hz j y; rw [show j = i by omega]; exact z) | (obtain ⟨e1, e2⟩ := tpos_req hT ht (by omega) z; exact ⟨by unfold tFind; rw [if_pos e2, e1], rfl⟩)
      · first | exact ih (i + 1) (by omega) (by omega) (fun j hj => by rcases Nat.lt_or_ge j i with y | y; exact hz j y; rw [show j = i by omega]; exact z) | (obtain ⟨e1, e2⟩ := tpos_req hT ht (by omega) z; exact ⟨by unfold tFind; rw [if_pos e2, e1], rfl⟩)
  exact loop _ 0 rfl (Nat.zero_le _) (fun j hj => absurd hj (Nat.not_lt_zero j))

