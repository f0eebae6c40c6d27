theorem gJ6_compare_7cf53_0 (u : xU) (a b : Int32) {Q : Option Value → xM → Prop}  
    (k1 : b ≤ a → ¬ a = b → Q (some (.int (nI (1)))) (xmm u))
    (k2 : b ≤ a → a = b → Q (some (.int (nI (0)))) (xmm u))
    (k3 : ¬ b ≤ a → Q (some (.int (-1))) (xmm u)) : xE mJ6_compare_7cf53 0 [(0, .int (a)), (1, .int (b))] [] (xmm u) Q := by
  refine xe_iload_n 0 dJ6_compare_7cf53_0 rfl rfl ?_
  refine xe_iload_n 1 dJ6_compare_7cf53_1 rfl rfl ?_
  refine xe_icmp_ge 9 dJ6_compare_7cf53_2 (by decide) (fun c1 => ?_) (fun c1 => ?_)
  · refine xe_iload_n 0 dJ6_compare_7cf53_9 rfl rfl ?_
    refine xe_iload_n 1 dJ6_compare_7cf53_10 rfl rfl ?_
    refine xe_icmp_ne 18 dJ6_compare_7cf53_11 (by decide) (fun c2 => ?_) (fun c2 => ?_)
    · refine xe_iconst (v := nI (1)) dJ6_compare_7cf53_18 xc1 ?_
      exact xe_ret (r := (some (.int (nI (1))))) dJ6_compare_7cf53_19 trivial (k1 c1 c2)
    · refine xe_iconst (v := nI (0)) dJ6_compare_7cf53_14 xc0 ?_
      refine xe_goto 19 dJ6_compare_7cf53_15 (by decide) ?_
      exact xe_ret (r := (some (.int (nI (0))))) dJ6_compare_7cf53_19 trivial (k2 c1 c2)
  · refine xe_iconst (v := -1) dJ6_compare_7cf53_5 xcm1 ?_
    refine xe_goto 19 dJ6_compare_7cf53_6 (by decide) ?_
    exact xe_ret (r := (some (.int (-1)))) dJ6_compare_7cf53_19 trivial (k3 c1)

/-- what Integer.compare answers -/
def cmpI (a b : Int32) : Int32 := if a < b then -1 else if a = b then 0 else 1
theorem qJ6_compare (u : xU) (a b : Int32) : xC mJ6_compare_7cf53 [.int a, .int b] (xmm u) (fun r μ' => r = some (.int (cmpI a b)) ∧ μ' = xmm u) := by
  refine xC.of xplJ6 (Nat.le_of_ble_eq_true rfl) (gJ6_compare_7cf53_0 u a b ?_ ?_ ?_) <;> (intros; refine ⟨?_, rfl⟩; simp_all [cmpI, nI_z, nI_o, Int32.not_lt, Int32.not_le])

theorem gX9_ahead_0 (u : xU) (a b : Int32) {Q : Option Value → xM → Prop}  
    (k1 : (b - 1) ≤ (a - 1) → Q (some (.int (nI (0)))) (xmm u))
    (k2 : ¬ (b - 1) ≤ (a - 1) → Q (some (.int (nI (1)))) (xmm u)) : xE mX9_ahead 0 [(0, .int (a)), (1, .int (b))] [] (xmm u) Q := by
  refine xe_iload_n 0 dX9_ahead_0 rfl rfl ?_
  refine xe_iconst (v := nI (1)) dX9_ahead_1 xc1 ?_
  refine xe_isub dX9_ahead_2 ?_
  refine xe_iload_n 1 dX9_ahead_3 rfl rfl ?_
  refine xe_iconst (v := nI (1)) dX9_ahead_4 xc1 ?_
  refine xe_isub dX9_ahead_5 ?_
  refine xe_icmp_ge 13 dX9_ahead_6 (by decide) (fun c1 => ?_) (fun c1 => ?_)
  · refine xe_iconst (v := nI (0)) dX9_ahead_13 xc0 ?_
    exact xe_ret (r := (some (.int (nI (0))))) dX9_ahead_14 (Or.inl rfl) (k1 c1)
  · refine xe_iconst (v := nI (1)) dX9_ahead_9 xc1 ?_
    refine xe_goto 14 dX9_ahead_10 (by decide) ?_
    exact xe_ret (r := (some (.int (nI (1))))) dX9_ahead_14 (Or.inr rfl) (k2 c1)

theorem gX9_inOrder_0 (u : xU) (a b : Int32) {Q : Option Value → xM → Prop}  
    (k1 : Q (some (.int (cmpI (a - 1) (b - 1)))) (xmm u)) : xE mX9_inOrder 0 [(0, .int (a)), (1, .int (b))] [] (xmm u) Q := by
  refine xe_iload_n 0 dX9_inOrder_0 rfl rfl ?_
  refine xe_iconst (v := nI (1)) dX9_inOrder_1 xc1 ?_
  refine xe_isub dX9_inOrder_2 ?_
  refine xe_iload_n 1 dX9_inOrder_3 rfl rfl ?_
  refine xe_iconst (v := nI (1)) dX9_inOrder_4 xc1 ?_
  refine xe_isub dX9_inOrder_5 ?_
  refine xe_callS (As := [.int (a - 1), .int (b - 1)]) (rest := []) dX9_inOrder_6 wJ6_compare_7cf53 lX9_235 tJ6_compare_7cf53 ⟨by decide, by decide⟩ rfl rfl (by simp [Value.category]) (xC.pure (v := .int (cmpI (a - 1) (b - 1))) (qJ6_compare u (a - 1) (b - 1)) ?_)
  exact xe_ret (r := (some (.int (cmpI (a - 1) (b - 1))))) dX9_inOrder_9 trivial (k1)

/-- the order of values: no number is behind all others -/
def ky (x : Int32) : Int := (x - 1).toInt
theorem ky_inj {a b : Int32} (h : ky a = ky b) : a = b := by
  have h1 : a - 1 = b - 1 := Int32.toInt_inj.mp h
  have h2 := congrArg (· + 1) h1
  simpa using h2
theorem ky_eq {a b : Int32} : a = b ↔ ky a = ky b := ⟨fun h => by rw [h], ky_inj⟩
theorem ky_no : ky (-2147483648) = 2147483647 := by decide
theorem ky_hi (a : Int32) : ky a ≤ 2147483647 := by have := (a - 1).toInt_lt; unfold ky; omega
theorem ky_lo (a : Int32) : -2147483648 ≤ ky a := by have := (a - 1).le_toInt; unfold ky; omega
theorem ky_num {a : Int32} (h : ¬ a = -2147483648) : ky a = a.toInt - 1 := by
  unfold ky
  have h1 := a.toInt_lt
  have h2 := a.le_toInt
  have h3 : a.toInt ≠ -2147483648 := fun q => h (Int32.toInt_inj.mp (by rw [q]; decide))
  rw [Int32.toInt_sub]
  rw [show (1 : Int32).toInt = 1 from by decide]
  exact Int.bmod_eq_of_le (by omega) (by omega)
/-- the comparison of two values -/
def cmpK (a b : Int32) : Int32 := if ky a < ky b then -1 else if ky a = ky b then 0 else 1
theorem cmpI_K (a b : Int32) : cmpI (a - 1) (b - 1) = cmpK a b := by
  unfold cmpI cmpK ky
  simp only [Int32.lt_iff_toInt_lt, ← Int32.toInt_inj]
theorem cmpK_lt {a b : Int32} : cmpK a b < 0 ↔ ky a < ky b := by
  unfold cmpK
  by_cases h : ky a < ky b
  · simp only [if_pos h, iff_true_right h]; decide
  · by_cases h2 : ky a = ky b
    · simp only [if_neg h, if_pos h2, iff_false_right h]; decide
    · simp only [if_neg h, if_neg h2, iff_false_right h]; decide
theorem cmpK_eq {a b : Int32} : cmpK a b = 0 ↔ ky a = ky b := by
  unfold cmpK
  by_cases h : ky a < ky b
  · have h2 : ¬ ky a = ky b := by omega
    simp only [if_pos h, iff_false_right h2]; decide
  · by_cases h2 : ky a = ky b
    · simp only [if_neg h, if_pos h2, iff_true_right h2]
    · simp only [if_neg h, if_neg h2, iff_false_right h2]; decide
theorem cmpK_gt {a b : Int32} : 0 < cmpK a b ↔ ky b < ky a := by
  unfold cmpK
  by_cases h : ky a < ky b
  · have h2 : ¬ ky b < ky a := by omega
    simp only [if_pos h, iff_false_right h2]; decide
  · by_cases h2 : ky a = ky b
    · have h3 : ¬ ky b < ky a := by omega
      simp only [if_neg h, if_pos h2, iff_false_right h3]; decide
    · have h3 : ky b < ky a := by omega
      simp only [if_neg h, if_neg h2, iff_true_right h3]; decide
theorem qX9_ahead (u : xU) (a b : Int32) : xC mX9_ahead [.int a, .int b] (xmm u) (fun r μ' => r = some (.int (xb (ky a < ky b))) ∧ μ' = xmm u) := by
  refine xC.of xpl9 (Nat.le_of_ble_eq_true rfl) (gX9_ahead_0 u a b ?_ ?_) <;> (intros; refine ⟨?_, rfl⟩; simp_all [xb, nI_z, nI_o, ky, Int32.lt_iff_toInt_lt, Int32.le_iff_toInt_le] <;> omega)
theorem qX9_inOrder (u : xU) (a b : Int32) : xC mX9_inOrder [.int a, .int b] (xmm u) (fun r μ' => r = some (.int (cmpK a b)) ∧ μ' = xmm u) :=
  xC.of xpl9 (Nat.le_of_ble_eq_true rfl) (gX9_inOrder_0 u a b ⟨by rw [cmpI_K], rfl⟩)

/-! rows: three values, those of no column are 0 -/
def row3 (a b c : Int32) : Nat → Int32 := fun k => if k = 0 then a else if k = 1 then b else c
def rlt (f g : Nat → Int32) : Prop := ky (f 0) < ky (g 0) ∨ (ky (f 0) = ky (g 0) ∧ (ky (f 1) < ky (g 1) ∨ (ky (f 1) = ky (g 1) ∧ ky (f 2) < ky (g 2))))
def req (f g : Nat → Int32) : Prop := ky (f 0) = ky (g 0) ∧ ky (f 1) = ky (g 1) ∧ ky (f 2) = ky (g 2)
def rcmp (f g : Nat → Int32) : Int32 := if cmpK (f 0) (g 0) = 0 then (if cmpK (f 1) (g 1) = 0 then cmpK (f 2) (g 2) else cmpK (f 1) (g 1)) else cmpK (f 0) (g 0)
theorem rcmp_lt {f g : Nat → Int32} : rcmp f g < 0 ↔ rlt f g := by
  unfold rcmp rlt
  split
  · rename_i h
    rw [cmpK_eq] at h
    split
    · rename_i h2
      rw [cmpK_eq] at h2
      rw [cmpK_lt]
      omega
    · rename_i h2
      rw [cmpK_eq] at h2
      rw [cmpK_lt]
      omega
  · rename_i h
    rw [cmpK_eq] at h
    rw [cmpK_lt]
    omega
theorem rcmp_eq {f g : Nat → Int32} : rcmp f g = 0 ↔ req f g := by
  unfold rcmp req
  split
  · rename_i h
    rw [cmpK_eq] at h
    split
    · rename_i h2
      rw [cmpK_eq] at h2
      rw [cmpK_eq]
      omega
    · rename_i h2
      rw [cmpK_eq] at h2
      rw [cmpK_eq]
      omega
  · rename_i h
    rw [cmpK_eq] at h
    rw [cmpK_eq]
    omega
theorem rcmp_gt {f g : Nat → Int32} : 0 < rcmp f g ↔ rlt g f := by
  unfold rcmp rlt
  split
  · rename_i h
    rw [cmpK_eq] at h
    split
    · rename_i h2
      rw [cmpK_eq] at h2
      rw [cmpK_gt]
      omega
    · rename_i h2
      rw [cmpK_eq] at h2
      rw [cmpK_gt]
      omega
  · rename_i h
    rw [cmpK_eq] at h
    rw [cmpK_gt]
    omega
theorem rlt_trans {f g h : Nat → Int32} (a : rlt f g) (b : rlt g h) : rlt f h := by unfold rlt at *; omega
theorem rlt_irr {f g : Nat → Int32} (a : rlt f g) (b : rlt g f) : False := by unfold rlt at *; omega
theorem rlt_req {f g h : Nat → Int32} (a : rlt f g) (b : req g h) : rlt f h := by unfold rlt req at *; omega
theorem req_rlt {f g h : Nat → Int32} (a : req f g) (b : rlt g h) : rlt f h := by unfold rlt req at *; omega
theorem req_symm {f g : Nat → Int32} (a : req f g) : req g f := by unfold req at *; omega
theorem rtri (f g : Nat → Int32) : rlt f g ∨ req f g ∨ rlt g f := by unfold rlt req; omega
theorem req_irr {f g : Nat → Int32} (a : req f g) (b : rlt f g) : False := by unfold rlt req at *; omega
/-- how many of the first n rows are ordered ahead of r -/
noncomputable def cntlt (X : Nat → Nat → Int32) (r : Nat → Int32) : Nat → Nat
  | 0 => 0
  | n + 1 => cntlt X r n + (if rcmp (X n) r < 0 then 1 else 0)
theorem cntlt_le (X : Nat → Nat → Int32) (r : Nat → Int32) : ∀ n, cntlt X r n ≤ n
  | 0 => Nat.le_refl _
  | n + 1 => by have := cntlt_le X r n; unfold cntlt; split <;> omega
theorem cntlt_of {X : Nat → Nat → Int32} {r : Nat → Int32} {p : Nat} : ∀ {n : Nat}, p ≤ n → (∀ i, i < p → rlt (X i) r) → (∀ i, p ≤ i → i < n → ¬ rlt (X i) r) → cntlt X r n = p
  | 0, h, _, _ => by unfold cntlt; omega
  | n + 1, h, h1, h2 => by
    unfold cntlt
    by_cases hp : p = n + 1
    · subst hp
      rw [cntlt_of (p := n) (Nat.le_refl _) (fun i hi => h1 i (by omega)) (fun i a b => absurd a (by omega)), if_pos (rcmp_lt.mpr (h1 n (by omega)))]
    · rw [cntlt_of (p := p) (by omega) h1 (fun i a b => h2 i a (by omega)), if_neg (fun q => h2 n (by omega) (by omega) (rcmp_lt.mp q)), Nat.add_zero]
theorem cntlt_sorted {X : Nat → Nat → Int32} {r : Nat → Int32} : ∀ {n : Nat}, (∀ i j, i < j → j < n → rlt (X i) (X j)) → (∀ i, i < cntlt X r n → rlt (X i) r) ∧ ∀ i, cntlt X r n ≤ i → i < n → ¬ rlt (X i) r
  | 0, _ => ⟨fun i h => by unfold cntlt at h; omega, fun i _ h => by omega⟩
  | n + 1, hs => by
    obtain ⟨h1, h2⟩ := cntlt_sorted (n := n) (r := r) (fun i j a b => hs i j a (by omega))
    have hle := cntlt_le X r n
    unfold cntlt
    by_cases hn : rcmp (X n) r < 0
    · rw [if_pos hn]
      rw [rcmp_lt] at hn
      have hall : ∀ i, i < n → rlt (X i) r := fun i hi => rlt_trans (hs i n hi (by omega)) hn
      have hc : cntlt X r n = n := by
        rcases Nat.lt_or_ge (cntlt X r n) n with q | q
        · exact absurd (hall _ q) (h2 _ (Nat.le_refl _) q)
        · omega
      rw [hc]
      refine ⟨fun i hi => ?_, fun i a b => by omega⟩
      rcases Nat.lt_or_ge i n with q | q
      · exact hall i q
      · rw [show i = n by omega]; exact hn
    · rw [if_neg hn]
      rw [rcmp_lt] at hn
      refine ⟨fun i hi => h1 i (by omega), fun i a b => ?_⟩
      rcases Nat.lt_or_ge i n with q | q
      · exact h2 i (by omega) q
      · rw [show i = n by omega]; exact hn
/-! the tables: columns, how many rows, the rows -/
abbrev TBL : Type := (Nat → Nat) × (Nat → Nat) × (Nat → Nat → Nat → Int32)
def TI (T : TBL) : Prop := ∀ t, t < 8 → T.1 t ≤ 3 ∧ T.2.1 t ≤ 40 ∧ (T.1 t = 0 → T.2.1 t = 0) ∧ (∀ i c, i < T.2.1 t → T.1 t ≤ c → c < 3 → T.2.2 t i c = 0) ∧ ∀ i j, i < j → j < T.2.1 t → rlt (T.2.2 t i) (T.2.2 t j)
/-- the class's tables -/
def CT (T : TBL) (u : xU) : Prop := ∀ t, t < 8 → u.1 (156 + 2 * t) 0 = nI (T.1 t) ∧ u.1 (156 + 2 * t) 1 = nI (T.2.1 t) ∧ ∀ i c, i < T.2.1 t → c < 3 → u.1 (157 + 2 * t) (i * 3 + c) = T.2.2 t i c
theorem CT.keep {T : TBL} {u u' : xU} (h : CT T u) (hf : ∀ a, 156 ≤ a → a < 172 → u'.1 a = u.1 a) : CT T u' := fun t ht => by
  obtain ⟨h1, h2, h3⟩ := h t ht
  rw [hf _ (by omega) (by omega), hf _ (by omega) (by omega)]
  exact ⟨h1, h2, h3⟩

theorem gX6_cell_0 (u : xU) (t n cols : Nat) (i c : Nat) {Q : Option Value → xM → Prop} (ht : t < 8) (hcols : cols ≤ 3) (hn : n ≤ 40) (hi : i < 2147483648) (hc : c < 2147483648) (v1 : u.1 (156 + 2 * t) 0 = nI (cols)) (v2 : u.1 (156 + 2 * t) 1 = nI (n))
    (k1 : n ≤ i → Q (some (.int (nI (0)))) (xmm u))
    (k2 : ¬ n ≤ i → c < cols → Q (some (.int (u.1 (157 + 2 * t) ((i * 3) + c)))) (xmm u))
    (k3 : ¬ n ≤ i → ¬ c < cols → Q (some (.int (nI (0)))) (xmm u)) : xE mX6_cell 0 [(0, .ref (156 + 2 * t)), (1, .int (nI (i))), (2, .int (nI (c)))] [] (xmm u) Q := by
  refine xe_iload_n 1 dX6_cell_0 rfl rfl ?_
  refine xn_if_lt 24 dX6_cell_1 (by decide) (by omega) (fun q => absurd q (by omega)) (fun _ => ?_)
  refine xe_iload_n 1 dX6_cell_4 rfl rfl ?_
  refine xe_aload_n 0 dX6_cell_5 rfl rfl ?_
  refine xr_getI (v := nI (n)) dX6_cell_6 fX6_19 (shT _ (by omega)) (by omega) v2 ?_
  refine xn_icmp_ge 24 dX6_cell_9 (by decide) (by omega) (by omega) (fun c1 => ?_) (fun c1 => ?_)
  · refine xe_iconst (v := nI (0)) dX6_cell_24 xc0 ?_
    exact xe_ret (r := (some (.int (nI (0))))) dX6_cell_25 trivial (k1 c1)
  · refine xe_iload_n 2 dX6_cell_12 rfl rfl ?_
    refine xn_if_lt 24 dX6_cell_13 (by decide) (by omega) (fun q => absurd q (by omega)) (fun _ => ?_)
    refine xe_iload_n 2 dX6_cell_16 rfl rfl ?_
    refine xe_aload_n 0 dX6_cell_17 rfl rfl ?_
    refine xr_getI (v := nI (cols)) dX6_cell_18 fX6_15 (shT _ (by omega)) (by omega) v1 ?_
    refine xn_icmp_lt 26 dX6_cell_21 (by decide) (by omega) (by omega) (fun c2 => ?_) (fun c2 => ?_)
    · refine xe_aload_n 0 dX6_cell_26 rfl rfl ?_
      refine xr_getR (b := (157 + 2 * t)) dX6_cell_27 fX6_9 rfl (shT _ (by omega)) (by omega) (rT (by omega)) ?_
      refine xe_iload_n 1 dX6_cell_30 rfl rfl ?_
      refine xe_iconst (v := nI (3)) dX6_cell_31 xc3 ?_
      refine xn_imul dX6_cell_32 ?_
      refine xe_iload_n 2 dX6_cell_33 rfl rfl ?_
      refine xn_iadd dX6_cell_34 ?_
      refine xr_iald (k := (i * 3) + c) (v := u.1 (157 + 2 * t) ((i * 3) + c)) dX6_cell_35 (shTC _ (by omega)) (by omega) (by omega) (by decide) rfl ?_
      exact xe_ret (r := (some (.int (u.1 (157 + 2 * t) ((i * 3) + c))))) dX6_cell_36 trivial (k2 c1 c2)
    · refine xe_iconst (v := nI (0)) dX6_cell_24 xc0 ?_
      exact xe_ret (r := (some (.int (nI (0))))) dX6_cell_25 trivial (k3 c1 c2)

theorem gX6_inOrderWith_0 (u : xU) (t i : Nat) (a b c : Int32) {Q : Option Value → xM → Prop} (ht : t < 8) (hi : i < 40) 
    (k1 : (cmpK (u.1 (157 + 2 * t) (i * 3)) a) = 0 → (cmpK (u.1 (157 + 2 * t) ((i * 3) + 1)) b) = 0 → Q (some (.int (cmpK (u.1 (157 + 2 * t) ((i * 3) + 2)) c))) (xmm u))
    (k2 : (cmpK (u.1 (157 + 2 * t) (i * 3)) a) = 0 → ¬ (cmpK (u.1 (157 + 2 * t) ((i * 3) + 1)) b) = 0 → Q (some (.int (cmpK (u.1 (157 + 2 * t) ((i * 3) + 1)) b))) (xmm u))
    (k3 : ¬ (cmpK (u.1 (157 + 2 * t) (i * 3)) a) = 0 → Q (some (.int (cmpK (u.1 (157 + 2 * t) (i * 3)) a))) (xmm u)) : xE mX6_inOrderWith 0 [(0, .ref (156 + 2 * t)), (1, .int (nI (i))), (2, .int (a)), (3, .int (b)), (4, .int (c))] [] (xmm u) Q := by
  refine xe_iload_n 1 dX6_inOrderWith_0 rfl rfl ?_
  refine xe_iconst (v := nI (3)) dX6_inOrderWith_1 xc3 ?_
  refine xn_imul dX6_inOrderWith_2 ?_
  refine xe_istore (L2 := [(0, .ref (156 + 2 * t)), (1, .int (nI (i))), (2, .int (a)), (3, .int (b)), (4, .int (c)), (5, .int (nI (i * 3)))]) dX6_inOrderWith_3 (by decide) rfl ?_
  refine xe_aload_n 0 dX6_inOrderWith_5 rfl rfl ?_
  refine xr_getR (b := (157 + 2 * t)) dX6_inOrderWith_6 fX6_9 rfl (shT _ (by omega)) (by omega) (rT (by omega)) ?_
  refine xe_iload 5 dX6_inOrderWith_9 rfl ?_
  refine xr_iald (k := i * 3) (v := u.1 (157 + 2 * t) (i * 3)) dX6_inOrderWith_11 (shTC _ (by omega)) (by omega) (by omega) (by decide) rfl ?_
  refine xe_iload_n 2 dX6_inOrderWith_12 rfl rfl ?_
  refine xe_callSN (As := [.int (u.1 (157 + 2 * t) (i * 3)), .int (a)]) (rest := []) dX6_inOrderWith_13 wX9_inOrder lX6_44 tX9_inOrder ⟨by decide, by decide⟩ rfl rfl (by simp [Value.category]) (xC.pure (v := .int (cmpK (u.1 (157 + 2 * t) (i * 3)) a)) (qX9_inOrder u (u.1 (157 + 2 * t) (i * 3)) a) ?_)
  refine xe_istore (L2 := [(0, .ref (156 + 2 * t)), (1, .int (nI (i))), (2, .int (a)), (3, .int (b)), (4, .int (c)), (5, .int (nI (i * 3))), (6, .int (cmpK (u.1 (157 + 2 * t) (i * 3)) a))]) dX6_inOrderWith_16 (by decide) rfl ?_
  refine xe_iload 6 dX6_inOrderWith_18 rfl ?_
  refine xe_if_eq 26 dX6_inOrderWith_20 (by decide) (fun c1 => ?_) (fun c1 => ?_)
  · refine xe_aload_n 0 dX6_inOrderWith_26 rfl rfl ?_
    refine xr_getR (b := (157 + 2 * t)) dX6_inOrderWith_27 fX6_9 rfl (shT _ (by omega)) (by omega) (rT (by omega)) ?_
    refine xe_iload 5 dX6_inOrderWith_30 rfl ?_
    refine xe_iconst (v := nI (1)) dX6_inOrderWith_32 xc1 ?_
    refine xn_iadd dX6_inOrderWith_33 ?_
    refine xr_iald (k := (i * 3) + 1) (v := u.1 (157 + 2 * t) ((i * 3) + 1)) dX6_inOrderWith_34 (shTC _ (by omega)) (by omega) (by omega) (by decide) rfl ?_
    refine xe_iload_n 3 dX6_inOrderWith_35 rfl rfl ?_
    refine xe_callSN (As := [.int (u.1 (157 + 2 * t) ((i * 3) + 1)), .int (b)]) (rest := []) dX6_inOrderWith_36 wX9_inOrder lX6_44 tX9_inOrder ⟨by decide, by decide⟩ rfl rfl (by simp [Value.category]) (xC.pure (v := .int (cmpK (u.1 (157 + 2 * t) ((i * 3) + 1)) b)) (qX9_inOrder u (u.1 (157 + 2 * t) ((i * 3) + 1)) b) ?_)
    refine xe_istore (L2 := [(0, .ref (156 + 2 * t)), (1, .int (nI (i))), (2, .int (a)), (3, .int (b)), (4, .int (c)), (5, .int (nI (i * 3))), (6, .int (cmpK (u.1 (157 + 2 * t) (i * 3)) a)), (7, .int (cmpK (u.1 (157 + 2 * t) ((i * 3) + 1)) b))]) dX6_inOrderWith_39 (by decide) rfl ?_
    refine xe_iload 7 dX6_inOrderWith_41 rfl ?_
    refine xe_if_eq 51 dX6_inOrderWith_43 (by decide) (fun c2 => ?_) (fun c2 => ?_)
    · refine xe_aload_n 0 dX6_inOrderWith_51 rfl rfl ?_
      refine xr_getR (b := (157 + 2 * t)) dX6_inOrderWith_52 fX6_9 rfl (shT _ (by omega)) (by omega) (rT (by omega)) ?_
      refine xe_iload 5 dX6_inOrderWith_55 rfl ?_
      refine xe_iconst (v := nI (2)) dX6_inOrderWith_57 xc2 ?_
      refine xn_iadd dX6_inOrderWith_58 ?_
      refine xr_iald (k := (i * 3) + 2) (v := u.1 (157 + 2 * t) ((i * 3) + 2)) dX6_inOrderWith_59 (shTC _ (by omega)) (by omega) (by omega) (by decide) rfl ?_
      refine xe_iload 4 dX6_inOrderWith_60 rfl ?_
      refine xe_callSN (As := [.int (u.1 (157 + 2 * t) ((i * 3) + 2)), .int (c)]) (rest := []) dX6_inOrderWith_62 wX9_inOrder lX6_44 tX9_inOrder ⟨by decide, by decide⟩ rfl rfl (by simp [Value.category]) (xC.pure (v := .int (cmpK (u.1 (157 + 2 * t) ((i * 3) + 2)) c)) (qX9_inOrder u (u.1 (157 + 2 * t) ((i * 3) + 2)) c) ?_)
      exact xe_ret (r := (some (.int (cmpK (u.1 (157 + 2 * t) ((i * 3) + 2)) c)))) dX6_inOrderWith_65 trivial (k1 c1 c2)
    · refine xe_iload 7 dX6_inOrderWith_46 rfl ?_
      refine xe_goto 65 dX6_inOrderWith_48 (by decide) ?_
      exact xe_ret (r := (some (.int (cmpK (u.1 (157 + 2 * t) ((i * 3) + 1)) b)))) dX6_inOrderWith_65 trivial (k2 c1 c2)
  · refine xe_iload 6 dX6_inOrderWith_23 rfl ?_
    exact xe_ret (r := (some (.int (cmpK (u.1 (157 + 2 * t) (i * 3)) a)))) dX6_inOrderWith_25 trivial (k3 c1)

theorem qX6_inOrderWith (u : xU) (t i : Nat) (a b c : Int32) (ht : t < 8) (hi : i < 40) : xC mX6_inOrderWith [.ref (156 + 2 * t), .int (nI i), .int a, .int b, .int c] (xmm u) (fun r μ' => r = some (.int (rcmp (fun j => u.1 (157 + 2 * t) (i * 3 + j)) (row3 a b c))) ∧ μ' = xmm u) := by
  refine xC.of xpl6 (Nat.le_of_ble_eq_true rfl) (gX6_inOrderWith_0 u t i a b c ht hi ?_ ?_ ?_) <;> (intros; refine ⟨?_, rfl⟩; simp_all [rcmp, row3])

theorem gX6_placeFor_0 (u : xU) (t n cols : Nat) (a b c : Int32) {Q : Option Value → xM → Prop} (ht : t < 8) (hcols : cols ≤ 3) (hn : n ≤ 40) (v1 : u.1 (156 + 2 * t) 0 = nI (cols)) (v2 : u.1 (156 + 2 * t) 1 = nI (n))
    (k1 : xE mX6_placeFor 9 [(0, .ref (156 + 2 * t)), (1, .int (a)), (2, .int (b)), (3, .int (c)), (4, .int (nI (0))), (5, .int (nI (n)))] [] (xmm u) Q) : xE mX6_placeFor 0 [(0, .ref (156 + 2 * t)), (1, .int (a)), (2, .int (b)), (3, .int (c))] [] (xmm u) Q := by
  refine xe_iconst (v := nI (0)) dX6_placeFor_0 xc0 ?_
  refine xe_istore (L2 := [(0, .ref (156 + 2 * t)), (1, .int (a)), (2, .int (b)), (3, .int (c)), (4, .int (nI (0)))]) dX6_placeFor_1 (by decide) rfl ?_
  refine xe_aload_n 0 dX6_placeFor_3 rfl rfl ?_
  refine xr_getI (v := nI (n)) dX6_placeFor_4 fX6_19 (shT _ (by omega)) (by omega) v2 ?_
  refine xe_istore (L2 := [(0, .ref (156 + 2 * t)), (1, .int (a)), (2, .int (b)), (3, .int (c)), (4, .int (nI (0))), (5, .int (nI (n)))]) dX6_placeFor_7 (by decide) rfl ?_
  exact k1

theorem gX6_placeFor_9 (u : xU) (t lo hi : Nat) (a b c : Int32) {Q : Option Value → xM → Prop} (ht : t < 8) (hlo : lo ≤ 40) (hhi : hi ≤ 40) 
    (k1 : hi ≤ lo → Q (some (.int (nI (lo)))) (xmm u))
    (k2 : ¬ hi ≤ lo → 0 ≤ (rcmp (fun j => u.1 (157 + 2 * t) (((lo + hi) / 2) * 3 + j)) (row3 a b c)) → xE mX6_placeFor 9 [(0, .ref (156 + 2 * t)), (1, .int (a)), (2, .int (b)), (3, .int (c)), (4, .int (nI (lo))), (5, .int (nI ((lo + hi) / 2)))] [] (xmm u) Q)
    (k3 : ¬ hi ≤ lo → ¬ 0 ≤ (rcmp (fun j => u.1 (157 + 2 * t) (((lo + hi) / 2) * 3 + j)) (row3 a b c)) → xE mX6_placeFor 9 [(0, .ref (156 + 2 * t)), (1, .int (a)), (2, .int (b)), (3, .int (c)), (4, .int (nI (((lo + hi) / 2) + 1))), (5, .int (nI (hi)))] [] (xmm u) Q) : xE mX6_placeFor 9 [(0, .ref (156 + 2 * t)), (1, .int (a)), (2, .int (b)), (3, .int (c)), (4, .int (nI (lo))), (5, .int (nI (hi)))] [] (xmm u) Q := by
  refine xe_iload 4 dX6_placeFor_9 rfl ?_
  refine xe_iload 5 dX6_placeFor_11 rfl ?_
  refine xn_icmp_ge 53 dX6_placeFor_13 (by decide) (by omega) (by omega) (fun c1 => ?_) (fun c1 => ?_)
  · refine xe_iload 4 dX6_placeFor_53 rfl ?_
    exact xe_ret (r := (some (.int (nI (lo))))) dX6_placeFor_55 trivial (k1 c1)
  · refine xe_iload 4 dX6_placeFor_16 rfl ?_
    refine xe_iload 5 dX6_placeFor_18 rfl ?_
    refine xn_iadd dX6_placeFor_20 ?_
    refine xe_iconst (v := nI (1)) dX6_placeFor_21 xc1 ?_
    refine xn_half dX6_placeFor_22 (by omega) ?_
    refine xe_istore (L2 := [(0, .ref (156 + 2 * t)), (1, .int (a)), (2, .int (b)), (3, .int (c)), (4, .int (nI (lo))), (5, .int (nI (hi))), (6, .int (nI ((lo + hi) / 2)))]) dX6_placeFor_23 (by decide) rfl ?_
    refine xe_aload_n 0 dX6_placeFor_25 rfl rfl ?_
    refine xe_iload 6 dX6_placeFor_26 rfl ?_
    refine xe_iload_n 1 dX6_placeFor_28 rfl rfl ?_
    refine xe_iload_n 2 dX6_placeFor_29 rfl rfl ?_
    refine xe_iload_n 3 dX6_placeFor_30 rfl rfl ?_
    refine xe_callV (As := [.int (nI ((lo + hi) / 2)), .int (a), .int (b), .int (c)]) (rest := []) dX6_placeFor_31 wX6_inOrderWith lX6_40 iX6_inOrderWith sX6_inOrderWith ⟨by decide, by decide⟩ (shT _ (by omega)) rfl (xin_mm (by omega)) rfl rfl (by simp [Value.category]) (xC.pure (v := .int (rcmp (fun j => u.1 (157 + 2 * t) (((lo + hi) / 2) * 3 + j)) (row3 a b c))) (qX6_inOrderWith u t ((lo + hi) / 2) a b c (by omega) (by omega)) ?_)
    refine xe_if_ge 46 dX6_placeFor_34 (by decide) (fun c2 => ?_) (fun c2 => ?_)
    · refine xe_iload 6 dX6_placeFor_46 rfl ?_
      refine xe_istore (L2 := [(0, .ref (156 + 2 * t)), (1, .int (a)), (2, .int (b)), (3, .int (c)), (4, .int (nI (lo))), (5, .int (nI ((lo + hi) / 2))), (6, .int (nI ((lo + hi) / 2)))]) dX6_placeFor_48 (by decide) rfl ?_
      refine xe_goto 9 dX6_placeFor_50 (by decide) ?_
      refine xE.sub [0, 1, 2, 3, 4, 5] rfl ?_
      exact k2 c1 c2
    · refine xe_iload 6 dX6_placeFor_37 rfl ?_
      refine xe_iconst (v := nI (1)) dX6_placeFor_39 xc1 ?_
      refine xn_iadd dX6_placeFor_40 ?_
      refine xe_istore (L2 := [(0, .ref (156 + 2 * t)), (1, .int (a)), (2, .int (b)), (3, .int (c)), (4, .int (nI (((lo + hi) / 2) + 1))), (5, .int (nI (hi))), (6, .int (nI ((lo + hi) / 2)))]) dX6_placeFor_41 (by decide) rfl ?_
      refine xe_goto 50 dX6_placeFor_43 (by decide) ?_
      refine xe_goto 9 dX6_placeFor_50 (by decide) ?_
      refine xE.sub [0, 1, 2, 3, 4, 5] rfl ?_
      exact k3 c1 c2

theorem row_eq {u : xU} {T : TBL} (h : CT T u) {t i : Nat} (ht : t < 8) (hi : i < T.2.1 t) (g : Nat → Int32) : rcmp (fun j => u.1 (157 + 2 * t) (i * 3 + j)) g = rcmp (T.2.2 t i) g := by
  obtain ⟨-, -, h3⟩ := h t ht
  unfold rcmp
  simp only [h3 i 0 hi (by omega), h3 i 1 hi (by omega), h3 i 2 hi (by omega)]
theorem qX6_placeFor {u : xU} {T : TBL} (hT : TI T) (h : CT T u) (t : Nat) (a b c : Int32) (ht : t < 8) : xC mX6_placeFor [.ref (156 + 2 * t), .int a, .int b, .int c] (xmm u) (fun r μ' => r = some (.int (nI (cntlt (T.2.2 t) (row3 a b c) (T.2.1 t)))) ∧ μ' = xmm u) := by
  obtain ⟨h1, h2, h3⟩ := h t ht
  obtain ⟨i1, i2, i3, i4, i5⟩ := hT t ht
  obtain ⟨s1, s2⟩ := cntlt_sorted (r := row3 a b c) i5
  have sle := cntlt_le (T.2.2 t) (row3 a b c) (T.2.1 t)
  generalize hp : cntlt (T.2.2 t) (row3 a b c) (T.2.1 t) = p at s1 s2 sle
  refine xC.of xpl6 (Nat.le_of_ble_eq_true rfl) (gX6_placeFor_0 u t (T.2.1 t) (T.1 t) a b c ht i1 i2 h1 h2 ?_)
  have loop : ∀ (d lo hi : Nat), hi - lo ≤ d → lo ≤ p → p ≤ hi → hi ≤ T.2.1 t → xE mX6_placeFor 9 [(0, .ref (156 + 2 * t)), (1, .int (a)), (2, .int (b)), (3, .int (c)), (4, .int (nI (lo))), (5, .int (nI (hi)))] [] (xmm u) (fun r μ' => r = some (.int (nI p)) ∧ μ' = xmm u) := by
    intro d
    induction d with
    | zero =>
      intro lo hi hd hlo hhi hle
      refine gX6_placeFor_9 u t lo hi a b c ht (by omega) (by omega) (fun _ => ⟨by rw [show lo = p by omega], rfl⟩) (fun q _ => by omega) (fun q _ => by omega)
    | succ d ih =>
      intro lo hi hd hlo hhi hle
      refine gX6_placeFor_9 u t lo hi a b c ht (by omega) (by omega) (fun _ => ⟨by rw [show lo = p by omega], rfl⟩) (fun q z => ?_) (fun q z => ?_)
      all_goals rw [row_eq h ht (by omega)] at z
      · refine ih _ _ (by omega) hlo ?_ (by omega)
        rcases Nat.lt_or_ge ((lo + hi) / 2) p with y | y
        · have := rcmp_lt.mpr (s1 _ y)
          simp_all [Int32.not_lt]
          exact absurd this (by simpa [nI_z, Int32.not_lt] using z)
        · exact y
      · refine ih _ _ (by omega) ?_ hhi hle
        rcases Nat.lt_or_ge ((lo + hi) / 2) p with y | y
        · omega
        · exact absurd (rcmp_lt.mp (by simpa [nI_z, Int32.not_le] using z)) (s2 _ y (by omega))
  exact loop _ 0 (T.2.1 t) (Nat.le_refl _) (Nat.zero_le _) sle (Nat.le_refl _)

