theorem qX6_cellV (u : xU) (t n cols i c : Nat) (x : Int32) (ht : t < 8) (hcols : cols ≤ 3) (hn : n ≤ 40) (hi : i < n) (hc : c < cols) (v1 : u.1 (156 + 2 * t) 0 = nI cols) (v2 : u.1 (156 + 2 * t) 1 = nI n) (v3 : u.1 (157 + 2 * t) (i * 3 + c) = x) : xC mX6_cell [.ref (156 + 2 * t), .int (nI i), .int (nI c)] (xmm u) (fun r μ' => r = some (.int x) ∧ μ' = xmm u) :=
  xC.of xpl6 (Nat.le_of_ble_eq_true rfl) (gX6_cell_0 u t n cols i c ht hcols hn (by omega) (by omega) v1 v2 (fun q => by omega) (fun _ _ => ⟨by rw [v3], rfl⟩) (fun _ q => by omega))
/-! rings of three -/
def cntB (f : Nat → Bool) : Nat → Nat
  | 0 => 0
  | n + 1 => cntB f n + if f n = true then 1 else 0
def rI (ok : Nat → Nat → Bool) (n : Nat) : Nat → Nat
  | 0 => 0
  | i + 1 => rI ok n i + cntB (ok i) n
theorem cntB_le {f : Nat → Bool} : ∀ {n : Nat}, cntB f n ≤ n
  | 0 => Nat.le_refl 0
  | n + 1 => by
    have := cntB_le (f := f) (n := n)
    unfold cntB
    split <;> omega
theorem cntB_mono {f : Nat → Bool} {a : Nat} : ∀ {b : Nat}, a ≤ b → cntB f a ≤ cntB f b
  | 0, h => by
    have : a = 0 := by omega
    subst this
    exact Nat.le_refl _
  | b + 1, h => by
    by_cases e : a = b + 1
    · subst e; exact Nat.le_refl _
    · have := cntB_mono (f := f) (a := a) (b := b) (by omega)
      show _ ≤ cntB f b + _
      omega
theorem cntB_t {f : Nat → Bool} {n : Nat} (h : f n = true) : cntB f (n + 1) = cntB f n + 1 := by
  show cntB f n + (if f n = true then 1 else 0) = _
  rw [if_pos h]
theorem cntB_f {f : Nat → Bool} {n : Nat} (h : ¬ f n = true) : cntB f (n + 1) = cntB f n := by
  show cntB f n + (if f n = true then 1 else 0) = _
  rw [if_neg h]
  rfl
theorem cntB_zero {f : Nat → Bool} : ∀ {n : Nat}, (∀ i, i < n → ¬ f i = true) → cntB f n = 0
  | 0, _ => rfl
  | n + 1, h => by rw [cntB_f (h n (by omega)), cntB_zero (fun i hi => h i (by omega))]
theorem rI_le {ok : Nat → Nat → Bool} {n : Nat} (hn : n ≤ 40) : ∀ {i : Nat}, rI ok n i ≤ 40 * i
  | 0 => Nat.le_refl 0
  | i + 1 => by
    have := rI_le (ok := ok) (n := n) hn (i := i)
    have := cntB_le (f := ok i) (n := n)
    show rI ok n i + cntB (ok i) n ≤ _
    omega
theorem rI_mono {ok : Nat → Nat → Bool} {n a : Nat} : ∀ {b : Nat}, a ≤ b → rI ok n a ≤ rI ok n b
  | 0, h => by
    have : a = 0 := by omega
    subst this
    exact Nat.le_refl _
  | b + 1, h => by
    by_cases e : a = b + 1
    · subst e; exact Nat.le_refl _
    · have := rI_mono (ok := ok) (n := n) (a := a) (b := b) (by omega)
      show _ ≤ rI ok n b + _
      omega
/-- the r-th of the pairs that are well -/
def rgP (ok : Nat → Nat → Bool) (n r i j : Nat) : Prop := i < n ∧ j < n ∧ ok i j = true ∧ rI ok n i + cntB (ok i) j = r
theorem rgP_lt {ok : Nat → Nat → Bool} {n r i j : Nat} (h : rgP ok n r i j) : r < rI ok n (i + 1) := by
  obtain ⟨h1, h2, h3, h4⟩ := h
  have a := cntB_t (f := ok i) (n := j) h3
  have b := cntB_mono (f := ok i) (a := j + 1) (b := n) (by omega)
  show r < rI ok n i + cntB (ok i) n
  omega
theorem rgP_tot {ok : Nat → Nat → Bool} {n r i j : Nat} (h : rgP ok n r i j) : r < rI ok n n := Nat.lt_of_lt_of_le (rgP_lt h) (rI_mono h.1)
theorem rgP_uniq {ok : Nat → Nat → Bool} {n r i j i' j' : Nat} (h : rgP ok n r i j) (h' : rgP ok n r i' j') : i = i' ∧ j = j' := by
  have hl := rgP_lt h
  have hl' := rgP_lt h'
  obtain ⟨a1, a2, a3, a4⟩ := h
  obtain ⟨b1, b2, b3, b4⟩ := h'
  rcases Nat.lt_trichotomy i i' with q | q | q
  · have := rI_mono (ok := ok) (n := n) (a := i + 1) (b := i') (by omega)
    omega
  · subst q
    refine ⟨rfl, ?_⟩
    rcases Nat.lt_trichotomy j j' with z | z | z
    · have := cntB_mono (f := ok i) (a := j + 1) (b := j') (by omega)
      have := cntB_t (f := ok i) (n := j) a3
      omega
    · exact z
    · have := cntB_mono (f := ok i) (a := j' + 1) (b := j) (by omega)
      have := cntB_t (f := ok i) (n := j') b3
      omega
  · have := rI_mono (ok := ok) (n := n) (a := i' + 1) (b := i) (by omega)
    omega
def bgn (c : Nat → Nat → Int32) (i : Nat) : Bool := decide (i = 0) || decide (c i 0 ≠ c (i - 1) 0) || decide (c i 1 ≠ c (i - 1) 1)
def hpr (c : Nat → Nat → Int32) (n : Nat) (a b : Int32) : Bool := anyN n fun i => decide (c i 0 = a) && decide (c i 1 = b)
def okR (c : Nat → Nat → Int32) (n i j : Nat) : Bool := (bgn c i && decide (ky (c i 0) < ky (c i 1))) && (decide (c j 0 = c i 1) && decide (c j 1 ≠ c i 1) && decide (ky (c i 0) < ky (c j 1)) && bgn c j && hpr c n (c j 1) (c i 0))
theorem bgn_iff {c : Nat → Nat → Int32} {i : Nat} : bgn c i = true ↔ i = 0 ∨ ¬ c i 0 = c (i - 1) 0 ∨ ¬ c i 1 = c (i - 1) 1 := by
  simp only [bgn, Bool.or_eq_true, decide_eq_true_eq, or_assoc, ne_eq]
theorem hpr_iff {c : Nat → Nat → Int32} {n : Nat} {a b : Int32} : hpr c n a b = true ↔ ∃ i, i < n ∧ c i 0 = a ∧ c i 1 = b := by
  unfold hpr
  rw [anyN_iff]
  simp only [Bool.and_eq_true, decide_eq_true_eq]
theorem okR_iff {c : Nat → Nat → Int32} {n i j : Nat} : okR c n i j = true ↔ (bgn c i = true ∧ ky (c i 0) < ky (c i 1)) ∧ c j 0 = c i 1 ∧ c j 1 ≠ c i 1 ∧ ky (c i 0) < ky (c j 1) ∧ bgn c j = true ∧ hpr c n (c j 1) (c i 0) = true := by
  simp only [okR, Bool.and_eq_true, decide_eq_true_eq, and_assoc]

theorem gX6_beginsPair_0 (u : xU) (t n cols : Nat) (i : Nat) (a b c d : Int32) {Q : Option Value → xM → Prop} (ht : t < 8) (hcols : cols ≤ 3) (hn : n ≤ 40) (h2 : 2 ≤ cols) (hi : i < n) (v1 : u.1 (156 + 2 * t) 0 = nI (cols)) (v2 : u.1 (156 + 2 * t) 1 = nI (n)) (v3 : u.1 (157 + 2 * t) (i * 3 + 0) = a) (v4 : u.1 (157 + 2 * t) (i * 3 + 1) = b) (v5 : u.1 (157 + 2 * t) ((i - 1) * 3 + 0) = c) (v6 : u.1 (157 + 2 * t) ((i - 1) * 3 + 1) = d)
    (k1 : i = 0 → Q (some (.int (nI (1)))) (xmm u))
    (k2 : ¬ i = 0 → ¬ a = c → Q (some (.int (nI (1)))) (xmm u))
    (k3 : ¬ i = 0 → a = c → b = d → Q (some (.int (nI (0)))) (xmm u))
    (k4 : ¬ i = 0 → a = c → ¬ b = d → Q (some (.int (nI (1)))) (xmm u)) : xE mX6_beginsPair 0 [(0, .ref (156 + 2 * t)), (1, .int (nI (i)))] [] (xmm u) Q := by
  refine xe_iload_n 1 dX6_beginsPair_0 rfl rfl ?_
  refine xn_if_eq 38 dX6_beginsPair_1 (by decide) (by omega) (fun c1 => ?_) (fun c1 => ?_)
  · refine xe_iconst (v := nI (1)) dX6_beginsPair_38 xc1 ?_
    refine xe_goto 43 dX6_beginsPair_39 (by decide) ?_
    exact xe_ret (r := (some (.int (nI (1))))) dX6_beginsPair_43 (Or.inr rfl) (k1 c1)
  · refine xe_aload_n 0 dX6_beginsPair_4 rfl rfl ?_
    refine xe_iload_n 1 dX6_beginsPair_5 rfl rfl ?_
    refine xe_iconst (v := nI (0)) dX6_beginsPair_6 xc0 ?_
    refine xe_callV (As := [.int (nI (i)), .int (nI (0))]) (rest := []) dX6_beginsPair_7 wX6_cell lX6_36 iX6_cell sX6_cell ⟨by decide, by decide⟩ (shT _ (by omega)) rfl (xin_mm (by omega)) rfl rfl (by simp [Value.category]) (xC.pure (v := .int (a)) (qX6_cellV u t n cols i 0 a (by omega) (by omega) (by omega) (by omega) (by omega) v1 v2 v3) ?_)
    refine xe_aload_n 0 dX6_beginsPair_10 rfl rfl ?_
    refine xe_iload_n 1 dX6_beginsPair_11 rfl rfl ?_
    refine xe_iconst (v := nI (1)) dX6_beginsPair_12 xc1 ?_
    refine xn_isub dX6_beginsPair_13 (by omega) ?_
    refine xe_iconst (v := nI (0)) dX6_beginsPair_14 xc0 ?_
    refine xe_callV (As := [.int (nI (i - 1)), .int (nI (0))]) (rest := [.int (a)]) dX6_beginsPair_15 wX6_cell lX6_36 iX6_cell sX6_cell ⟨by decide, by decide⟩ (shT _ (by omega)) rfl (xin_mm (by omega)) rfl rfl (by simp [Value.category]) (xC.pure (v := .int (c)) (qX6_cellV u t n cols (i - 1) 0 c (by omega) (by omega) (by omega) (by omega) (by omega) v1 v2 v5) ?_)
    refine xe_icmp_ne 38 dX6_beginsPair_18 (by decide) (fun c2 => ?_) (fun c2 => ?_)
    · refine xe_iconst (v := nI (1)) dX6_beginsPair_38 xc1 ?_
      refine xe_goto 43 dX6_beginsPair_39 (by decide) ?_
      exact xe_ret (r := (some (.int (nI (1))))) dX6_beginsPair_43 (Or.inr rfl) (k2 c1 c2)
    · refine xe_aload_n 0 dX6_beginsPair_21 rfl rfl ?_
      refine xe_iload_n 1 dX6_beginsPair_22 rfl rfl ?_
      refine xe_iconst (v := nI (1)) dX6_beginsPair_23 xc1 ?_
      refine xe_callV (As := [.int (nI (i)), .int (nI (1))]) (rest := []) dX6_beginsPair_24 wX6_cell lX6_36 iX6_cell sX6_cell ⟨by decide, by decide⟩ (shT _ (by omega)) rfl (xin_mm (by omega)) rfl rfl (by simp [Value.category]) (xC.pure (v := .int (b)) (qX6_cellV u t n cols i 1 b (by omega) (by omega) (by omega) (by omega) (by omega) v1 v2 v4) ?_)
      refine xe_aload_n 0 dX6_beginsPair_27 rfl rfl ?_
      refine xe_iload_n 1 dX6_beginsPair_28 rfl rfl ?_
      refine xe_iconst (v := nI (1)) dX6_beginsPair_29 xc1 ?_
      refine xn_isub dX6_beginsPair_30 (by omega) ?_
      refine xe_iconst (v := nI (1)) dX6_beginsPair_31 xc1 ?_
      refine xe_callV (As := [.int (nI (i - 1)), .int (nI (1))]) (rest := [.int (b)]) dX6_beginsPair_32 wX6_cell lX6_36 iX6_cell sX6_cell ⟨by decide, by decide⟩ (shT _ (by omega)) rfl (xin_mm (by omega)) rfl rfl (by simp [Value.category]) (xC.pure (v := .int (d)) (qX6_cellV u t n cols (i - 1) 1 d (by omega) (by omega) (by omega) (by omega) (by omega) v1 v2 v6) ?_)
      refine xe_icmp_eq 42 dX6_beginsPair_35 (by decide) (fun c3 => ?_) (fun c3 => ?_)
      · refine xe_iconst (v := nI (0)) dX6_beginsPair_42 xc0 ?_
        exact xe_ret (r := (some (.int (nI (0))))) dX6_beginsPair_43 (Or.inl rfl) (k3 c1 c2 c3)
      · refine xe_iconst (v := nI (1)) dX6_beginsPair_38 xc1 ?_
        refine xe_goto 43 dX6_beginsPair_39 (by decide) ?_
        exact xe_ret (r := (some (.int (nI (1))))) dX6_beginsPair_43 (Or.inr rfl) (k4 c1 c2 c3)

theorem gX6_hasPair_0 (u : xU) (t : Nat) (a b : Int32) {Q : Option Value → xM → Prop}  
    (k1 : xE mX6_hasPair 2 [(0, .ref (156 + 2 * t)), (1, .int (a)), (2, .int (b)), (3, .int (nI (0)))] [] (xmm u) Q) : xE mX6_hasPair 0 [(0, .ref (156 + 2 * t)), (1, .int (a)), (2, .int (b))] [] (xmm u) Q := by
  refine xe_iconst (v := nI (0)) dX6_hasPair_0 xc0 ?_
  refine xe_istore_n (L2 := [(0, .ref (156 + 2 * t)), (1, .int (a)), (2, .int (b)), (3, .int (nI (0)))]) dX6_hasPair_1 rfl (by decide) rfl ?_
  exact k1

theorem gX6_hasPair_2 (u : xU) (t n cols : Nat) (i : Nat) (a b x y : Int32) {Q : Option Value → xM → Prop} (ht : t < 8) (hcols : cols ≤ 3) (hn : n ≤ 40) (h2 : 2 ≤ cols) (hi : i < n) (v1 : u.1 (156 + 2 * t) 0 = nI (cols)) (v2 : u.1 (156 + 2 * t) 1 = nI (n)) (v3 : u.1 (157 + 2 * t) (i * 3 + 0) = x) (v4 : u.1 (157 + 2 * t) (i * 3 + 1) = y)
    (k1 : n ≤ i → Q (some (.int (nI (0)))) (xmm u))
    (k2 : ¬ n ≤ i → ¬ x = a → xE mX6_hasPair 2 [(0, .ref (156 + 2 * t)), (1, .int (a)), (2, .int (b)), (3, .int (nI (i + 1)))] [] (xmm u) Q)
    (k3 : ¬ n ≤ i → x = a → ¬ y = b → xE mX6_hasPair 2 [(0, .ref (156 + 2 * t)), (1, .int (a)), (2, .int (b)), (3, .int (nI (i + 1)))] [] (xmm u) Q)
    (k4 : ¬ n ≤ i → x = a → y = b → Q (some (.int (nI (1)))) (xmm u)) : xE mX6_hasPair 2 [(0, .ref (156 + 2 * t)), (1, .int (a)), (2, .int (b)), (3, .int (nI (i)))] [] (xmm u) Q := by
  refine xe_iload_n 3 dX6_hasPair_2 rfl rfl ?_
  refine xe_aload_n 0 dX6_hasPair_3 rfl rfl ?_
  refine xr_getI (v := nI (n)) dX6_hasPair_4 fX6_19 (shT _ (by omega)) (by omega) v2 ?_
  refine xn_icmp_ge 38 dX6_hasPair_7 (by decide) (by omega) (by omega) (fun c1 => ?_) (fun c1 => ?_)
  · refine xe_iconst (v := nI (0)) dX6_hasPair_38 xc0 ?_
    exact xe_ret (r := (some (.int (nI (0))))) dX6_hasPair_39 (Or.inl rfl) (k1 c1)
  · refine xe_aload_n 0 dX6_hasPair_10 rfl rfl ?_
    refine xe_iload_n 3 dX6_hasPair_11 rfl rfl ?_
    refine xe_iconst (v := nI (0)) dX6_hasPair_12 xc0 ?_
    refine xe_callV (As := [.int (nI (i)), .int (nI (0))]) (rest := []) dX6_hasPair_13 wX6_cell lX6_36 iX6_cell sX6_cell ⟨by decide, by decide⟩ (shT _ (by omega)) rfl (xin_mm (by omega)) rfl rfl (by simp [Value.category]) (xC.pure (v := .int (x)) (qX6_cellV u t n cols i 0 x (by omega) (by omega) (by omega) (by omega) (by omega) v1 v2 v3) ?_)
    refine xe_iload_n 1 dX6_hasPair_16 rfl rfl ?_
    refine xe_icmp_ne 32 dX6_hasPair_17 (by decide) (fun c2 => ?_) (fun c2 => ?_)
    · refine xn_iinc (c := 1) (L2 := [(0, .ref (156 + 2 * t)), (1, .int (a)), (2, .int (b)), (3, .int (nI (i + 1)))]) 3 dX6_hasPair_32 rfl (by decide) rfl ?_
      refine xe_goto 2 dX6_hasPair_35 (by decide) ?_
      exact k2 c1 c2
    · refine xe_aload_n 0 dX6_hasPair_20 rfl rfl ?_
      refine xe_iload_n 3 dX6_hasPair_21 rfl rfl ?_
      refine xe_iconst (v := nI (1)) dX6_hasPair_22 xc1 ?_
      refine xe_callV (As := [.int (nI (i)), .int (nI (1))]) (rest := []) dX6_hasPair_23 wX6_cell lX6_36 iX6_cell sX6_cell ⟨by decide, by decide⟩ (shT _ (by omega)) rfl (xin_mm (by omega)) rfl rfl (by simp [Value.category]) (xC.pure (v := .int (y)) (qX6_cellV u t n cols i 1 y (by omega) (by omega) (by omega) (by omega) (by omega) v1 v2 v4) ?_)
      refine xe_iload_n 2 dX6_hasPair_26 rfl rfl ?_
      refine xe_icmp_ne 32 dX6_hasPair_27 (by decide) (fun c3 => ?_) (fun c3 => ?_)
      · refine xn_iinc (c := 1) (L2 := [(0, .ref (156 + 2 * t)), (1, .int (a)), (2, .int (b)), (3, .int (nI (i + 1)))]) 3 dX6_hasPair_32 rfl (by decide) rfl ?_
        refine xe_goto 2 dX6_hasPair_35 (by decide) ?_
        exact k3 c1 c2 c3
      · refine xe_iconst (v := nI (1)) dX6_hasPair_30 xc1 ?_
        exact xe_ret (r := (some (.int (nI (1))))) dX6_hasPair_31 (Or.inr rfl) (k4 c1 c2 c3)

theorem gX6_hasPair_e (u : xU) (t n cols : Nat) (i : Nat) (a b : Int32) {Q : Option Value → xM → Prop} (ht : t < 8) (hcols : cols ≤ 3) (hn : n ≤ 40) (hi : i = n) (v1 : u.1 (156 + 2 * t) 0 = nI (cols)) (v2 : u.1 (156 + 2 * t) 1 = nI (n))
    (k1 : n ≤ i → Q (some (.int (nI (0)))) (xmm u))
    (k2 : ¬ n ≤ i → ¬ (u.1 (157 + 2 * t) (i * 3 + 0)) = a → xE mX6_hasPair 2 [(0, .ref (156 + 2 * t)), (1, .int (a)), (2, .int (b)), (3, .int (nI (i + 1)))] [] (xmm u) Q)
    (k3 : ¬ n ≤ i → (u.1 (157 + 2 * t) (i * 3 + 0)) = a → ¬ (u.1 (157 + 2 * t) (i * 3 + 1)) = b → xE mX6_hasPair 2 [(0, .ref (156 + 2 * t)), (1, .int (a)), (2, .int (b)), (3, .int (nI (i + 1)))] [] (xmm u) Q)
    (k4 : ¬ n ≤ i → (u.1 (157 + 2 * t) (i * 3 + 0)) = a → (u.1 (157 + 2 * t) (i * 3 + 1)) = b → Q (some (.int (nI (1)))) (xmm u)) : xE mX6_hasPair 2 [(0, .ref (156 + 2 * t)), (1, .int (a)), (2, .int (b)), (3, .int (nI (i)))] [] (xmm u) Q := by
  refine xe_iload_n 3 dX6_hasPair_2 rfl rfl ?_
  refine xe_aload_n 0 dX6_hasPair_3 rfl rfl ?_
  refine xr_getI (v := nI (n)) dX6_hasPair_4 fX6_19 (shT _ (by omega)) (by omega) v2 ?_
  refine xn_icmp_ge 38 dX6_hasPair_7 (by decide) (by omega) (by omega) (fun c1 => ?_) (fun c1 => ?_)
  · refine xe_iconst (v := nI (0)) dX6_hasPair_38 xc0 ?_
    exact xe_ret (r := (some (.int (nI (0))))) dX6_hasPair_39 (Or.inl rfl) (k1 c1)
  · refine xe_aload_n 0 dX6_hasPair_10 rfl rfl ?_
    refine xe_iload_n 3 dX6_hasPair_11 rfl rfl ?_
    refine xe_iconst (v := nI (0)) dX6_hasPair_12 xc0 ?_
    refine xe_callV (As := [.int (nI (i)), .int (nI (0))]) (rest := []) dX6_hasPair_13 wX6_cell lX6_36 iX6_cell sX6_cell ⟨by decide, by decide⟩ (shT _ (by omega)) rfl (xin_mm (by omega)) rfl rfl (by simp [Value.category]) (xC.pure (v := .int (u.1 (157 + 2 * t) (i * 3 + 0))) (qX6_cellV u t n cols i 0 (u.1 (157 + 2 * t) (i * 3 + 0)) (by omega) (by omega) (by omega) (by omega) (by omega) v1 v2 rfl) ?_)
    refine xe_iload_n 1 dX6_hasPair_16 rfl rfl ?_
    refine xe_icmp_ne 32 dX6_hasPair_17 (by decide) (fun c2 => ?_) (fun c2 => ?_)
    · refine xn_iinc (c := 1) (L2 := [(0, .ref (156 + 2 * t)), (1, .int (a)), (2, .int (b)), (3, .int (nI (i + 1)))]) 3 dX6_hasPair_32 rfl (by decide) rfl ?_
      refine xe_goto 2 dX6_hasPair_35 (by decide) ?_
      exact k2 c1 c2
    · refine xe_aload_n 0 dX6_hasPair_20 rfl rfl ?_
      refine xe_iload_n 3 dX6_hasPair_21 rfl rfl ?_
      refine xe_iconst (v := nI (1)) dX6_hasPair_22 xc1 ?_
      refine xe_callV (As := [.int (nI (i)), .int (nI (1))]) (rest := []) dX6_hasPair_23 wX6_cell lX6_36 iX6_cell sX6_cell ⟨by decide, by decide⟩ (shT _ (by omega)) rfl (xin_mm (by omega)) rfl rfl (by simp [Value.category]) (xC.pure (v := .int (u.1 (157 + 2 * t) (i * 3 + 1))) (qX6_cellV u t n cols i 1 (u.1 (157 + 2 * t) (i * 3 + 1)) (by omega) (by omega) (by omega) (by omega) (by omega) v1 v2 rfl) ?_)
      refine xe_iload_n 2 dX6_hasPair_26 rfl rfl ?_
      refine xe_icmp_ne 32 dX6_hasPair_27 (by decide) (fun c3 => ?_) (fun c3 => ?_)
      · refine xn_iinc (c := 1) (L2 := [(0, .ref (156 + 2 * t)), (1, .int (a)), (2, .int (b)), (3, .int (nI (i + 1)))]) 3 dX6_hasPair_32 rfl (by decide) rfl ?_
        refine xe_goto 2 dX6_hasPair_35 (by decide) ?_
        exact k3 c1 c2 c3
      · refine xe_iconst (v := nI (1)) dX6_hasPair_30 xc1 ?_
        exact xe_ret (r := (some (.int (nI (1))))) dX6_hasPair_31 (Or.inr rfl) (k4 c1 c2 c3)

theorem gX5_close_0 (u : xU) (t n cols : Nat) (i w : Nat) (x y : Int32) {Q : Option Value → xM → Prop} (ht : t < 8) (hcols : cols ≤ 3) (hn : n ≤ 40) (h2 : 2 ≤ cols) (hi : i < n) (hw : w < 2147483648) (v1 : u.1 (156 + 2 * t) 0 = nI (cols)) (v2 : u.1 (156 + 2 * t) 1 = nI (n)) (v3 : u.1 (157 + 2 * t) (i * 3 + 0) = x) (v4 : u.1 (157 + 2 * t) (i * 3 + 1) = y)
    (k1 : xE mX5_close 19 [(0, .ref 70), (1, .ref (156 + 2 * t)), (3, .int (nI (w))), (4, .int (x)), (5, .int (y)), (6, .int (nI (0)))] [] (xmm u) Q) : xE mX5_close 0 [(0, .ref 70), (1, .ref (156 + 2 * t)), (2, .int (nI (i))), (3, .int (nI (w)))] [] (xmm u) Q := by
  refine xe_aload_n 1 dX5_close_0 rfl rfl ?_
  refine xe_iload_n 2 dX5_close_1 rfl rfl ?_
  refine xe_iconst (v := nI (0)) dX5_close_2 xc0 ?_
  refine xe_callV (As := [.int (nI (i)), .int (nI (0))]) (rest := []) dX5_close_3 wX6_cell lX5_22 iX6_cell sX6_cell ⟨by decide, by decide⟩ (shT _ (by omega)) rfl (xin_mm (by omega)) rfl rfl (by simp [Value.category]) (xC.pure (v := .int (x)) (qX6_cellV u t n cols i 0 x (by omega) (by omega) (by omega) (by omega) (by omega) v1 v2 v3) ?_)
  refine xe_istore (L2 := [(0, .ref 70), (1, .ref (156 + 2 * t)), (2, .int (nI (i))), (3, .int (nI (w))), (4, .int (x))]) dX5_close_6 (by decide) rfl ?_
  refine xe_aload_n 1 dX5_close_8 rfl rfl ?_
  refine xe_iload_n 2 dX5_close_9 rfl rfl ?_
  refine xe_iconst (v := nI (1)) dX5_close_10 xc1 ?_
  refine xe_callV (As := [.int (nI (i)), .int (nI (1))]) (rest := []) dX5_close_11 wX6_cell lX5_22 iX6_cell sX6_cell ⟨by decide, by decide⟩ (shT _ (by omega)) rfl (xin_mm (by omega)) rfl rfl (by simp [Value.category]) (xC.pure (v := .int (y)) (qX6_cellV u t n cols i 1 y (by omega) (by omega) (by omega) (by omega) (by omega) v1 v2 v4) ?_)
  refine xe_istore (L2 := [(0, .ref 70), (1, .ref (156 + 2 * t)), (2, .int (nI (i))), (3, .int (nI (w))), (4, .int (x)), (5, .int (y))]) dX5_close_14 (by decide) rfl ?_
  refine xe_iconst (v := nI (0)) dX5_close_16 xc0 ?_
  refine xe_istore (L2 := [(0, .ref 70), (1, .ref (156 + 2 * t)), (2, .int (nI (i))), (3, .int (nI (w))), (4, .int (x)), (5, .int (y)), (6, .int (nI (0)))]) dX5_close_17 (by decide) rfl ?_
  refine xE.sub [0, 1, 3, 4, 5, 6] rfl ?_
  exact k1

theorem gX5_close_19 (u : xU) (t n cols : Nat) (j w m : Nat) (x y q z : Int32) (eb eh : Bool) {Q : Option Value → xM → Prop} (ht : t < 8) (hcols : cols ≤ 3) (hn : n ≤ 40) (h2 : 2 ≤ cols) (hj : j < n) (hw : w < 2147483648) (hm : m ≤ 1600) (hb : xC mX6_beginsPair [.ref (156 + 2 * t), .int (nI j)] (xmm u) (fun r μ' => r = some (.int (xb (eb = true))) ∧ μ' = xmm u)) (hp : xC mX6_hasPair [.ref (156 + 2 * t), .int z, .int x] (xmm u) (fun r μ' => r = some (.int (xb (eh = true))) ∧ μ' = xmm u)) (v1 : u.1 (156 + 2 * t) 0 = nI (cols)) (v2 : u.1 (156 + 2 * t) 1 = nI (n)) (v3 : u.1 (157 + 2 * t) (j * 3 + 0) = q) (v4 : u.1 (157 + 2 * t) (j * 3 + 1) = z) (v5 : u.1 70 0 = nI (m))
    (k1 : n ≤ j → Q none (xmm u))
    (k2 : ¬ n ≤ j → w < m → Q none (xmm u))
    (k3 : ¬ n ≤ j → ¬ w < m → ¬ q = y → xE mX5_close 19 [(0, .ref 70), (1, .ref (156 + 2 * t)), (3, .int (nI (w))), (4, .int (x)), (5, .int (y)), (6, .int (nI (j + 1)))] [] (xmm u) Q)
    (k4 : ¬ n ≤ j → ¬ w < m → q = y → z = y → xE mX5_close 19 [(0, .ref 70), (1, .ref (156 + 2 * t)), (3, .int (nI (w))), (4, .int (x)), (5, .int (y)), (6, .int (nI (j + 1)))] [] (xmm u) Q)
    (k5 : ¬ n ≤ j → ¬ w < m → q = y → ¬ z = y → ¬ (ky x < ky z) → xE mX5_close 19 [(0, .ref 70), (1, .ref (156 + 2 * t)), (3, .int (nI (w))), (4, .int (x)), (5, .int (y)), (6, .int (nI (j + 1)))] [] (xmm u) Q)
    (k6 : ¬ n ≤ j → ¬ w < m → q = y → ¬ z = y → ky x < ky z → ¬ (eb = true) → xE mX5_close 19 [(0, .ref 70), (1, .ref (156 + 2 * t)), (3, .int (nI (w))), (4, .int (x)), (5, .int (y)), (6, .int (nI (j + 1)))] [] (xmm u) Q)
    (k7 : ¬ n ≤ j → ¬ w < m → q = y → ¬ z = y → ky x < ky z → eb = true → ¬ (eh = true) → xE mX5_close 19 [(0, .ref 70), (1, .ref (156 + 2 * t)), (3, .int (nI (w))), (4, .int (x)), (5, .int (y)), (6, .int (nI (j + 1)))] [] (xmm u) Q)
    (k8 : ¬ n ≤ j → ¬ w < m → q = y → ¬ z = y → ky x < ky z → eb = true → eh = true → xE mX5_close 19 [(0, .ref 70), (1, .ref (156 + 2 * t)), (3, .int (nI (w))), (4, .int (x)), (5, .int (y)), (6, .int (nI (j + 1)))] [] (xmm (wi (wi (wi (wi u 70 0 (nI (m + 1))) 70 1 (x)) 70 2 (y)) 70 3 (z))) Q) : xE mX5_close 19 [(0, .ref 70), (1, .ref (156 + 2 * t)), (3, .int (nI (w))), (4, .int (x)), (5, .int (y)), (6, .int (nI (j)))] [] (xmm u) Q := by
  refine xe_iload 5 dX5_close_19 rfl ?_
  refine xe_aload_n 1 dX5_close_21 rfl rfl ?_
  refine xr_getI (v := nI (n)) dX5_close_22 fX5_13 (shT _ (by omega)) (by omega) v2 ?_
  refine xn_icmp_ge 140 dX5_close_25 (by decide) (by omega) (by omega) (fun c1 => ?_) (fun c1 => ?_)
  · exact xe_ret (r := none) dX5_close_140 trivial (k1 c1)
  · refine xe_aload_n 0 dX5_close_28 rfl rfl ?_
    refine xr_getI (v := nI (m)) dX5_close_29 fX5_7 sh70 (by decide) v5 ?_
    refine xe_iload_n 2 dX5_close_32 rfl rfl ?_
    refine xn_icmp_gt 140 dX5_close_33 (by decide) (by omega) (by omega) (fun c2 => ?_) (fun c2 => ?_)
    · exact xe_ret (r := none) dX5_close_140 trivial (k2 c1 c2)
    · refine xe_aload_n 1 dX5_close_36 rfl rfl ?_
      refine xe_iload 5 dX5_close_37 rfl ?_
      refine xe_iconst (v := nI (1)) dX5_close_39 xc1 ?_
      refine xe_callV (As := [.int (nI (j)), .int (nI (1))]) (rest := []) dX5_close_40 wX6_cell lX5_22 iX6_cell sX6_cell ⟨by decide, by decide⟩ (shT _ (by omega)) rfl (xin_mm (by omega)) rfl rfl (by simp [Value.category]) (xC.pure (v := .int (z)) (qX6_cellV u t n cols j 1 z (by omega) (by omega) (by omega) (by omega) (by omega) v1 v2 v4) ?_)
      refine xe_istore (L2 := [(0, .ref 70), (1, .ref (156 + 2 * t)), (3, .int (nI (w))), (4, .int (x)), (5, .int (y)), (6, .int (nI (j))), (7, .int (z))]) dX5_close_43 (by decide) rfl ?_
      refine xe_aload_n 1 dX5_close_45 rfl rfl ?_
      refine xe_iload 5 dX5_close_46 rfl ?_
      refine xe_iconst (v := nI (0)) dX5_close_48 xc0 ?_
      refine xe_callV (As := [.int (nI (j)), .int (nI (0))]) (rest := []) dX5_close_49 wX6_cell lX5_22 iX6_cell sX6_cell ⟨by decide, by decide⟩ (shT _ (by omega)) rfl (xin_mm (by omega)) rfl rfl (by simp [Value.category]) (xC.pure (v := .int (q)) (qX6_cellV u t n cols j 0 q (by omega) (by omega) (by omega) (by omega) (by omega) v1 v2 v3) ?_)
      refine xe_iload 4 dX5_close_52 rfl ?_
      refine xe_icmp_ne 78 dX5_close_54 (by decide) (fun c3 => ?_) (fun c3 => ?_)
      · refine xe_iconst (v := nI (0)) dX5_close_78 xc0 ?_
        refine xe_istore (L2 := [(0, .ref 70), (1, .ref (156 + 2 * t)), (3, .int (nI (w))), (4, .int (x)), (5, .int (y)), (6, .int (nI (j))), (7, .int (z)), (8, .int (nI (0)))]) dX5_close_79 (by decide) rfl ?_
        refine xe_iload 7 dX5_close_81 rfl ?_
        refine xn_if_eq 134 dX5_close_83 (by decide) (by omega) (fun _ => ?_) (fun q => absurd q (by decide))
        refine xn_iinc (c := 1) (L2 := [(0, .ref 70), (1, .ref (156 + 2 * t)), (3, .int (nI (w))), (4, .int (x)), (5, .int (y)), (6, .int (nI (j + 1))), (7, .int (z)), (8, .int (nI (0)))]) 5 dX5_close_134 rfl (by decide) rfl ?_
        refine xe_goto 19 dX5_close_137 (by decide) ?_
        refine xE.sub [0, 1, 2, 3, 4, 5] rfl ?_
        exact k3 c1 c2 c3
      · refine xe_iload 6 dX5_close_57 rfl ?_
        refine xe_iload 4 dX5_close_59 rfl ?_
        refine xe_icmp_eq 78 dX5_close_61 (by decide) (fun c4 => ?_) (fun c4 => ?_)
        · refine xe_iconst (v := nI (0)) dX5_close_78 xc0 ?_
          refine xe_istore (L2 := [(0, .ref 70), (1, .ref (156 + 2 * t)), (3, .int (nI (w))), (4, .int (x)), (5, .int (y)), (6, .int (nI (j))), (7, .int (z)), (8, .int (nI (0)))]) dX5_close_79 (by decide) rfl ?_
          refine xe_iload 7 dX5_close_81 rfl ?_
          refine xn_if_eq 134 dX5_close_83 (by decide) (by omega) (fun _ => ?_) (fun q => absurd q (by decide))
          refine xn_iinc (c := 1) (L2 := [(0, .ref 70), (1, .ref (156 + 2 * t)), (3, .int (nI (w))), (4, .int (x)), (5, .int (y)), (6, .int (nI (j + 1))), (7, .int (z)), (8, .int (nI (0)))]) 5 dX5_close_134 rfl (by decide) rfl ?_
          refine xe_goto 19 dX5_close_137 (by decide) ?_
          refine xE.sub [0, 1, 2, 3, 4, 5] rfl ?_
          exact k4 c1 c2 c3 c4
        · refine xe_iload 3 dX5_close_64 rfl ?_
          refine xe_iload 6 dX5_close_66 rfl ?_
          refine xe_callSN (As := [.int (x), .int (z)]) (rest := []) dX5_close_68 wX9_ahead lX5_26 tX9_ahead ⟨by decide, by decide⟩ rfl rfl (by simp [Value.category]) (xC.pure (v := .int (xb (ky x < ky z))) (qX9_ahead u x z) ?_)
          refine xb_if_eq 78 dX5_close_71 (by decide) (fun c5 => ?_) (fun c5 => ?_)
          · refine xe_iconst (v := nI (0)) dX5_close_78 xc0 ?_
            refine xe_istore (L2 := [(0, .ref 70), (1, .ref (156 + 2 * t)), (3, .int (nI (w))), (4, .int (x)), (5, .int (y)), (6, .int (nI (j))), (7, .int (z)), (8, .int (nI (0)))]) dX5_close_79 (by decide) rfl ?_
            refine xe_iload 7 dX5_close_81 rfl ?_
            refine xn_if_eq 134 dX5_close_83 (by decide) (by omega) (fun _ => ?_) (fun q => absurd q (by decide))
            refine xn_iinc (c := 1) (L2 := [(0, .ref 70), (1, .ref (156 + 2 * t)), (3, .int (nI (w))), (4, .int (x)), (5, .int (y)), (6, .int (nI (j + 1))), (7, .int (z)), (8, .int (nI (0)))]) 5 dX5_close_134 rfl (by decide) rfl ?_
            refine xe_goto 19 dX5_close_137 (by decide) ?_
            refine xE.sub [0, 1, 2, 3, 4, 5] rfl ?_
            exact k5 c1 c2 c3 c4 c5
          · refine xe_iconst (v := nI (1)) dX5_close_74 xc1 ?_
            refine xe_goto 79 dX5_close_75 (by decide) ?_
            refine xe_istore (L2 := [(0, .ref 70), (1, .ref (156 + 2 * t)), (3, .int (nI (w))), (4, .int (x)), (5, .int (y)), (6, .int (nI (j))), (7, .int (z)), (8, .int (nI (1)))]) dX5_close_79 (by decide) rfl ?_
            refine xe_iload 7 dX5_close_81 rfl ?_
            refine xn_if_eq 134 dX5_close_83 (by decide) (by omega) (fun q => absurd q (by decide)) (fun _ => ?_)
            refine xe_aload_n 1 dX5_close_86 rfl rfl ?_
            refine xe_iload 5 dX5_close_87 rfl ?_
            refine xe_callV (As := [.int (nI (j))]) (rest := []) dX5_close_89 wX6_beginsPair lX5_18 iX6_beginsPair sX6_beginsPair ⟨by decide, by decide⟩ (shT _ (by omega)) rfl (xin_mm (by omega)) rfl rfl (by simp [Value.category]) (xC.pure (v := .int (xb (eb = true))) (hb) ?_)
            refine xb_if_eq 134 dX5_close_92 (by decide) (fun c6 => ?_) (fun c6 => ?_)
            · refine xn_iinc (c := 1) (L2 := [(0, .ref 70), (1, .ref (156 + 2 * t)), (3, .int (nI (w))), (4, .int (x)), (5, .int (y)), (6, .int (nI (j + 1))), (7, .int (z)), (8, .int (nI (1)))]) 5 dX5_close_134 rfl (by decide) rfl ?_
              refine xe_goto 19 dX5_close_137 (by decide) ?_
              refine xE.sub [0, 1, 2, 3, 4, 5] rfl ?_
              exact k6 c1 c2 c3 c4 c5 c6
            · refine xe_aload_n 1 dX5_close_95 rfl rfl ?_
              refine xe_iload 6 dX5_close_96 rfl ?_
              refine xe_iload 3 dX5_close_98 rfl ?_
              refine xe_callV (As := [.int (z), .int (x)]) (rest := []) dX5_close_100 wX6_hasPair lX5_45 iX6_hasPair sX6_hasPair ⟨by decide, by decide⟩ (shT _ (by omega)) rfl (xin_mm (by omega)) rfl rfl (by simp [Value.category]) (xC.pure (v := .int (xb (eh = true))) (hp) ?_)
              refine xb_if_eq 134 dX5_close_103 (by decide) (fun c7 => ?_) (fun c7 => ?_)
              · refine xn_iinc (c := 1) (L2 := [(0, .ref 70), (1, .ref (156 + 2 * t)), (3, .int (nI (w))), (4, .int (x)), (5, .int (y)), (6, .int (nI (j + 1))), (7, .int (z)), (8, .int (nI (1)))]) 5 dX5_close_134 rfl (by decide) rfl ?_
                refine xe_goto 19 dX5_close_137 (by decide) ?_
                refine xE.sub [0, 1, 2, 3, 4, 5] rfl ?_
                exact k7 c1 c2 c3 c4 c5 c6 c7
              · refine xe_aload_n 0 dX5_close_106 rfl rfl ?_
                refine xe_dup dX5_close_107 rfl ?_
                refine xr_getI (v := nI (m)) dX5_close_108 fX5_7 sh70 (by decide) v5 ?_
                refine xe_iconst (v := nI (1)) dX5_close_111 xc1 ?_
                refine xn_iadd dX5_close_112 ?_
                refine xr_putI dX5_close_113 fX5_7 sh70 (by decide) ?_
                refine xe_aload_n 0 dX5_close_116 rfl rfl ?_
                refine xe_iload 3 dX5_close_117 rfl ?_
                refine xr_putI dX5_close_119 fX5_36 sh70 (by decide) ?_
                refine xe_aload_n 0 dX5_close_122 rfl rfl ?_
                refine xe_iload 4 dX5_close_123 rfl ?_
                refine xr_putI dX5_close_125 fX5_39 sh70 (by decide) ?_
                refine xe_aload_n 0 dX5_close_128 rfl rfl ?_
                refine xe_iload 6 dX5_close_129 rfl ?_
                refine xr_putI dX5_close_131 fX5_42 sh70 (by decide) ?_
                refine xn_iinc (c := 1) (L2 := [(0, .ref 70), (1, .ref (156 + 2 * t)), (3, .int (nI (w))), (4, .int (x)), (5, .int (y)), (6, .int (nI (j + 1))), (7, .int (z)), (8, .int (nI (1)))]) 5 dX5_close_134 rfl (by decide) rfl ?_
                refine xe_goto 19 dX5_close_137 (by decide) ?_
                refine xE.sub [0, 1, 2, 3, 4, 5] rfl ?_
                exact k8 c1 c2 c3 c4 c5 c6 c7

theorem gX5_close_e (u : xU) (t n cols : Nat) (j w m : Nat) (x y : Int32) {Q : Option Value → xM → Prop} (ht : t < 8) (hcols : cols ≤ 3) (hn : n ≤ 40) (h2 : 2 ≤ cols) (hj : j = n) (hw : w < 2147483648) (hm : m ≤ 1600) (v1 : u.1 (156 + 2 * t) 0 = nI (cols)) (v2 : u.1 (156 + 2 * t) 1 = nI (n)) (v3 : u.1 70 0 = nI (m))
    (k1 : n ≤ j → Q none (xmm u))
    (k2 : ¬ n ≤ j → w < m → Q none (xmm u))
    (k3 : ¬ n ≤ j → ¬ w < m → ¬ (u.1 (157 + 2 * t) (j * 3 + 0)) = y → xE mX5_close 19 [(0, .ref 70), (1, .ref (156 + 2 * t)), (3, .int (nI (w))), (4, .int (x)), (5, .int (y)), (6, .int (nI (j + 1)))] [] (xmm u) Q)
    (k4 : ¬ n ≤ j → ¬ w < m → (u.1 (157 + 2 * t) (j * 3 + 0)) = y → (u.1 (157 + 2 * t) (j * 3 + 1)) = y → xE mX5_close 19 [(0, .ref 70), (1, .ref (156 + 2 * t)), (3, .int (nI (w))), (4, .int (x)), (5, .int (y)), (6, .int (nI (j + 1)))] [] (xmm u) Q)
    (k5 : ¬ n ≤ j → ¬ w < m → (u.1 (157 + 2 * t) (j * 3 + 0)) = y → ¬ (u.1 (157 + 2 * t) (j * 3 + 1)) = y → ¬ (ky x < ky (u.1 (157 + 2 * t) (j * 3 + 1))) → xE mX5_close 19 [(0, .ref 70), (1, .ref (156 + 2 * t)), (3, .int (nI (w))), (4, .int (x)), (5, .int (y)), (6, .int (nI (j + 1)))] [] (xmm u) Q)
    (k6 : ¬ n ≤ j → ¬ w < m → (u.1 (157 + 2 * t) (j * 3 + 0)) = y → ¬ (u.1 (157 + 2 * t) (j * 3 + 1)) = y → ky x < ky (u.1 (157 + 2 * t) (j * 3 + 1)) → xC mX6_beginsPair [.ref (156 + 2 * t), .int (nI (j))] (xmm u) (fun r μ1 => xE mX5_close 92 [(0, .ref 70), (1, .ref (156 + 2 * t)), (3, .int (nI (w))), (4, .int (x)), (5, .int (y)), (6, .int (nI (j))), (7, .int (u.1 (157 + 2 * t) (j * 3 + 1)))] (r.toList ++ []) μ1 Q)) : xE mX5_close 19 [(0, .ref 70), (1, .ref (156 + 2 * t)), (3, .int (nI (w))), (4, .int (x)), (5, .int (y)), (6, .int (nI (j)))] [] (xmm u) Q := by
  refine xe_iload 5 dX5_close_19 rfl ?_
  refine xe_aload_n 1 dX5_close_21 rfl rfl ?_
  refine xr_getI (v := nI (n)) dX5_close_22 fX5_13 (shT _ (by omega)) (by omega) v2 ?_
  refine xn_icmp_ge 140 dX5_close_25 (by decide) (by omega) (by omega) (fun c1 => ?_) (fun c1 => ?_)
  · exact xe_ret (r := none) dX5_close_140 trivial (k1 c1)
  · refine xe_aload_n 0 dX5_close_28 rfl rfl ?_
    refine xr_getI (v := nI (m)) dX5_close_29 fX5_7 sh70 (by decide) v3 ?_
    refine xe_iload_n 2 dX5_close_32 rfl rfl ?_
    refine xn_icmp_gt 140 dX5_close_33 (by decide) (by omega) (by omega) (fun c2 => ?_) (fun c2 => ?_)
    · exact xe_ret (r := none) dX5_close_140 trivial (k2 c1 c2)
    · refine xe_aload_n 1 dX5_close_36 rfl rfl ?_
      refine xe_iload 5 dX5_close_37 rfl ?_
      refine xe_iconst (v := nI (1)) dX5_close_39 xc1 ?_
      refine xe_callV (As := [.int (nI (j)), .int (nI (1))]) (rest := []) dX5_close_40 wX6_cell lX5_22 iX6_cell sX6_cell ⟨by decide, by decide⟩ (shT _ (by omega)) rfl (xin_mm (by omega)) rfl rfl (by simp [Value.category]) (xC.pure (v := .int (u.1 (157 + 2 * t) (j * 3 + 1))) (qX6_cellV u t n cols j 1 (u.1 (157 + 2 * t) (j * 3 + 1)) (by omega) (by omega) (by omega) (by omega) (by omega) v1 v2 rfl) ?_)
      refine xe_istore (L2 := [(0, .ref 70), (1, .ref (156 + 2 * t)), (3, .int (nI (w))), (4, .int (x)), (5, .int (y)), (6, .int (nI (j))), (7, .int (u.1 (157 + 2 * t) (j * 3 + 1)))]) dX5_close_43 (by decide) rfl ?_
      refine xe_aload_n 1 dX5_close_45 rfl rfl ?_
      refine xe_iload 5 dX5_close_46 rfl ?_
      refine xe_iconst (v := nI (0)) dX5_close_48 xc0 ?_
      refine xe_callV (As := [.int (nI (j)), .int (nI (0))]) (rest := []) dX5_close_49 wX6_cell lX5_22 iX6_cell sX6_cell ⟨by decide, by decide⟩ (shT _ (by omega)) rfl (xin_mm (by omega)) rfl rfl (by simp [Value.category]) (xC.pure (v := .int (u.1 (157 + 2 * t) (j * 3 + 0))) (qX6_cellV u t n cols j 0 (u.1 (157 + 2 * t) (j * 3 + 0)) (by omega) (by omega) (by omega) (by omega) (by omega) v1 v2 rfl) ?_)
      refine xe_iload 4 dX5_close_52 rfl ?_
      refine xe_icmp_ne 78 dX5_close_54 (by decide) (fun c3 => ?_) (fun c3 => ?_)
      · refine xe_iconst (v := nI (0)) dX5_close_78 xc0 ?_
        refine xe_istore (L2 := [(0, .ref 70), (1, .ref (156 + 2 * t)), (3, .int (nI (w))), (4, .int (x)), (5, .int (y)), (6, .int (nI (j))), (7, .int (u.1 (157 + 2 * t) (j * 3 + 1))), (8, .int (nI (0)))]) dX5_close_79 (by decide) rfl ?_
        refine xe_iload 7 dX5_close_81 rfl ?_
        refine xn_if_eq 134 dX5_close_83 (by decide) (by omega) (fun _ => ?_) (fun q => absurd q (by decide))
        refine xn_iinc (c := 1) (L2 := [(0, .ref 70), (1, .ref (156 + 2 * t)), (3, .int (nI (w))), (4, .int (x)), (5, .int (y)), (6, .int (nI (j + 1))), (7, .int (u.1 (157 + 2 * t) (j * 3 + 1))), (8, .int (nI (0)))]) 5 dX5_close_134 rfl (by decide) rfl ?_
        refine xe_goto 19 dX5_close_137 (by decide) ?_
        refine xE.sub [0, 1, 2, 3, 4, 5] rfl ?_
        exact k3 c1 c2 c3
      · refine xe_iload 6 dX5_close_57 rfl ?_
        refine xe_iload 4 dX5_close_59 rfl ?_
        refine xe_icmp_eq 78 dX5_close_61 (by decide) (fun c4 => ?_) (fun c4 => ?_)
        · refine xe_iconst (v := nI (0)) dX5_close_78 xc0 ?_
          refine xe_istore (L2 := [(0, .ref 70), (1, .ref (156 + 2 * t)), (3, .int (nI (w))), (4, .int (x)), (5, .int (y)), (6, .int (nI (j))), (7, .int (u.1 (157 + 2 * t) (j * 3 + 1))), (8, .int (nI (0)))]) dX5_close_79 (by decide) rfl ?_
          refine xe_iload 7 dX5_close_81 rfl ?_
          refine xn_if_eq 134 dX5_close_83 (by decide) (by omega) (fun _ => ?_) (fun q => absurd q (by decide))
          refine xn_iinc (c := 1) (L2 := [(0, .ref 70), (1, .ref (156 + 2 * t)), (3, .int (nI (w))), (4, .int (x)), (5, .int (y)), (6, .int (nI (j + 1))), (7, .int (u.1 (157 + 2 * t) (j * 3 + 1))), (8, .int (nI (0)))]) 5 dX5_close_134 rfl (by decide) rfl ?_
          refine xe_goto 19 dX5_close_137 (by decide) ?_
          refine xE.sub [0, 1, 2, 3, 4, 5] rfl ?_
          exact k4 c1 c2 c3 c4
        · refine xe_iload 3 dX5_close_64 rfl ?_
          refine xe_iload 6 dX5_close_66 rfl ?_
          refine xe_callSN (As := [.int (x), .int (u.1 (157 + 2 * t) (j * 3 + 1))]) (rest := []) dX5_close_68 wX9_ahead lX5_26 tX9_ahead ⟨by decide, by decide⟩ rfl rfl (by simp [Value.category]) (xC.pure (v := .int (xb (ky x < ky (u.1 (157 + 2 * t) (j * 3 + 1))))) (qX9_ahead u x (u.1 (157 + 2 * t) (j * 3 + 1))) ?_)
          refine xb_if_eq 78 dX5_close_71 (by decide) (fun c5 => ?_) (fun c5 => ?_)
          · refine xe_iconst (v := nI (0)) dX5_close_78 xc0 ?_
            refine xe_istore (L2 := [(0, .ref 70), (1, .ref (156 + 2 * t)), (3, .int (nI (w))), (4, .int (x)), (5, .int (y)), (6, .int (nI (j))), (7, .int (u.1 (157 + 2 * t) (j * 3 + 1))), (8, .int (nI (0)))]) dX5_close_79 (by decide) rfl ?_
            refine xe_iload 7 dX5_close_81 rfl ?_
            refine xn_if_eq 134 dX5_close_83 (by decide) (by omega) (fun _ => ?_) (fun q => absurd q (by decide))
            refine xn_iinc (c := 1) (L2 := [(0, .ref 70), (1, .ref (156 + 2 * t)), (3, .int (nI (w))), (4, .int (x)), (5, .int (y)), (6, .int (nI (j + 1))), (7, .int (u.1 (157 + 2 * t) (j * 3 + 1))), (8, .int (nI (0)))]) 5 dX5_close_134 rfl (by decide) rfl ?_
            refine xe_goto 19 dX5_close_137 (by decide) ?_
            refine xE.sub [0, 1, 2, 3, 4, 5] rfl ?_
            exact k5 c1 c2 c3 c4 c5
          · refine xe_iconst (v := nI (1)) dX5_close_74 xc1 ?_
            refine xe_goto 79 dX5_close_75 (by decide) ?_
            refine xe_istore (L2 := [(0, .ref 70), (1, .ref (156 + 2 * t)), (3, .int (nI (w))), (4, .int (x)), (5, .int (y)), (6, .int (nI (j))), (7, .int (u.1 (157 + 2 * t) (j * 3 + 1))), (8, .int (nI (1)))]) dX5_close_79 (by decide) rfl ?_
            refine xe_iload 7 dX5_close_81 rfl ?_
            refine xn_if_eq 134 dX5_close_83 (by decide) (by omega) (fun q => absurd q (by decide)) (fun _ => ?_)
            refine xe_aload_n 1 dX5_close_86 rfl rfl ?_
            refine xe_iload 5 dX5_close_87 rfl ?_
            refine xE.sub [0, 1, 2, 3, 4, 5, 6] rfl ?_
            refine xe_callV (As := [.int (nI (j))]) (rest := []) dX5_close_89 wX6_beginsPair lX5_18 iX6_beginsPair sX6_beginsPair ⟨by decide, by decide⟩ (shT _ (by omega)) rfl (xin_mm (by omega)) rfl rfl (by simp [Value.category]) ?_
            exact k6 c1 c2 c3 c4 c5

theorem gX5_walk_0 (u : xU) (t w : Nat) {Q : Option Value → xM → Prop}  
    (k1 : xE mX5_walk 7 [(0, .ref 70), (1, .ref (156 + 2 * t)), (2, .int (nI (w))), (3, .int (nI (0)))] [] (xmm (wi u 70 0 (nI (0)))) Q) : xE mX5_walk 0 [(0, .ref 70), (1, .ref (156 + 2 * t)), (2, .int (nI (w)))] [] (xmm u) Q := by
  refine xe_aload_n 0 dX5_walk_0 rfl rfl ?_
  refine xe_iconst (v := nI (0)) dX5_walk_1 xc0 ?_
  refine xr_putI dX5_walk_2 fX5_7 sh70 (by decide) ?_
  refine xe_iconst (v := nI (0)) dX5_walk_5 xc0 ?_
  refine xe_istore_n (L2 := [(0, .ref 70), (1, .ref (156 + 2 * t)), (2, .int (nI (w))), (3, .int (nI (0)))]) dX5_walk_6 rfl (by decide) rfl ?_
  exact k1

theorem gX5_walk_7 (u : xU) (t n cols : Nat) (i w m : Nat) (x y : Int32) (eb : Bool) {Q : Option Value → xM → Prop} (ht : t < 8) (hcols : cols ≤ 3) (hn : n ≤ 40) (h2 : 2 ≤ cols) (hi : i < n) (hw : w < 2147483648) (hm : m ≤ 1600) (hb : xC mX6_beginsPair [.ref (156 + 2 * t), .int (nI i)] (xmm u) (fun r μ' => r = some (.int (xb (eb = true))) ∧ μ' = xmm u)) (v1 : u.1 (156 + 2 * t) 0 = nI (cols)) (v2 : u.1 (156 + 2 * t) 1 = nI (n)) (v3 : u.1 (157 + 2 * t) (i * 3 + 0) = x) (v4 : u.1 (157 + 2 * t) (i * 3 + 1) = y) (v5 : u.1 70 0 = nI (m))
    (k1 : n ≤ i → Q (some (.int (nI (m)))) (xmm u))
    (k2 : ¬ n ≤ i → w < m → Q (some (.int (nI (m)))) (xmm u))
    (k3 : ¬ n ≤ i → ¬ w < m → ¬ (eb = true) → xE mX5_walk 7 [(0, .ref 70), (1, .ref (156 + 2 * t)), (2, .int (nI (w))), (3, .int (nI (i + 1)))] [] (xmm u) Q)
    (k4 : ¬ n ≤ i → ¬ w < m → eb = true → ¬ (ky x < ky y) → xE mX5_walk 7 [(0, .ref 70), (1, .ref (156 + 2 * t)), (2, .int (nI (w))), (3, .int (nI (i + 1)))] [] (xmm u) Q)
    (k5 : ¬ n ≤ i → ¬ w < m → eb = true → ky x < ky y → xC mX5_close [.ref 70, .ref (156 + 2 * t), .int (nI (i)), .int (nI (w))] (xmm u) (fun r μ1 => xE mX5_walk 56 [(0, .ref 70), (1, .ref (156 + 2 * t)), (2, .int (nI (w))), (3, .int (nI (i)))] (r.toList ++ []) μ1 Q)) : xE mX5_walk 7 [(0, .ref 70), (1, .ref (156 + 2 * t)), (2, .int (nI (w))), (3, .int (nI (i)))] [] (xmm u) Q := by
  refine xe_iload_n 3 dX5_walk_7 rfl rfl ?_
  refine xe_aload_n 1 dX5_walk_8 rfl rfl ?_
  refine xr_getI (v := nI (n)) dX5_walk_9 fX5_13 (shT _ (by omega)) (by omega) v2 ?_
  refine xn_icmp_ge 62 dX5_walk_12 (by decide) (by omega) (by omega) (fun c1 => ?_) (fun c1 => ?_)
  · refine xe_aload_n 0 dX5_walk_62 rfl rfl ?_
    refine xr_getI (v := nI (m)) dX5_walk_63 fX5_7 sh70 (by decide) v5 ?_
    exact xe_ret (r := (some (.int (nI (m))))) dX5_walk_66 trivial (k1 c1)
  · refine xe_aload_n 0 dX5_walk_15 rfl rfl ?_
    refine xr_getI (v := nI (m)) dX5_walk_16 fX5_7 sh70 (by decide) v5 ?_
    refine xe_iload_n 2 dX5_walk_19 rfl rfl ?_
    refine xn_icmp_gt 62 dX5_walk_20 (by decide) (by omega) (by omega) (fun c2 => ?_) (fun c2 => ?_)
    · refine xe_aload_n 0 dX5_walk_62 rfl rfl ?_
      refine xr_getI (v := nI (m)) dX5_walk_63 fX5_7 sh70 (by decide) v5 ?_
      exact xe_ret (r := (some (.int (nI (m))))) dX5_walk_66 trivial (k2 c1 c2)
    · refine xe_aload_n 1 dX5_walk_23 rfl rfl ?_
      refine xe_iload_n 3 dX5_walk_24 rfl rfl ?_
      refine xe_callV (As := [.int (nI (i))]) (rest := []) dX5_walk_25 wX6_beginsPair lX5_18 iX6_beginsPair sX6_beginsPair ⟨by decide, by decide⟩ (shT _ (by omega)) rfl (xin_mm (by omega)) rfl rfl (by simp [Value.category]) (xC.pure (v := .int (xb (eb = true))) (hb) ?_)
      refine xb_if_eq 56 dX5_walk_28 (by decide) (fun c3 => ?_) (fun c3 => ?_)
      · refine xn_iinc (c := 1) (L2 := [(0, .ref 70), (1, .ref (156 + 2 * t)), (2, .int (nI (w))), (3, .int (nI (i + 1)))]) 3 dX5_walk_56 rfl (by decide) rfl ?_
        refine xe_goto 7 dX5_walk_59 (by decide) ?_
        exact k3 c1 c2 c3
      · refine xe_aload_n 1 dX5_walk_31 rfl rfl ?_
        refine xe_iload_n 3 dX5_walk_32 rfl rfl ?_
        refine xe_iconst (v := nI (0)) dX5_walk_33 xc0 ?_
        refine xe_callV (As := [.int (nI (i)), .int (nI (0))]) (rest := []) dX5_walk_34 wX6_cell lX5_22 iX6_cell sX6_cell ⟨by decide, by decide⟩ (shT _ (by omega)) rfl (xin_mm (by omega)) rfl rfl (by simp [Value.category]) (xC.pure (v := .int (x)) (qX6_cellV u t n cols i 0 x (by omega) (by omega) (by omega) (by omega) (by omega) v1 v2 v3) ?_)
        refine xe_aload_n 1 dX5_walk_37 rfl rfl ?_
        refine xe_iload_n 3 dX5_walk_38 rfl rfl ?_
        refine xe_iconst (v := nI (1)) dX5_walk_39 xc1 ?_
        refine xe_callV (As := [.int (nI (i)), .int (nI (1))]) (rest := [.int (x)]) dX5_walk_40 wX6_cell lX5_22 iX6_cell sX6_cell ⟨by decide, by decide⟩ (shT _ (by omega)) rfl (xin_mm (by omega)) rfl rfl (by simp [Value.category]) (xC.pure (v := .int (y)) (qX6_cellV u t n cols i 1 y (by omega) (by omega) (by omega) (by omega) (by omega) v1 v2 v4) ?_)
        refine xe_callSN (As := [.int (x), .int (y)]) (rest := []) dX5_walk_43 wX9_ahead lX5_26 tX9_ahead ⟨by decide, by decide⟩ rfl rfl (by simp [Value.category]) (xC.pure (v := .int (xb (ky x < ky y))) (qX9_ahead u x y) ?_)
        refine xb_if_eq 56 dX5_walk_46 (by decide) (fun c4 => ?_) (fun c4 => ?_)
        · refine xn_iinc (c := 1) (L2 := [(0, .ref 70), (1, .ref (156 + 2 * t)), (2, .int (nI (w))), (3, .int (nI (i + 1)))]) 3 dX5_walk_56 rfl (by decide) rfl ?_
          refine xe_goto 7 dX5_walk_59 (by decide) ?_
          exact k4 c1 c2 c3 c4
        · refine xe_aload_n 0 dX5_walk_49 rfl rfl ?_
          refine xe_aload_n 1 dX5_walk_50 rfl rfl ?_
          refine xe_iload_n 3 dX5_walk_51 rfl rfl ?_
          refine xe_iload_n 2 dX5_walk_52 rfl rfl ?_
          refine xe_callV (As := [.ref (156 + 2 * t), .int (nI (i)), .int (nI (w))]) (rest := []) dX5_walk_53 wX5_close lX5_32 iX5_close sX5_close ⟨by decide, by decide⟩ sh70 rfl (xin_mm (by decide)) rfl rfl (by simp [Value.category]) ?_
          exact k5 c1 c2 c3 c4

theorem gX5_walk_e (u : xU) (t n cols : Nat) (i w m : Nat) {Q : Option Value → xM → Prop} (ht : t < 8) (hcols : cols ≤ 3) (hn : n ≤ 40) (h2 : 2 ≤ cols) (hi : i = n) (hw : w < 2147483648) (hm : m ≤ 1600) (v1 : u.1 (156 + 2 * t) 0 = nI (cols)) (v2 : u.1 (156 + 2 * t) 1 = nI (n)) (v3 : u.1 70 0 = nI (m))
    (k1 : n ≤ i → Q (some (.int (nI (m)))) (xmm u))
    (k2 : ¬ n ≤ i → w < m → Q (some (.int (nI (m)))) (xmm u))
    (k3 : ¬ n ≤ i → ¬ w < m → xC mX6_beginsPair [.ref (156 + 2 * t), .int (nI (i))] (xmm u) (fun r μ1 => xE mX5_walk 28 [(0, .ref 70), (1, .ref (156 + 2 * t)), (2, .int (nI (w))), (3, .int (nI (i)))] (r.toList ++ []) μ1 Q)) : xE mX5_walk 7 [(0, .ref 70), (1, .ref (156 + 2 * t)), (2, .int (nI (w))), (3, .int (nI (i)))] [] (xmm u) Q := by
  refine xe_iload_n 3 dX5_walk_7 rfl rfl ?_
  refine xe_aload_n 1 dX5_walk_8 rfl rfl ?_
  refine xr_getI (v := nI (n)) dX5_walk_9 fX5_13 (shT _ (by omega)) (by omega) v2 ?_
  refine xn_icmp_ge 62 dX5_walk_12 (by decide) (by omega) (by omega) (fun c1 => ?_) (fun c1 => ?_)
  · refine xe_aload_n 0 dX5_walk_62 rfl rfl ?_
    refine xr_getI (v := nI (m)) dX5_walk_63 fX5_7 sh70 (by decide) v3 ?_
    exact xe_ret (r := (some (.int (nI (m))))) dX5_walk_66 trivial (k1 c1)
  · refine xe_aload_n 0 dX5_walk_15 rfl rfl ?_
    refine xr_getI (v := nI (m)) dX5_walk_16 fX5_7 sh70 (by decide) v3 ?_
    refine xe_iload_n 2 dX5_walk_19 rfl rfl ?_
    refine xn_icmp_gt 62 dX5_walk_20 (by decide) (by omega) (by omega) (fun c2 => ?_) (fun c2 => ?_)
    · refine xe_aload_n 0 dX5_walk_62 rfl rfl ?_
      refine xr_getI (v := nI (m)) dX5_walk_63 fX5_7 sh70 (by decide) v3 ?_
      exact xe_ret (r := (some (.int (nI (m))))) dX5_walk_66 trivial (k2 c1 c2)
    · refine xe_aload_n 1 dX5_walk_23 rfl rfl ?_
      refine xe_iload_n 3 dX5_walk_24 rfl rfl ?_
      refine xe_callV (As := [.int (nI (i))]) (rest := []) dX5_walk_25 wX6_beginsPair lX5_18 iX6_beginsPair sX6_beginsPair ⟨by decide, by decide⟩ (shT _ (by omega)) rfl (xin_mm (by omega)) rfl rfl (by simp [Value.category]) ?_
      exact k3 c1 c2

theorem gX5_corner_0 (u : xU) (k : Int32) {Q : Option Value → xM → Prop}  
    (k1 : k = nI 0 → Q (some (.int (u.1 70 1))) (xmm u))
    (k2 : ¬ k = nI 0 → k = nI 1 → Q (some (.int (u.1 70 2))) (xmm u))
    (k3 : ¬ k = nI 0 → ¬ k = nI 1 → k = nI 2 → Q (some (.int (u.1 70 3))) (xmm u))
    (k4 : ¬ k = nI 0 → ¬ k = nI 1 → ¬ k = nI 2 → Q (some (.int (nI (0)))) (xmm u)) : xE mX5_corner 0 [(0, .ref 70), (1, .int (k))] [] (xmm u) Q := by
  refine xe_iload_n 1 dX5_corner_0 rfl rfl ?_
  by_cases c1 : k = nI 0
  · refine xe_tableIn (off := 27) 28 dX5_corner_1 (by rw [c1]; decide) (by rw [c1]; decide) (by rw [c1]; decide) (by decide) ?_
    refine xe_aload_n 0 dX5_corner_28 rfl rfl ?_
    refine xr_getI (v := u.1 70 1) dX5_corner_29 fX5_36 sh70 (by decide) rfl ?_
    exact xe_ret (r := (some (.int (u.1 70 1)))) dX5_corner_32 trivial (k1 c1)
  · by_cases c2 : k = nI 1
    · refine xe_tableIn (off := 32) 33 dX5_corner_1 (by rw [c2]; decide) (by rw [c2]; decide) (by rw [c2]; decide) (by decide) ?_
      refine xe_aload_n 0 dX5_corner_33 rfl rfl ?_
      refine xr_getI (v := u.1 70 2) dX5_corner_34 fX5_39 sh70 (by decide) rfl ?_
      exact xe_ret (r := (some (.int (u.1 70 2)))) dX5_corner_37 trivial (k2 c1 c2)
    · by_cases c3 : k = nI 2
      · refine xe_tableIn (off := 37) 38 dX5_corner_1 (by rw [c3]; decide) (by rw [c3]; decide) (by rw [c3]; decide) (by decide) ?_
        refine xe_aload_n 0 dX5_corner_38 rfl rfl ?_
        refine xr_getI (v := u.1 70 3) dX5_corner_39 fX5_42 sh70 (by decide) rfl ?_
        exact xe_ret (r := (some (.int (u.1 70 3)))) dX5_corner_42 trivial (k3 c1 c2 c3)
      · refine xe_tableOut 43 dX5_corner_1 (by have z0 := lv_neT c1 (show (nI 0).toInt = 0 from by decide); have z1 := lv_neT c2 (show (nI 1).toInt = 1 from by decide); have z2 := lv_neT c3 (show (nI 2).toInt = 2 from by decide); omega) (by decide) ?_
        refine xe_iconst (v := nI (0)) dX5_corner_43 xc0 ?_
        exact xe_ret (r := (some (.int (nI (0))))) dX5_corner_44 trivial (k4 c1 c2 c3)

theorem gX5_walk_56 (u : xU) (t w i : Nat) {Q : Option Value → xM → Prop}  
    (k1 : xE mX5_walk 7 [(0, .ref 70), (1, .ref (156 + 2 * t)), (2, .int (nI (w))), (3, .int (nI (i + 1)))] [] (xmm u) Q) : xE mX5_walk 56 [(0, .ref 70), (1, .ref (156 + 2 * t)), (2, .int (nI (w))), (3, .int (nI (i)))] [] (xmm u) Q := by
  refine xn_iinc (c := 1) (L2 := [(0, .ref 70), (1, .ref (156 + 2 * t)), (2, .int (nI (w))), (3, .int (nI (i + 1)))]) 3 dX5_walk_56 rfl (by decide) rfl ?_
  refine xe_goto 7 dX5_walk_59 (by decide) ?_
  exact k1

theorem gX9_rings_T (u : xU) (t : Int32) (k cols : Nat) {Q : Option Value → xM → Prop} (hk : k < 8) (hc : cols ≤ 3) (hta : xC mX9_tableAt [.ref 1, .int t] (xmm u) (fun r μ' => r = some (.ref (156 + 2 * k)) ∧ μ' = xmm u)) (v1 : u.1 (156 + 2 * k) 0 = nI (cols))
    (k1 : 2 ≤ cols → xC mX5_walk [.ref 70, .ref (156 + 2 * k), .int (nI (1600))] (xmm u) (fun r μ1 => xE mX9_rings 31 [] (r.toList ++ []) μ1 Q))
    (k2 : ¬ 2 ≤ cols → Q (some (.int (-1))) (xmm u)) : xE mX9_rings 0 [(0, .ref 1), (1, .int (t))] [] (xmm u) Q := by
  refine xe_aload_n 0 dX9_rings_0 rfl rfl ?_
  refine xe_iload_n 1 dX9_rings_1 rfl rfl ?_
  refine xe_callV (As := [.int (t)]) (rest := []) dX9_rings_2 wX9_tableAt lX9_73 iX9_tableAt sX9_tableAt ⟨by decide, by decide⟩ sh1 rfl (xin_mm (by decide)) rfl rfl (by simp [Value.category]) (xC.pure (v := .ref (156 + 2 * k)) (hta) ?_)
  refine xe_astore_n (L2 := [(0, .ref 1), (1, .int (t)), (2, .ref (156 + 2 * k))]) dX9_rings_5 rfl (by decide) rfl ?_
  refine xe_aload_n 2 dX9_rings_6 rfl rfl ?_
  refine xe_ifnull_r dX9_rings_7 ?_
  refine xe_aload_n 2 dX9_rings_10 rfl rfl ?_
  refine xr_getI (v := nI (cols)) dX9_rings_11 fX9_97 (shT _ (by omega)) (by omega) v1 ?_
  refine xe_iconst (v := nI (2)) dX9_rings_14 xc2 ?_
  refine xn_icmp_ge 20 dX9_rings_15 (by decide) (by omega) (by omega) (fun c1 => ?_) (fun c1 => ?_)
  · refine xe_aload_n 0 dX9_rings_20 rfl rfl ?_
    refine xr_getR (b := 70) dX9_rings_21 fX9_46 rfl sh1 (by decide) rfl ?_
    refine xe_aload_n 2 dX9_rings_24 rfl rfl ?_
    refine xe_sipush (v := nI (1600)) dX9_rings_25 xcs1600 ?_
    refine xE.sub [] rfl ?_
    refine xe_callV (As := [.ref (156 + 2 * k), .int (nI (1600))]) (rest := []) dX9_rings_28 wX5_walk lX9_211 iX5_walk sX5_walk ⟨by decide, by decide⟩ sh70 rfl (xin_mm (by decide)) rfl rfl (by simp [Value.category]) ?_
    exact k1 c1
  · refine xe_iconst (v := -1) dX9_rings_18 xcm1 ?_
    exact xe_ret (r := (some (.int (-1)))) dX9_rings_19 trivial (k2 c1)

theorem gX9_rings_Z (u : xU) (t : Int32) {Q : Option Value → xM → Prop} (hta : xC mX9_tableAt [.ref 1, .int t] (xmm u) (fun r μ' => r = some .null ∧ μ' = xmm u)) 
    (k1 : Q (some (.int (-1))) (xmm u)) : xE mX9_rings 0 [(0, .ref 1), (1, .int (t))] [] (xmm u) Q := by
  refine xe_aload_n 0 dX9_rings_0 rfl rfl ?_
  refine xe_iload_n 1 dX9_rings_1 rfl rfl ?_
  refine xe_callV (As := [.int (t)]) (rest := []) dX9_rings_2 wX9_tableAt lX9_73 iX9_tableAt sX9_tableAt ⟨by decide, by decide⟩ sh1 rfl (xin_mm (by decide)) rfl rfl (by simp [Value.category]) (xC.pure (v := .null) (hta) ?_)
  refine xe_astoreN_n (L2 := [(0, .ref 1), (1, .int (t)), (2, .null)]) dX9_rings_5 rfl (by decide) rfl ?_
  refine xe_aloadN_n 2 dX9_rings_6 rfl rfl ?_
  refine xe_ifnull_n 18 dX9_rings_7 (by decide) ?_
  refine xe_iconst (v := -1) dX9_rings_18 xcm1 ?_
  exact xe_ret (r := (some (.int (-1)))) dX9_rings_19 trivial (k1)

theorem gX9_ring_T (u : xU) (t : Int32) (s cols : Nat) (i k : Int32) {Q : Option Value → xM → Prop} (hs : s < 8) (hc : cols ≤ 3) (hta : xC mX9_tableAt [.ref 1, .int t] (xmm u) (fun r μ' => r = some (.ref (156 + 2 * s)) ∧ μ' = xmm u)) (v1 : u.1 (156 + 2 * s) 0 = nI (cols))
    (k1 : cols < 2 → Q (some (.int (nI (0)))) (xmm u))
    (k2 : ¬ cols < 2 → i < 0 → Q (some (.int (nI (0)))) (xmm u))
    (k3 : ¬ cols < 2 → ¬ i < 0 → xC mX5_walk [.ref 70, .ref (156 + 2 * s), .int (i)] (xmm u) (fun r μ1 => xE mX9_ring 35 [(0, .ref 1), (2, .int (i)), (3, .int (k))] (r.toList ++ []) μ1 Q)) : xE mX9_ring 0 [(0, .ref 1), (1, .int (t)), (2, .int (i)), (3, .int (k))] [] (xmm u) Q := by
  refine xe_aload_n 0 dX9_ring_0 rfl rfl ?_
  refine xe_iload_n 1 dX9_ring_1 rfl rfl ?_
  refine xe_callV (As := [.int (t)]) (rest := []) dX9_ring_2 wX9_tableAt lX9_73 iX9_tableAt sX9_tableAt ⟨by decide, by decide⟩ sh1 rfl (xin_mm (by decide)) rfl rfl (by simp [Value.category]) (xC.pure (v := .ref (156 + 2 * s)) (hta) ?_)
  refine xe_astore (L2 := [(0, .ref 1), (1, .int (t)), (2, .int (i)), (3, .int (k)), (4, .ref (156 + 2 * s))]) dX9_ring_5 (by decide) rfl ?_
  refine xe_aload 4 dX9_ring_7 rfl ?_
  refine xe_ifnull_r dX9_ring_9 ?_
  refine xe_aload 4 dX9_ring_12 rfl ?_
  refine xr_getI (v := nI (cols)) dX9_ring_14 fX9_97 (shT _ (by omega)) (by omega) v1 ?_
  refine xe_iconst (v := nI (2)) dX9_ring_17 xc2 ?_
  refine xn_icmp_lt 39 dX9_ring_18 (by decide) (by omega) (by omega) (fun c1 => ?_) (fun c1 => ?_)
  · refine xe_iconst (v := nI (0)) dX9_ring_39 xc0 ?_
    exact xe_ret (r := (some (.int (nI (0))))) dX9_ring_40 trivial (k1 c1)
  · refine xe_iload_n 2 dX9_ring_21 rfl rfl ?_
    refine xe_if_lt 39 dX9_ring_22 (by decide) (fun c2 => ?_) (fun c2 => ?_)
    · refine xe_iconst (v := nI (0)) dX9_ring_39 xc0 ?_
      exact xe_ret (r := (some (.int (nI (0))))) dX9_ring_40 trivial (k2 c1 c2)
    · refine xe_aload_n 0 dX9_ring_25 rfl rfl ?_
      refine xr_getR (b := 70) dX9_ring_26 fX9_46 rfl sh1 (by decide) rfl ?_
      refine xe_aload 4 dX9_ring_29 rfl ?_
      refine xe_iload_n 2 dX9_ring_31 rfl rfl ?_
      refine xE.sub [0, 2, 3] rfl ?_
      refine xe_callV (As := [.ref (156 + 2 * s), .int (i)]) (rest := []) dX9_ring_32 wX5_walk lX9_211 iX5_walk sX5_walk ⟨by decide, by decide⟩ sh70 rfl (xin_mm (by decide)) rfl rfl (by simp [Value.category]) ?_
      exact k3 c1 c2

theorem gX9_ring_Z (u : xU) (t : Int32) (i k : Int32) {Q : Option Value → xM → Prop} (hta : xC mX9_tableAt [.ref 1, .int t] (xmm u) (fun r μ' => r = some .null ∧ μ' = xmm u)) 
    (k1 : Q (some (.int (nI (0)))) (xmm u)) : xE mX9_ring 0 [(0, .ref 1), (1, .int (t)), (2, .int (i)), (3, .int (k))] [] (xmm u) Q := by
  refine xe_aload_n 0 dX9_ring_0 rfl rfl ?_
  refine xe_iload_n 1 dX9_ring_1 rfl rfl ?_
  refine xe_callV (As := [.int (t)]) (rest := []) dX9_ring_2 wX9_tableAt lX9_73 iX9_tableAt sX9_tableAt ⟨by decide, by decide⟩ sh1 rfl (xin_mm (by decide)) rfl rfl (by simp [Value.category]) (xC.pure (v := .null) (hta) ?_)
  refine xe_astoreN (L2 := [(0, .ref 1), (1, .int (t)), (2, .int (i)), (3, .int (k)), (4, .null)]) dX9_ring_5 (by decide) rfl ?_
  refine xe_aloadN 4 dX9_ring_7 rfl ?_
  refine xe_ifnull_n 39 dX9_ring_9 (by decide) ?_
  refine xe_iconst (v := nI (0)) dX9_ring_39 xc0 ?_
  exact xe_ret (r := (some (.int (nI (0))))) dX9_ring_40 trivial (k1)

theorem gX9_ring_35 (u : xU) (w m : Nat) (k : Int32) {Q : Option Value → xM → Prop} (hw : w < 2147483648) (hm : m ≤ 1600) 
    (k1 : w < m → xC mX5_corner [.ref 70, .int (k)] (xmm u) (fun r μ1 => xE mX9_ring 49 [] (r.toList ++ []) μ1 Q))
    (k2 : ¬ w < m → Q (some (.int (nI (0)))) (xmm u)) : xE mX9_ring 35 [(0, .ref 1), (2, .int (nI (w))), (3, .int (k))] [.int (nI (m))] (xmm u) Q := by
  refine xe_iload_n 1 dX9_ring_35 rfl rfl ?_
  refine xn_icmp_gt 41 dX9_ring_36 (by decide) (by omega) (by omega) (fun c1 => ?_) (fun c1 => ?_)
  · refine xe_aload_n 0 dX9_ring_41 rfl rfl ?_
    refine xr_getR (b := 70) dX9_ring_42 fX9_46 rfl sh1 (by decide) rfl ?_
    refine xe_iload_n 2 dX9_ring_45 rfl rfl ?_
    refine xE.sub [] rfl ?_
    refine xe_callV (As := [.int (k)]) (rest := []) dX9_ring_46 wX5_corner lX9_215 iX5_corner sX5_corner ⟨by decide, by decide⟩ sh70 rfl (xin_mm (by decide)) rfl rfl (by simp [Value.category]) ?_
    exact k1 c1
  · refine xe_iconst (v := nI (0)) dX9_ring_39 xc0 ?_
    exact xe_ret (r := (some (.int (nI (0))))) dX9_ring_40 trivial (k2 c1)

def frR (u u' : xU) : Prop := (∀ x, x ≠ 70 → u'.1 x = u.1 x) ∧ u'.2 = u.2
theorem frR.rf {u : xU} : frR u u := ⟨fun _ _ => rfl, rfl⟩
theorem frR.tr {u v w : xU} (a : frR u v) (b : frR v w) : frR u w := ⟨fun x hx => (b.1 x hx).trans (a.1 x hx), b.2.trans a.2⟩
theorem CT.R {T : TBL} {u u' : xU} (h : CT T u) (f : frR u u') : CT T u' := h.keep (fun a h1 h2 => f.1 a (by omega))
theorem qX6_beginsPair {u : xU} {T : TBL} (hT : TI T) (h : CT T u) {t i : Nat} (ht : t < 8) (h2 : 2 ≤ T.1 t) (hi : i < T.2.1 t) : xC mX6_beginsPair [.ref (156 + 2 * t), .int (nI i)] (xmm u) (fun r μ' => r = some (.int (xb (bgn (T.2.2 t) i = true))) ∧ μ' = xmm u) := by
  obtain ⟨h1, h3, h4⟩ := h t ht
  obtain ⟨i1, i2, -⟩ := hT t ht
  refine xC.of xpl6 (Nat.le_of_ble_eq_true rfl) (gX6_beginsPair_0 u t (T.2.1 t) (T.1 t) i _ _ _ _ ht i1 i2 h2 hi h1 h3 (h4 i 0 hi (by decide)) (h4 i 1 hi (by decide)) (h4 (i - 1) 0 (by omega) (by decide)) (h4 (i - 1) 1 (by omega) (by decide)) (fun z => ⟨ret_t (bgn_iff.mpr (Or.inl z)), rfl⟩) (fun z y => ⟨ret_t (bgn_iff.mpr (Or.inr (Or.inl y))), rfl⟩) (fun z y x => ⟨ret_f (fun q => ?_), rfl⟩) (fun z y x => ⟨ret_t (bgn_iff.mpr (Or.inr (Or.inr x))), rfl⟩))
  rcases bgn_iff.mp q with q | q | q
  · exact z q
  · exact q y
  · exact q x
theorem qX6_hasPair {u : xU} {T : TBL} (hT : TI T) (h : CT T u) {t : Nat} (ht : t < 8) (h2 : 2 ≤ T.1 t) (a b : Int32) : xC mX6_hasPair [.ref (156 + 2 * t), .int a, .int b] (xmm u) (fun r μ' => r = some (.int (xb (hpr (T.2.2 t) (T.2.1 t) a b = true))) ∧ μ' = xmm u) := by
  obtain ⟨h1, h3, h4⟩ := h t ht
  obtain ⟨i1, i2, -⟩ := hT t ht
  refine xC.of xpl6 (Nat.le_of_ble_eq_true rfl) (gX6_hasPair_0 u t a b ?_)
  have loop : ∀ d i, T.2.1 t - i = d → i ≤ T.2.1 t → (∀ j, j < i → ¬ (T.2.2 t j 0 = a ∧ T.2.2 t j 1 = b)) → xE mX6_hasPair 2 [(0, .ref (156 + 2 * t)), (1, .int a), (2, .int b), (3, .int (nI i))] [] (xmm u) (fun r μ' => r = some (.int (xb (hpr (T.2.2 t) (T.2.1 t) a b = true))) ∧ μ' = xmm u) := by
    intro d
    induction d with
    | zero =>
      intro i hd hi hj
      refine gX6_hasPair_e u t (T.2.1 t) (T.1 t) i a b ht i1 i2 (by omega) h1 h3 (fun _ => ⟨ret_f (fun z => ?_), rfl⟩) (fun z => by omega) (fun z => by omega) (fun z => by omega)
      obtain ⟨j, j1, j2⟩ := hpr_iff.mp z
      exact hj j (by omega) j2
    | succ d ih =>
      intro i hd hi hj
      have hil : i < T.2.1 t := by omega
      have nx : ¬ (T.2.2 t i 0 = a ∧ T.2.2 t i 1 = b) → xE mX6_hasPair 2 [(0, .ref (156 + 2 * t)), (1, .int a), (2, .int b), (3, .int (nI (i + 1)))] [] (xmm u) (fun r μ' => r = some (.int (xb (hpr (T.2.2 t) (T.2.1 t) a b = true))) ∧ μ' = xmm u) := fun z => ih (i + 1) (by omega) hil (fun j hji => by
        by_cases e : j = i
        · subst e; exact z
        · exact hj j (by omega))
      exact gX6_hasPair_2 u t (T.2.1 t) (T.1 t) i a b _ _ ht i1 i2 h2 hil h1 h3 (h4 i 0 hil (by decide)) (h4 i 1 hil (by decide)) (fun z => by omega) (fun _ z => nx (fun y => z y.1)) (fun _ _ z => nx (fun y => z y.2)) (fun _ z y => ⟨ret_t (hpr_iff.mpr ⟨i, hil, z, y⟩), rfl⟩)
  exact loop _ 0 rfl (Nat.zero_le _) (fun j hj => absurd hj (Nat.not_lt_zero j))
/-- what the walk holds when it has met m rings, where it stops behind ring w -/
def RS (c : Nat → Nat → Int32) (n w m : Nat) (u : xU) : Prop := u.1 70 0 = nI m ∧ (m = w + 1 → ∃ i j, rgP (okR c n) n w i j ∧ u.1 70 1 = c i 0 ∧ u.1 70 2 = c i 1 ∧ u.1 70 3 = c j 1)
theorem qX5_close {u : xU} {T : TBL} (hT : TI T) (h : CT T u) {t i w : Nat} (ht : t < 8) (h2 : 2 ≤ T.1 t) (hi : i < T.2.1 t) (hw : w < 2147483648) (hb : bgn (T.2.2 t) i = true) (ha : ky (T.2.2 t i 0) < ky (T.2.2 t i 1)) (hr : RS (T.2.2 t) (T.2.1 t) w (rI (okR (T.2.2 t) (T.2.1 t)) (T.2.1 t) i) u) (hle : rI (okR (T.2.2 t) (T.2.1 t)) (T.2.1 t) i ≤ w + 1) :
    xC mX5_close [.ref 70, .ref (156 + 2 * t), .int (nI i), .int (nI w)] (xmm u) (fun r μ' => ∃ u' m', μ' = xmm u' ∧ r = none ∧ frR u u' ∧ RS (T.2.2 t) (T.2.1 t) w m' u' ∧ m' ≤ w + 1 ∧ m' ≤ 1600 ∧ (m' = w + 1 ∨ m' = rI (okR (T.2.2 t) (T.2.1 t)) (T.2.1 t) (i + 1))) := by
  obtain ⟨h1, h3, h4⟩ := h t ht
  obtain ⟨i1, i2, -⟩ := hT t ht
  have hri := rI_le (ok := okR (T.2.2 t) (T.2.1 t)) i2 (i := i)
  refine xC.of xpl5 (Nat.le_of_ble_eq_true rfl) (gX5_close_0 u t (T.2.1 t) (T.1 t) i w _ _ ht i1 i2 h2 hi hw h1 h3 (h4 i 0 hi (by decide)) (h4 i 1 hi (by decide)) ?_)
  have loop : ∀ d j v, T.2.1 t - j = d → j ≤ T.2.1 t → frR u v → RS (T.2.2 t) (T.2.1 t) w (rI (okR (T.2.2 t) (T.2.1 t)) (T.2.1 t) i + cntB (okR (T.2.2 t) (T.2.1 t) i) j) v → rI (okR (T.2.2 t) (T.2.1 t)) (T.2.1 t) i + cntB (okR (T.2.2 t) (T.2.1 t) i) j ≤ w + 1 → xE mX5_close 19 [(0, .ref 70), (1, .ref (156 + 2 * t)), (3, .int (nI w)), (4, .int (T.2.2 t i 0)), (5, .int (T.2.2 t i 1)), (6, .int (nI j))] [] (xmm v) (fun r μ' => ∃ u' m', μ' = xmm u' ∧ r = none ∧ frR u u' ∧ RS (T.2.2 t) (T.2.1 t) w m' u' ∧ m' ≤ w + 1 ∧ m' ≤ 1600 ∧ (m' = w + 1 ∨ m' = rI (okR (T.2.2 t) (T.2.1 t)) (T.2.1 t) (i + 1))) := by
    intro d
    induction d with
    | zero =>
      intro j v hd hj fv rv lv
      have hc := cntB_le (f := okR (T.2.2 t) (T.2.1 t) i) (n := j)
      have hje : j = T.2.1 t := by omega
      obtain ⟨g1, g3, g4⟩ := h.R fv t ht
      refine gX5_close_e v t (T.2.1 t) (T.1 t) j w _ _ _ ht i1 i2 h2 hje hw (by omega) g1 g3 rv.1 (fun _ => ⟨v, _, rfl, rfl, fv, rv, lv, by omega, Or.inr ?_⟩) (fun z => by omega) (fun z => by omega) (fun z => by omega) (fun z => by omega) (fun z => by omega)
      rw [hje]
      rfl
    | succ d ih =>
      intro j v hd hj fv rv lv
      have hjl : j < T.2.1 t := by omega
      have hc := cntB_le (f := okR (T.2.2 t) (T.2.1 t) i) (n := j)
      have hCv := h.R fv
      obtain ⟨g1, g3, g4⟩ := hCv t ht
      have nx : ¬ okR (T.2.2 t) (T.2.1 t) i j = true → xE mX5_close 19 [(0, .ref 70), (1, .ref (156 + 2 * t)), (3, .int (nI w)), (4, .int (T.2.2 t i 0)), (5, .int (T.2.2 t i 1)), (6, .int (nI (j + 1)))] [] (xmm v) (fun r μ' => ∃ u' m', μ' = xmm u' ∧ r = none ∧ frR u u' ∧ RS (T.2.2 t) (T.2.1 t) w m' u' ∧ m' ≤ w + 1 ∧ m' ≤ 1600 ∧ (m' = w + 1 ∨ m' = rI (okR (T.2.2 t) (T.2.1 t)) (T.2.1 t) (i + 1))) := fun z => by
        have e := cntB_f z
        exact ih (j + 1) v (by omega) hjl fv (by rw [e]; exact rv) (by rw [e]; exact lv)
      refine gX5_close_19 v t (T.2.1 t) (T.1 t) j w _ _ _ (T.2.2 t j 0) (T.2.2 t j 1) (bgn (T.2.2 t) j) (hpr (T.2.2 t) (T.2.1 t) (T.2.2 t j 1) (T.2.2 t i 0)) ht i1 i2 h2 hjl hw (by omega) (qX6_beginsPair hT hCv ht h2 hjl) (qX6_hasPair hT hCv ht h2 _ _) g1 g3 (g4 j 0 hjl (by decide)) (g4 j 1 hjl (by decide)) rv.1 (fun z => by omega) (fun _ z => ⟨v, _, rfl, rfl, fv, rv, lv, by omega, Or.inl (by omega)⟩) (fun _ _ z => nx (fun q => z (okR_iff.mp q).2.1)) (fun _ _ _ z => nx (fun q => (okR_iff.mp q).2.2.1 z)) (fun _ _ _ _ z => nx (fun q => z (okR_iff.mp q).2.2.2.1)) (fun _ _ _ _ _ z => nx (fun q => z (okR_iff.mp q).2.2.2.2.1)) (fun _ _ _ _ _ _ z => nx (fun q => z (okR_iff.mp q).2.2.2.2.2)) (fun _ y z1 z2 z3 z4 z5 => ?_)
      have hok : okR (T.2.2 t) (T.2.1 t) i j = true := okR_iff.mpr ⟨⟨hb, ha⟩, z1, z2, z3, z4, z5⟩
      have e := cntB_t (f := okR (T.2.2 t) (T.2.1 t) i) (n := j) hok
      refine ih (j + 1) _ (by omega) hjl (fv.tr ⟨fun x hx => by rw [wi_row hx, wi_row hx, wi_row hx, wi_row hx], rfl⟩) ⟨?_, fun q => ⟨i, j, ⟨hi, hjl, hok, by omega⟩, ?_, ?_, ?_⟩⟩ (by omega)
      · rw [wi_nek (by decide), wi_nek (by decide), wi_nek (by decide), wi_self, e]
        rfl
      · rw [wi_nek (by decide), wi_nek (by decide), wi_self]
      · rw [wi_nek (by decide), wi_self]
      · rw [wi_self]
  exact loop _ 0 u rfl (Nat.zero_le _) frR.rf hr hle
theorem qX5_walk {u : xU} {T : TBL} (hT : TI T) (h : CT T u) {t w : Nat} (ht : t < 8) (h2 : 2 ≤ T.1 t) (hw : w < 2147483648) :
    xC mX5_walk [.ref 70, .ref (156 + 2 * t), .int (nI w)] (xmm u) (fun r μ' => ∃ u' m', μ' = xmm u' ∧ r = some (.int (nI m')) ∧ frR u u' ∧ RS (T.2.2 t) (T.2.1 t) w m' u' ∧ m' ≤ w + 1 ∧ m' ≤ 1600 ∧ (m' = w + 1 ∨ m' = rI (okR (T.2.2 t) (T.2.1 t)) (T.2.1 t) (T.2.1 t))) := by
  obtain ⟨i1, i2, -⟩ := hT t ht
  refine xC.of xpl5 (Nat.le_of_ble_eq_true rfl) (gX5_walk_0 u t w ?_)
  have loop : ∀ d i v m, T.2.1 t - i = d → i ≤ T.2.1 t → frR u v → RS (T.2.2 t) (T.2.1 t) w m v → m ≤ w + 1 → m ≤ 1600 → (m = w + 1 ∨ m = rI (okR (T.2.2 t) (T.2.1 t)) (T.2.1 t) i) → xE mX5_walk 7 [(0, .ref 70), (1, .ref (156 + 2 * t)), (2, .int (nI w)), (3, .int (nI i))] [] (xmm v) (fun r μ' => ∃ u' m', μ' = xmm u' ∧ r = some (.int (nI m')) ∧ frR u u' ∧ RS (T.2.2 t) (T.2.1 t) w m' u' ∧ m' ≤ w + 1 ∧ m' ≤ 1600 ∧ (m' = w + 1 ∨ m' = rI (okR (T.2.2 t) (T.2.1 t)) (T.2.1 t) (T.2.1 t))) := by
    intro d
    induction d with
    | zero =>
      intro i v m hd hi fv rv lv l6 hor
      obtain ⟨g1, g3, g4⟩ := h.R fv t ht
      have hie : i = T.2.1 t := by omega
      exact gX5_walk_e v t (T.2.1 t) (T.1 t) i w m ht i1 i2 h2 hie hw l6 g1 g3 rv.1 (fun _ => ⟨v, m, rfl, rfl, fv, rv, lv, l6, by have q := hor; rw [hie] at q; exact q⟩) (fun z => by omega) (fun z => by omega)
    | succ d ih =>
      intro i v m hd hi fv rv lv l6 hor
      have hil : i < T.2.1 t := by omega
      have hCv := h.R fv
      obtain ⟨g1, g3, g4⟩ := hCv t ht
      have nx : ¬ w < m → ¬ (bgn (T.2.2 t) i = true ∧ ky (T.2.2 t i 0) < ky (T.2.2 t i 1)) → xE mX5_walk 7 [(0, .ref 70), (1, .ref (156 + 2 * t)), (2, .int (nI w)), (3, .int (nI (i + 1)))] [] (xmm v) (fun r μ' => ∃ u' m', μ' = xmm u' ∧ r = some (.int (nI m')) ∧ frR u u' ∧ RS (T.2.2 t) (T.2.1 t) w m' u' ∧ m' ≤ w + 1 ∧ m' ≤ 1600 ∧ (m' = w + 1 ∨ m' = rI (okR (T.2.2 t) (T.2.1 t)) (T.2.1 t) (T.2.1 t))) := fun y z => by
        have e : rI (okR (T.2.2 t) (T.2.1 t)) (T.2.1 t) (i + 1) = rI (okR (T.2.2 t) (T.2.1 t)) (T.2.1 t) i := by
          show _ + cntB (okR (T.2.2 t) (T.2.1 t) i) (T.2.1 t) = _
          rw [cntB_zero (fun j _ q => z (okR_iff.mp q).1)]
          rfl
        exact ih (i + 1) v m (by omega) hil fv rv lv l6 (by rw [e]; exact hor)
      refine gX5_walk_7 v t (T.2.1 t) (T.1 t) i w m _ _ (bgn (T.2.2 t) i) ht i1 i2 h2 hil hw l6 (qX6_beginsPair hT hCv ht h2 hil) g1 g3 (g4 i 0 hil (by decide)) (g4 i 1 hil (by decide)) rv.1 (fun z => by omega) (fun _ z => ⟨v, m, rfl, rfl, fv, rv, lv, l6, Or.inl (by omega)⟩) (fun _ y z => nx y (fun q => z q.1)) (fun _ y _ z => nx y (fun q => z q.2)) (fun _ y z1 z2 => ?_)
      have hm : m = rI (okR (T.2.2 t) (T.2.1 t)) (T.2.1 t) i := by omega
      subst hm
      refine (qX5_close hT hCv ht h2 hil hw z1 z2 rv lv).mono ?_
      rintro r μ' ⟨u', m', rfl, rfl, f', r', l', l6', o'⟩
      refine gX5_walk_56 u' t w i ?_
      exact ih (i + 1) u' m' (by omega) hil (fv.tr f') r' l' l6' o'
  refine loop _ 0 _ 0 rfl (Nat.zero_le _) ⟨fun x hx => wi_row hx, rfl⟩ ⟨wi_self, fun z => by omega⟩ (by omega) (by omega) (Or.inr rfl)
/-! the face -/
def cnr (a b c k : Int32) : Int32 := if k = nI 0 then a else if k = nI 1 then b else if k = nI 2 then c else 0
theorem qX5_corner {u : xU} {a b c : Int32} (e1 : u.1 70 1 = a) (e2 : u.1 70 2 = b) (e3 : u.1 70 3 = c) (k : Int32) : xC mX5_corner [.ref 70, .int k] (xmm u) (fun r μ' => r = some (.int (cnr a b c k)) ∧ μ' = xmm u) := by
  refine xC.of xpl5 (Nat.le_of_ble_eq_true rfl) (gX5_corner_0 u k (fun z => ⟨?_, rfl⟩) (fun z y => ⟨?_, rfl⟩) (fun z y x => ⟨?_, rfl⟩) (fun z y x => ⟨?_, rfl⟩))
  · unfold cnr; rw [if_pos z, e1]
  · unfold cnr; rw [if_neg z, if_pos y, e2]
  · unfold cnr; rw [if_neg z, if_neg y, if_pos x, e3]
  · unfold cnr; rw [if_neg z, if_neg y, if_neg x]; rfl
/-- a table with rings -/
def rgd (T : TBL) (t : Int32) : Bool := tIs T t && decide (2 ≤ T.1 t.toNatClampNeg)
def aRings (T : TBL) (t : Int32) : Int32 := if rgd T t = true then nI (rI (okR (T.2.2 t.toNatClampNeg) (T.2.1 t.toNatClampNeg)) (T.2.1 t.toNatClampNeg) (T.2.1 t.toNatClampNeg)) else -1
def rgR (T : TBL) (t i k v : Int32) : Prop := (rgd T t = true ∧ 0 ≤ i ∧ ∃ a b, rgP (okR (T.2.2 t.toNatClampNeg) (T.2.1 t.toNatClampNeg)) (T.2.1 t.toNatClampNeg) i.toNatClampNeg a b ∧ v = cnr (T.2.2 t.toNatClampNeg a 0) (T.2.2 t.toNatClampNeg a 1) (T.2.2 t.toNatClampNeg b 1) k) ∨ (¬ (rgd T t = true ∧ 0 ≤ i ∧ i.toNatClampNeg < rI (okR (T.2.2 t.toNatClampNeg) (T.2.1 t.toNatClampNeg)) (T.2.1 t.toNatClampNeg) (T.2.1 t.toNatClampNeg)) ∧ v = 0)
theorem rgR_uniq {T : TBL} {t i k v v' : Int32} (h : rgR T t i k v) (h' : rgR T t i k v') : v = v' := by
  rcases h with ⟨h1, h2, a, b, h3, rfl⟩ | ⟨h1, rfl⟩
  · rcases h' with ⟨g1, g2, a', b', g3, rfl⟩ | ⟨g1, rfl⟩
    · obtain ⟨rfl, rfl⟩ := rgP_uniq h3 g3
      rfl
    · exact absurd ⟨h1, h2, rgP_tot h3⟩ g1
  · rcases h' with ⟨g1, g2, a', b', g3, rfl⟩ | ⟨g1, rfl⟩
    · exact absurd ⟨g1, g2, rgP_tot g3⟩ h1
    · rfl
theorem rgd_iff {T : TBL} {t : Int32} : rgd T t = true ↔ tIs T t = true ∧ 2 ≤ T.1 t.toNatClampNeg := by
  simp only [rgd, Bool.and_eq_true, decide_eq_true_eq]
theorem qX9_rings {u : xU} {T : TBL} (hT : TI T) (h : CT T u) (t : Int32) : xC mX9_rings [.ref 1, .int t] (xmm u) (fun r μ' => ∃ u', μ' = xmm u' ∧ r = some (.int (aRings T t)) ∧ frR u u') := by
  unfold aRings
  by_cases hi : tIs T t = true
  · obtain ⟨k, hk, rfl, e, h0⟩ := tIs_t hi
    obtain ⟨h1, h3, h4⟩ := h k hk
    obtain ⟨i1, i2, -⟩ := hT k hk
    have q1 := rgd_iff (T := T) (t := nI k)
    rw [e] at q1 ⊢
    refine xC.of xpl9 (Nat.le_of_ble_eq_true rfl) (gX9_rings_T u _ k (T.1 k) hk i1 (qX9_tableAt_t hT h hk h0) h1 (fun z => ?_) (fun z => ?_))
    · rw [if_pos (q1.mpr ⟨hi, z⟩)]
      refine (qX5_walk hT h hk z (w := 1600) (by decide)).mono ?_
      rintro r μ' ⟨u', m', rfl, rfl, f', r', l', l6', o'⟩
      have : m' = rI (okR (T.2.2 k) (T.2.1 k)) (T.2.1 k) (T.2.1 k) := by omega
      rw [this]
      exact xe_ret (r := some (.int _)) dX9_rings_31 trivial ⟨u', rfl, rfl, f'⟩
    · rw [if_neg (fun q => z (q1.mp q).2)]
      exact ⟨u, rfl, rfl, frR.rf⟩
  · rw [if_neg (fun q => hi (rgd_iff.mp q).1)]
    exact xC.of xpl9 (Nat.le_of_ble_eq_true rfl) (gX9_rings_Z u t (qX9_tableAt_f hT h hi) ⟨u, rfl, rfl, frR.rf⟩)
theorem qX9_ring {u : xU} {T : TBL} (hT : TI T) (h : CT T u) (t i k : Int32) : xC mX9_ring [.ref 1, .int t, .int i, .int k] (xmm u) (fun r μ' => ∃ u' v, μ' = xmm u' ∧ r = some (.int v) ∧ rgR T t i k v ∧ frR u u') := by
  by_cases hi : tIs T t = true
  · obtain ⟨s, hs, rfl, e, h0⟩ := tIs_t hi
    obtain ⟨h1, h3, h4⟩ := h s hs
    obtain ⟨i1, i2, -⟩ := hT s hs
    have q1 := rgd_iff (T := T) (t := nI s)
    unfold rgR
    rw [e] at q1 ⊢
    refine xC.of xpl9 (Nat.le_of_ble_eq_true rfl) (gX9_ring_T u _ s (T.1 s) i k hs i1 (qX9_tableAt_t hT h hs h0) h1 (fun z => ?_) (fun z y => ?_) (fun z y => ?_))
    · exact ⟨u, 0, rfl, rfl, Or.inr ⟨fun q => by have := (q1.mp q.1).2; omega, rfl⟩, frR.rf⟩
    · exact ⟨u, 0, rfl, rfl, Or.inr ⟨fun q => neg_nn y q.2.1, rfl⟩, frR.rf⟩
    · rcases xspl i with x | ⟨w, hw, rfl⟩
      · exact absurd x y
      rw [nI_nat hw]
      refine (qX5_walk hT h hs (by omega) hw).mono ?_
      rintro r μ' ⟨u', m', rfl, rfl, f', r', l', l6', o'⟩
      refine gX9_ring_35 u' w m' k hw l6' (fun z' => ?_) (fun z' => ?_)
      · obtain ⟨a, b, hp, e1, e2, e3⟩ := r'.2 (by omega)
        refine (qX5_corner e1 e2 e3 k).mono ?_
        rintro r μ' ⟨rfl, rfl⟩
        exact xe_ret (r := some (.int _)) dX9_ring_49 trivial ⟨u', _, rfl, rfl, Or.inl ⟨q1.mpr ⟨hi, by omega⟩, nI_nn hw, a, b, hp, rfl⟩, f'⟩
      · exact ⟨u', 0, rfl, rfl, Or.inr ⟨fun q => by have := q.2.2; omega, rfl⟩, f'⟩
  · exact xC.of xpl9 (Nat.le_of_ble_eq_true rfl) (gX9_ring_Z u t i k (qX9_tableAt_f hT h hi) ⟨u, 0, rfl, rfl, Or.inr ⟨fun q => hi (rgd_iff.mp q.1).1, rfl⟩, frR.rf⟩)

