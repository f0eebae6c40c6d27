/-! names as bits -/
def msk (f : Nat → Option Nat) : Nat → Nat
  | 0 => 0
  | i + 1 => msk f i ||| (match f i with | some k => 2 ^ k | none => 0)
def nmI : Option Nat → Int32
  | none => -1
  | some k => nI k
/-- the first place at which a name stands -/
def pOf (f : Nat → Option Nat) (k : Nat) : Nat → Nat
  | 0 => 0
  | i + 1 => if (msk f i).testBit k = true then pOf f k i else i
theorem msk_bit {f : Nat → Option Nat} {k : Nat} : ∀ {l : Nat}, (msk f l).testBit k = true ↔ ∃ i, i < l ∧ f i = some k
  | 0 => by simp [msk]
  | l + 1 => by
    unfold msk
    rw [Nat.testBit_or, Bool.or_eq_true, msk_bit]
    constructor
    · rintro (⟨i, hi, h⟩ | h)
      · exact ⟨i, by omega, h⟩
      · cases hf : f l with
        | none => rw [hf] at h; simp at h
        | some j =>
          rw [hf] at h
          simp only [Nat.testBit_two_pow, decide_eq_true_eq] at h
          exact ⟨l, by omega, by rw [hf, h]⟩
    · rintro ⟨i, hi, h⟩
      by_cases hil : i = l
      · right
        rw [← hil, h]
        simp
      · exact Or.inl ⟨i, by omega, h⟩
theorem msk_lt {f : Nat → Option Nat} : ∀ {l : Nat}, (∀ i, i < l → ∀ k, f i = some k → k < 6) → msk f l < 64
  | 0, _ => by unfold msk; decide
  | l + 1, h => by
    unfold msk
    have h1 := msk_lt (f := f) (l := l) (fun i hi => h i (by omega))
    refine Nat.or_lt_two_pow (n := 6) h1 ?_
    cases hf : f l with
    | none => decide
    | some k => exact Nat.pow_lt_pow_right (by decide) (h l (by omega) k hf)
theorem msk_congr {f g : Nat → Option Nat} : ∀ {l : Nat}, (∀ i, i < l → f i = g i) → msk f l = msk g l
  | 0, _ => rfl
  | l + 1, h => by unfold msk; rw [msk_congr (fun i hi => h i (by omega)), h l (by omega)]
theorem pOf_congr {f g : Nat → Option Nat} {k : Nat} : ∀ {l : Nat}, (∀ i, i < l → f i = g i) → pOf f k l = pOf g k l
  | 0, _ => rfl
  | l + 1, h => by unfold pOf; rw [msk_congr (fun i hi => h i (by omega)), pOf_congr (fun i hi => h i (by omega))]
theorem pOf_spec {f : Nat → Option Nat} {k : Nat} : ∀ {l : Nat}, (msk f l).testBit k = true → pOf f k l < l ∧ f (pOf f k l) = some k
  | 0, h => by simp [msk] at h
  | l + 1, h => by
    unfold pOf
    by_cases hl : (msk f l).testBit k = true
    · rw [if_pos hl]
      have := pOf_spec hl
      exact ⟨by omega, this.2⟩
    · rw [if_neg hl]
      obtain ⟨i, hi, hf⟩ := msk_bit.mp h
      have : i = l := Classical.byContradiction fun q => hl (msk_bit.mpr ⟨i, by omega, hf⟩)
      exact ⟨by omega, by rw [← this]; exact hf⟩
theorem bitI : ∀ m, m < 64 → ∀ k, k < 6 → ((nI m >>> (nI k &&& 31)) &&& 1) = if m.testBit k = true then 1 else 0 := by decide +kernel
theorem orI : ∀ m, m < 64 → ∀ k, k < 6 → nI m ||| ((1 : Int32) <<< (nI k &&& 31)) = nI (m ||| 2 ^ k) := by decide +kernel
/-- a part in the class's memory: kind, table, places, their names, told values, how many are due -/
def CP (p kd : Nat) (tb : Int32) (l : Nat) (f : Nat → Option Nat) (v : Nat → Int32) (due : Nat) (u : xU) : Prop :=
  u.1 (6 + 4 * p) 0 = nI kd ∧ u.1 (6 + 4 * p) 1 = tb ∧ u.1 (6 + 4 * p) 2 = nI l ∧ u.1 (6 + 4 * p) 3 = nI (msk f l) ∧ u.1 (6 + 4 * p) 4 = nI due ∧ (∀ i, i < l → u.1 (7 + 4 * p) i = nmI (f i)) ∧ (∀ i, i < l → f i = none → u.1 (8 + 4 * p) i = v i) ∧ ∀ k, (msk f l).testBit k = true → u.1 (9 + 4 * p) k = nI (pOf f k l)
theorem CP.keep {p kd l due : Nat} {tb : Int32} {f : Nat → Option Nat} {v : Nat → Int32} {u u' : xU} (h : CP p kd tb l f v due u) (hf : ∀ x, 6 + 4 * p ≤ x → x < 10 + 4 * p → u'.1 x = u.1 x) : CP p kd tb l f v due u' := by
  unfold CP at *
  rw [hf _ (by omega) (by omega), hf _ (by omega) (by omega), hf _ (by omega) (by omega), hf _ (by omega) (by omega)]
  exact h
/-- what a method of a part leaves alone -/
def frP (p : Nat) (u u' : xU) : Prop := (∀ x, ¬ (6 + 4 * p ≤ x ∧ x < 10 + 4 * p) → u'.1 x = u.1 x) ∧ u'.2 = u.2

theorem gX3_isFact_0 (u : xU) (p kd : Nat) {Q : Option Value → xM → Prop} (hp : p < 10) (hkd : kd ≤ 3) (v1 : u.1 (6 + 4 * p) 0 = nI (kd))
    (k1 : kd = 0 → Q (some (.int (nI (1)))) (xmm u))
    (k2 : ¬ kd = 0 → ¬ kd = 1 → Q (some (.int (nI (0)))) (xmm u))
    (k3 : ¬ kd = 0 → kd = 1 → Q (some (.int (nI (1)))) (xmm u)) : xE mX3_isFact 0 [(0, .ref (6 + 4 * p))] [] (xmm u) Q := by
  refine xe_aload_n 0 dX3_isFact_0 rfl rfl ?_
  refine xr_getI (v := nI (kd)) dX3_isFact_1 fX3_21 (shP _ (by omega)) (by omega) v1 ?_
  refine xn_if_eq 15 dX3_isFact_4 (by decide) (by omega) (fun c1 => ?_) (fun c1 => ?_)
  · refine xe_iconst (v := nI (1)) dX3_isFact_15 xc1 ?_
    refine xe_goto 20 dX3_isFact_16 (by decide) ?_
    exact xe_ret (r := (some (.int (nI (1))))) dX3_isFact_20 (Or.inr rfl) (k1 c1)
  · refine xe_aload_n 0 dX3_isFact_7 rfl rfl ?_
    refine xr_getI (v := nI (kd)) dX3_isFact_8 fX3_21 (shP _ (by omega)) (by omega) v1 ?_
    refine xe_iconst (v := nI (1)) dX3_isFact_11 xc1 ?_
    refine xn_icmp_ne 19 dX3_isFact_12 (by decide) (by omega) (by omega) (fun c2 => ?_) (fun c2 => ?_)
    · refine xe_iconst (v := nI (0)) dX3_isFact_19 xc0 ?_
      exact xe_ret (r := (some (.int (nI (0))))) dX3_isFact_20 (Or.inl rfl) (k2 c1 c2)
    · refine xe_iconst (v := nI (1)) dX3_isFact_15 xc1 ?_
      refine xe_goto 20 dX3_isFact_16 (by decide) ?_
      exact xe_ret (r := (some (.int (nI (1))))) dX3_isFact_20 (Or.inr rfl) (k3 c1 c2)

theorem qX3_isFact (u : xU) (p kd : Nat) (hp : p < 10) (hkd : kd ≤ 3) (v1 : u.1 (6 + 4 * p) 0 = nI kd) : xC mX3_isFact [.ref (6 + 4 * p)] (xmm u) (fun r μ' => r = some (.int (xb (kd ≤ 1))) ∧ μ' = xmm u) := by
  refine xC.of xpl3 (Nat.le_of_ble_eq_true rfl) (gX3_isFact_0 u p kd hp hkd v1 (fun q => ⟨?_, rfl⟩) (fun q z => ⟨?_, rfl⟩) (fun q z => ⟨?_, rfl⟩))
  · rw [xb_t (by omega)]; rfl
  · rw [xb_f (by omega)]; rfl
  · rw [xb_t (by omega)]; rfl

theorem gX3_isFull_0 (u : xU) (p l due : Nat) {Q : Option Value → xM → Prop} (hp : p < 10) (hl : l ≤ 3) (hdue : due ≤ 3) (v1 : u.1 (6 + 4 * p) 2 = nI (l)) (v2 : u.1 (6 + 4 * p) 4 = nI (due))
    (k1 : l < due → Q (some (.int (nI (0)))) (xmm u))
    (k2 : ¬ l < due → Q (some (.int (nI (1)))) (xmm u)) : xE mX3_isFull 0 [(0, .ref (6 + 4 * p))] [] (xmm u) Q := by
  refine xe_aload_n 0 dX3_isFull_0 rfl rfl ?_
  refine xr_getI (v := nI (l)) dX3_isFull_1 fX3_28 (shP _ (by omega)) (by omega) v1 ?_
  refine xe_aload_n 0 dX3_isFull_4 rfl rfl ?_
  refine xr_getI (v := nI (due)) dX3_isFull_5 fX3_34 (shP _ (by omega)) (by omega) v2 ?_
  refine xn_icmp_lt 15 dX3_isFull_8 (by decide) (by omega) (by omega) (fun c1 => ?_) (fun c1 => ?_)
  · refine xe_iconst (v := nI (0)) dX3_isFull_15 xc0 ?_
    exact xe_ret (r := (some (.int (nI (0))))) dX3_isFull_16 (Or.inl rfl) (k1 c1)
  · refine xe_iconst (v := nI (1)) dX3_isFull_11 xc1 ?_
    refine xe_goto 16 dX3_isFull_12 (by decide) ?_
    exact xe_ret (r := (some (.int (nI (1))))) dX3_isFull_16 (Or.inr rfl) (k2 c1)

theorem qX3_isFull (u : xU) (p l due : Nat) (hp : p < 10) (hl : l ≤ 3) (hd : due ≤ 3) (v1 : u.1 (6 + 4 * p) 2 = nI l) (v2 : u.1 (6 + 4 * p) 4 = nI due) : xC mX3_isFull [.ref (6 + 4 * p)] (xmm u) (fun r μ' => r = some (.int (xb (due ≤ l))) ∧ μ' = xmm u) := by
  refine xC.of xpl3 (Nat.le_of_ble_eq_true rfl) (gX3_isFull_0 u p l due hp hl hd v1 v2 (fun q => ⟨?_, rfl⟩) (fun q => ⟨?_, rfl⟩))
  · rw [xb_f (by omega)]; rfl
  · rw [xb_t (by omega)]; rfl

theorem gX3_carries_0 (u : xU) (p m k : Nat) {Q : Option Value → xM → Prop} (hp : p < 10) (v1 : u.1 (6 + 4 * p) 3 = nI (m))
    (k1 : (((nI (m)) >>> ((nI (k)) &&& 31)) &&& 1) = 0 → Q (some (.int (nI (0)))) (xmm u))
    (k2 : ¬ (((nI (m)) >>> ((nI (k)) &&& 31)) &&& 1) = 0 → Q (some (.int (nI (1)))) (xmm u)) : xE mX3_carries 0 [(0, .ref (6 + 4 * p)), (1, .int (nI (k)))] [] (xmm u) Q := by
  refine xe_aload_n 0 dX3_carries_0 rfl rfl ?_
  refine xr_getI (v := nI (m)) dX3_carries_1 fX3_31 (shP _ (by omega)) (by omega) v1 ?_
  refine xe_iload_n 1 dX3_carries_4 rfl rfl ?_
  refine xe_ishr dX3_carries_5 ?_
  refine xe_iconst (v := nI (1)) dX3_carries_6 xc1 ?_
  refine xe_iand dX3_carries_7 ?_
  refine xe_if_eq 15 dX3_carries_8 (by decide) (fun c1 => ?_) (fun c1 => ?_)
  · refine xe_iconst (v := nI (0)) dX3_carries_15 xc0 ?_
    exact xe_ret (r := (some (.int (nI (0))))) dX3_carries_16 (Or.inl rfl) (k1 c1)
  · refine xe_iconst (v := nI (1)) dX3_carries_11 xc1 ?_
    refine xe_goto 16 dX3_carries_12 (by decide) ?_
    exact xe_ret (r := (some (.int (nI (1))))) dX3_carries_16 (Or.inr rfl) (k2 c1)

theorem qX3_carries (u : xU) (p m k : Nat) (hp : p < 10) (hm : m < 64) (hk : k < 6) (v1 : u.1 (6 + 4 * p) 3 = nI m) : xC mX3_carries [.ref (6 + 4 * p), .int (nI k)] (xmm u) (fun r μ' => r = some (.int (xb (m.testBit k = true))) ∧ μ' = xmm u) := by
  refine xC.of xpl3 (Nat.le_of_ble_eq_true rfl) (gX3_carries_0 u p m k hp v1 (fun q => ⟨?_, rfl⟩) (fun q => ⟨?_, rfl⟩)) <;> rw [bitI m hm k hk] at q
  · by_cases h : m.testBit k = true
    · rw [if_pos h] at q; cases q
    · rw [xb_f h]; rfl
  · by_cases h : m.testBit k = true
    · rw [xb_t h]; rfl
    · rw [if_neg h] at q; exact absurd rfl q

theorem gX3_open_0 (u : xU) (p kd due : Nat) (tb : Int32) {Q : Option Value → xM → Prop} (hp : p < 10) 
    (k1 : Q none (xmm (wi (wi (wi (wi (wi u (6 + 4 * p) 0 (nI (kd))) (6 + 4 * p) 1 (tb)) (6 + 4 * p) 2 (nI (0))) (6 + 4 * p) 3 (nI (0))) (6 + 4 * p) 4 (nI (due))))) : xE mX3_open 0 [(0, .ref (6 + 4 * p)), (1, .int (nI (kd))), (2, .int (tb)), (3, .int (nI (due)))] [] (xmm u) Q := by
  refine xe_aload_n 0 dX3_open_0 rfl rfl ?_
  refine xe_iload_n 1 dX3_open_1 rfl rfl ?_
  refine xr_putI dX3_open_2 fX3_21 (shP _ (by omega)) (by omega) ?_
  refine xe_aload_n 0 dX3_open_5 rfl rfl ?_
  refine xe_iload_n 2 dX3_open_6 rfl rfl ?_
  refine xr_putI dX3_open_7 fX3_25 (shP _ (by omega)) (by omega) ?_
  refine xe_aload_n 0 dX3_open_10 rfl rfl ?_
  refine xe_iconst (v := nI (0)) dX3_open_11 xc0 ?_
  refine xr_putI dX3_open_12 fX3_28 (shP _ (by omega)) (by omega) ?_
  refine xe_aload_n 0 dX3_open_15 rfl rfl ?_
  refine xe_iconst (v := nI (0)) dX3_open_16 xc0 ?_
  refine xr_putI dX3_open_17 fX3_31 (shP _ (by omega)) (by omega) ?_
  refine xe_aload_n 0 dX3_open_20 rfl rfl ?_
  refine xe_iload_n 3 dX3_open_21 rfl rfl ?_
  refine xr_putI dX3_open_22 fX3_34 (shP _ (by omega)) (by omega) ?_
  exact xe_ret (r := none) dX3_open_25 trivial (k1)

theorem gX3_addPlace_0 (u : xU) (p l : Nat) (k v : Int32) {Q : Option Value → xM → Prop} (hp : p < 10) (hl : l ≤ 3) (v1 : u.1 (6 + 4 * p) 2 = nI (l))
    (k1 : l < 3 → Q (some (.int (nI (l + 1)))) (xmm (wi (wi (wi u (7 + 4 * p) l (k)) (8 + 4 * p) l (v)) (6 + 4 * p) 2 (nI (l + 1)))))
    (k2 : ¬ l < 3 → Q (some (.int (-1))) (xmm u)) : xE mX3_addPlace 0 [(0, .ref (6 + 4 * p)), (1, .int (k)), (2, .int (v))] [] (xmm u) Q := by
  refine xe_aload_n 0 dX3_addPlace_0 rfl rfl ?_
  refine xr_getI (v := nI (l)) dX3_addPlace_1 fX3_28 (shP _ (by omega)) (by omega) v1 ?_
  refine xe_iconst (v := nI (3)) dX3_addPlace_4 xc3 ?_
  refine xn_icmp_lt 10 dX3_addPlace_5 (by decide) (by omega) (by omega) (fun c1 => ?_) (fun c1 => ?_)
  · refine xe_aload_n 0 dX3_addPlace_10 rfl rfl ?_
    refine xr_getR (b := (7 + 4 * p)) dX3_addPlace_11 fX3_9 rfl (shP _ (by omega)) (by omega) (rPN (by omega)) ?_
    refine xe_aload_n 0 dX3_addPlace_14 rfl rfl ?_
    refine xr_getI (v := nI (l)) dX3_addPlace_15 fX3_28 (shP _ (by omega)) (by omega) v1 ?_
    refine xe_iload_n 1 dX3_addPlace_18 rfl rfl ?_
    refine xr_iast (k := l) dX3_addPlace_19 (shPN _ (by omega)) (by omega) (by omega) (by decide) ?_
    refine xe_aload_n 0 dX3_addPlace_20 rfl rfl ?_
    refine xr_getR (b := (8 + 4 * p)) dX3_addPlace_21 fX3_15 rfl (shP _ (by omega)) (by omega) (rPT (by omega)) ?_
    refine xe_aload_n 0 dX3_addPlace_24 rfl rfl ?_
    refine xr_getI (v := nI (l)) dX3_addPlace_25 fX3_28 (shP _ (by omega)) (by omega) ((wi_ne (by omega)).trans v1) ?_
    refine xe_iload_n 2 dX3_addPlace_28 rfl rfl ?_
    refine xr_iast (k := l) dX3_addPlace_29 (shPT _ (by omega)) (by omega) (by omega) (by decide) ?_
    refine xe_aload_n 0 dX3_addPlace_30 rfl rfl ?_
    refine xe_dup dX3_addPlace_31 rfl ?_
    refine xr_getI (v := nI (l)) dX3_addPlace_32 fX3_28 (shP _ (by omega)) (by omega) ((wi_ne (by omega)).trans ((wi_ne (by omega)).trans v1)) ?_
    refine xe_iconst (v := nI (1)) dX3_addPlace_35 xc1 ?_
    refine xn_iadd dX3_addPlace_36 ?_
    refine xr_putI dX3_addPlace_37 fX3_28 (shP _ (by omega)) (by omega) ?_
    refine xe_aload_n 0 dX3_addPlace_40 rfl rfl ?_
    refine xr_getI (v := nI (l + 1)) dX3_addPlace_41 fX3_28 (shP _ (by omega)) (by omega) wi_self ?_
    exact xe_ret (r := (some (.int (nI (l + 1))))) dX3_addPlace_44 trivial (k1 c1)
  · refine xe_iconst (v := -1) dX3_addPlace_8 xcm1 ?_
    exact xe_ret (r := (some (.int (-1)))) dX3_addPlace_9 trivial (k2 c1)

theorem gX3_addTold_0 (u : xU) (p : Nat) (v : Int32) {Q : Option Value → xM → Prop} (hp : p < 10) 
    (k1 : xC mX3_addPlace [.ref (6 + 4 * p), .int (-1), .int (v)] (xmm u) (fun r μ1 => xE mX3_addTold 6 [] (r.toList ++ []) μ1 Q)) : xE mX3_addTold 0 [(0, .ref (6 + 4 * p)), (1, .int (v))] [] (xmm u) Q := by
  refine xe_aload_n 0 dX3_addTold_0 rfl rfl ?_
  refine xe_iconst (v := -1) dX3_addTold_1 xcm1 ?_
  refine xe_iload_n 1 dX3_addTold_2 rfl rfl ?_
  refine xE.sub [] rfl ?_
  refine xe_callV (As := [.int (-1), .int (v)]) (rest := []) dX3_addTold_3 wX3_addPlace lX3_41 iX3_addPlace sX3_addPlace ⟨by decide, by decide⟩ (shP _ (by omega)) rfl (xin_mm (by omega)) rfl rfl (by simp [Value.category]) ?_
  exact k1

theorem gX3_addName_0 (u : xU) (p l m k : Nat) {Q : Option Value → xM → Prop} (hp : p < 10) (hl : l ≤ 3) (hm : m < 64) (hk : k < 6) (v1 : u.1 (6 + 4 * p) 2 = nI (l)) (v2 : u.1 (6 + 4 * p) 3 = nI (m))
    (k1 : m.testBit k = true → xC mX3_addPlace [.ref (6 + 4 * p), .int (nI (k)), .int (nI (0))] (xmm u) (fun r μ1 => xE mX3_addName 36 [] (r.toList ++ []) μ1 Q))
    (k2 : ¬ (m.testBit k = true) → xC mX3_addPlace [.ref (6 + 4 * p), .int (nI (k)), .int (nI (0))] (xmm (wi (wi u (9 + 4 * p) k (nI (l))) (6 + 4 * p) 3 ((nI (m)) ||| (1 <<< ((nI (k)) &&& 31))))) (fun r μ1 => xE mX3_addName 36 [] (r.toList ++ []) μ1 Q)) : xE mX3_addName 0 [(0, .ref (6 + 4 * p)), (1, .int (nI (k)))] [] (xmm u) Q := by
  refine xe_aload_n 0 dX3_addName_0 rfl rfl ?_
  refine xe_iload_n 1 dX3_addName_1 rfl rfl ?_
  refine xe_callV (As := [.int (nI (k))]) (rest := []) dX3_addName_2 wX3_carries lX3_37 iX3_carries sX3_carries ⟨by decide, by decide⟩ (shP _ (by omega)) rfl (xin_mm (by omega)) rfl rfl (by simp [Value.category]) (xC.pure (v := .int (xb (m.testBit k = true))) (qX3_carries u p m k (by omega) (by omega) (by omega) v2) ?_)
  refine xb_if_ne 30 dX3_addName_5 (by decide) (fun c1 => ?_) (fun c1 => ?_)
  · refine xe_aload_n 0 dX3_addName_30 rfl rfl ?_
    refine xe_iload_n 1 dX3_addName_31 rfl rfl ?_
    refine xe_iconst (v := nI (0)) dX3_addName_32 xc0 ?_
    refine xE.sub [] rfl ?_
    refine xe_callV (As := [.int (nI (k)), .int (nI (0))]) (rest := []) dX3_addName_33 wX3_addPlace lX3_41 iX3_addPlace sX3_addPlace ⟨by decide, by decide⟩ (shP _ (by omega)) rfl (xin_mm (by omega)) rfl rfl (by simp [Value.category]) ?_
    exact k1 c1
  · refine xe_aload_n 0 dX3_addName_8 rfl rfl ?_
    refine xr_getR (b := (9 + 4 * p)) dX3_addName_9 fX3_18 rfl (shP _ (by omega)) (by omega) (rPO (by omega)) ?_
    refine xe_iload_n 1 dX3_addName_12 rfl rfl ?_
    refine xe_aload_n 0 dX3_addName_13 rfl rfl ?_
    refine xr_getI (v := nI (l)) dX3_addName_14 fX3_28 (shP _ (by omega)) (by omega) v1 ?_
    refine xr_iast (k := k) dX3_addName_17 (shPO _ (by omega)) (by omega) (by omega) (by decide) ?_
    refine xe_aload_n 0 dX3_addName_18 rfl rfl ?_
    refine xe_dup dX3_addName_19 rfl ?_
    refine xr_getI (v := nI (m)) dX3_addName_20 fX3_31 (shP _ (by omega)) (by omega) ((wi_ne (by omega)).trans v2) ?_
    refine xe_iconst (v := nI (1)) dX3_addName_23 xc1 ?_
    refine xe_iload_n 1 dX3_addName_24 rfl rfl ?_
    refine xe_ishl dX3_addName_25 ?_
    refine xe_ior dX3_addName_26 ?_
    refine xr_putI dX3_addName_27 fX3_31 (shP _ (by omega)) (by omega) ?_
    refine xe_aload_n 0 dX3_addName_30 rfl rfl ?_
    refine xe_iload_n 1 dX3_addName_31 rfl rfl ?_
    refine xe_iconst (v := nI (0)) dX3_addName_32 xc0 ?_
    refine xE.sub [] rfl ?_
    refine xe_callV (As := [.int (nI (k)), .int (nI (0))]) (rest := []) dX3_addName_33 wX3_addPlace lX3_41 iX3_addPlace sX3_addPlace ⟨by decide, by decide⟩ (shP _ (by omega)) rfl (xin_mm (by omega)) rfl rfl (by simp [Value.category]) ?_
    exact k2 c1

def pP (p : Nat) (u : xU) (v : Option Value) (kd : Nat) (tb : Int32) (l : Nat) (f : Nat → Option Nat) (tv : Nat → Int32) (due : Nat) : Option Value → xM → Prop := fun r μ' => ∃ u', μ' = xmm u' ∧ r = v ∧ CP p kd tb l f tv due u' ∧ frP p u u'
theorem qX3_open (u : xU) (p kd due : Nat) (tb : Int32) (f : Nat → Option Nat) (tv : Nat → Int32) (hp : p < 10) : xC mX3_open [.ref (6 + 4 * p), .int (nI kd), .int tb, .int (nI due)] (xmm u) (pP p u none kd tb 0 f tv due) := by
  refine xC.of xpl3 (Nat.le_of_ble_eq_true rfl) (gX3_open_0 u p kd due tb hp ⟨_, rfl, rfl, ⟨?_, ?_, ?_, ?_, ?_, fun i hi => absurd hi (Nat.not_lt_zero i), fun i hi => absurd hi (Nat.not_lt_zero i), fun k hk => by simp [msk] at hk⟩, fun x hx => ?_, rfl⟩)
  · simp [wi_app]
  · simp [wi_app]
  · simp [wi_app]
  · simp [wi_app, msk]
  · simp [wi_app]
  · rw [wi_row (by omega), wi_row (by omega), wi_row (by omega), wi_row (by omega), wi_row (by omega)]
theorem addPlace_at {u : xU} {p kd l due : Nat} {tb : Int32} {f : Nat → Option Nat} {tv : Nat → Int32} (hp : p < 10) (hl : l < 3) (o : Option Nat) (x : Int32) (ho : ∀ k, o = some k → k < 6) (v : xU)
    (c0 : v.1 (6 + 4 * p) 0 = nI kd) (c1 : v.1 (6 + 4 * p) 1 = tb) (c2 : v.1 (6 + 4 * p) 2 = nI l) (c3 : v.1 (6 + 4 * p) 3 = nI (msk (setT f l o) (l + 1))) (c4 : v.1 (6 + 4 * p) 4 = nI due) (c5 : ∀ i, i < l → v.1 (7 + 4 * p) i = nmI (f i)) (c6 : ∀ i, i < l → f i = none → v.1 (8 + 4 * p) i = tv i) (c7 : ∀ k, (msk (setT f l o) (l + 1)).testBit k = true → v.1 (9 + 4 * p) k = nI (pOf (setT f l o) k (l + 1))) (hf : frP p u v) :
    xC mX3_addPlace [.ref (6 + 4 * p), .int (nmI o), .int x] (xmm v) (pP p u (some (.int (nI (l + 1)))) kd tb (l + 1) (setT f l o) (setT tv l x) due) := by
  refine xC.of xpl3 (Nat.le_of_ble_eq_true rfl) (gX3_addPlace_0 v p l (nmI o) x hp (by omega) c2 (fun _ => ⟨_, rfl, rfl, ⟨?_, ?_, ?_, ?_, ?_, fun i hi => ?_, fun i hi hn => ?_, fun k hk => ?_⟩, fun y hy => ?_, hf.2⟩) (fun q => absurd hl q))
  · rw [wi_nek (by decide), wi_ne (by omega), wi_ne (by omega)]; exact c0
  · rw [wi_nek (by decide), wi_ne (by omega), wi_ne (by omega)]; exact c1
  · exact wi_self
  · rw [wi_nek (by decide), wi_ne (by omega), wi_ne (by omega)]; exact c3
  · rw [wi_nek (by decide), wi_ne (by omega), wi_ne (by omega)]; exact c4
  · rw [wi_ne (by omega), wi_ne (by omega)]
    by_cases h : i = l
    · subst h; rw [wi_self, setT_at]
    · rw [wi_nek h, setT_ne h]; exact c5 i (by omega)
  · rw [wi_ne (by omega)]
    by_cases h : i = l
    · subst h; rw [wi_self, setT_at]
    · rw [wi_nek h, setT_ne h, wi_ne (by omega)]
      rw [setT_ne h] at hn
      exact c6 i (by omega) hn
  · rw [wi_ne (by omega), wi_ne (by omega), wi_ne (by omega)]
    exact c7 k hk
  · rw [wi_row (by omega), wi_row (by omega), wi_row (by omega)]
    exact hf.1 y hy
theorem setT_pre {f : Nat → Option Nat} {l : Nat} {o : Option Nat} : ∀ i, i < l → setT f l o i = f i := fun i hi => setT_ne (by omega)
theorem msk_set {f : Nat → Option Nat} {l : Nat} {o : Option Nat} : msk (setT f l o) (l + 1) = msk f l ||| (match o with | some k => 2 ^ k | none => 0) := by
  show msk (setT f l o) l ||| _ = _
  rw [msk_congr setT_pre, setT_at]
theorem pOf_set {f : Nat → Option Nat} {l k : Nat} {o : Option Nat} : pOf (setT f l o) k (l + 1) = if (msk f l).testBit k = true then pOf f k l else l := by
  show (if (msk (setT f l o) l).testBit k = true then pOf (setT f l o) k l else l) = _
  rw [msk_congr setT_pre, pOf_congr setT_pre]
theorem qX3_addTold {u : xU} {p kd l due : Nat} {tb : Int32} {f : Nat → Option Nat} {tv : Nat → Int32} (h : CP p kd tb l f tv due u) (hp : p < 10) (hl : l < 3) (x : Int32) : xC mX3_addTold [.ref (6 + 4 * p), .int x] (xmm u) (pP p u (some (.int (nI (l + 1)))) kd tb (l + 1) (setT f l none) (setT tv l x) due) := by
  obtain ⟨c0, c1, c2, c3, c4, c5, c6, c7⟩ := h
  refine xC.of xpl3 (Nat.le_of_ble_eq_true rfl) (gX3_addTold_0 u p x hp ?_)
  refine (addPlace_at hp hl none x (fun k h => by cases h) u c0 c1 c2 (by rw [msk_set]; simp only [Nat.or_zero]; exact c3) c4 c5 c6 (fun k hk => ?_) ⟨fun _ _ => rfl, rfl⟩).mono ?_
  · rw [msk_set] at hk
    simp only [Nat.or_zero] at hk
    rw [pOf_set, if_pos hk]
    exact c7 k hk
  · rintro r μ' ⟨u', rfl, rfl, q1, q2⟩
    exact xe_ret (r := some (.int _)) dX3_addTold_6 trivial ⟨u', rfl, rfl, q1, q2⟩
theorem qX3_addName {u : xU} {p kd l due : Nat} {tb : Int32} {f : Nat → Option Nat} {tv : Nat → Int32} (h : CP p kd tb l f tv due u) (hp : p < 10) (hl : l < 3) (hf : ∀ i, i < l → ∀ k, f i = some k → k < 6) (k : Nat) (hk : k < 6) : xC mX3_addName [.ref (6 + 4 * p), .int (nI k)] (xmm u) (pP p u (some (.int (nI (l + 1)))) kd tb (l + 1) (setT f l (some k)) (setT tv l 0) due) := by
  obtain ⟨c0, c1, c2, c3, c4, c5, c6, c7⟩ := h
  have hm := msk_lt hf
  refine xC.of xpl3 (Nat.le_of_ble_eq_true rfl) (gX3_addName_0 u p l (msk f l) k hp (by omega) hm hk c2 c3 (fun q => ?_) (fun q => ?_))
  · have e : msk f l ||| 2 ^ k = msk f l := by
      apply Nat.eq_of_testBit_eq
      intro j
      rw [Nat.testBit_or, Nat.testBit_two_pow]
      by_cases hj : k = j
      · subst hj; simp [q]
      · simp [hj]
    refine (addPlace_at hp hl (some k) 0 (fun j h => by cases h; exact hk) u c0 c1 c2 (by rw [msk_set]; simp only [e]; exact c3) c4 c5 c6 (fun j hj => ?_) ⟨fun _ _ => rfl, rfl⟩).mono ?_
    · rw [msk_set] at hj
      simp only [e] at hj
      rw [pOf_set, if_pos hj]
      exact c7 j hj
    · rintro r μ' ⟨u', rfl, rfl, q1, q2⟩
      exact xe_ret (r := some (.int _)) dX3_addName_36 trivial ⟨u', rfl, rfl, q1, q2⟩
  · rw [orI _ hm _ hk]
    refine (addPlace_at hp hl (some k) 0 (fun j h => by cases h; exact hk) (wi (wi u (9 + 4 * p) k (nI l)) (6 + 4 * p) 3 (nI (msk f l ||| 2 ^ k))) ?_ ?_ ?_ ?_ ?_ ?_ ?_ (fun j hj => ?_) (u := u) (f := f) (tv := tv) (tb := tb) (due := due) (kd := kd) ⟨fun y hy => ?_, rfl⟩).mono ?_
    · rw [wi_nek (by decide), wi_ne (by omega)]; exact c0
    · rw [wi_nek (by decide), wi_ne (by omega)]; exact c1
    · rw [wi_nek (by decide), wi_ne (by omega)]; exact c2
    · rw [wi_self, msk_set]
    · rw [wi_nek (by decide), wi_ne (by omega)]; exact c4
    · intro i hi
      rw [wi_ne (by omega), wi_ne (by omega)]; exact c5 i hi
    · intro i hi hn
      rw [wi_ne (by omega), wi_ne (by omega)]; exact c6 i hi hn
    · rw [wi_ne (by omega), pOf_set]
      by_cases hjk : j = k
      · subst hjk
        rw [wi_self, if_neg q]
      · rw [wi_nek hjk]
        rw [msk_set, Nat.testBit_or, Bool.or_eq_true] at hj
        rcases hj with hj | hj
        · rw [if_pos hj]
          exact c7 j hj
        · simp only [Nat.testBit_two_pow, decide_eq_true_eq] at hj
          exact absurd hj.symm hjk
    · rw [wi_row (by omega), wi_row (by omega)]
    · rintro r μ' ⟨u', rfl, rfl, q1, q2⟩
      exact xe_ret (r := some (.int _)) dX3_addName_36 trivial ⟨u', rfl, rfl, q1, q2⟩

