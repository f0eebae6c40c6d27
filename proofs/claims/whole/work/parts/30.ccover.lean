/-! the bound and the cover -/
def isC (Q : QST) (p : Nat) : Bool := decide (qK Q p = 0) && pNmd Q p
def cN (Q : QST) : Nat := cntB (isC Q) (qP Q)
def hx (Q : QST) (p : Nat) : Nat := cntB (isC Q) p
def shr (Q : QST) (w p : Nat) : Nat := if isC Q p = true then w / 3 ^ (cN Q - 1 - hx Q p) % 3 else 0
def hvs (Q : QST) (s : Nat → Nat) (k : Nat) : Nat → Nat
  | 0 => 0
  | p + 1 => hvs Q s k p + if (isC Q p && pHas Q p k) = true then s p else 0
def cov (Q : QST) (s : Nat → Nat) : Bool := allN (qN Q) fun k => decide (2 ≤ hvs Q s k (qP Q))
def mulN (b a : Int64) : Nat → Int64
  | 0 => a
  | n + 1 => mulN b a n * b
def prd (T : TBL) (Q : QST) (s : Nat → Nat) : Nat → Int64
  | 0 => 1
  | p + 1 => mulN (nI (T.2.1 (qOf Q p))).toInt64 (prd T Q s p) (s p)
def lst (T : TBL) (Q : QST) : Nat → Int64 × Nat
  | 0 => (-1, 0)
  | w + 1 => if (cov Q (shr Q w) && (decide ((lst T Q w).1 = -1) || decide (prd T Q (shr Q w) (qP Q) < (lst T Q w).1))) = true then (prd T Q (shr Q w) (qP Q), w) else lst T Q w
theorem lst_t {T : TBL} {Q : QST} {w : Nat} (h : cov Q (shr Q w) = true) (h2 : (lst T Q w).1 = -1 ∨ prd T Q (shr Q w) (qP Q) < (lst T Q w).1) : lst T Q (w + 1) = (prd T Q (shr Q w) (qP Q), w) := by
  show (if _ then _ else _) = _
  rw [if_pos]
  simp only [Bool.and_eq_true, Bool.or_eq_true, decide_eq_true_eq]
  exact ⟨h, h2⟩
theorem lst_f {T : TBL} {Q : QST} {w : Nat} (h : ¬ (cov Q (shr Q w) = true ∧ ((lst T Q w).1 = -1 ∨ prd T Q (shr Q w) (qP Q) < (lst T Q w).1))) : lst T Q (w + 1) = lst T Q w := by
  show (if _ then _ else _) = _
  rw [if_neg]
  simp only [Bool.and_eq_true, Bool.or_eq_true, decide_eq_true_eq]
  exact h
theorem lst_lt {T : TBL} {Q : QST} : ∀ w, (lst T Q w).2 ≤ w
  | 0 => Nat.le_refl 0
  | w + 1 => by
    have := lst_lt (T := T) (Q := Q) w
    by_cases h : cov Q (shr Q w) = true ∧ ((lst T Q w).1 = -1 ∨ prd T Q (shr Q w) (qP Q) < (lst T Q w).1)
    · rw [lst_t h.1 h.2]
      show w ≤ w + 1
      omega
    · rw [lst_f h]
      omega
theorem msk_zero {f : Nat → Option Nat} {l : Nat} : msk f l = 0 ↔ ∀ i, i < l → f i = none := by
  constructor
  · intro h i hi
    cases hf : f i with
    | none => rfl
    | some k =>
      have := (msk_bit (f := f) (k := k) (l := l)).mpr ⟨i, hi, hf⟩
      rw [h] at this
      simp at this
  · intro h
    apply Nat.eq_of_testBit_eq
    intro k
    by_cases hb : (msk f l).testBit k = true
    · obtain ⟨i, hi, hf⟩ := msk_bit.mp hb
      rw [h i hi] at hf
      cases hf
    · simp only [Bool.not_eq_true] at hb
      rw [hb]
      simp
theorem pNmd_msk {Q : QST} {p : Nat} : pNmd Q p = true ↔ ¬ msk (qM Q p) (qL Q p) = 0 := by
  unfold pNmd
  rw [anyN_iff, msk_zero]
  simp only [decide_eq_true_eq]
  constructor
  · rintro ⟨i, h1, h2⟩ h
    exact h2 (h i h1)
  · intro h
    exact Classical.byContradiction fun q => h (fun i hi => Classical.byContradiction fun z => q ⟨i, hi, z⟩)
theorem isC_iff {Q : QST} {p : Nat} : isC Q p = true ↔ qK Q p = 0 ∧ pNmd Q p = true := by
  simp only [isC, Bool.and_eq_true, decide_eq_true_eq]
theorem pHas_nmd {Q : QST} {p k : Nat} (h : pHas Q p k = true) : pNmd Q p = true := by
  obtain ⟨i, h1, h2⟩ := anyN_iff.mp h
  exact anyN_iff.mpr ⟨i, h1, decide_eq_true (by rw [of_decide_eq_true h2]; exact fun q => by cases q)⟩
theorem hx_has {Q : QST} : ∀ p, hx Q p ≤ hasN (qK Q) p
  | 0 => Nat.le_refl 0
  | p + 1 => by
    have ih := hx_has (Q := Q) p
    show cntB (isC Q) p + (if isC Q p = true then 1 else 0) ≤ hasN (qK Q) p + if qK Q p = 0 then 1 else 0
    unfold hx at ih
    by_cases h : isC Q p = true
    · rw [if_pos h, if_pos (isC_iff.mp h).1]
      omega
    · rw [if_neg h]
      omega
theorem cN_le {T : TBL} {Q : QST} (hQ : QI T Q) : cN Q ≤ 5 := Nat.le_trans (hx_has (qP Q)) hQ.2.2.1
theorem pow3 {n : Nat} (h : n ≤ 5) : 3 ^ n ≤ 243 := Nat.pow_le_pow_right (n := 3) (by decide) h
theorem hx_t {Q : QST} {p : Nat} (h : isC Q p = true) : hx Q (p + 1) = hx Q p + 1 := cntB_t h
theorem hx_f {Q : QST} {p : Nat} (h : ¬ isC Q p = true) : hx Q (p + 1) = hx Q p := cntB_f h
theorem hx_lt {Q : QST} {p : Nat} (hp : p < qP Q) (h : isC Q p = true) : hx Q p < cN Q := by
  have a := hx_t h
  have b : hx Q (p + 1) ≤ cN Q := cntB_mono hp
  omega
theorem hx_le {Q : QST} {p : Nat} (hp : p ≤ qP Q) : hx Q p ≤ cN Q := cntB_mono hp
theorem hx_ex {Q : QST} {h : Nat} (hh : h < cN Q) : ∃ p, p < qP Q ∧ isC Q p = true ∧ hx Q p = h := cntB_ex hh
theorem hvs_hx {Q : QST} {s : Nat → Nat} {k p : Nat} : ∀ {q : Nat}, p ≤ q → hx Q p = hx Q q → hvs Q s k p = hvs Q s k q
  | 0, h, _ => by
    have : p = 0 := by omega
    subst this
    rfl
  | q + 1, h, he => by
    by_cases e : p = q + 1
    · subst e; rfl
    · have h1 : hx Q p ≤ hx Q q := cntB_mono (by omega)
      have h2 : hx Q q ≤ hx Q (q + 1) := cntB_mono (by omega)
      have h3 : ¬ isC Q q = true := fun z => by
        have := hx_t z
        omega
      rw [hvs_hx (q := q) (by omega) (by omega)]
      show _ = hvs Q s k q + if (isC Q q && pHas Q q k) = true then s q else 0
      rw [if_neg (by rw [Bool.and_eq_true]; exact fun z => h3 z.1)]
      rfl
theorem prd_hx {T : TBL} {Q : QST} {s : Nat → Nat} (hs : ∀ p, ¬ isC Q p = true → s p = 0) {p : Nat} : ∀ {q : Nat}, p ≤ q → hx Q p = hx Q q → prd T Q s p = prd T Q s q
  | 0, h, _ => by
    have : p = 0 := by omega
    subst this
    rfl
  | q + 1, h, he => by
    by_cases e : p = q + 1
    · subst e; rfl
    · have h1 : hx Q p ≤ hx Q q := cntB_mono (by omega)
      have h2 : hx Q q ≤ hx Q (q + 1) := cntB_mono (by omega)
      have h3 : ¬ isC Q q = true := fun z => by
        have := hx_t z
        omega
      rw [prd_hx hs (q := q) (by omega) (by omega)]
      show _ = mulN _ (prd T Q s q) (s q)
      rw [hs q h3]
      rfl
theorem shr_nc {Q : QST} {w p : Nat} (h : ¬ isC Q p = true) : shr Q w p = 0 := if_neg h
theorem shr_le {Q : QST} {w p : Nat} : shr Q w p ≤ 2 := by
  unfold shr
  split
  · have := Nat.mod_lt (w / 3 ^ (cN Q - 1 - hx Q p)) (show 0 < 3 by decide)
    omega
  · omega
def frC (u u' : xU) : Prop := (∀ x, x ≠ 71 → x ≠ 72 → x ≠ 73 → u'.1 x = u.1 x) ∧ (∀ x, x ≠ 71 → u'.2.1 x = u.2.1 x) ∧ u'.2.2 = u.2.2
theorem frC.rf {u : xU} : frC u u := ⟨fun _ _ _ _ => rfl, fun _ _ => rfl, rfl⟩
theorem frC.tr {u v w : xU} (a : frC u v) (b : frC v w) : frC u w := ⟨fun x h1 h2 h3 => (b.1 x h1 h2 h3).trans (a.1 x h1 h2 h3), fun x h => (b.2.1 x h).trans (a.2.1 x h), b.2.2.trans a.2.2⟩
theorem CQ.C {T : TBL} {Q : QST} {u u' : xU} (hQ : QI T Q) (h : CQ T Q u) (f : frC u u') : CQ T Q u' := h.keep hQ.2.1 (fun x hx => f.1 x (by omega) (by omega) (by omega))
theorem CT.C {T : TBL} {u u' : xU} (h : CT T u) (f : frC u u') : CT T u' := h.keep (fun x a b => f.1 x (by omega) (by omega) (by omega))
/-- the carriers are gathered -/
def CVR (Q : QST) (u : xU) : Prop := u.1 71 1 = nI (cN Q) ∧ ∀ p, p < qP Q → isC Q p = true → u.1 72 (hx Q p) = nI p
theorem qX1_gatherCarriers {u : xU} {T : TBL} {Q : QST} (hT : TI T) (hQ : QI T Q) (h : CQ T Q u) : xC mX1_gatherCarriers [.ref 71, .ref 3] (xmm u) (fun r μ' => ∃ u', μ' = xmm u' ∧ r = some (.int (nI (3 ^ cN Q))) ∧ CVR Q u' ∧ frC u u' ∧ u'.2 = u.2) := by
  have hc5 := cN_le hQ
  refine xC.of xpl1 (Nat.le_of_ble_eq_true rfl) (gX1_gatherCarriers_0 u ?_)
  have loop : ∀ d p v, qP Q - p = d → p ≤ qP Q → v.1 71 1 = nI (hx Q p) → (∀ j, j < p → isC Q j = true → v.1 72 (hx Q j) = nI j) → frC u v → v.2 = u.2 → xE mX1_gatherCarriers 9 [(0, .ref 71), (1, .ref 3), (2, .int (nI (3 ^ hx Q p))), (3, .int (nI p))] [] (xmm v) (fun r μ' => ∃ u', μ' = xmm u' ∧ r = some (.int (nI (3 ^ cN Q))) ∧ CVR Q u' ∧ frC u u' ∧ u'.2 = u.2) := by
    intro d
    induction d with
    | zero =>
      intro p v hd hp c1 c2 f f2
      have hpe : p = qP Q := by omega
      have hh := hx_le hp
      have hv := h.C hQ f
      have w3 := pow3 (n := hx Q p) (by omega)
      have fin : ∃ u', xmm v = xmm u' ∧ some (Value.int (nI (3 ^ hx Q p))) = some (.int (nI (3 ^ cN Q))) ∧ CVR Q u' ∧ frC u u' ∧ u'.2 = u.2 := ⟨v, rfl, by rw [hpe]; rfl, ⟨by rw [c1, hpe]; rfl, fun j hj => c2 j (by omega)⟩, f, f2⟩
      exact gX1_gatherCarriers_e v (qN Q) (qP Q) (hx Q p) _ p hQ.1 hQ.2.1 (by omega) w3 hpe hv.1 hv.2.1 c1 (fun _ => fin) (fun z => by omega) (fun z => by omega) (fun z => by omega) (fun z => by omega)
    | succ d ih =>
      intro p v hd hp c1 c2 f f2
      have hpl : p < qP Q := by omega
      have hh := hx_le hp
      have hv := h.C hQ f
      have w3 := pow3 (n := hx Q p) (by omega)
      have c := hv.2.2.2.2 p hpl
      have nx : ¬ isC Q p = true → xE mX1_gatherCarriers 9 [(0, .ref 71), (1, .ref 3), (2, .int (nI (3 ^ hx Q p))), (3, .int (nI (p + 1)))] [] (xmm v) (fun r μ' => ∃ u', μ' = xmm u' ∧ r = some (.int (nI (3 ^ cN Q))) ∧ CVR Q u' ∧ frC u u' ∧ u'.2 = u.2) := fun z => by
        have e := hx_f z
        have q := ih (p + 1) v (by omega) hpl (by rw [e]; exact c1) (fun j hj hc => c2 j (by
          by_cases ej : j = p
          · subst ej; exact absurd hc z
          · omega) hc) f f2
        rw [e] at q
        exact q
      refine gX1_gatherCarriers_9 v (qN Q) (qP Q) (hx Q p) _ p (qK Q p) (msk (qM Q p) (qL Q p)) hQ.1 hQ.2.1 (by omega) w3 hpl (hQ.2.2.2.2.1 p hpl).1 (msk_q hQ hpl) hv.1 hv.2.1 c1 c.1 c.2.2.2.1 (fun z => by omega) (fun _ z => ?_) (fun _ _ z => nx (fun y => z (isC_iff.mp y).1)) (fun _ _ _ z => nx (fun y => pNmd_msk.mp (isC_iff.mp y).2 z)) (fun _ z0 z1 z2 => ?_)
      · have e : hx Q p = cN Q := by omega
        refine ⟨v, rfl, by rw [e], ⟨by rw [c1, e], fun j hj hc => c2 j ?_ hc⟩, f, f2⟩
        refine Classical.byContradiction fun q => ?_
        have a := hx_lt hj hc
        have b : hx Q p ≤ hx Q j := cntB_mono (by omega)
        omega
      · have hc : isC Q p = true := isC_iff.mpr ⟨z1, pNmd_msk.mpr z2⟩
        have e := hx_t hc
        have e3 : 3 ^ hx Q p * 3 = 3 ^ hx Q (p + 1) := by rw [e, Nat.pow_succ]
        rw [e3]
        refine ih (p + 1) _ (by omega) hpl (by rw [e]; exact wi_self) (fun j hj hcj => ?_) (f.tr ⟨fun x x1 x2 x3 => by rw [wi_row x1, wi_row x2], fun _ _ => rfl, rfl⟩) f2
        rw [wi_ne (by decide)]
        by_cases ej : j = p
        · subst ej; exact wi_self
        · have : hx Q j < hx Q p := by
            have a := hx_t hcj
            have b : hx Q (j + 1) ≤ hx Q p := cntB_mono (by omega)
            omega
          rw [wi_nek (by omega)]
          exact c2 j (by omega) hcj
  exact loop _ 0 _ rfl (Nat.zero_le _) wi_self (fun j hj => absurd hj (Nat.not_lt_zero j)) ⟨fun x x1 _ _ => wi_row x1, fun _ _ => rfl, rfl⟩ rfl
/-- the shares of a trial are in their places -/
def SHR (Q : QST) (w : Nat) (u : xU) : Prop := ∀ p, p < qP Q → isC Q p = true → u.1 73 (hx Q p) = nI (shr Q w p)
def frS (u u' : xU) : Prop := (∀ x, x ≠ 73 → u'.1 x = u.1 x) ∧ u'.2 = u.2
theorem frS.C {u u' : xU} (h : frS u u') : frC u u' := ⟨fun x _ _ x3 => h.1 x x3, fun x _ => by rw [h.2], by rw [h.2]⟩
theorem CVR.S {Q : QST} {u u' : xU} (h : CVR Q u) (f : frS u u') : CVR Q u' := by
  unfold CVR at *
  rw [f.1 71 (by decide), f.1 72 (by decide)]
  exact h
theorem qX1_takeTrial {u : xU} {T : TBL} {Q : QST} (hQ : QI T Q) (hc : CVR Q u) (w : Nat) (hw : w ≤ 243) : xC mX1_takeTrial [.ref 71, .int (nI w)] (xmm u) (fun r μ' => ∃ u', μ' = xmm u' ∧ r = none ∧ SHR Q w u' ∧ frS u u') := by
  have hc5 := cN_le hQ
  by_cases h0 : cN Q = 0
  · refine xC.of xpl1 (Nat.le_of_ble_eq_true rfl) (gX1_takeTrial_z u w (hc.1.trans (by rw [h0]; rfl)) ?_)
    exact gX1_takeTrial_n u w _ hw (fun _ => ⟨u, rfl, rfl, fun p hp hcp => by have := hx_lt hp hcp; omega, fun _ _ => rfl, rfl⟩) (fun z => absurd (by decide) z)
  · refine xC.of xpl1 (Nat.le_of_ble_eq_true rfl) (gX1_takeTrial_0 u (cN Q) w (by omega) (by omega) hc.1 ?_)
    have fin : ∀ v : xU, (∀ j, j < cN Q → v.1 73 j = nI (w / 3 ^ (cN Q - 1 - j) % 3)) → SHR Q w v := fun v hv p hp hcp => by
      rw [hv _ (hx_lt hp hcp)]
      unfold shr
      rw [if_pos hcp]
    have loop : ∀ h v, h < cN Q → (∀ j, h < j → j < cN Q → v.1 73 j = nI (w / 3 ^ (cN Q - 1 - j) % 3)) → frS u v → xE mX1_takeTrial 9 [(0, .ref 71), (2, .int (nI (w / 3 ^ (cN Q - 1 - h)))), (3, .int (nI h))] [] (xmm v) (fun r μ' => ∃ u', μ' = xmm u' ∧ r = none ∧ SHR Q w u' ∧ frS u u') := by
      intro h
      induction h with
      | zero =>
        intro v hh hj f
        have hle : w / 3 ^ (cN Q - 1 - 0) ≤ 243 := Nat.le_trans (Nat.div_le_self _ _) hw
        refine gX1_takeTrial_l v _ hle ?_
        refine gX1_takeTrial_n _ _ _ (Nat.le_trans (Nat.div_le_self _ _) hle) (fun _ => ⟨_, rfl, rfl, fin _ (fun j hjc => ?_), fun x hx => (wi_row hx).trans (f.1 x hx), f.2⟩) (fun z => absurd (by decide) z)
        by_cases e : j = 0
        · subst e; exact wi_self
        · rw [wi_nek e]; exact hj j (by omega) hjc
      | succ h ih =>
        intro v hh hj f
        have hle : w / 3 ^ (cN Q - 1 - (h + 1)) ≤ 243 := Nat.le_trans (Nat.div_le_self _ _) hw
        refine gX1_takeTrial_9 v _ (h + 1) hle (by omega) (by omega) ?_
        have e : w / 3 ^ (cN Q - 1 - (h + 1)) / 3 = w / 3 ^ (cN Q - 1 - h) := by
          rw [Nat.div_div_eq_div_mul, ← Nat.pow_succ]
          congr 2
          omega
        rw [e]
        refine ih _ (by omega) (fun j hjh hjc => ?_) ⟨fun x hx => (wi_row hx).trans (f.1 x hx), f.2⟩
        by_cases e : j = h + 1
        · subst e; exact wi_self
        · rw [wi_nek e]; exact hj j (by omega) hjc
    have q := loop (cN Q - 1) u (by omega) (fun j a b => by omega) ⟨fun _ _ => rfl, rfl⟩
    rw [Nat.sub_self, Nat.pow_zero, Nat.div_one] at q
    exact q

