theorem lies_iff {i : Int32} {m : Nat} (hm : m < 2147483647) : (0 ≤ i ∧ i ≤ nI m - 1) ↔ (0 ≤ i ∧ i < nI m) := by
  have e : i ≤ nI m - 1 ↔ i < nI m := by
    rw [Int32.le_iff_toInt_le, Int32.lt_iff_toInt_lt, nI_toI (show m < 2147483648 by omega)]
    cases m with
    | zero =>
      have : (nI 0 - 1).toInt = -1 := by decide
      rw [this]
      omega
    | succ m =>
      rw [show nI (m + 1) - 1 = nI m from by rw [← nI_o, nI_sub (by omega)]; rfl, nI_toI (by omega)]
      omega
  rw [e]
theorem lies_m (i : Int32) : ¬ (0 ≤ i ∧ i ≤ (-1 : Int32) - 1) := by
  rintro ⟨a, b⟩
  rw [Int32.le_iff_toInt_le] at a b
  have e0 : (0 : Int32).toInt = 0 := rfl
  have e1 : ((-1 : Int32) - 1).toInt = -2 := by decide
  omega
theorem nI_L' {s : Nat} (hs : s < 2147483648) : (nI s).toInt64 = nL s := by
  apply Int64.toInt_inj.mp
  rw [Int32.toInt_toInt64, nI_toI hs, nL_toInt (by omega)]
theorem qX10_isName {u : xU} {W : WVN} (hW : WI W) (h1 : ∀ l, wR W = some l → 1 ≤ wN W) (h : MW W u) (k : Int32) : xC mX10_isName [.ref 172, .int k] (xmm u) (fun r μ' => r = some (.int (xb (cry (wN W) (wR W) k = true))) ∧ μ' = xmm u) := by
  obtain ⟨m1, m2, m3⟩ := h
  cases hr : wR W with
  | none =>
    rw [hr] at m2
    exact xC.of xpl10 (Nat.le_of_ble_eq_true rfl) (gX10_isName_z u k m2 ⟨ret_f (fun q => by cases q), rfl⟩)
  | some l =>
    have l5 := (hW.1.2 l hr).1
    have hn6 := hW.1.1
    have hn1 := h1 l hr
    rw [hr] at m2
    have iff : cry (wN W) (some l) k = true ↔ 0 ≤ k ∧ k ≤ nI (wN W - 1) := by
      have e : nI (wN W - 1) = nI (wN W) - 1 := by rw [← nI_o, nI_sub hn1]
      rw [e, lies_iff (by omega)]
      unfold cry
      rw [Bool.and_eq_true, Bool.and_eq_true, decide_eq_true_eq, decide_eq_true_eq]
      exact ⟨fun q => ⟨q.1.2, q.2⟩, fun q => ⟨⟨rfl, q.1⟩, q.2⟩⟩
    exact xC.of xpl10 (Nat.le_of_ble_eq_true rfl) (gX10_isName_s u (wN W) l.length k hn1 hn6 l5 m2 m1 (fun z => absurd z (nIm1 (by omega))) (fun _ z => ⟨ret_f (fun q => z (iff.mp q)), rfl⟩) (fun _ z => ⟨ret_t (iff.mpr z), rfl⟩))
theorem qX10_answer {u : xU} {W : WVN} (hW : WI W) (h1 : ∀ l, wR W = some l → 1 ≤ wN W) (h : MW W u) (i k : Int32) : xC mX10_answer [.ref 172, .int i, .int k] (xmm u) (fun r μ' => r = some (.int (atV (wN W) (wR W) i k)) ∧ μ' = xmm u) := by
  have hin := qX10_isName hW h1 h k
  have hn6 := hW.1.1
  obtain ⟨m1, m2, m3⟩ := h
  cases hr : wR W with
  | none =>
    rw [hr] at m2 hin
    exact xC.of xpl10 (Nat.le_of_ble_eq_true rfl) (gX10_answer_I u i k _ _ hin m2 (fun _ => ⟨rfl, rfl⟩) (fun _ _ => ⟨rfl, rfl⟩) (fun z => by cases z))
  | some l =>
    have l5 := (hW.1.2 l hr).1
    rw [hr] at m2 hin
    by_cases ok : 0 ≤ i ∧ i < nI l.length ∧ cry (wN W) (some l) k = true
    · obtain ⟨i1, i2, i3⟩ := ok
      obtain ⟨i', i4, rfl⟩ := in_N (by omega) i1 i2
      obtain ⟨_, k', -, k2, rfl⟩ := cry_t hn6 i3
      have ha := List.getElem?_eq_getElem i4
      rw [atV_n hn6 l5 ha k2]
      exact xC.of xpl10 (Nat.le_of_ble_eq_true rfl) (gX10_answer_N u i' k' l.length _ _ i4 l5 (by omega) hin m2 ((m3 l hr).2.2.1 i' _ ha k' (by omega)) (fun z => absurd i3 z) (fun _ z => absurd ⟨Nat.zero_le _, by omega⟩ z) (fun _ _ => ⟨rfl, rfl⟩))
    · have e : atV (wN W) (some l) i k = 0 := by
        unfold atV
        dsimp only
        rw [if_neg ok]
      rw [e]
      refine xC.of xpl10 (Nat.le_of_ble_eq_true rfl) (gX10_answer_I u i k _ _ hin m2 (fun _ => ⟨rfl, rfl⟩) (fun _ _ => ⟨rfl, rfl⟩) (fun z y => ok ?_))
      have y' := (lies_iff (by omega)).mp y
      exact ⟨y'.1, y'.2, z⟩
theorem qX10_meetings {u : xU} {W : WVN} (hW : WI W) (h1 : ∀ l, wR W = some l → 1 ≤ wN W) (h : MW W u) (i : Int32) : xC mX10_meetings [.ref 172, .int i] (xmm u) (fun r μ' => r = some (.int (aMeet W i)) ∧ μ' = xmm u) := by
  have hin := qX10_isName hW h1 h i
  have hn6 := hW.1.1
  unfold aMeet
  by_cases ok : cry (wN W) (wR W) i = true
  · obtain ⟨l, j, e, j1, rfl⟩ := cry_t hn6 ok
    rw [if_pos ok, nI_nat (by omega)]
    exact xC.of xpl10 (Nat.le_of_ble_eq_true rfl) (gX10_meetings_N u j _ _ (by omega) hin ((h.2.2 l e).2.1 j j1) (fun z => absurd ok z) (fun _ => ⟨rfl, rfl⟩))
  · rw [if_neg ok]
    exact xC.of xpl10 (Nat.le_of_ble_eq_true rfl) (gX10_meetings_I u i _ hin (fun _ => ⟨rfl, rfl⟩) (fun z => ok z))
theorem qX10_witness {u : xU} {W : WVN} (hW : WI W) (h : MW W u) (i p : Int32) : xC mX10_witness [.ref 172, .int i, .int p] (xmm u) (fun r μ' => r = some (.int (aWit W i p)) ∧ μ' = xmm u) := by
  obtain ⟨m1, m2, m3⟩ := h
  unfold aWit
  cases hr : wR W with
  | none =>
    rw [hr] at m2
    exact xC.of xpl10 (Nat.le_of_ble_eq_true rfl) (gX10_witness_I u i p (-1) _ m2 rfl (fun _ => ⟨rfl, rfl⟩) (fun z => absurd rfl z) (fun z => absurd rfl z) (fun z => absurd rfl z))
  | some l =>
    dsimp only
    obtain ⟨c1, c2, c3, c4, c5⟩ := m3 l hr
    rw [hr] at m2
    have l5 := (hW.1.2 l hr).1
    have hP := hW.2.1
    by_cases hin : (0 ≤ i ∧ i < nI l.length) ∧ 0 ≤ p ∧ p < nI (wP W)
    · rw [if_pos hin]
      obtain ⟨⟨i1, i2⟩, p1, p2⟩ := hin
      obtain ⟨i', i3, rfl⟩ := in_N (by omega) i1 i2
      obtain ⟨p', p3, rfl⟩ := in_N (by omega) p1 p2
      rw [nI_nat (by omega), nI_nat (by omega)]
      have ha := List.getElem?_eq_getElem i3
      have e : l.getD i' (fun _ => 0) = l[i'] := by rw [List.getD_eq_getElem?_getD, ha]; rfl
      rw [e]
      have hb := c4 p' p3
      cases hh : wH W p' with
      | none =>
        rw [hh, xb_eq (show ((none : Option Nat) ≠ none) ↔ (false = true) from ⟨fun q => absurd rfl q, fun q => by cases q⟩)] at hb
        exact xC.of xpl10 (Nat.le_of_ble_eq_true rfl) (gX10_witness_N u i' p' l.length (wP W) _ _ i3 l5 p3 hP m2 c1 hb rfl (fun z => absurd z (nIm1 (by omega))) (fun _ z => absurd ⟨Nat.zero_le _, by omega⟩ z) (fun _ _ z => absurd ⟨Nat.zero_le _, by omega⟩ z) (fun _ _ _ _ => ⟨rfl, rfl⟩) (fun _ _ _ z => by cases z))
      | some q =>
        rw [hh, xb_eq (show ((some q : Option Nat) ≠ none) ↔ (true = true) from ⟨fun _ => rfl, fun _ => by simp⟩)] at hb
        have hv := c5 i' _ ha p' p3 (by rw [hh]; simp)
        exact xC.of xpl10 (Nat.le_of_ble_eq_true rfl) (gX10_witness_N u i' p' l.length (wP W) _ _ i3 l5 p3 hP m2 c1 hb hv (fun z => absurd z (nIm1 (by omega))) (fun _ z => absurd ⟨Nat.zero_le _, by omega⟩ z) (fun _ _ z => absurd ⟨Nat.zero_le _, by omega⟩ z) (fun _ _ _ z => absurd rfl z) (fun _ _ _ _ => ⟨rfl, rfl⟩))
    · rw [if_neg hin]
      refine xC.of xpl10 (Nat.le_of_ble_eq_true rfl) (gX10_witness_I u i p _ _ m2 c1 (fun _ => ⟨rfl, rfl⟩) (fun _ _ => ⟨rfl, rfl⟩) (fun _ _ _ => ⟨rfl, rfl⟩) (fun _ y x => hin ⟨(lies_iff (by omega)).mp y, (lies_iff (by omega)).mp x⟩))
theorem qX10_isNew {u : xU} {l : List (Nat → Int32)} (l5 : l.length ≤ 500) (hl : RWL 185 l u) {i k : Nat} (hi : i < l.length) (hk : k < 6) : xC mX10_isNew [.ref 172, .int (nI i), .int (nI k)] (xmm u) (fun r μ' => r = some (.int (xb (bP (¬ sawV k l i) = true))) ∧ μ' = xmm u) := by
  refine xC.of xpl10 (Nat.le_of_ble_eq_true rfl) (gX10_isNew_0 u i k ?_)
  have hb := List.getElem?_eq_getElem hi
  generalize l[i] = b at hb
  have loop : ∀ d j, i - j = d → j ≤ i → (∀ x a, x < j → l[x]? = some a → ¬ a k = b k) → xE mX10_isNew 2 [(0, .ref 172), (1, .int (nI i)), (2, .int (nI k)), (3, .int (nI j))] [] (xmm u) (fun r μ' => r = some (.int (xb (bP (¬ sawV k l i) = true))) ∧ μ' = xmm u) := by
    intro d
    induction d with
    | zero =>
      intro j hd hj hx
      refine gX10_isNew_2 u i k j _ _ (by omega) hk hj rfl rfl (fun _ => ⟨ret_t (bP_iff.mpr (fun q => ?_)), rfl⟩) (fun z => absurd (by omega) z) (fun z => absurd (by omega) z)
      obtain ⟨x, a, b', q1, q2, q3, q4⟩ := q
      rw [hb] at q3
      cases q3
      exact hx x a (by omega) q2 q4
    | succ d ih =>
      intro j hd hj hx
      have hjl : j < l.length := by omega
      have ha := List.getElem?_eq_getElem hjl
      generalize l[j] = a at ha
      refine gX10_isNew_2 u i k j (a k) (b k) (by omega) hk hj (hl j a ha k hk) (hl i b hb k hk) (fun z => absurd z (by omega)) (fun _ z => ih (j + 1) (by omega) (by omega) (fun x a' h1 h2 => ?_)) (fun _ z => ⟨ret_f (fun q => bP_iff.mp q ⟨j, a, b, by omega, ha, hb, z⟩), rfl⟩)
      by_cases e : x = j
      · subst e
        rw [ha] at h2
        cases h2
        exact z
      · exact hx x a' (by omega) h2
  exact loop _ 0 rfl (Nat.zero_le _) (fun x a h1 => absurd h1 (Nat.not_lt_zero x))
/-! the model's sums -/
def moN (nb : Nat) (v mo : Int32) : Int32 := if nb = 0 then v else if mo < v then v else mo
def leN (nb : Nat) (v le : Int32) : Int32 := if nb = 0 then v else if v < le then v else le
theorem mA {nb : Nat} {v mo : Int32} (h : nb = 0) : v = moN nb v mo := by unfold moN; rw [if_pos h]
theorem mB {nb : Nat} {v mo : Int32} (h : ¬ nb = 0) (h2 : v ≤ mo) : mo = moN nb v mo := by unfold moN; rw [if_neg h, if_neg (Int32.not_lt.mpr h2)]
theorem mC {nb : Nat} {v mo : Int32} (h : ¬ nb = 0) (h2 : ¬ v ≤ mo) : v = moN nb v mo := by unfold moN; rw [if_neg h, if_pos (Int32.not_le.mp h2)]
theorem lA {nb : Nat} {v le : Int32} (h : nb = 0) : v = leN nb v le := by unfold leN; rw [if_pos h]
theorem lB {nb : Nat} {v le : Int32} (h : ¬ nb = 0) (h2 : le ≤ v) : le = leN nb v le := by unfold leN; rw [if_neg h, if_neg (Int32.not_lt.mpr h2)]
theorem lC {nb : Nat} {v le : Int32} (h : ¬ nb = 0) (h2 : ¬ le ≤ v) : v = leN nb v le := by unfold leN; rw [if_neg h, if_pos (Int32.not_le.mp h2)]
def SI (k : Nat) (l : List (Nat → Int32)) (i : Nat) (s : Int64) (nb kd : Nat) (mo le : Int32) : Prop := s = (l.take i).foldl (totF k) 0 ∧ nb + (l.take i).foldl (cntF k (-2147483648)) 0 = i ∧ kd = ndF k l i ∧ mo = (l.take i).foldl (grtF k) (-2147483648) ∧ le = (l.take i).foldl (lstF k) (-2147483648) ∧ (nb = 0 → mo = -2147483648 ∧ le = -2147483648) ∧ (nb ≠ 0 → le ≠ -2147483648)
theorem NO_lt {v : Int32} (h : ¬ v = -2147483648) : (-2147483648 : Int32) < v := by
  rw [Int32.lt_iff_toInt_lt]
  have e : (-2147483648 : Int32).toInt = -2147483648 := by decide
  have h1 := v.le_toInt
  have h2 : v.toInt ≠ -2147483648 := fun q => h (Int32.toInt_inj.mp (by rw [q]; decide))
  rw [e]
  omega
theorem NO_ge (v : Int32) : ¬ v < (-2147483648 : Int32) := by
  rw [Int32.lt_iff_toInt_lt]
  have e : (-2147483648 : Int32).toInt = -2147483648 := by decide
  have h1 := v.le_toInt
  rw [e]
  omega
theorem SI.num {k i nb kd kd' : Nat} {l : List (Nat → Int32)} {s : Int64} {mo le mo' le' : Int32} {a : Nat → Int32} (h : SI k l i s nb kd mo le) (ha : l[i]? = some a) (hv : ¬ a k = -2147483648) (hk : kd' = ndF k l (i + 1)) (hm : mo' = moN nb (a k) mo) (hl : le' = leN nb (a k) le) : SI k l (i + 1) (s + (a k).toInt64) (nb + 1) kd' mo' le' := by
  obtain ⟨h1, h2, h3, h4, h5, h6, h7⟩ := h
  have ky1 := ky_num hv
  refine ⟨?_, ?_, hk, ?_, ?_, fun z => by omega, fun _ => ?_⟩
  · rw [fold_snoc ha, ← h1]
    show _ = s + (nz (a k)).toInt64
    unfold nz
    rw [if_neg hv]
  · rw [fold_snoc ha]
    show nb + 1 + (if a k = -2147483648 then _ else _) = i + 1
    rw [if_neg hv]
    omega
  · rw [fold_snoc ha, ← h4, hm]
    show moN nb (a k) mo = if mo < a k then a k else mo
    unfold moN
    by_cases e : nb = 0
    · rw [if_pos e, (h6 e).1, if_pos (NO_lt hv)]
    · rw [if_neg e]
  · rw [fold_snoc ha, ← h5, hl]
    show leN nb (a k) le = if ky (a k) < ky le then a k else le
    unfold leN
    by_cases e : nb = 0
    · rw [if_pos e, (h6 e).2, ky_no, ky1]
      have := (a k).toInt_lt
      rw [if_pos (by omega)]
    · rw [if_neg e]
      have ky2 := ky_num (h7 e)
      by_cases e2 : a k < le
      · rw [if_pos e2, if_pos (by rw [ky1, ky2]; rw [Int32.lt_iff_toInt_lt] at e2; omega)]
      · rw [if_neg e2, if_neg (by rw [ky1, ky2]; rw [Int32.lt_iff_toInt_lt] at e2; omega)]
  · rw [hl]
    unfold leN
    split
    · exact hv
    · rename_i e
      split
      · exact hv
      · exact h7 e
theorem SI.no {k i nb kd kd' : Nat} {l : List (Nat → Int32)} {s : Int64} {mo le : Int32} {a : Nat → Int32} (h : SI k l i s nb kd mo le) (ha : l[i]? = some a) (hv : a k = -2147483648) (hk : kd' = ndF k l (i + 1)) : SI k l (i + 1) s nb kd' mo le := by
  obtain ⟨h1, h2, h3, h4, h5, h6, h7⟩ := h
  refine ⟨?_, ?_, hk, ?_, ?_, h6, h7⟩
  · rw [fold_snoc ha, ← h1]
    show _ = s + (nz (a k)).toInt64
    unfold nz
    rw [if_pos hv]
    exact (Int64.add_zero s).symm
  · rw [fold_snoc ha]
    show nb + (if a k = -2147483648 then _ else _) = i + 1
    rw [if_pos hv]
    omega
  · rw [fold_snoc ha, ← h4]
    show _ = if mo < a k then a k else mo
    rw [hv, if_neg (NO_ge mo)]
  · rw [fold_snoc ha, ← h5]
    show _ = if ky (a k) < ky le then a k else le
    have := ky_hi le
    rw [hv, ky_no, if_neg (by omega)]
theorem qX10_sum {u : xU} {W : WVN} (hW : WI W) (h1 : ∀ l, wR W = some l → 1 ≤ wN W) (h : MW W u) (k w : Int32) : xC mX10_sum [.ref 172, .int k, .int w] (xmm u) (fun r μ' => r = some (.long (aSum W k w)) ∧ μ' = xmm u) := by
  have hin := qX10_isName hW h1 h k
  have hn6 := hW.1.1
  obtain ⟨m1, m2, m3⟩ := h
  by_cases ok : cry (wN W) (wR W) k = true
  · obtain ⟨l, k', e, k1, rfl⟩ := cry_t hn6 ok
    unfold aSum
    have l5 := (hW.1.2 l e).1
    have hl := (m3 l e).2.2.1
    rw [e] at ok hin m2 ⊢
    dsimp only
    rw [if_pos ok, nI_nat (by omega)]
    rw [xb_eq (show (cry (wN W) (some l) (nI k') = true) ↔ True from ⟨fun _ => True.intro, fun _ => ok⟩)] at hin
    refine xC.of xpl10 (Nat.le_of_ble_eq_true rfl) (gX10_sum_N u k' w hin (fun z => ⟨?_, rfl⟩) (fun hw _ => ?_) (fun _ z => absurd True.intro z))
    · rw [if_neg (fun q => z (by rw [q]; decide)), if_neg (fun q => z (by rw [q]; decide)), if_neg (fun q => z (by rw [q]; decide)), if_neg (fun q => z (by rw [q]; decide)), if_neg (fun q => z (by rw [q]; decide))]
    generalize hR : (fun (r : Option Value) (μ' : xM) => r = some (.long (if w = nI 0 then l.foldl (totF k') 0 else if w = nI 1 then (nI l.length).toInt64 - (nI (l.foldl (cntF k' (-2147483648)) 0)).toInt64 else if w = nI 2 then (l.foldl (grtF k') (-2147483648)).toInt64 else if w = nI 3 then (l.foldl (lstF k') (-2147483648)).toInt64 else if w = nI 4 then (nI (ndF k' l l.length)).toInt64 else 0)) ∧ μ' = xmm u) = R
    have loop : ∀ d i s nb kd mo le, l.length - i = d → i ≤ l.length → SI k' l i s nb kd mo le → xE mX10_sum 38 [(0, .ref 172), (1, .int (nI k')), (2, .int w), (3, .long s), (5, .int (nI nb)), (6, .int (nI kd)), (7, .int mo), (8, .int le), (9, .int (nI i))] [] (xmm u) R := by
      intro d
      induction d with
      | zero =>
        intro i s nb kd mo le hd hi hs
        have ei : i = l.length := by omega
        subst ei
        obtain ⟨s1, s2, s3, s4, s5, -, -⟩ := hs
        rw [fold_all (Nat.le_refl _)] at s1 s2 s4 s5
        rw [← hR]
        refine gX10_sum_e u k' nb kd l.length l.length w mo le s rfl l5 m2 (fun _ a b c d => ⟨?_, rfl⟩) (fun _ a b c d => ⟨?_, rfl⟩) (fun _ a b c => ⟨?_, rfl⟩) (fun _ a b => ⟨?_, rfl⟩) (fun _ a => ⟨?_, rfl⟩) (fun z => absurd (Nat.le_refl _) z)
        · obtain ⟨j, j1, rfl⟩ := in_N (m := 5) (by decide) hw.1 (by
            have := hw.2
            rw [Int32.le_iff_toInt_le] at this
            rw [Int32.lt_iff_toInt_lt]
            have e4 : (4 : Int32).toInt = 4 := rfl
            have e5 : (nI 5).toInt = 5 := rfl
            omega)
          rcases (show j = 0 ∨ j = 1 ∨ j = 2 ∨ j = 3 ∨ j = 4 by omega) with rfl | rfl | rfl | rfl | rfl
          · exact absurd rfl a
          · exact absurd rfl b
          · exact absurd rfl c
          · exact absurd rfl d
          · rw [if_neg (show ¬ nI 4 = nI 0 from a), if_neg (show ¬ nI 4 = nI 1 from b), if_neg (show ¬ nI 4 = nI 2 from c), if_neg (show ¬ nI 4 = nI 3 from d), if_pos rfl, s3]
        · rw [if_neg (show ¬ w = nI 0 from a), if_neg (show ¬ w = nI 1 from b), if_neg (show ¬ w = nI 2 from c), if_pos (show w = nI 3 from d), s5]
        · rw [if_neg (show ¬ w = nI 0 from a), if_neg (show ¬ w = nI 1 from b), if_pos (show w = nI 2 from c), s4]
        · rw [if_neg (show ¬ w = nI 0 from a), if_pos (show w = nI 1 from b), nI_L' (by omega), nI_L' (by omega), nI_L' (by omega), nL_sub (by omega), show l.length - l.foldl (cntF k' (-2147483648)) 0 = nb by omega]
        · rw [if_pos (show w = nI 0 from a), s1]
      | succ d ih =>
        intro i s nb kd mo le hd hi hs
        have hil : i < l.length := by omega
        have ha := List.getElem?_eq_getElem hil
        generalize l[i] = a at ha
        have hnb : nb ≤ 500 := by have := hs.2.1; omega
        have hkd : kd ≤ 500 := by have := hs.2.2.1; have := ndF_le (k := k') (l := l) i; omega
        have go : ∀ s' nb' kd' mo' le', SI k' l (i + 1) s' nb' kd' mo' le' → xE mX10_sum 38 [(0, .ref 172), (1, .int (nI k')), (2, .int w), (3, .long s'), (5, .int (nI nb')), (6, .int (nI kd')), (7, .int mo'), (8, .int le'), (9, .int (nI (i + 1)))] [] (xmm u) R := fun s' nb' kd' mo' le' q => ih (i + 1) s' nb' kd' mo' le' (by omega) hil q
        have k0 : ¬ bP (¬ sawV k' l i) = true → kd + 0 = ndF k' l (i + 1) := fun q => by
          show _ = ndF k' l i + if bP (sawV k' l i) = true then 0 else 1
          rw [if_pos (bP_iff.mpr (Classical.byContradiction fun z => q (bP_iff.mpr z))), hs.2.2.1]
        have k2 : bP (¬ sawV k' l i) = true → kd + 1 = ndF k' l (i + 1) := fun q => by
          show _ = ndF k' l i + if bP (sawV k' l i) = true then 0 else 1
          rw [if_neg (fun z => bP_iff.mp q (bP_iff.mp z)), hs.2.2.1]
        exact gX10_sum_38 u k' nb kd i l.length w mo le (a k') s _ hil l5 (by omega) hnb hkd (qX10_isNew l5 hl hil (by omega)) m2 (hl i a ha k' (by omega)) (fun z => absurd hil (by omega)) (fun z => absurd hil (by omega)) (fun z => absurd hil (by omega)) (fun z => absurd hil (by omega)) (fun z => absurd hil (by omega)) (fun _ b v x1 y1 => go _ _ _ _ _ (hs.num ha v (k0 b) (mA x1) (lA y1))) (fun _ b v x1 y1 y2 => go _ _ _ _ _ (hs.num ha v (k0 b) (mA x1) (lB y1 y2))) (fun _ b v x1 y1 y2 => go _ _ _ _ _ (hs.num ha v (k0 b) (mA x1) (lC y1 y2))) (fun _ b v x1 x2 y1 => go _ _ _ _ _ (hs.num ha v (k0 b) (mB x1 x2) (lA y1))) (fun _ b v x1 x2 y1 y2 => go _ _ _ _ _ (hs.num ha v (k0 b) (mB x1 x2) (lB y1 y2))) (fun _ b v x1 x2 y1 y2 => go _ _ _ _ _ (hs.num ha v (k0 b) (mB x1 x2) (lC y1 y2))) (fun _ b v x1 x2 y1 => go _ _ _ _ _ (hs.num ha v (k0 b) (mC x1 x2) (lA y1))) (fun _ b v x1 x2 y1 y2 => go _ _ _ _ _ (hs.num ha v (k0 b) (mC x1 x2) (lB y1 y2))) (fun _ b v x1 x2 y1 y2 => go _ _ _ _ _ (hs.num ha v (k0 b) (mC x1 x2) (lC y1 y2))) (fun _ b v => go _ _ _ _ _ (hs.no ha v (k0 b))) (fun _ b v x1 y1 => go _ _ _ _ _ (hs.num ha v (k2 b) (mA x1) (lA y1))) (fun _ b v x1 y1 y2 => go _ _ _ _ _ (hs.num ha v (k2 b) (mA x1) (lB y1 y2))) (fun _ b v x1 y1 y2 => go _ _ _ _ _ (hs.num ha v (k2 b) (mA x1) (lC y1 y2))) (fun _ b v x1 x2 y1 => go _ _ _ _ _ (hs.num ha v (k2 b) (mB x1 x2) (lA y1))) (fun _ b v x1 x2 y1 y2 => go _ _ _ _ _ (hs.num ha v (k2 b) (mB x1 x2) (lB y1 y2))) (fun _ b v x1 x2 y1 y2 => go _ _ _ _ _ (hs.num ha v (k2 b) (mB x1 x2) (lC y1 y2))) (fun _ b v x1 x2 y1 => go _ _ _ _ _ (hs.num ha v (k2 b) (mC x1 x2) (lA y1))) (fun _ b v x1 x2 y1 y2 => go _ _ _ _ _ (hs.num ha v (k2 b) (mC x1 x2) (lB y1 y2))) (fun _ b v x1 x2 y1 y2 => go _ _ _ _ _ (hs.num ha v (k2 b) (mC x1 x2) (lC y1 y2))) (fun _ b v => go _ _ _ _ _ (hs.no ha v (k2 b)))

    exact loop _ 0 0 0 0 (-2147483648) (-2147483648) rfl (Nat.zero_le _) ⟨rfl, rfl, rfl, rfl, rfl, fun _ => ⟨rfl, rfl⟩, fun z => absurd rfl z⟩
  · rw [xb_eq (show (cry (wN W) (wR W) k = true) ↔ False from ⟨fun q => ok q, fun q => q.elim⟩)] at hin
    have e : aSum W k w = 0 := by
      unfold aSum
      cases hr : wR W with
      | none => rfl
      | some l =>
        rw [hr] at ok
        dsimp only
        rw [if_neg ok]
    rw [e]
    exact xC.of xpl10 (Nat.le_of_ble_eq_true rfl) (gX10_sum_I u k w hin (fun _ => ⟨rfl, rfl⟩) (fun _ z => z.elim) (fun _ _ => ⟨rfl, rfl⟩))

