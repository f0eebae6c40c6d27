theorem lexR_asym {n : Nat} {a b : Nat → Int32} (h : lexR n a b) (h' : lexR n b a) : False := by
  obtain ⟨k, k1, k2, k3⟩ := h
  obtain ⟨j, j1, j2, j3⟩ := h'
  by_cases e : k < j
  · rw [j2 k e] at k3; omega
  · by_cases e2 : j < k
    · rw [k2 j e2] at j3; omega
    · have : j = k := by omega
      subst this
      omega
theorem lexR_nd {n : Nat} {l : List (Nat → Int32)} (h : l.Pairwise (lexR n)) : l.Nodup := List.nodup_iff_pairwise_ne.mpr (h.imp (fun q e => by subst e; exact lexR_asym q q))
theorem lex_uniq {n : Nat} {l m : List (Nat → Int32)} (hl : l.Pairwise (lexR n)) (hm : m.Pairwise (lexR n)) (h : ∀ a, a ∈ l ↔ a ∈ m) : l = m := List.Perm.eq_of_pairwise (le := lexR n) (fun _ _ _ _ x y => (lexR_asym x y).elim) hl hm ((List.perm_ext_iff_of_nodup (lexR_nd hl) (lexR_nd hm)).mpr h)
/-- all names -/
def FS (Q : QST) : Nat := psO (qO Q) (qN Q)
theorem FS_bit {T : TBL} {Q : QST} (hQ : QI T Q) {k : Nat} : (FS Q).testBit k = true ↔ k < qN Q := by
  unfold FS
  rw [psO_bit]
  constructor
  · rintro ⟨j, j1, rfl⟩
    exact hQ.2.2.2.2.2.1 j j1
  · exact hQ.2.2.2.2.2.2.2 k
theorem FS_eq {T : TBL} {Q : QST} (hQ : QI T Q) : FS Q = 2 ^ qN Q - 1 := by
  apply Nat.eq_of_testBit_eq
  intro k
  have h := FS_bit hQ (k := k)
  rw [Nat.testBit_two_pow_sub_one]
  by_cases hk : k < qN Q
  · rw [h.mpr hk, decide_eq_true hk]
  · rw [decide_eq_false hk]
    cases hb : (FS Q).testBit k
    · rfl
    · exact absurd (h.mp hb) hk
theorem FS_lt {T : TBL} {Q : QST} (hQ : QI T Q) : FS Q < 64 := psO_lt (b := 6) (fun j hj => by have := hQ.2.2.2.2.2.1 j hj; have := hQ.1; omega)
theorem FS_I : ∀ n, n ≤ 6 → ((1 : Int32) <<< (nI n &&& 31)) - 1 = nI (2 ^ n - 1) := by decide +kernel
noncomputable def rowsS (T : TBL) (Q : QST) : List (Nat → Int32) := Classical.epsilon (fun l => l.Pairwise (lexR (qN Q)) ∧ ∀ a, a ∈ l ↔ MEM T Q (FS Q) a)
theorem rowsS_of {T : TBL} {Q : QST} {l : List (Nat → Int32)} (h1 : l.Pairwise (lexR (qN Q))) (h2 : ∀ a, a ∈ l ↔ MEM T Q (FS Q) a) : rowsS T Q = l := by
  have sp := Classical.epsilon_spec (p := fun l => l.Pairwise (lexR (qN Q)) ∧ ∀ a, a ∈ l ↔ MEM T Q (FS Q) a) ⟨l, h1, h2⟩
  exact lex_uniq sp.1 h1 (fun a => (sp.2 a).trans (h2 a).symm)
/-- what weaving leaves -/
noncomputable def Wof (T : TBL) (Q : QST) : WVN := (qN Q, some (rowsS T Q), qP Q, fun i => (cntS T Q (psO (qO Q) (i + 1))).getD 0, hNo Q, fun p a => fsR T Q p (FS Q) a)
/-- what was woven, in the class's memory -/
def CW (W : WVN) (u : xU) : Prop := CA 47 (wN W) (wR W) u ∧ ∀ l, wR W = some l → u.1 46 1 = nI (wP W) ∧ (∀ p, p < wP W → u.1 56 p = nmI (wH W p)) ∧ (∀ i, i < wN W → u.1 57 i = nI (wM W i)) ∧ ∀ i a, l[i]? = some a → ∃ M, u.1 58 i = nI M ∧ M < 2 ^ 30 ∧ ∀ p, p < wP W → ∀ q, wH W p = some q → M / 2 ^ (6 * q) % 64 = wW W p a
theorem CW.keep {W : WVN} {u u' : xU} (h : CW W u) (hn : wN W ≤ 6) (f1 : ∀ x, 46 ≤ x → x < 59 → u'.1 x = u.1 x) (f2 : u'.2.1 55 = u.2.1 55) : CW W u' := by
  refine ⟨h.1.keep hn (fun x hx => f1 x (by omega) (by omega)) f2, fun l hl => ?_⟩
  obtain ⟨h1, h2, h3, h4⟩ := h.2 l hl
  rw [f1 46 (by decide) (by decide), f1 56 (by decide) (by decide), f1 57 (by decide) (by decide), f1 58 (by decide) (by decide)]
  exact ⟨h1, h2, h3, h4⟩
theorem nIm2 {k : Nat} (hk : k < 2147483648) : ¬ nI k = -2 := fun z => by
  have := congrArg Int32.toInt z
  rw [nI_toI hk] at this
  have e : (-2 : Int32).toInt = -2 := rfl
  rw [e] at this
  omega
theorem qX8_setMet {u : xU} {n i : Nat} {z x : Int32} (hn : n ≤ 6) (hi : i < n) (v0 : u.1 47 0 = nI n) (v1 : u.1 47 1 = z) (hz : ¬ z = -1) : xC mX8_setMet [.ref 46, .int (nI i), .int x] (xmm u) (fun r μ' => r = none ∧ μ' = xmm (wi u 57 i x)) := by
  have hca : xC mX0_carries [.ref 47, .int (nI i)] (xmm u) (fun r μ' => r = some (.int (xb (true = true))) ∧ μ' = xmm u) := xC.of xpl0 (Nat.le_of_ble_eq_true rfl) (gX0_carries_0 u 47 n (nI i) z (Or.inl rfl) v1 v0 (fun q => absurd q hz) (fun _ q => absurd q (Int32.not_lt.mpr ((nI_len (a := 0) (by decide) (by omega)).mpr (Nat.zero_le _)))) (fun _ _ q => absurd ((nI_len (by omega) (by omega)).mp q) (by omega)) (fun _ _ _ => ⟨rfl, rfl⟩))
  exact xC.of xpl8 (Nat.le_of_ble_eq_true rfl) (gX8_setMet_0 u i x true (by omega) hca (fun q => absurd rfl q) (fun _ => ⟨rfl, rfl⟩))
theorem qX8_setWitnesses {u : xU} {i m : Nat} {x : Int32} (hm : m ≤ 500) (hi : i < m) (v1 : u.1 47 1 = nI m) : xC mX8_setWitnesses [.ref 46, .int (nI i), .int x] (xmm u) (fun r μ' => r = none ∧ μ' = xmm (wi u 58 i x)) := xC.of xpl8 (Nat.le_of_ble_eq_true rfl) (gX8_setWitnesses_0 u i m x (by omega) hm v1 (fun q => absurd hi (by omega)) (fun _ => ⟨rfl, rfl⟩))
theorem MEM_has {T : TBL} {Q : QST} (hQ : QI T Q) {a : Nat → Int32} (h : MEM T Q (FS Q) a) {p : Nat} (hp : p < qP Q) (h0 : qK Q p = 0) : hasR T Q p (FS Q) a := by
  rcases (h.2.2 p hp).1 h0 with ⟨z1, z2⟩ | z
  · obtain ⟨i, i1, i2⟩ := pNmd_iff.mp z1
    cases hm : qM Q p i with
    | none => exact absurd hm i2
    | some n => exact absurd ⟨i, i1, n, hm, (FS_bit hQ).mpr (qM_lt hQ hp i1 hm)⟩ z2
  · exact z
/-- meetings in order are rows in order -/
theorem lex_of {Q : QST} {Z : Nat → Nat} {D : Nat → Nat → Int32} {n m m' : Nat} {a b : Nat → Int32} (hD : ∀ k, k < n → DO (Z k) (D k)) (hm : m < 2 ^ 36) (hm' : m' < 2 ^ 36) (ha : ∀ k, k < n → spN m k < Z k ∧ D k (spN m k) = a k) (hb : ∀ k, k < n → spN m' k < Z k ∧ D k (spN m' k) = b k) (za : ∀ k, k < 6 → ¬ k < n → spN m k = 0) (zb : ∀ k, k < 6 → ¬ k < n → spN m' k = 0) (hlt : m < m') : lexR n a b := by
  have hex : ∃ k, k < 6 ∧ (decide (¬ spN m k = spN m' k)) = true := Classical.byContradiction fun q => by
    have := spN_inj hm hm' (fun k hk => Classical.byContradiction fun z => q ⟨k, hk, decide_eq_true z⟩)
    omega
  obtain ⟨x1, x2, x3⟩ := fstB_ex hex
  generalize fstB (fun k => decide (¬ spN m k = spN m' k)) 6 = k at x1 x2 x3
  have x2' := of_decide_eq_true x2
  have x3' : ∀ j, j < k → spN m j = spN m' j := fun j hj => Classical.byContradiction fun z => x3 j hj (decide_eq_true z)
  have hkn : k < n := Classical.byContradiction fun z => x2' ((za k x1 z).trans (zb k x1 z).symm)
  have hlt' : spN m k < spN m' k := by
    refine Classical.byContradiction fun z => ?_
    have := spN_lex hm' hm x1 (fun j hj => (x3' j hj).symm) (by omega)
    omega
  refine ⟨k, hkn, fun j hj => ?_, ?_⟩
  · rw [← (ha j (by omega)).2, ← (hb j (by omega)).2, x3' j hj]
  · rw [← (ha k hkn).2, ← (hb k hkn).2]
    exact (hD k hkn).2 _ _ hlt' (hb k hkn).1
/-- the meetings of a slot, sorted -/
theorem sorted_rows {Q : QST} {Z : Nat → Nat} {D : Nat → Nat → Int32} {S n : Nat} {l : List (Nat → Int32)} {f g : Nat → Nat} (hS : ∀ k, S.testBit k = true ↔ k < n) (hD : ∀ k, k < n → DO (Z k) (D k)) (hnd : l.Nodup) (hz : ∀ a, a ∈ l → ∀ j, ¬ S.testBit j = true → a j = 0) (hf : ∀ i b, l[i]? = some b → f i < 2 ^ 36 ∧ SPT Q Z D S (f i) b ∧ ∀ k, k < 6 → ¬ S.testBit k = true → spN (f i) k = 0) (hp : PMT l.length f g) (hs : ∀ i j, i < j → j < l.length → g i ≤ g j) : ∃ l' : List (Nat → Int32), l'.length = l.length ∧ l'.Pairwise (lexR n) ∧ (∀ a, a ∈ l' ↔ a ∈ l) ∧ ∀ i b, l'[i]? = some b → g i < 2 ^ 36 ∧ SPT Q Z D S (g i) b ∧ ∀ k, k < 6 → ¬ S.testBit k = true → spN (g i) k = 0 := by
  obtain ⟨σ, s1, s2, s3⟩ := hp
  have hget : ∀ i, i < l.length → ((List.range l.length).map (fun i => l.getD (σ i) (fun _ => 0)))[i]? = l[σ i]? := fun i hi => by
    rw [List.getElem?_map, List.getElem?_range hi, Option.map_some, List.getD_eq_getElem?_getD, List.getElem?_eq_getElem (s1 i hi).1]
    rfl
  have hlen : ((List.range l.length).map (fun i => l.getD (σ i) (fun _ => 0))).length = l.length := by rw [List.length_map, List.length_range]
  generalize ((List.range l.length).map (fun i => l.getD (σ i) (fun _ => 0))) = l' at hget hlen
  have hprop : ∀ i b, l'[i]? = some b → g i < 2 ^ 36 ∧ SPT Q Z D S (g i) b ∧ ∀ k, k < 6 → ¬ S.testBit k = true → spN (g i) k = 0 := fun i b hb => by
    have hi := (List.getElem?_eq_some_iff.mp hb).1
    rw [hlen] at hi
    rw [hget i hi] at hb
    rw [(s1 i hi).2]
    exact hf _ b hb
  have hmem : ∀ a, a ∈ l' ↔ a ∈ l := fun a => by
    rw [List.mem_iff_getElem?, List.mem_iff_getElem?]
    constructor
    · rintro ⟨i, hi⟩
      have := (List.getElem?_eq_some_iff.mp hi).1
      rw [hget i (by omega)] at hi
      exact ⟨_, hi⟩
    · rintro ⟨i, hi⟩
      have := (List.getElem?_eq_some_iff.mp hi).1
      obtain ⟨j, j1, j2⟩ := s3 i this
      exact ⟨j, by rw [hget j j1, j2]; exact hi⟩
  refine ⟨l', hlen, List.pairwise_iff_getElem.mpr (fun i j hi hj hij => ?_), hmem, hprop⟩
  have pi := hprop i _ (List.getElem?_eq_getElem hi)
  have pj := hprop j _ (List.getElem?_eq_getElem hj)
  have mi : l'[i] ∈ l := (hmem _).mp (List.getElem_mem hi)
  have mj : l'[j] ∈ l := (hmem _).mp (List.getElem_mem hj)
  have gi := hget i (by omega)
  have gj := hget j (by omega)
  rw [List.getElem?_eq_getElem hi] at gi
  rw [List.getElem?_eq_getElem hj] at gj
  generalize l'[i] = a at pi mi gi
  generalize l'[j] = b at pj mj gj
  have ha : ∀ k, k < n → spN (g i) k < Z k ∧ D k (spN (g i) k) = a k := fun k hk => (pi.2.1 k ((hS k).mpr hk)).2
  have hb : ∀ k, k < n → spN (g j) k < Z k ∧ D k (spN (g j) k) = b k := fun k hk => (pj.2.1 k ((hS k).mpr hk)).2
  have ne : g i ≠ g j := fun e => by
    have eab : a = b := by
      funext k
      by_cases hk : k < n
      · rw [← (ha k hk).2, ← (hb k hk).2, e]
      · rw [hz a mi k (fun q => hk ((hS k).mp q)), hz b mj k (fun q => hk ((hS k).mp q))]
    rw [eab] at gi
    have h1 := (s1 i (by omega)).1
    have h2 := (s1 j (by omega)).1
    rw [List.getElem?_eq_getElem h1] at gi
    rw [List.getElem?_eq_getElem h2] at gj
    have gi' := Option.some.inj gi
    have gj' := Option.some.inj gj
    have es : σ i = σ j := by
      refine Classical.byContradiction fun q => ?_
      have pw := List.pairwise_iff_getElem.mp (List.nodup_iff_pairwise_ne.mp hnd)
      rcases Nat.lt_or_gt_of_ne q with q | q
      · exact pw _ _ h1 h2 q (gi'.symm.trans gj')
      · exact pw _ _ h2 h1 q (gj'.symm.trans gi')
    have := s2 i j (by omega) (by omega) es
    omega
  have := hs i j hij (by omega)
  exact lex_of (Q := Q) hD pi.1 pj.1 ha hb (fun k hk hn => pi.2.2 k hk (fun q => hn ((hS k).mp q))) (fun k hk hn => pj.2.2 k hk (fun q => hn ((hS k).mp q))) (by omega)

