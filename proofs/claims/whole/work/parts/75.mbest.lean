abbrev pmC (n j : Nat) : Nat := (pmL n).getD j 0
theorem pm_ok : ∀ n, n < 5 → ∀ j, j < (pmL n).length → pmC n j < 256 ∧ allN n (fun i => decide (cd (pmC n j) i < n) && allN i (fun x => decide (cd (pmC n j) x ≠ cd (pmC n j) i))) = true := by decide +kernel
theorem pm_srt : ∀ n, n < 5 → ∀ j, j < (pmL n).length → ∀ i, i < j → pmC n i < pmC n j := by decide +kernel
theorem pm_all : ∀ n, n < 5 → n ≠ 0 → ∀ c, c < 256 → allN n (fun i => decide (cd c i < n) && allN i (fun x => decide (cd c x ≠ cd c i))) = true → anyN (pmL n).length (fun j => decide (pmC n j ≤ c) && allN n (fun i => decide (cd (pmC n j) i = cd c i))) = true := by decide +kernel
theorem pm_id : ∀ n, n < 5 → n ≠ 0 → 0 < (pmL n).length ∧ allN n (fun i => decide (cd (pmC n 0) i = i)) = true := by decide +kernel
theorem vld_iff {n c : Nat} : allN n (fun i => decide (cd c i < n) && allN i (fun x => decide (cd c x ≠ cd c i))) = true ↔ vld n c := by
  rw [allN_iff]
  constructor
  · intro h i hi
    have := h i hi
    rw [Bool.and_eq_true, decide_eq_true_eq, allN_iff] at this
    exact ⟨this.1, fun j hj => of_decide_eq_true (this.2 j hj)⟩
  · intro h i hi
    rw [Bool.and_eq_true, decide_eq_true_eq, allN_iff]
    exact ⟨(h i hi).1, fun j hj => decide_eq_true ((h i hi).2 j hj)⟩
theorem smC_congr {T : TBL} {Q : QST} {c c' : Nat} : ∀ {n : Nat}, (∀ i, i < n → cd c i = cd c' i) → smC T Q c n = smC T Q c' n
  | 0, _ => rfl
  | n + 1, h => by
    unfold smC
    rw [smC_congr (fun i hi => h i (by omega)), psO_congr (o := cd c) (o' := cd c') (fun i hi => h i hi)]
theorem okC_congr {T : TBL} {Q : QST} {c c' : Nat} (h : ∀ i, i < qN Q → cd c i = cd c' i) (q : okC T Q c) : okC T Q c' := ⟨fun i hi => by
  rw [← h i hi]
  refine ⟨(q.1 i hi).1, fun j hj => ?_⟩
  rw [← h j (by omega)]
  exact (q.1 i hi).2 j hj, fun i h1 h2 => by
  rw [← psO_congr (o := cd c) (fun j hj => h j (by omega))]
  exact q.2 i h1 h2⟩
theorem cntS_setO {T : TBL} {Q : QST} {o : Nat → Nat} {S : Nat} : cntS T (setO Q o) S = cntS T Q S := rfl
theorem aStands_setO {T : TBL} {Q : QST} {o : Nat → Nat} : aStands T (setO Q o) = aStands T Q := rfl
/-- what the model's search for the best order leaves alone -/
def frMB (u u' : xU) : Prop := (∀ x, x ≠ 172 → ¬ (181 ≤ x ∧ x < 185) → x ≠ 190 → x ≠ 193 → x ≠ 194 → u'.1 x = u.1 x) ∧ (∀ k, k ≠ 13 → u'.1 172 k = u.1 172 k) ∧ u'.2 = u.2
theorem frMB.rf {u : xU} : frMB u u := ⟨fun _ _ _ _ _ _ => rfl, fun _ _ => rfl, rfl⟩
theorem frMB.tr {u v w : xU} (a : frMB u v) (b : frMB v w) : frMB u w := ⟨fun x h1 h2 h3 h4 h5 => (b.1 x h1 h2 h3 h4 h5).trans (a.1 x h1 h2 h3 h4 h5), fun k hk => (b.2.1 k hk).trans (a.2.1 k hk), b.2.2.trans a.2.2⟩
theorem frN.MB {u v : xU} (a : frN u v) : frMB u v := ⟨fun x h1 h2 h3 _ _ => a.1 x h1 (by omega) (by omega) (by omega) h3, a.2.1, a.2.2⟩
theorem MT.MB {T : TBL} {u u' : xU} (h : MT T u) (f : frMB u u') : MT T u' := h.keep (f.1 173 (by decide) (by decide) (by decide) (by decide) (by decide)) (f.1 174 (by decide) (by decide) (by decide) (by decide) (by decide)) (f.1 175 (by decide) (by decide) (by decide) (by decide) (by decide))
theorem KQ.ord {Q : QST} {u u' : xU} {o : Nat → Nat} (h : KQ Q u) (f : frMB u u') (ho : ∀ i, i < qN Q → u'.1 181 i = nI (o i)) : KQ (setO Q o) u' := ⟨(f.2.1 3 (by decide)).trans h.1, (f.2.1 4 (by decide)).trans h.2.1, ho, fun p hp => MPq.keep (Q := Q) (h.2.2.2 p hp) (fun x a b => f.1 x (by omega) (by omega) (by omega) (by omega) (by omega))⟩
/-- the best so far -/
def INB (T : TBL) (Q : QST) (x : Int32) (v : xU) (j : Nat) : Prop := (x = -1 ∧ ∀ j', j' < j → ¬ okC T Q (pmC (qN Q) j')) ∨ ∃ b, b < j ∧ x = nI (smC T Q (pmC (qN Q) b) (qN Q)) ∧ okC T Q (pmC (qN Q) b) ∧ smC T Q (pmC (qN Q) b) (qN Q) ≤ 2000 ∧ (∀ i, i < qN Q → v.1 194 i = nI (cd (pmC (qN Q) b) i)) ∧ ∀ j', j' < j → okC T Q (pmC (qN Q) j') → smC T Q (pmC (qN Q) b) (qN Q) < smC T Q (pmC (qN Q) j') (qN Q) ∨ (smC T Q (pmC (qN Q) b) (qN Q) = smC T Q (pmC (qN Q) j') (qN Q) ∧ b ≤ j')
theorem INB.keep {T : TBL} {Q : QST} {x : Int32} {v w : xU} {j : Nat} (h : INB T Q x v j) (e : w.1 194 = v.1 194) : INB T Q x w j := by
  unfold INB at *
  rw [e]
  exact h
theorem INB.no {T : TBL} {Q : QST} {x : Int32} {v : xU} {j : Nat} (h : INB T Q x v j) (no : ¬ okC T Q (pmC (qN Q) j)) : INB T Q x v (j + 1) := by
  rcases h with ⟨h1, h2⟩ | ⟨b, b1, b2, b3, b4, b5, b6⟩
  · refine Or.inl ⟨h1, fun j' hj => ?_⟩
    by_cases e : j' = j
    · subst e; exact no
    · exact h2 j' (by omega)
  · refine Or.inr ⟨b, by omega, b2, b3, b4, b5, fun j' hj hk => ?_⟩
    by_cases e : j' = j
    · subst e; exact absurd hk no
    · exact b6 j' (by omega) hk
theorem qX10_best {u : xU} {T : TBL} {Q : QST} (hT : TI T) (hQ : QI T Q) (hC : MT T u) (h : KQ Q u) : xC mX10_best [.ref 172] (xmm u) (fun r μ' => ∃ u', μ' = xmm u' ∧ r = some (.int (aBest T Q).1) ∧ KQ (aBest T Q).2 u' ∧ frMB u u') := by
  have hn6 := hQ.1
  have hp10 := hQ.2.1
  refine xC.of xpl10 (Nat.le_of_ble_eq_true rfl) (gX10_best_0 u (qN Q) (qP Q) _ hn6 hp10 (qX10_holds hT hQ hC h) h.1 h.2.1 (fun z => ?_) (fun z hn => ?_) (fun _ z => ?_))
  · have e : aBest T Q = (-1, Q) := by unfold aBest; rw [if_neg (fun q => z q.1)]
    rw [e]
    exact ⟨u, rfl, rfl, h, frMB.rf⟩
  rotate_left
  · have e : aBest T Q = (-1, Q) := by unfold aBest; rw [if_neg (fun q => z q.2)]
    rw [e]
    exact ⟨u, rfl, rfl, h, frMB.rf⟩
  have ea : aBest T Q = bstR T Q (fun c => smC T Q c (qN Q)) (bstC T Q) := by unfold aBest; rw [if_pos ⟨z, hn⟩]
  have hn0 : qN Q ≠ 0 := (aStands_iff.mp z).1
  have hok : ∀ j, j < (pmL (qN Q)).length → pmC (qN Q) j < 256 ∧ vld (qN Q) (pmC (qN Q) j) := fun j hj => ⟨(pm_ok _ (by omega) j hj).1, vld_iff.mp (pm_ok _ (by omega) j hj).2⟩
  -- the end: the order
  have back : ∀ d k (v : xU), 6 - k = d → k ≤ 6 → frMB u v → (∀ i, i < 6 → v.1 193 i = u.1 181 i) → (∀ i, i < k → v.1 181 i = u.1 181 i) → BST T Q none → xE mX10_best 147 [(0, .ref 172), (1, .int (-1)), (3, .int (nI k))] [] (xmm v) (fun r μ' => ∃ u', μ' = xmm u' ∧ r = some (.int (aBest T Q).1) ∧ KQ (aBest T Q).2 u' ∧ frMB u u') := by
    intro d
    induction d with
    | zero =>
      intro k v hd hk fr hs ho hb
      refine gX10_best_147a v _ k hk rfl (fun _ => ⟨v, rfl, ?_, ?_, fr⟩) (fun z => absurd (by omega) z)
      · rw [ea, bstC_of hb]; rfl
      · rw [ea, bstC_of hb]
        exact KQ.ord (o := qO Q) h fr (fun i hi => by rw [ho i (by omega)]; exact h.2.2.1 i hi)
    | succ d ih =>
      intro k v hd hk fr hs ho hb
      have hk6 : k < 6 := by omega
      refine gX10_best_147a v _ k hk (hs k hk6) (fun z => absurd z (by omega)) (fun _ => ih (k + 1) _ (by omega) hk6 (fr.tr ⟨fun x _ h2 _ _ _ => wi_row (by omega), fun _ _ => wi_ne (by decide), rfl⟩) (fun i hi => by rw [wi_ne (by decide)]; exact hs i hi) (fun i hi => ?_) hb)
      by_cases e : i = k
      · subst e; exact wi_self
      · rw [wi_nek e]; exact ho i (by omega)
  have take : ∀ c, BST T Q (some c) → ∀ d k (v : xU), 6 - k = d → k ≤ 6 → frMB u v → (∀ i, i < qN Q → v.1 194 i = nI (cd c i)) → (∀ i, i < k → i < qN Q → v.1 181 i = nI (cd c i)) → smC T Q c (qN Q) ≤ 2000 → xE mX10_best 147 [(0, .ref 172), (1, .int (nI (smC T Q c (qN Q)))), (3, .int (nI k))] [] (xmm v) (fun r μ' => ∃ u', μ' = xmm u' ∧ r = some (.int (aBest T Q).1) ∧ KQ (aBest T Q).2 u' ∧ frMB u u') := by
    intro c hb d
    induction d with
    | zero =>
      intro k v hd hk fr hs ho hle
      refine gX10_best_147b v _ _ k hk rfl (fun _ _ => ⟨v, rfl, ?_, ?_, fr⟩) (fun _ z => absurd z (nIm1 (by omega))) (fun z => absurd (by omega) z) (fun z => absurd (by omega) z)
      · rw [ea, bstC_of hb]; rfl
      · rw [ea, bstC_of hb]
        exact KQ.ord (o := cd c) h fr (fun i hi => ho i (by omega) hi)
    | succ d ih =>
      intro k v hd hk fr hs ho hle
      have hk6 : k < 6 := by omega
      refine gX10_best_147b v _ _ k hk rfl (fun z => absurd z (by omega)) (fun z => absurd z (by omega)) (fun _ _ => ih (k + 1) _ (by omega) hk6 (fr.tr ⟨fun x _ h2 _ _ _ => wi_row (by omega), fun _ _ => wi_ne (by decide), rfl⟩) (fun i hi => by rw [wi_ne (by decide)]; exact hs i hi) (fun i hi hin => ?_) hle) (fun _ z => absurd z (nIm1 (by omega)))
      by_cases e : i = k
      · subst e; rw [wi_self]; exact hs i hin
      · rw [wi_nek e]; exact ho i (by omega) hin
  -- the orders, one after another
  have loop : ∀ d j (x : Int32) (v : xU), (pmL (qN Q)).length - j = d → j < (pmL (qN Q)).length → frMB u v → (∀ i, i < 6 → v.1 193 i = u.1 181 i) → (∀ i, i < qN Q → v.1 181 i = nI (cd (pmC (qN Q) j) i)) → INB T Q x v j → xE mX10_best 54 [(0, .ref 172), (1, .int x), (2, .int (nI 1))] [] (xmm v) (fun r μ' => ∃ u', μ' = xmm u' ∧ r = some (.int (aBest T Q).1) ∧ KQ (aBest T Q).2 u' ∧ frMB u u') := by
    intro d
    induction d with
    | zero =>
      intro j x v hd hj
      omega
    | succ d ih =>
      intro j x v hd hj fr hs ho hi
      obtain ⟨c256, cv⟩ := hok j hj
      have nextK : ∀ (w : xU) (y : Int32), frMB u w → (∀ i, i < 6 → w.1 193 i = u.1 181 i) → (∀ i, i < qN Q → w.1 181 i = nI (cd (pmC (qN Q) j) i)) → INB T Q y w (j + 1) → xC mX10_nextOrder [.ref 172] (xmm w) (fun r μ1 => xE mX10_best 141 [(0, .ref 172), (1, .int y)] (r.toList ++ []) μ1 (fun r μ' => ∃ u', μ' = xmm u' ∧ r = some (.int (aBest T Q).1) ∧ KQ (aBest T Q).2 u' ∧ frMB u u')) := fun w y fw ws wo wi' => by
        refine (qX10_nextOrder (u := w) hn hj ((fw.2.1 3 (by decide)).trans h.1) wo).mono ?_
        rintro r μ' ⟨p, rfl, f1, f2, ⟨jl, rfl, po⟩ | ⟨jl, rfl⟩⟩
        · refine gX10_best_141t p y (ih (j + 1) y p (by omega) jl (fw.tr ⟨fun x h1 h2 _ _ _ => f1 x (by omega), fun k _ => by rw [f1 172 (by decide)], f2⟩) (fun i hi => by rw [f1 193 (by decide)]; exact ws i hi) po (wi'.keep (f1 194 (by decide))))
        · refine gX10_best_141f p y (gX10_best_f p y ?_)
          have fp : frMB u p := fw.tr ⟨fun x h1 h2 _ _ _ => f1 x (by omega), fun k _ => by rw [f1 172 (by decide)], f2⟩
          have cover : ∀ c', c' < 256 → okC T Q c' → ∃ j', j' < (pmL (qN Q)).length ∧ pmC (qN Q) j' ≤ c' ∧ okC T Q (pmC (qN Q) j') ∧ smC T Q (pmC (qN Q) j') (qN Q) = smC T Q c' (qN Q) := fun c' h1 h2 => by
            obtain ⟨j', j1, j2⟩ := anyN_iff.mp (pm_all _ (by omega) hn0 c' h1 (vld_iff.mpr h2.1))
            rw [Bool.and_eq_true, decide_eq_true_eq, allN_iff] at j2
            have e : ∀ i, i < qN Q → cd (pmC (qN Q) j') i = cd c' i := fun i hi => of_decide_eq_true (j2.2 i hi)
            exact ⟨j', j1, j2.1, okC_congr (fun i hi => (e i hi).symm) h2, smC_congr e⟩
          rcases wi' with ⟨rfl, i2⟩ | ⟨b, b1, rfl, b3, b4, b5, b6⟩
          · refine back _ 0 p rfl (Nat.zero_le _) fp (fun i hi => by rw [f1 193 (by decide)]; exact ws i hi) (fun i hi => absurd hi (Nat.not_lt_zero i)) (fun c' h1 h2 => ?_)
            obtain ⟨j', j1, -, j3, -⟩ := cover c' h1 h2
            exact i2 j' (by omega) j3
          · refine take (pmC (qN Q) b) ⟨(hok b (by omega)).1, b3, fun c' h1 h2 => ?_⟩ _ 0 p rfl (Nat.zero_le _) fp (fun i hi => by rw [f1 194 (by decide)]; exact b5 i hi) (fun i hi => absurd hi (Nat.not_lt_zero i)) b4
            obtain ⟨j', j1, j2, j3, j4⟩ := cover c' h1 h2
            have := b6 j' (by omega) j3
            rw [j4] at this
            rcases this with q | ⟨q1, q2⟩
            · exact Or.inl q
            · refine Or.inr ⟨q1, ?_⟩
              by_cases e : b = j'
              · rw [e]; exact j2
              · have := pm_srt _ (show qN Q < 5 by omega) j' j1 b (by omega)
                omega
      have hqj : QI T (setO Q (cd (pmC (qN Q) j))) := setO_QI hQ hn c256 cv
      have hkj : KQ (setO Q (cd (pmC (qN Q) j))) v := h.ord fr ho
      have hcv := hC.MB fr
      refine gX10_best_t v x ?_
      refine (qX10_meets hT hqj hcv hkj (aStands_setO.trans z)).mono ?_
      rintro r μ' ⟨w, rfl, fw, ⟨rfl, i, i1, i2, i3⟩ | ⟨rfl, l, -, -, -, -, -, cs⟩⟩
      · have no : ¬ okC T Q (pmC (qN Q) j) := fun q => q.2 i i1 i2 i3
        exact gX10_best_62f w x (nextK w x (fr.tr fw.MB) (fun i hi => by rw [fw.1 193 (by decide) (by decide) (by decide) (by decide) (by decide)]; exact hs i hi) (fun i hi => by rw [fw.1 181 (by decide) (by decide) (by decide) (by decide) (by decide)]; exact ho i hi) ((hi.keep (fw.1 194 (by decide) (by decide) (by decide) (by decide) (by decide))).no no))
      · have ws : ∀ i, i < 6 → w.1 193 i = u.1 181 i := fun i hi => by rw [fw.1 193 (by decide) (by decide) (by decide) (by decide) (by decide)]; exact hs i hi
        have wo : ∀ i, i < qN Q → w.1 181 i = nI (cd (pmC (qN Q) j) i) := fun i hi => by rw [fw.1 181 (by decide) (by decide) (by decide) (by decide) (by decide)]; exact ho i hi
        have wi' := hi.keep (w := w) (fw.1 194 (by decide) (by decide) (by decide) (by decide) (by decide))
        have hcs : ∀ i, i < qN Q → ∃ c, c ≤ 500 ∧ cntS T Q (psO (cd (pmC (qN Q) j)) (i + 1)) = some c ∧ w.1 184 i = nI c := cs
        have ok : okC T Q (pmC (qN Q) j) := ⟨cv, fun i h1 h2 e => by
          obtain ⟨c, -, q, -⟩ := hcs (i - 1) (by omega)
          rw [show i - 1 + 1 = i by omega, e] at q
          cases q⟩
        have hkw : KQ (setO Q (cd (pmC (qN Q) j))) w := hkj.N fw
        refine gX10_best_62t w x ?_
        -- it becomes the best
        have becomes : smC T Q (pmC (qN Q) j) (qN Q) ≤ 2000 → (∀ j', j' < j → okC T Q (pmC (qN Q) j') → smC T Q (pmC (qN Q) j) (qN Q) < smC T Q (pmC (qN Q) j') (qN Q)) → ∀ d k (p : xU), 6 - k = d → k ≤ 6 → (∀ x, x ≠ 194 → p.1 x = w.1 x) → p.2 = w.2 → (∀ i, i < k → p.1 194 i = w.1 181 i) → xE mX10_best 110 [(0, .ref 172), (1, .int (nI (smC T Q (pmC (qN Q) j) (qN Q)))), (4, .int (nI k))] [] (xmm p) (fun r μ' => ∃ u', μ' = xmm u' ∧ r = some (.int (aBest T Q).1) ∧ KQ (aBest T Q).2 u' ∧ frMB u u') := by
          intro hle hless d
          induction d with
          | zero =>
            intro k p hd hk p1 p2 p3
            refine gX10_best_110 p _ _ k hk rfl (fun _ => nextK p _ ((fr.tr fw.MB).tr ⟨fun x _ _ _ _ h5 => p1 x h5, fun k _ => by rw [p1 172 (by decide)], p2⟩) (fun i hi => by rw [p1 193 (by decide)]; exact ws i hi) (fun i hi => by rw [p1 181 (by decide)]; exact wo i hi) (Or.inr ⟨j, by omega, rfl, ok, hle, fun i hi => by rw [p3 i (by omega)]; exact wo i hi, fun j' h1 h2 => ?_⟩)) (fun z => absurd (by omega) z)
            by_cases e : j' = j
            · subst e; exact Or.inr ⟨rfl, Nat.le_refl _⟩
            · exact Or.inl (hless j' (by omega) h2)
          | succ d ihb =>
            intro k p hd hk p1 p2 p3
            have hk6 : k < 6 := by omega
            refine gX10_best_110 p _ (w.1 181 k) k hk (by rw [p1 181 (by decide)]) (fun z => absurd z (by omega)) (fun _ => ihb (k + 1) _ (by omega) hk6 (fun x hx => by rw [wi_row hx]; exact p1 x hx) p2 (fun i hi => ?_))
            by_cases e : i = k
            · subst e; exact wi_self
            · rw [wi_nek e]; exact p3 i (by omega)
        have sums : ∀ d i, qN Q - i = d → i ≤ qN Q → smC T Q (pmC (qN Q) j) i ≤ 500 * i → xE mX10_best 70 [(0, .ref 172), (1, .int x), (3, .int (nI (smC T Q (pmC (qN Q) j) i))), (4, .int (nI i))] [] (xmm w) (fun r μ' => ∃ u', μ' = xmm u' ∧ r = some (.int (aBest T Q).1) ∧ KQ (aBest T Q).2 u' ∧ frMB u u') := by
          intro d
          induction d with
          | zero =>
            intro i hd hi' hle
            have e : i = qN Q := by omega
            subst e
            rcases wi' with ⟨rfl, j2⟩ | ⟨b, b1, rfl, b3, b4, b5, b6⟩
            · exact gX10_best_70a w (qN Q) (qP Q) _ _ hn6 hp10 rfl (by omega) hkw.1 hkw.2.1 (fun _ => becomes (by omega) (fun j' h1 h2 => absurd h2 (j2 j' h1)) _ 0 w rfl (Nat.zero_le _) (fun _ _ => rfl) rfl (fun i hi => absurd hi (Nat.not_lt_zero i))) (fun z => absurd (Nat.le_refl _) z)
            · refine gX10_best_70b w (qN Q) (qP Q) _ _ _ hn6 hp10 rfl (by omega) b4 hkw.1 hkw.2.1 (fun _ z => absurd z (nIm1 (by omega))) (fun _ _ q => ?_) (fun _ _ q => becomes (by omega) (fun j' h1 h2 => ?_) _ 0 w rfl (Nat.zero_le _) (fun _ _ => rfl) rfl (fun i hi => absurd hi (Nat.not_lt_zero i))) (fun z => absurd (Nat.le_refl _) z)
              · refine nextK w _ (fr.tr fw.MB) ws wo (Or.inr ⟨b, by omega, rfl, b3, b4, b5, fun j' h1 h2 => ?_⟩)
                by_cases e : j' = j
                · subst e; omega
                · exact b6 j' (by omega) h2
              · have := b6 j' h1 h2
                omega
          | succ d ihs =>
            intro i hd hi' hle
            have hil : i < qN Q := by omega
            obtain ⟨c, c1, c2, c3⟩ := hcs i hil
            have es : smC T Q (pmC (qN Q) j) i + c = smC T Q (pmC (qN Q) j) (i + 1) := by
              show _ = smC T Q (pmC (qN Q) j) i + (cntS T Q (psO (cd (pmC (qN Q) j)) (i + 1))).getD 0
              rw [c2]
              rfl
            refine gX10_best_70 w (qN Q) (qP Q) x _ i c hn6 hp10 hil (by omega) hkw.1 hkw.2.1 c3 (fun z => absurd hil (by omega)) (fun z => absurd hil (by omega)) (fun z => absurd hil (by omega)) (fun _ => ?_)
            rw [es]
            exact ihs (i + 1) (by omega) hil (by omega)
        exact sums _ 0 rfl (Nat.zero_le _) (Nat.le_refl _)
  have save : ∀ d k (v : xU), 6 - k = d → k ≤ 6 → (∀ x, x ≠ 181 → x ≠ 193 → v.1 x = u.1 x) → v.2 = u.2 → (∀ i, i < k → v.1 193 i = u.1 181 i) → (∀ i, k ≤ i → v.1 181 i = u.1 181 i) → (∀ i, i < k → v.1 181 i = nI i) → xE mX10_best 19 [(0, .ref 172), (1, .int (nI k))] [] (xmm v) (fun r μ' => ∃ u', μ' = xmm u' ∧ r = some (.int (aBest T Q).1) ∧ KQ (aBest T Q).2 u' ∧ frMB u u') := by
    intro d
    induction d with
    | zero =>
      intro k v hd hk f1 f2 g1 g2 g3
      obtain ⟨l0, lid⟩ := pm_id (qN Q) (by omega) hn0
      refine gX10_best_19 v k _ hk rfl (fun _ => loop _ 0 _ v rfl l0 ⟨fun x _ h2 _ h4 _ => f1 x (by omega) h4, fun k _ => by rw [f1 172 (by decide) (by decide)], f2⟩ (fun i hi => g1 i (by omega)) (fun i hi => ?_) (Or.inl ⟨rfl, fun j' hj => absurd hj (Nat.not_lt_zero j')⟩)) (fun z => absurd (by omega) z)
      rw [of_decide_eq_true (allN_iff.mp lid i hi)]
      exact g3 i (by omega)
    | succ d ih =>
      intro k v hd hk f1 f2 g1 g2 g3
      have hk6 : k < 6 := by omega
      refine gX10_best_19 v k _ hk (g2 k (Nat.le_refl _)) (fun z => absurd z (by omega)) (fun _ => ih (k + 1) _ (by omega) hk6 (fun x h1 h2 => by rw [wi_row h1, wi_row h2]; exact f1 x h1 h2) f2 (fun i hi => ?_) (fun i hi => by rw [wi_nek (by omega), wi_ne (by decide)]; exact g2 i (by omega)) (fun i hi => ?_))
      · rw [wi_ne (by decide)]
        by_cases e : i = k
        · subst e; exact wi_self
        · rw [wi_nek e]; exact g1 i (by omega)
      · by_cases e : i = k
        · subst e; exact wi_self
        · rw [wi_nek e, wi_ne (by decide)]; exact g3 i (by omega)
  exact save _ 0 u rfl (Nat.zero_le _) (fun _ _ _ => rfl) rfl (fun i hi => absurd hi (Nat.not_lt_zero i)) (fun _ _ => rfl) (fun i hi => absurd hi (Nat.not_lt_zero i))

