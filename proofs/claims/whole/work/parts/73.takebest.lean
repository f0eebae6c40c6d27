/-! codes of orders: two bits a name, the first name highest -/
def cd (c i : Nat) : Nat := c / 4 ^ (3 - i) % 4
theorem cdI : ∀ c, c < 256 → ∀ i, i < 4 → ((nI c >>> ((nI (2 * (3 - i))) &&& 31)) &&& 3) = nI (cd c i) := by decide +kernel
theorem cd_lt (c i : Nat) : cd c i < 4 := Nat.mod_lt _ (by decide)
def vld (n c : Nat) : Prop := ∀ i, i < n → cd c i < n ∧ ∀ j, j < i → cd c j ≠ cd c i
def okC (T : TBL) (Q : QST) (c : Nat) : Prop := vld (qN Q) c ∧ ∀ i, 1 ≤ i → i ≤ qN Q → cntS T Q (psO (cd c) i) ≠ none
noncomputable def smC (T : TBL) (Q : QST) (c : Nat) : Nat → Nat
  | 0 => 0
  | i + 1 => smC T Q c i + (cntS T Q (psO (cd c) (i + 1))).getD 0
def BST (T : TBL) (Q : QST) : Option Nat → Prop
  | none => ∀ c, c < 256 → ¬ okC T Q c
  | some c => c < 256 ∧ okC T Q c ∧ ∀ c', c' < 256 → okC T Q c' → smC T Q c (qN Q) < smC T Q c' (qN Q) ∨ (smC T Q c (qN Q) = smC T Q c' (qN Q) ∧ c ≤ c')
theorem BST_uniq {T : TBL} {Q : QST} {o o' : Option Nat} (h : BST T Q o) (h' : BST T Q o') : o = o' := by
  cases o with
  | none =>
    cases o' with
    | none => rfl
    | some c => exact absurd h'.2.1 (h c h'.1)
  | some c =>
    cases o' with
    | none => exact absurd h.2.1 (h' c h.1)
    | some c' =>
      have a := h.2.2 c' h'.1 h'.2.1
      have b := h'.2.2 c h.1 h.2.1
      have : c = c' := by omega
      rw [this]
noncomputable def bstC (T : TBL) (Q : QST) : Option Nat := Classical.epsilon (BST T Q)
theorem bstC_of {T : TBL} {Q : QST} {o : Option Nat} (h : BST T Q o) : bstC T Q = o := BST_uniq (Classical.epsilon_spec (p := BST T Q) ⟨o, h⟩) h
def setO (Q : QST) (o : Nat → Nat) : QST := (Q.1, Q.2.1, Q.2.2.1, Q.2.2.2.1, Q.2.2.2.2.1, Q.2.2.2.2.2.1, Q.2.2.2.2.2.2.1, o)
def bstR (T : TBL) (Q : QST) (sm : Nat → Nat) : Option Nat → Int32 × QST
  | none => (-2, Q)
  | some c => (nI (sm c), setO Q (cd c))
noncomputable def aBest (T : TBL) (Q : QST) : Int32 × QST := if aStands T Q = true ∧ qN Q ≤ 4 then bstR T Q (fun c => smC T Q c (qN Q)) (bstC T Q) else (-1, Q)
theorem vld_sur : ∀ n, n ≤ 4 → ∀ c, c < 256 → (∀ i, i < n → cd c i < n ∧ ∀ j, j < i → cd c j ≠ cd c i) → ∀ k, k < n → ∃ i, i < n ∧ cd c i = k := by
  intro n hn c hc hv k hk
  have key : ∀ n, n < 5 → ∀ c, c < 256 → (allN n (fun i => decide (cd c i < n) && allN i (fun j => decide (cd c j ≠ cd c i)))) = true → allN n (fun k => anyN n (fun i => decide (cd c i = k))) = true := by decide +kernel
  have h1 : (allN n (fun i => decide (cd c i < n) && allN i (fun j => decide (cd c j ≠ cd c i)))) = true := allN_iff.mpr (fun i hi => by
    rw [Bool.and_eq_true, decide_eq_true_eq, allN_iff]
    exact ⟨(hv i hi).1, fun j hj => decide_eq_true ((hv i hi).2 j hj)⟩)
  have h2 := allN_iff.mp (key n (by omega) c hc h1) k hk
  obtain ⟨i, i1, i2⟩ := anyN_iff.mp h2
  exact ⟨i, i1, of_decide_eq_true i2⟩
theorem vld_inj {n c : Nat} (h : vld n c) : ∀ i j, i < n → j < n → cd c i = cd c j → i = j := fun i j hi hj e => by
  by_cases h1 : i < j
  · exact absurd e ((h j hj).2 i h1)
  · by_cases h2 : j < i
    · exact absurd e.symm ((h i hi).2 j h2)
    · omega
theorem setO_QI {T : TBL} {Q : QST} (hQ : QI T Q) (hn : qN Q ≤ 4) {c : Nat} (hc : c < 256) (hv : vld (qN Q) c) : QI T (setO Q (cd c)) := ⟨hQ.1, hQ.2.1, hQ.2.2.1, hQ.2.2.2.1, hQ.2.2.2.2.1, fun i hi => (hv i hi).1, vld_inj hv, vld_sur _ hn c hc hv⟩
theorem qX7_codedName (u : xU) {c i : Nat} (hc : c < 256) (hi : i < 4) : xC mX7_codedName [.int (nI c), .int (nI i)] (xmm u) (fun r μ' => r = some (.int (nI (cd c i))) ∧ μ' = xmm u) := xC.of xpl7 (Nat.le_of_ble_eq_true rfl) (gX7_codedName_0 u c i hi ⟨by rw [cdI c hc i hi], rfl⟩)
theorem qX7_meetingsTogether {u : xU} {T : TBL} {Q : QST} (hQ : QI T Q) (h : CQ T Q u) (hn : qN Q ≤ 4) (hs : SMT T Q (2 ^ qN Q) u) {c : Nat} (hc : c < 256) : xC mX7_meetingsTogether [.ref 74, .ref 3, .int (nI c)] (xmm u) (fun r μ' => ((okC T Q c ∧ smC T Q c (qN Q) ≤ 2000 ∧ r = some (.int (nI (smC T Q c (qN Q))))) ∨ (¬ okC T Q c ∧ r = some (.int (-2)))) ∧ μ' = xmm u) := by
  refine xC.of xpl7 (Nat.le_of_ble_eq_true rfl) (gX7_meetingsTogether_0 u c ?_)
  have loop : ∀ d i, qN Q - i = d → i ≤ qN Q → (∀ j, j < i → cd c j < qN Q ∧ ∀ x, x < j → cd c x ≠ cd c j) → (∀ j, 1 ≤ j → j ≤ i → cntS T Q (psO (cd c) j) ≠ none) → smC T Q c i ≤ 500 * i → xE mX7_meetingsTogether 8 [(0, .ref 74), (1, .ref 3), (2, .int (nI c)), (3, .int (nI (smC T Q c i))), (4, .int (nI (psO (cd c) i))), (5, .int (nI i))] [] (xmm u) (fun r μ' => ((okC T Q c ∧ smC T Q c (qN Q) ≤ 2000 ∧ r = some (.int (nI (smC T Q c (qN Q))))) ∨ (¬ okC T Q c ∧ r = some (.int (-2)))) ∧ μ' = xmm u) := by
    intro d
    induction d with
    | zero =>
      intro i hd hi h1 h2 h3
      have e : i = qN Q := by omega
      subst e
      exact gX7_meetingsTogether_e u c _ _ _ (qN Q) hn rfl h.1 (fun _ => ⟨Or.inl ⟨⟨h1, h2⟩, by omega, rfl⟩, rfl⟩) (fun z => absurd (Nat.le_refl _) z)
    | succ d ih =>
      intro i hd hi h1 h2 h3
      have hil : i < qN Q := by omega
      have hS : psO (cd c) i < 16 := psO_lt (b := 4) (fun j _ => cd_lt c j)
      have hnm := cd_lt c i
      have hmo : psO (cd c) i ||| 2 ^ cd c i < 16 := Nat.or_lt_two_pow (n := 4) hS (Nat.pow_lt_pow_right (by decide) hnm)
      refine gX7_meetingsTogether_8 u c _ _ i (qN Q) (cd c i) hn hil (qX7_codedName u hc (by omega)) h.1 (fun z => absurd hil (by omega)) (fun _ => ?_)
      rw [show ((nI (psO (cd c) i)) ||| (1 <<< ((nI (cd c i)) &&& 31))) = nI (psO (cd c) i ||| 2 ^ cd c i) from orI _ (by omega) _ (by omega)]
      by_cases hlt : cd c i < qN Q
      · by_cases hin : (psO (cd c) i).testBit (cd c i) = true
        · have em : psO (cd c) i ||| 2 ^ cd c i = psO (cd c) i := by
            apply Nat.eq_of_testBit_eq
            intro j
            cases hb : (psO (cd c) i).testBit j with
            | true => exact bit_add.mpr (Or.inl hb)
            | false =>
              cases hb2 : (psO (cd c) i ||| 2 ^ cd c i).testBit j with
              | false => rfl
              | true =>
                rcases bit_add.mp hb2 with q | q
                · rw [hb] at q; cases q
                · rw [q, hin] at hb; cases hb
          have no : ¬ okC T Q c := fun q => by
            obtain ⟨j, j1, j2⟩ := psO_bit.mp hin
            exact (q.1 i hil).2 j j1 j2
          exact gX7_meetingsTogether_g u c _ _ i (qN Q) (cd c i) _ _ hn hil hnm hS hmo (by omega) h.1 rfl (fun _ => ⟨Or.inr ⟨no, rfl⟩, rfl⟩) (fun _ _ => ⟨Or.inr ⟨no, rfl⟩, rfl⟩) (fun _ z => absurd em z) (fun _ z => absurd em z)
        · have hmo2 : psO (cd c) i ||| 2 ^ cd c i < 2 ^ qN Q := Nat.or_lt_two_pow (psO_lt (fun j hj => (h1 j hj).1)) (Nat.pow_lt_pow_right (by decide) hlt)
          have hv : ∀ j, j < i + 1 → cd c j < qN Q ∧ ∀ x, x < j → cd c x ≠ cd c j := fun j hj => by
            by_cases e : j = i
            · subst e
              exact ⟨hlt, fun x hx e => hin (psO_bit.mpr ⟨x, hx, e⟩)⟩
            · exact h1 j (by omega)
          rcases hs _ hmo2 with ⟨s1, s2⟩ | ⟨k, k1, k2, k3, k4⟩
          · have no : ¬ okC T Q c := fun q => s2 ⟨cd c, i + 1, fun j hj => (hv j hj).1, fun a b ha hb e => vld_inj q.1 a b (by omega) (by omega) e, rfl, fun j hj => by
              by_cases e : j = 0
              · subst e
                rw [psO]
                exact rch_cnt (rch_0 hQ)
              · exact q.2 j (by omega) (by omega)⟩
            exact gX7_meetingsTogether_f u c _ _ i (qN Q) (cd c i) _ hn hil hnm hS hmo (by omega) h.1 s1 (fun _ => ⟨Or.inr ⟨no, rfl⟩, rfl⟩) (fun _ _ => ⟨Or.inr ⟨no, rfl⟩, rfl⟩) (fun _ _ => ⟨Or.inr ⟨no, rfl⟩, rfl⟩)
          · have es : smC T Q c i + k = smC T Q c (i + 1) := by
              show _ = smC T Q c i + (cntS T Q (psO (cd c) i ||| 2 ^ cd c i)).getD 0
              rw [k2]
              rfl
            refine gX7_meetingsTogether_t u c _ _ i (qN Q) (cd c i) _ k hn hil hnm hS hmo (by omega) h.1 k3 (fun z => absurd hlt (by omega)) (fun _ z => ?_) (fun _ _ _ => ?_) (fun _ _ z => absurd z (nIm2 (by omega)))
            · exact absurd (by rw [← z]; exact bit_add.mpr (Or.inr rfl)) hin
            · rw [es]
              refine ih (i + 1) (by omega) hil hv (fun j j1 j2 => ?_) (by omega)
              by_cases e : j = i + 1
              · subst e
                show cntS T Q (psO (cd c) i ||| 2 ^ cd c i) ≠ none
                rw [k2]
                simp
              · exact h2 j j1 (by omega)
      · have no : ¬ okC T Q c := fun q => hlt (q.1 i hil).1
        exact gX7_meetingsTogether_g u c _ _ i (qN Q) (cd c i) _ _ hn hil hnm hS hmo (by omega) h.1 rfl (fun _ => ⟨Or.inr ⟨no, rfl⟩, rfl⟩) (fun z => absurd (by omega) z) (fun z => absurd (by omega) z) (fun z => absurd (by omega) z)
  exact loop _ 0 rfl (Nat.zero_le _) (fun j hj => absurd hj (Nat.not_lt_zero j)) (fun j h1 h2 => by omega) (Nat.le_refl _)
theorem qX7_takeBestOrder {u : xU} {T : TBL} {Q : QST} (hQ : QI T Q) (h : CQ T Q u) (hn : qN Q ≤ 4) (hs : SMT T Q (2 ^ qN Q) u) : xC mX7_takeBestOrder [.ref 74, .ref 3] (xmm u) (fun r μ' => ∃ u' o, μ' = xmm u' ∧ BST T Q o ∧ r = some (.int (bstR T Q (fun c => smC T Q c (qN Q)) o).1) ∧ (∀ x, x ≠ 5 → u'.1 x = u.1 x) ∧ u'.2 = u.2 ∧ (o = none → u' = u) ∧ ∀ c, o = some c → ∀ i, i < qN Q → u'.1 5 i = nI (cd c i)) := by
  refine xC.of xpl7 (Nat.le_of_ble_eq_true rfl) (gX7_takeBestOrder_0 u ?_)
  have fin : ∀ b, BST T Q (some b) → smC T Q b (qN Q) ≤ 2000 → ∀ d i (v : xU), qN Q - i = d → i ≤ qN Q → (∀ x, x ≠ 5 → v.1 x = u.1 x) → v.2 = u.2 → (∀ j, j < i → v.1 5 j = nI (cd b j)) → xE mX7_takeBestOrder 63 [(1, .ref 3), (2, .int (nI (smC T Q b (qN Q)))), (3, .int (nI b)), (5, .int (nI i))] [] (xmm v) (fun r μ' => ∃ u' o, μ' = xmm u' ∧ BST T Q o ∧ r = some (.int (bstR T Q (fun c => smC T Q c (qN Q)) o).1) ∧ (∀ x, x ≠ 5 → u'.1 x = u.1 x) ∧ u'.2 = u.2 ∧ (o = none → u' = u) ∧ ∀ c, o = some c → ∀ i, i < qN Q → u'.1 5 i = nI (cd c i)) := by
    intro b hb hle d
    induction d with
    | zero =>
      intro i v hd hi f1 f2 f3
      have v0 : v.1 3 0 = nI (qN Q) := by rw [f1 3 (by decide)]; exact h.1
      exact gX7_takeBestOrder_63e v b i _ (qN Q) hn (by omega) v0 (fun z => absurd z (nIm2 (by omega))) (fun _ _ => ⟨v, some b, rfl, hb, rfl, f1, f2, (fun z => by cases z), fun c hc j hj => by cases hc; exact f3 j (by omega)⟩) (fun _ z => absurd (by omega) z)
    | succ d ih =>
      intro i v hd hi f1 f2 f3
      have hil : i < qN Q := by omega
      have v0 : v.1 3 0 = nI (qN Q) := by rw [f1 3 (by decide)]; exact h.1
      refine gX7_takeBestOrder_63 v b i _ (qN Q) (cd b i) hn hil (qX7_codedName v hb.1 (by omega)) v0 (fun z => absurd z (nIm2 (by omega))) (fun _ z => absurd hil (by omega)) (fun _ _ => ih (i + 1) _ (by omega) hil (fun x hx => by rw [wi_row hx]; exact f1 x hx) f2 (fun j hj => ?_))
      by_cases e : j = i
      · subst e; exact wi_self
      · rw [wi_nek e]; exact f3 j (by omega)
  have two : ∀ d c b, 256 - c = d → c ≤ 256 → b < c → okC T Q b → smC T Q b (qN Q) ≤ 2000 → (∀ c', c' < c → okC T Q c' → smC T Q b (qN Q) < smC T Q c' (qN Q) ∨ (smC T Q b (qN Q) = smC T Q c' (qN Q) ∧ b ≤ c')) → xE mX7_takeBestOrder 13 [(0, .ref 74), (1, .ref 3), (2, .int (nI (smC T Q b (qN Q)))), (3, .int (nI b)), (4, .int (nI 256)), (5, .int (nI c))] [] (xmm u) (fun r μ' => ∃ u' o, μ' = xmm u' ∧ BST T Q o ∧ r = some (.int (bstR T Q (fun c => smC T Q c (qN Q)) o).1) ∧ (∀ x, x ≠ 5 → u'.1 x = u.1 x) ∧ u'.2 = u.2 ∧ (o = none → u' = u) ∧ ∀ c, o = some c → ∀ i, i < qN Q → u'.1 5 i = nI (cd c i)) := by
    intro d
    induction d with
    | zero =>
      intro c b hd hc hb ob sb hall
      exact gX7_takeBestOrder_e u b c _ (by omega) (fun _ => fin b ⟨by omega, ob, fun c' h1 h2 => hall c' (by omega) h2⟩ sb _ 0 u rfl (Nat.zero_le _) (fun _ _ => rfl) rfl (fun j hj => absurd hj (Nat.not_lt_zero j))) (fun z => absurd (by omega) z)
    | succ d ih =>
      intro c b hd hc hb ob sb hall
      have hcl : c < 256 := by omega
      obtain ⟨r, μ', ⟨hr, hμ⟩, hm⟩ := qX7_meetingsTogether hQ h hn hs hcl
      rcases hr with ⟨ok, le, rfl⟩ | ⟨no, rfl⟩
      · have hmt : xC mX7_meetingsTogether [.ref 74, .ref 3, .int (nI c)] (xmm u) (fun r μ' => r = some (.int (nI (smC T Q c (qN Q)))) ∧ μ' = xmm u) := ⟨_, μ', ⟨rfl, hμ⟩, hm⟩
        refine gX7_takeBestOrder_b u b c _ _ hcl le sb hmt (fun z => absurd hcl (by omega)) (fun _ z => absurd z (nIm2 (by omega))) (fun _ _ z => absurd z (nIm2 (by omega))) (fun _ _ _ z => ih (c + 1) b (by omega) (by omega) (by omega) ob sb (fun c' h1 h2 => ?_)) (fun _ _ _ z => ih (c + 1) c (by omega) (by omega) (by omega) ok le (fun c' h1 h2 => ?_))
        · by_cases e : c' = c
          · subst e; omega
          · exact hall c' (by omega) h2
        · by_cases e : c' = c
          · subst e; exact Or.inr ⟨rfl, Nat.le_refl _⟩
          · have := hall c' (by omega) h2
            omega
      · have hmt : xC mX7_meetingsTogether [.ref 74, .ref 3, .int (nI c)] (xmm u) (fun r μ' => r = some (.int (-2)) ∧ μ' = xmm u) := ⟨_, μ', ⟨rfl, hμ⟩, hm⟩
        refine gX7_takeBestOrder_s u b c _ hcl hmt (fun z => absurd hcl (by omega)) (fun _ => ih (c + 1) b (by omega) (by omega) (by omega) ob sb (fun c' h1 h2 => ?_))
        by_cases e : c' = c
        · subst e; exact absurd h2 no
        · exact hall c' (by omega) h2
  have one : ∀ d c, 256 - c = d → c ≤ 256 → (∀ c', c' < c → ¬ okC T Q c') → xE mX7_takeBestOrder 13 [(0, .ref 74), (1, .ref 3), (2, .int (-2)), (3, .int (nI 0)), (4, .int (nI 256)), (5, .int (nI c))] [] (xmm u) (fun r μ' => ∃ u' o, μ' = xmm u' ∧ BST T Q o ∧ r = some (.int (bstR T Q (fun c => smC T Q c (qN Q)) o).1) ∧ (∀ x, x ≠ 5 → u'.1 x = u.1 x) ∧ u'.2 = u.2 ∧ (o = none → u' = u) ∧ ∀ c, o = some c → ∀ i, i < qN Q → u'.1 5 i = nI (cd c i)) := by
    intro d
    induction d with
    | zero =>
      intro c hd hc hall
      refine gX7_takeBestOrder_e u 0 c _ (by omega) (fun _ => gX7_takeBestOrder_n u 0 0 ⟨u, none, rfl, fun c' h1 => hall c' (by omega), rfl, fun _ _ => rfl, rfl, fun _ => rfl, fun c hc => by cases hc⟩) (fun z => absurd (by omega) z)
    | succ d ih =>
      intro c hd hc hall
      have hcl : c < 256 := by omega
      obtain ⟨r, μ', ⟨hr, hμ⟩, hm⟩ := qX7_meetingsTogether hQ h hn hs hcl
      rcases hr with ⟨ok, le, rfl⟩ | ⟨no, rfl⟩
      · have hmt : xC mX7_meetingsTogether [.ref 74, .ref 3, .int (nI c)] (xmm u) (fun r μ' => r = some (.int (nI (smC T Q c (qN Q)))) ∧ μ' = xmm u) := ⟨_, μ', ⟨rfl, hμ⟩, hm⟩
        refine gX7_takeBestOrder_a u 0 c _ hcl hmt (fun z => absurd hcl (by omega)) (fun _ z => absurd z (nIm2 (by omega))) (fun _ _ => two _ (c + 1) c rfl (by omega) (by omega) ok le (fun c' h1 h2 => ?_))
        by_cases e : c' = c
        · subst e; exact Or.inr ⟨rfl, Nat.le_refl _⟩
        · exact absurd h2 (hall c' (by omega))
      · have hmt : xC mX7_meetingsTogether [.ref 74, .ref 3, .int (nI c)] (xmm u) (fun r μ' => r = some (.int (-2)) ∧ μ' = xmm u) := ⟨_, μ', ⟨rfl, hμ⟩, hm⟩
        refine gX7_takeBestOrder_s u 0 c _ hcl hmt (fun z => absurd hcl (by omega)) (fun _ => ih (c + 1) (by omega) (by omega) (fun c' h1 => ?_))
        by_cases e : c' = c
        · subst e; exact no
        · exact hall c' (by omega)
  exact one _ 0 rfl (Nat.zero_le _) (fun c' h1 => absurd h1 (Nat.not_lt_zero c'))
def frX5 (u u' : xU) : Prop := (∀ x, x ≠ 5 → x < 74 ∨ 156 ≤ x → u'.1 x = u.1 x) ∧ (∀ x, x < 74 ∨ 156 ≤ x → u'.2.1 x = u.2.1 x) ∧ u'.2.2 = u.2.2
theorem CQ.ord {T : TBL} {Q : QST} {u u' : xU} {o : Nat → Nat} (h : CQ T Q u) (hb : qP Q ≤ 10) (f : ∀ x, x = 3 ∨ 6 ≤ x ∧ x < 46 → u'.1 x = u.1 x) (ho : ∀ i, i < qN Q → u'.1 5 i = nI (o i)) : CQ T (setO Q o) u' := ⟨by rw [f 3 (Or.inl rfl)]; exact h.1, by rw [f 3 (Or.inl rfl)]; exact h.2.1, by rw [f 3 (Or.inl rfl)]; exact h.2.2.1, ho, fun p hp => (h.2.2.2.2 p hp).keep (fun x a b => f x (Or.inr ⟨by omega, by have : p < qP Q := hp; omega⟩))⟩
theorem qX9_best {u : xU} {T : TBL} {Q : QST} (hT : TI T) (hQ : QI T Q) (hC : CT T u) (h : CQ T Q u) : xC mX9_best [.ref 1] (xmm u) (fun r μ' => ∃ u', μ' = xmm u' ∧ r = some (.int (aBest T Q).1) ∧ CQ T (aBest T Q).2 u' ∧ QI T (aBest T Q).2 ∧ frX5 u u') := by
  have rf : frX5 u u := ⟨fun _ _ _ => rfl, fun _ _ => rfl, rfl⟩
  refine xC.of xpl9 (Nat.le_of_ble_eq_true rfl) (gX9_best_0 u _ (qN Q) hQ.1 (qX4_stands hT hQ h) h.1 (fun z => ?_) (fun z hn => ?_) (fun _ z => ?_))
  · have e : aBest T Q = (-1, Q) := by unfold aBest; rw [if_neg (fun q => z q.1)]
    rw [e]
    exact ⟨u, rfl, rfl, h, hQ, rf⟩
  · have e : aBest T Q = bstR T Q (fun c => smC T Q c (qN Q)) (bstC T Q) := by unfold aBest; rw [if_pos ⟨z, hn⟩]
    rw [e]
    refine (qX7_prepare hT hQ hC h z).mono ?_
    rintro r μ' ⟨v, Z, D, rfl, rfl, hpre, h0, fx⟩
    refine gX9_best_38 v ?_
    refine (qX7_meetEachSet hT hQ (hC.X fx) (h.X hQ fx) z hn hpre h0).mono ?_
    rintro r μ' ⟨w, rfl, rfl, fw, sm⟩
    refine gX9_best_49 w ?_
    have fxw := fx.tr fw
    have hqw := h.X hQ fxw
    refine (qX7_takeBestOrder hQ hqw hn sm).mono ?_
    rintro r μ' ⟨y, o, rfl, bo, rfl, y1, y2, y3, y4⟩
    have eo := bstC_of bo
    rw [eo]
    refine gX9_best_60 y _ ⟨y, rfl, rfl, ?_, ?_, ⟨fun x h5 hx => by rw [y1 x h5]; exact fxw.1 x hx, fun x hx => by rw [y2]; exact fxw.2.1 x hx, by rw [y2]; exact fxw.2.2⟩⟩
    · cases o with
      | none => rw [y3 rfl]; exact hqw
      | some c => exact hqw.ord hQ.2.1 (fun x hx => y1 x (by omega)) (y4 c rfl)
    · cases o with
      | none => exact hQ
      | some c => exact setO_QI hQ hn bo.1 bo.2.1.1
  · have e : aBest T Q = (-1, Q) := by unfold aBest; rw [if_neg (fun q => z q.2)]
    rw [e]
    exact ⟨u, rfl, rfl, h, hQ, rf⟩

