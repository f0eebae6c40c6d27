theorem gX7_sort_0 (u : xU) (c n : Nat) {Q : Option Value → xM → Prop} (hc : c < 2) 
    (k1 : xE mX7_sort 4 [(0, .ref (148 + c)), (1, .int (nI (n))), (2, .int (nI (250)))] [] (xmm u) Q) : xE mX7_sort 0 [(0, .ref (148 + c)), (1, .int (nI (n)))] [] (xmm u) Q := by
  refine xe_sipush (v := nI (250)) dX7_sort_0 xcs250 ?_
  refine xe_istore_n (L2 := [(0, .ref (148 + c)), (1, .int (nI (n))), (2, .int (nI (250)))]) dX7_sort_3 rfl (by decide) rfl ?_
  exact k1

theorem gX7_sort_4 (u : xU) (c n s : Nat) {Q : Option Value → xM → Prop} (hc : c < 2) (hn : n ≤ 500) (hs : s ≤ 250) 
    (k1 : s ≤ 0 → Q none (xmm u))
    (k2 : ¬ s ≤ 0 → xE mX7_sort 10 [(0, .ref (148 + c)), (1, .int (nI (n))), (2, .int (nI (s))), (3, .int (nI (s)))] [] (xmm u) Q) : xE mX7_sort 4 [(0, .ref (148 + c)), (1, .int (nI (n))), (2, .int (nI (s)))] [] (xmm u) Q := by
  refine xe_iload_n 2 dX7_sort_4 rfl rfl ?_
  refine xn_if_le 79 dX7_sort_5 (by decide) (by omega) (fun c1 => ?_) (fun c1 => ?_)
  · exact xe_ret (r := none) dX7_sort_79 trivial (k1 c1)
  · refine xe_iload_n 2 dX7_sort_8 rfl rfl ?_
    refine xe_istore_n (L2 := [(0, .ref (148 + c)), (1, .int (nI (n))), (2, .int (nI (s))), (3, .int (nI (s)))]) dX7_sort_9 rfl (by decide) rfl ?_
    exact k2 c1

theorem gX7_sort_10 (u : xU) (c n s i : Nat) (x : Int64) {Q : Option Value → xM → Prop} (hc : c < 2) (hn : n ≤ 500) (hs : s ≤ 250) (hs1 : 1 ≤ s) (hi : i ≤ 500 + s) (v1 : u.2.1 (148 + c) i = x)
    (k1 : n ≤ i → xE mX7_sort 4 [(0, .ref (148 + c)), (1, .int (nI (n))), (2, .int (nI (s / 2)))] [] (xmm u) Q)
    (k2 : ¬ n ≤ i → xE mX7_sort 23 [(0, .ref (148 + c)), (1, .int (nI (n))), (2, .int (nI (s))), (3, .int (nI (i))), (4, .long (x)), (6, .int (nI (i)))] [] (xmm u) Q) : xE mX7_sort 10 [(0, .ref (148 + c)), (1, .int (nI (n))), (2, .int (nI (s))), (3, .int (nI (i)))] [] (xmm u) Q := by
  refine xe_iload_n 3 dX7_sort_10 rfl rfl ?_
  refine xe_iload_n 1 dX7_sort_11 rfl rfl ?_
  refine xn_icmp_ge 72 dX7_sort_12 (by decide) (by omega) (by omega) (fun c1 => ?_) (fun c1 => ?_)
  · refine xe_iload_n 2 dX7_sort_72 rfl rfl ?_
    refine xe_iconst (v := nI (2)) dX7_sort_73 xc2 ?_
    refine xn_idiv dX7_sort_74 (by omega) (by omega) (by omega) ?_
    refine xe_istore_n (L2 := [(0, .ref (148 + c)), (1, .int (nI (n))), (2, .int (nI (s / 2))), (3, .int (nI (i)))]) dX7_sort_75 rfl (by decide) rfl ?_
    refine xe_goto 4 dX7_sort_76 (by decide) ?_
    refine xE.sub [0, 1, 2] rfl ?_
    exact k1 c1
  · refine xe_aload_n 0 dX7_sort_15 rfl rfl ?_
    refine xe_iload_n 3 dX7_sort_16 rfl rfl ?_
    refine xr_lald (k := i) (v := x) dX7_sort_17 (shSL _ (by omega)) (by omega) (by omega) (by decide) v1 ?_
    refine xe_lstore (L2 := [(0, .ref (148 + c)), (1, .int (nI (n))), (2, .int (nI (s))), (3, .int (nI (i))), (4, .long (x))]) dX7_sort_18 (by decide) rfl ?_
    refine xe_iload_n 3 dX7_sort_20 rfl rfl ?_
    refine xe_istore (L2 := [(0, .ref (148 + c)), (1, .int (nI (n))), (2, .int (nI (s))), (3, .int (nI (i))), (4, .long (x)), (6, .int (nI (i)))]) dX7_sort_21 (by decide) rfl ?_
    exact k2 c1

theorem gX7_sort_23 (u : xU) (c n s i j : Nat) (x y : Int64) {Q : Option Value → xM → Prop} (hc : c < 2) (hn : n ≤ 500) (hs : s ≤ 250) (hs1 : 1 ≤ s) (hi : i < n) (hj : j ≤ i) (v1 : u.2.1 (148 + c) (j - s) = y)
    (k1 : j < s → xE mX7_sort 10 [(0, .ref (148 + c)), (1, .int (nI (n))), (2, .int (nI (s))), (3, .int (nI (i + 1)))] [] (xmm (wl u (148 + c) j (x))) Q)
    (k2 : ¬ j < s → (lg_cmp y x) ≤ 0 → xE mX7_sort 10 [(0, .ref (148 + c)), (1, .int (nI (n))), (2, .int (nI (s))), (3, .int (nI (i + 1)))] [] (xmm (wl u (148 + c) j (x))) Q)
    (k3 : ¬ j < s → ¬ (lg_cmp y x) ≤ 0 → xE mX7_sort 23 [(0, .ref (148 + c)), (1, .int (nI (n))), (2, .int (nI (s))), (3, .int (nI (i))), (4, .long (x)), (6, .int (nI (j - s)))] [] (xmm (wl u (148 + c) j (y))) Q) : xE mX7_sort 23 [(0, .ref (148 + c)), (1, .int (nI (n))), (2, .int (nI (s))), (3, .int (nI (i))), (4, .long (x)), (6, .int (nI (j)))] [] (xmm u) Q := by
  refine xe_iload 5 dX7_sort_23 rfl ?_
  refine xe_iload_n 2 dX7_sort_25 rfl rfl ?_
  refine xn_icmp_lt 60 dX7_sort_26 (by decide) (by omega) (by omega) (fun c1 => ?_) (fun c1 => ?_)
  · refine xe_aload_n 0 dX7_sort_60 rfl rfl ?_
    refine xe_iload 5 dX7_sort_61 rfl ?_
    refine xe_lload 4 dX7_sort_63 rfl ?_
    refine xr_last (k := j) dX7_sort_65 (shSL _ (by omega)) (by omega) (by omega) (by decide) ?_
    refine xn_iinc (c := 1) (L2 := [(0, .ref (148 + c)), (1, .int (nI (n))), (2, .int (nI (s))), (3, .int (nI (i + 1))), (4, .long (x)), (6, .int (nI (j)))]) 3 dX7_sort_66 rfl (by decide) rfl ?_
    refine xe_goto 10 dX7_sort_69 (by decide) ?_
    refine xE.sub [0, 1, 2, 3] rfl ?_
    exact k1 c1
  · refine xe_aload_n 0 dX7_sort_29 rfl rfl ?_
    refine xe_iload 5 dX7_sort_30 rfl ?_
    refine xe_iload_n 2 dX7_sort_32 rfl rfl ?_
    refine xn_isub dX7_sort_33 (by omega) ?_
    refine xr_lald (k := j - s) (v := y) dX7_sort_34 (shSL _ (by omega)) (by omega) (by omega) (by decide) v1 ?_
    refine xe_lload 4 dX7_sort_35 rfl ?_
    refine xe_lcmp dX7_sort_37 ?_
    refine xe_if_le 60 dX7_sort_38 (by decide) (fun c2 => ?_) (fun c2 => ?_)
    · refine xe_aload_n 0 dX7_sort_60 rfl rfl ?_
      refine xe_iload 5 dX7_sort_61 rfl ?_
      refine xe_lload 4 dX7_sort_63 rfl ?_
      refine xr_last (k := j) dX7_sort_65 (shSL _ (by omega)) (by omega) (by omega) (by decide) ?_
      refine xn_iinc (c := 1) (L2 := [(0, .ref (148 + c)), (1, .int (nI (n))), (2, .int (nI (s))), (3, .int (nI (i + 1))), (4, .long (x)), (6, .int (nI (j)))]) 3 dX7_sort_66 rfl (by decide) rfl ?_
      refine xe_goto 10 dX7_sort_69 (by decide) ?_
      refine xE.sub [0, 1, 2, 3] rfl ?_
      exact k2 c1 c2
    · refine xe_aload_n 0 dX7_sort_41 rfl rfl ?_
      refine xe_iload 5 dX7_sort_42 rfl ?_
      refine xe_aload_n 0 dX7_sort_44 rfl rfl ?_
      refine xe_iload 5 dX7_sort_45 rfl ?_
      refine xe_iload_n 2 dX7_sort_47 rfl rfl ?_
      refine xn_isub dX7_sort_48 (by omega) ?_
      refine xr_lald (k := j - s) (v := y) dX7_sort_49 (shSL _ (by omega)) (by omega) (by omega) (by decide) v1 ?_
      refine xr_last (k := j) dX7_sort_50 (shSL _ (by omega)) (by omega) (by omega) (by decide) ?_
      refine xe_iload 5 dX7_sort_51 rfl ?_
      refine xe_iload_n 2 dX7_sort_53 rfl rfl ?_
      refine xn_isub dX7_sort_54 (by omega) ?_
      refine xe_istore (L2 := [(0, .ref (148 + c)), (1, .int (nI (n))), (2, .int (nI (s))), (3, .int (nI (i))), (4, .long (x)), (6, .int (nI (j - s)))]) dX7_sort_55 (by decide) rfl ?_
      refine xe_goto 23 dX7_sort_57 (by decide) ?_
      exact k3 c1 c2

theorem nL_toInt {a : Nat} (ha : a < 2 ^ 62) : (nL a).toInt = (a : Int) := by
  have hs : Int64.size = 18446744073709551616 := rfl
  show (Int64.ofNat a).toInt = _
  rw [Int64.toInt_ofNat', Int.bmod_eq_of_le (by omega) (by omega)]
theorem lg_le {a b : Nat} (ha : a < 2 ^ 62) (hb : b < 2 ^ 62) : lg_cmp (nL a) (nL b) ≤ 0 ↔ a ≤ b := by
  have e : nL a > nL b ↔ b < a := by
    show nL b < nL a ↔ b < a
    rw [Int64.lt_iff_toInt_lt, nL_toInt ha, nL_toInt hb]
    omega
  unfold lg_cmp
  by_cases h : b < a
  · rw [if_pos (e.mpr h)]
    exact ⟨fun z => absurd z (by decide), fun z => by omega⟩
  · rw [if_neg (fun z => h (e.mp z))]
    refine ⟨fun _ => by omega, fun _ => ?_⟩
    split <;> decide
/-- a row of n that is another in other places -/
def PMT (n : Nat) (f g : Nat → Nat) : Prop := ∃ σ : Nat → Nat, (∀ i, i < n → σ i < n ∧ g i = f (σ i)) ∧ (∀ i j, i < n → j < n → σ i = σ j → i = j) ∧ ∀ i, i < n → ∃ j, j < n ∧ σ j = i
theorem PMT.rf {n : Nat} {f : Nat → Nat} : PMT n f f := ⟨fun i => i, fun i hi => ⟨hi, rfl⟩, fun _ _ _ _ e => e, fun i hi => ⟨i, hi, rfl⟩⟩
theorem PMT.tr {n : Nat} {f g h : Nat → Nat} (a : PMT n f g) (b : PMT n g h) : PMT n f h := by
  obtain ⟨σ, s1, s2, s3⟩ := a
  obtain ⟨τ, t1, t2, t3⟩ := b
  refine ⟨fun i => σ (τ i), fun i hi => ⟨(s1 _ (t1 i hi).1).1, by rw [(t1 i hi).2, (s1 _ (t1 i hi).1).2]⟩, fun i j hi hj e => t2 i j hi hj (s2 _ _ (t1 i hi).1 (t1 j hj).1 e), fun i hi => ?_⟩
  obtain ⟨j, hj, ej⟩ := s3 i hi
  obtain ⟨k, hk, ek⟩ := t3 j hj
  exact ⟨k, hk, by show σ (τ k) = i; rw [ek, ej]⟩
theorem PMT.swap {n a b : Nat} {f g : Nat → Nat} (ha : a < n) (hb : b < n) (h1 : g a = f b) (h2 : g b = f a) (h3 : ∀ i, i ≠ a → i ≠ b → g i = f i) : PMT n f g := by
  refine ⟨fun i => if i = a then b else if i = b then a else i, fun i hi => ?_, fun i j hi hj e => ?_, fun i hi => ?_⟩
  · dsimp only
    split
    · rename_i e; exact ⟨hb, by rw [e, h1]⟩
    · split
      · rename_i e; exact ⟨ha, by rw [e, h2]⟩
      · rename_i e1 e2; exact ⟨hi, h3 i e1 e2⟩
  · dsimp only at e
    by_cases a1 : i = a
    · by_cases a2 : j = a
      · omega
      · rw [if_pos a1, if_neg a2] at e
        by_cases a3 : j = b
        · rw [if_pos a3] at e; omega
        · rw [if_neg a3] at e; omega
    · rw [if_neg a1] at e
      by_cases b1 : i = b
      · rw [if_pos b1] at e
        by_cases a2 : j = a
        · rw [if_pos a2] at e; omega
        · rw [if_neg a2] at e
          by_cases a3 : j = b
          · omega
          · rw [if_neg a3] at e; omega
      · rw [if_neg b1] at e
        by_cases a2 : j = a
        · rw [if_pos a2] at e; omega
        · rw [if_neg a2] at e
          by_cases a3 : j = b
          · rw [if_pos a3] at e; omega
          · rw [if_neg a3] at e; exact e
  · by_cases e1 : i = a
    · exact ⟨b, hb, by dsimp only; split <;> simp_all⟩
    · by_cases e2 : i = b
      · exact ⟨a, ha, by simp [e2]⟩
      · exact ⟨i, hi, by simp [e1, e2]⟩
theorem PMT.congr {n : Nat} {f g h : Nat → Nat} (a : PMT n f g) (e : ∀ i, i < n → h i = g i) : PMT n f h := by
  obtain ⟨σ, s1, s2⟩ := a
  exact ⟨σ, fun i hi => ⟨(s1 i hi).1, (e i hi).trans (s1 i hi).2⟩, s2⟩
def frO (c : Nat) (u u' : xU) : Prop := u'.1 = u.1 ∧ (∀ x, x ≠ 148 + c → u'.2.1 x = u.2.1 x) ∧ u'.2.2 = u.2.2
theorem frO.rf {c : Nat} {u : xU} : frO c u u := ⟨rfl, fun _ _ => rfl, rfl⟩
theorem frO.wl {c k : Nat} {x : Int64} {u v : xU} (a : frO c u v) : frO c u (wl v (148 + c) k x) := ⟨a.1, fun y hy => by rw [wl_row hy]; exact a.2.1 y hy, a.2.2⟩
/-- the sorter: what stands there goes to other places, in order -/
theorem qX7_sort {u : xU} {c n : Nat} (hc : c < 2) (hn : n ≤ 500) {f : Nat → Nat} (hf : ∀ i, i < n → f i < 2 ^ 36) (hu : ∀ i, i < n → u.2.1 (148 + c) i = nL (f i)) : xC mX7_sort [.ref (148 + c), .int (nI n)] (xmm u) (fun r μ' => ∃ u' g, μ' = xmm u' ∧ r = none ∧ frO c u u' ∧ PMT n f g ∧ (∀ i, i < n → u'.2.1 (148 + c) i = nL (g i)) ∧ ∀ i j, i < j → j < n → g i ≤ g j) := by
  refine xC.of xpl7 (Nat.le_of_ble_eq_true rfl) (gX7_sort_0 u c n hc ?_)
  have lt36 : ∀ {g : Nat → Nat}, PMT n f g → ∀ i, i < n → g i < 2 ^ 36 := fun p i hi => by
    obtain ⟨σ, s1, -⟩ := p
    rw [(s1 i hi).2]
    exact hf _ (s1 i hi).1
  -- one number is put in place
  have inner : ∀ (s i : Nat), 1 ≤ s → s ≤ 250 → i < n → ∀ d j (v : xU) (A : Nat → Nat) (x : Nat), d = j → j ≤ i → frO c u v → (∀ y, y < n → v.2.1 (148 + c) y = nL (A y)) → PMT n f (setT A j x) → (s = 1 → (∀ a b, a < b → b ≤ i → a ≠ j → b ≠ j → A a ≤ A b) ∧ ∀ b, j < b → b ≤ i → x ≤ A b) →
      (∀ v' g, frO c u v' → (∀ y, y < n → v'.2.1 (148 + c) y = nL (g y)) → PMT n f g → (s = 1 → ∀ a b, a < b → b ≤ i → g a ≤ g b) → xE mX7_sort 10 [(0, .ref (148 + c)), (1, .int (nI n)), (2, .int (nI s)), (3, .int (nI (i + 1)))] [] (xmm v') (fun r μ' => ∃ u' g, μ' = xmm u' ∧ r = none ∧ frO c u u' ∧ PMT n f g ∧ (∀ i, i < n → u'.2.1 (148 + c) i = nL (g i)) ∧ ∀ i j, i < j → j < n → g i ≤ g j)) →
      xE mX7_sort 23 [(0, .ref (148 + c)), (1, .int (nI n)), (2, .int (nI s)), (3, .int (nI i)), (4, .long (nL x)), (6, .int (nI j))] [] (xmm v) (fun r μ' => ∃ u' g, μ' = xmm u' ∧ r = none ∧ frO c u u' ∧ PMT n f g ∧ (∀ i, i < n → u'.2.1 (148 + c) i = nL (g i)) ∧ ∀ i j, i < j → j < n → g i ≤ g j) := by
    intro s i hs1 hs hi d
    induction d using Nat.strongRecOn with
    | _ d ih =>
      intro j v A x hd hj fr hv hp hs1' nx
      have x36 : x < 2 ^ 36 := by have := lt36 hp j (by omega); rw [setT_at] at this; exact this
      -- it stays here
      have stay : (s = 1 → j = 0 ∨ A (j - 1) ≤ x) → xE mX7_sort 10 [(0, .ref (148 + c)), (1, .int (nI n)), (2, .int (nI s)), (3, .int (nI (i + 1)))] [] (xmm (wl v (148 + c) j (nL x))) (fun r μ' => ∃ u' g, μ' = xmm u' ∧ r = none ∧ frO c u u' ∧ PMT n f g ∧ (∀ i, i < n → u'.2.1 (148 + c) i = nL (g i)) ∧ ∀ i j, i < j → j < n → g i ≤ g j) := fun hst => by
        refine nx _ (setT A j x) fr.wl (fun y hy => ?_) hp (fun e a b hab hb => ?_)
        · by_cases ey : y = j
          · subst ey; rw [wl_self, setT_at]
          · rw [wl_nek ey, setT_ne ey]; exact hv y hy
        · obtain ⟨g1, g2⟩ := hs1' e
          by_cases ea : a = j
          · have eb : b ≠ j := by omega
            rw [ea, setT_at, setT_ne eb]
            exact g2 b (by omega) hb
          · by_cases eb : b = j
            · rw [setT_ne ea, eb, setT_at]
              rcases hst e with q | q
              · omega
              · by_cases ea1 : a = j - 1
                · rw [ea1]; exact q
                · exact Nat.le_trans (g1 a (j - 1) (by omega) (by omega) ea (by omega)) q
            · rw [setT_ne ea, setT_ne eb]
              exact g1 a b hab hb ea eb
      by_cases hjs : j < s
      · exact gX7_sort_23 v c n s i j (nL x) _ hc hn hs hs1 hi hj rfl (fun _ => stay (fun e => Or.inl (by omega))) (fun z => absurd hjs z) (fun z => absurd hjs z)
      · have hA36 : A (j - s) < 2 ^ 36 := by
          have := lt36 hp (j - s) (by omega)
          rw [setT_ne (by omega)] at this
          exact this
        refine gX7_sort_23 v c n s i j (nL x) (nL (A (j - s))) hc hn hs hs1 hi hj (hv _ (by omega)) (fun z => absurd z hjs) (fun _ z => ?_) (fun _ z => ?_)
        · have q := (lg_le (by omega) (by omega)).mp z
          exact stay (fun e => Or.inr (by rw [e] at q; exact q))
        · have q : ¬ A (j - s) ≤ x := fun q => z ((lg_le (by omega) (by omega)).mpr q)
          refine ih (j - s) (by omega) (j - s) _ (setT A j (A (j - s))) x rfl (by omega) fr.wl (fun y hy => ?_) (hp.tr (PMT.swap (a := j) (b := j - s) (by omega) (by omega) ?_ ?_ (fun y h1 h2 => ?_))) (fun e => ?_) nx
          · by_cases ey : y = j
            · subst ey; rw [wl_self, setT_at]
            · rw [wl_nek ey, setT_ne ey]; exact hv y hy
          · rw [setT_ne (by omega), setT_at, setT_ne (by omega)]
          · rw [setT_at, setT_at]
          · rw [setT_ne h2, setT_ne h1, setT_ne h1]
          · obtain ⟨g1, g2⟩ := hs1' e
            subst e
            refine ⟨fun a b hab hb ha hb' => ?_, fun b hb hb' => ?_⟩
            · by_cases ea : a = j
              · have eb : b ≠ j := by omega
                rw [ea, setT_at, setT_ne eb]
                exact g1 (j - 1) b (by omega) hb (by omega) eb
              · by_cases eb : b = j
                · rw [setT_ne ea, eb, setT_at]
                  exact g1 a (j - 1) (by omega) (by omega) ea (by omega)
                · rw [setT_ne ea, setT_ne eb]
                  exact g1 a b hab hb ea eb
            · by_cases eb : b = j
              · rw [eb, setT_at]; omega
              · rw [setT_ne eb]
                exact g2 b (by omega) hb'
  -- one step's pass
  have pass : ∀ (s : Nat), 1 ≤ s → s ≤ 250 → ∀ d i (v : xU) (g : Nat → Nat), n - i = d → s ≤ i → i ≤ n + s → frO c u v → (∀ y, y < n → v.2.1 (148 + c) y = nL (g y)) → PMT n f g → (s = 1 → ∀ a b, a < b → b < i → b < n → g a ≤ g b) →
      (∀ v' g', frO c u v' → (∀ y, y < n → v'.2.1 (148 + c) y = nL (g' y)) → PMT n f g' → (s = 1 → ∀ a b, a < b → b < n → g' a ≤ g' b) → xE mX7_sort 4 [(0, .ref (148 + c)), (1, .int (nI n)), (2, .int (nI (s / 2)))] [] (xmm v') (fun r μ' => ∃ u' g, μ' = xmm u' ∧ r = none ∧ frO c u u' ∧ PMT n f g ∧ (∀ i, i < n → u'.2.1 (148 + c) i = nL (g i)) ∧ ∀ i j, i < j → j < n → g i ≤ g j)) →
      xE mX7_sort 10 [(0, .ref (148 + c)), (1, .int (nI n)), (2, .int (nI s)), (3, .int (nI i))] [] (xmm v) (fun r μ' => ∃ u' g, μ' = xmm u' ∧ r = none ∧ frO c u u' ∧ PMT n f g ∧ (∀ i, i < n → u'.2.1 (148 + c) i = nL (g i)) ∧ ∀ i j, i < j → j < n → g i ≤ g j) := by
    intro s hs1 hs d
    induction d with
    | zero =>
      intro i v g hd hsi hin fr hv hp hsd nx
      exact gX7_sort_10 v c n s i _ hc hn hs hs1 (by omega) rfl (fun _ => nx v g fr hv hp (fun e a b hab hb => hsd e a b hab (by omega) hb)) (fun z => absurd (by omega) z)
    | succ d ih =>
      intro i v g hd hsi hin fr hv hp hsd nx
      have hil : i < n := by omega
      refine gX7_sort_10 v c n s i (nL (g i)) hc hn hs hs1 (by omega) (hv i hil) (fun z => absurd hil (by omega)) (fun _ => ?_)
      refine inner s i hs1 hs hil _ i v g (g i) rfl (Nat.le_refl _) fr hv (hp.congr (fun y hy => ?_)) (fun e => ⟨fun a b hab hb ha hb' => hsd e a b hab (by omega) (by omega), fun b h1 h2 => by omega⟩) (fun v' g' f1 f2 f3 f4 => ih (i + 1) v' g' (by omega) (by omega) (by omega) f1 f2 f3 (fun e a b hab hb hbn => f4 e a b hab (by omega)) nx)
      by_cases ey : y = i
      · subst ey; rw [setT_at]
      · rw [setT_ne ey]
  have all : ∀ d s (v : xU) (g : Nat → Nat), d = s → s ≤ 250 → frO c u v → (∀ y, y < n → v.2.1 (148 + c) y = nL (g y)) → PMT n f g → (s = 0 → ∀ a b, a < b → b < n → g a ≤ g b) → xE mX7_sort 4 [(0, .ref (148 + c)), (1, .int (nI n)), (2, .int (nI s))] [] (xmm v) (fun r μ' => ∃ u' g, μ' = xmm u' ∧ r = none ∧ frO c u u' ∧ PMT n f g ∧ (∀ i, i < n → u'.2.1 (148 + c) i = nL (g i)) ∧ ∀ i j, i < j → j < n → g i ≤ g j) := by
    intro d
    induction d using Nat.strongRecOn with
    | _ d ih =>
      intro s v g hd hs fr hv hp hz
      refine gX7_sort_4 v c n s hc hn hs (fun z => ⟨v, g, rfl, rfl, fr, hp, hv, hz (by omega)⟩) (fun z => ?_)
      have h1 : 1 ≤ s := by omega
      refine pass s h1 hs _ s v g rfl (Nat.le_refl _) (by omega) fr hv hp (fun e a b hab hb hbn => by omega) (fun v' g' f1 f2 f3 f4 => ih (s / 2) (by omega) (s / 2) v' g' rfl (by omega) f1 f2 f3 (fun e => f4 (by omega)))
  exact all _ 250 u f rfl (by decide) frO.rf hu PMT.rf (fun z => by omega)

