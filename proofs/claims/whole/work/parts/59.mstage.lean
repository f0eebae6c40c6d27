/-- rows of values, six ints each -/
def RWL (c : Nat) (l : List (Nat → Int32)) (u : xU) : Prop := ∀ m b, l[m]? = some b → ∀ j, j < 6 → u.1 c (6 * m + j) = b j
def frV (u u' : xU) : Prop := (∀ x, x ≠ 183 → x ≠ 190 → u'.1 x = u.1 x) ∧ u'.2 = u.2
theorem frV.rf {u : xU} : frV u u := ⟨fun _ _ _ => rfl, rfl⟩
theorem frV.tr {u v w : xU} (a : frV u v) (b : frV v w) : frV u w := ⟨fun x h1 h2 => (b.1 x h1 h2).trans (a.1 x h1 h2), b.2.trans a.2⟩
theorem KQ.V {Q : QST} {u u' : xU} (h : KQ Q u) (f : frV u u') : KQ Q u' := h.keep (by rw [f.1 172 (by decide) (by decide)]) (by rw [f.1 172 (by decide) (by decide)]) (fun x a b => f.1 x (by omega) (by omega))
theorem MT.V {T : TBL} {u u' : xU} (h : MT T u) (f : frV u u') : MT T u' := h.keep (f.1 173 (by decide) (by decide)) (f.1 174 (by decide) (by decide)) (f.1 175 (by decide) (by decide))
theorem RWL.keep {c : Nat} {l : List (Nat → Int32)} {u u' : xU} (h : RWL c l u) (e : u'.1 c = u.1 c) : RWL c l u' := fun m b hb j hj => by
  rw [e]
  exact h m b hb j hj
/-- one value of the new name is tried -/
theorem mm_try {v : xU} {T : TBL} {Q : QST} (hT : TI T) (hQ : QI T Q) (hC : MT T v) (h : KQ Q v) {S k i m r : Nat} {l e : List (Nat → Int32)} {a : Nat → Int32} {R : Option Value → xM → Prop} (hS' : S ||| 2 ^ k < 64) (hk : k < qN Q) (hh : fH Q k < qP Q) (hhas : pHas Q (fH Q k) k = true) (hk0 : qK Q (fH Q k) = 0) (hi : i < 6) (ha : l[m]? = some a) (hm : m < 500) (hl : RWL 182 l v) (he5 : e.length ≤ 500) (he : RWL 183 e v) (hr : r < rwN T Q (fH Q k))
    (kno : ∀ w, frV v w → w.1 183 = v.1 183 → ¬ arT T Q (S ||| 2 ^ k) (setT a k (cel T Q (fH Q k) r (fC Q (fH Q k) k))) → xE mX10_meets 87 [(0, .ref 172), (1, .int (nI (S ||| 2 ^ k))), (2, .int (nI i)), (3, .int (nI k)), (4, .int (nI (3 * fH Q k + fC Q (fH Q k) k))), (5, .int (nI (qOf Q (fH Q k)))), (6, .int (nI e.length)), (7, .int (nI m)), (8, .int (nI (r + 1)))] [] (xmm w) R)
    (kyes : ∀ w, frV v w → RWL 183 (e ++ [setT a k (cel T Q (fH Q k) r (fC Q (fH Q k) k))]) w → arT T Q (S ||| 2 ^ k) (setT a k (cel T Q (fH Q k) r (fC Q (fH Q k) k))) → e.length < 500 → xE mX10_meets 87 [(0, .ref 172), (1, .int (nI (S ||| 2 ^ k))), (2, .int (nI i)), (3, .int (nI k)), (4, .int (nI (3 * fH Q k + fC Q (fH Q k) k))), (5, .int (nI (qOf Q (fH Q k)))), (6, .int (nI (e.length + 1))), (7, .int (nI m)), (8, .int (nI (r + 1)))] [] (xmm w) R)
    (kbad : ∀ w, frV v w → arT T Q (S ||| 2 ^ k) (setT a k (cel T Q (fH Q k) r (fC Q (fH Q k) k))) → e.length = 500 → R (some (.int (nI 0))) (xmm w)) :
    xE mX10_meets 120 [(0, .ref 172), (1, .int (nI (S ||| 2 ^ k))), (2, .int (nI i)), (3, .int (nI k)), (4, .int (nI (3 * fH Q k + fC Q (fH Q k) k))), (5, .int (nI (qOf Q (fH Q k)))), (6, .int (nI e.length)), (7, .int (nI m)), (8, .int (nI r)), (9, .int (nI 0))] [] (xmm v) R := by
  have hp10 := hQ.2.1
  have hn6 := hQ.1
  obtain ⟨c1, c2⟩ := fC_lt hhas
  have hl3 := qL_3 hT hQ hh
  obtain ⟨o1, o2, o3⟩ := (hQ.2.2.2.2.1 _ hh).2.1 (by omega)
  obtain ⟨t1, t2, -⟩ := hT _ o1
  have hr40 : r < 40 := Nat.lt_of_lt_of_le hr t2
  have hm3 : (3 * fH Q k + fC Q (fH Q k) k) % 3 = fC Q (fH Q k) k := by omega
  have loop : ∀ d j (w : xU), 6 - j = d → j ≤ 6 → (∀ x, x ≠ 190 → w.1 x = v.1 x) → w.2 = v.2 → (∀ x, x < j → w.1 190 x = a x) → xE mX10_meets 120 [(0, .ref 172), (1, .int (nI (S ||| 2 ^ k))), (2, .int (nI i)), (3, .int (nI k)), (4, .int (nI (3 * fH Q k + fC Q (fH Q k) k))), (5, .int (nI (qOf Q (fH Q k)))), (6, .int (nI e.length)), (7, .int (nI m)), (8, .int (nI r)), (9, .int (nI j))] [] (xmm w) R := by
    intro d
    induction d with
    | zero =>
      intro j w hd hj f1 f2 f3
      have fw : frV v w := ⟨fun x _ h2 => f1 x h2, f2⟩
      have hcw := hC.V fw
      have hcl : xC mX10_cell [.ref 172, .int (nI (qOf Q (fH Q k))), .int (nI r), .int (nI ((3 * fH Q k + fC Q (fH Q k) k) % 3))] (xmm w) (fun r' μ' => r' = some (.int (cel T Q (fH Q k) r (fC Q (fH Q k) k))) ∧ μ' = xmm w) := by
        rw [hm3]
        exact qX10_cellV w _ r _ _ o1 hr40 (by omega) ((hcw _ o1).2.2 r _ hr (by omega))
      refine gX10_meets_120 w (S ||| 2 ^ k) i k _ _ e.length m r j _ _ hi (by omega) (by omega) o1 he5 (by omega) hr40 hj hm hcl rfl (fun _ => ?_) (fun z => absurd (by omega) z)
      generalize hb : setT a k (cel T Q (fH Q k) r (fC Q (fH Q k) k)) = b at kno kyes kbad
      generalize hw1 : wi w 190 k (cel T Q (fH Q k) r (fC Q (fH Q k) k)) = w1
      have fw1 : frV v w1 := fw.tr (by rw [← hw1]; exact ⟨fun x _ h2 => wi_row h2, rfl⟩)
      have e183 : w1.1 183 = v.1 183 := by rw [← hw1, wi_row (by decide)]; exact f1 183 (by decide)
      have atv : ATV b w1 := fun x hx => by
        rw [← hb, ← hw1]
        by_cases ex : x = k
        · subst ex
          rw [wi_self, setT_at]
        · rw [wi_nek ex, setT_ne ex]
          exact f3 x (by omega)
      refine (qX10_areTrue hT hQ (hC.V fw1) (h.V fw1) atv hS').mono ?_
      rintro r' μ' ⟨rfl, rfl⟩
      refine gX10_meets_176 w1 (S ||| 2 ^ k) i k _ _ e.length m r _ hi (by omega) (by omega) o1 he5 (by omega) hr40 (fun z y => ?_) (fun z y => kbad w1 fw1 (bP_iff.mp z) y) (fun z => kno w1 fw1 e183 (fun y => z (bP_iff.mpr y)))
      have hn5 : e.length < 500 := by omega
      have loop2 : ∀ d j (x : xU), 6 - j = d → j ≤ 6 → (∀ y, y ≠ 183 → x.1 y = w1.1 y) → x.2 = w1.2 → (∀ y, y < j → x.1 183 (6 * e.length + y) = b y) → (∀ y, y < 6 * e.length → x.1 183 y = v.1 183 y) → xE mX10_meets 195 [(0, .ref 172), (1, .int (nI (S ||| 2 ^ k))), (2, .int (nI i)), (3, .int (nI k)), (4, .int (nI (3 * fH Q k + fC Q (fH Q k) k))), (5, .int (nI (qOf Q (fH Q k)))), (6, .int (nI e.length)), (7, .int (nI m)), (8, .int (nI r)), (9, .int (nI j))] [] (xmm x) R := by
        intro d
        induction d with
        | zero =>
          intro j x hd hj g1 g2 g3 g4
          refine gX10_meets_195 x (S ||| 2 ^ k) i k _ _ e.length m r j _ hi (by omega) (by omega) o1 he5 (by omega) hr40 hj hn5 rfl (fun _ => ?_) (fun q => absurd (by omega) q)
          refine kyes x (fw1.tr ⟨fun y h1 _ => g1 y h1, g2⟩) (fun m' b' hb' j' hj' => ?_) (bP_iff.mp z) hn5
          by_cases em : m' = e.length
          · rw [em, List.getElem?_append_right (Nat.le_refl _), Nat.sub_self] at hb'
            have := Option.some.inj hb'
            rw [← this, em]
            exact g3 j' (by omega)
          · have hlt : m' < e.length := by
              have := (List.getElem?_eq_some_iff.mp hb').1
              rw [List.length_append] at this
              simp only [List.length_cons, List.length_nil] at this
              omega
            rw [List.getElem?_append_left hlt] at hb'
            rw [g4 _ (by omega)]
            exact he m' b' hb' j' hj'
        | succ d ih =>
          intro j x hd hj g1 g2 g3 g4
          have hj6 : j < 6 := by omega
          have bx : x.1 190 j = b j := by rw [g1 190 (by decide)]; exact atv j hj6
          refine gX10_meets_195 x (S ||| 2 ^ k) i k _ _ e.length m r j _ hi (by omega) (by omega) o1 he5 (by omega) hr40 hj hn5 bx (fun q => absurd q (by omega)) (fun _ => ?_)
          refine ih (j + 1) _ (by omega) hj6 (fun y hy => by rw [wi_row hy]; exact g1 y hy) g2 (fun y hy => ?_) (fun y hy => by rw [wi_nek (by omega)]; exact g4 y hy)
          by_cases ey : y = j
          · subst ey; exact wi_self
          · rw [wi_nek (by omega)]
            exact g3 y (by omega)
      exact loop2 _ 0 w1 rfl (Nat.zero_le _) (fun _ _ => rfl) rfl (fun y hy => absurd hy (Nat.not_lt_zero y)) (fun y _ => by rw [e183])
    | succ d ih =>
      intro j w hd hj f1 f2 f3
      have hj6 : j < 6 := by omega
      have fw : frV v w := ⟨fun x _ h2 => f1 x h2, f2⟩
      have hcw := hC.V fw
      have hcl : xC mX10_cell [.ref 172, .int (nI (qOf Q (fH Q k))), .int (nI r), .int (nI ((3 * fH Q k + fC Q (fH Q k) k) % 3))] (xmm w) (fun r' μ' => r' = some (.int (cel T Q (fH Q k) r (fC Q (fH Q k) k))) ∧ μ' = xmm w) := by
        rw [hm3]
        exact qX10_cellV w _ r _ _ o1 hr40 (by omega) ((hcw _ o1).2.2 r _ hr (by omega))
      have ax : w.1 182 (6 * m + j) = a j := by rw [f1 182 (by decide)]; exact hl m a ha j hj6
      refine gX10_meets_120 w (S ||| 2 ^ k) i k _ _ e.length m r j _ _ hi (by omega) (by omega) o1 he5 (by omega) hr40 hj hm hcl ax (fun z => absurd z (by omega)) (fun _ => ?_)
      refine ih (j + 1) _ (by omega) hj6 (fun y hy => by rw [wi_row hy]; exact f1 y hy) f2 (fun y hy => ?_)
      by_cases ey : y = j
      · subst ey; exact wi_self
      · rw [wi_nek ey]
        exact f3 y (by omega)
  exact loop _ 0 v rfl (Nat.zero_le _) (fun _ _ => rfl) rfl (fun y hy => absurd hy (Nat.not_lt_zero y))
/-- one name more -/
theorem mm_stage {u : xU} {T : TBL} {Q : QST} (hT : TI T) (hQ : QI T Q) (hC : MT T u) (h : KQ Q u) {S k i : Nat} {l : List (Nat → Int32)} {R : Option Value → xM → Prop} (hS : S < 64) (hk : k < qN Q) (hSk : ¬ S.testBit k = true) (hh : fH Q k < qP Q) (hi : i < 6) (hn : l.Nodup) (hl1 : ∀ a, a ∈ l → (∀ j, ¬ S.testBit j = true → a j = 0) ∧ ∀ j, S.testBit j = true → Dm T Q j (a j)) (hl2 : ∀ a, MEM T Q S a → a ∈ l) (h5 : l.length ≤ 500) (hrm : u.1 172 13 = nI l.length) (hl : RWL 182 l u)
    (hdone : ∀ v (e : List (Nat → Int32)), frV u v → e.Nodup → (∀ b, b ∈ e ↔ MEM T Q (S ||| 2 ^ k) b) → e.length ≤ 500 → RWL 183 e v → xE mX10_meets 246 [(0, .ref 172), (1, .int (nI (S ||| 2 ^ k))), (2, .int (nI i)), (6, .int (nI e.length)), (7, .int (nI 0))] [] (xmm v) R)
    (hbad : ∀ v (x : List (Nat → Int32)), frV u v → x.Nodup → x.length = 501 → (∀ b, b ∈ x → MEM T Q (S ||| 2 ^ k) b) → R (some (.int (nI 0))) (xmm v)) :
    xE mX10_meets 75 [(0, .ref 172), (1, .int (nI (S ||| 2 ^ k))), (2, .int (nI i)), (3, .int (nI k)), (4, .int (nI (3 * fH Q k + fC Q (fH Q k) k))), (5, .int (nI (qOf Q (fH Q k)))), (6, .int (nI 0)), (7, .int (nI 0))] [] (xmm u) R := by
  have hp10 := hQ.2.1
  have hn6 := hQ.1
  have hS' : S ||| 2 ^ k < 64 := Nat.or_lt_two_pow (n := 6) hS (Nat.pow_lt_pow_right (by decide) (by omega))
  have hfh : fH Q k < qP Q ∧ (decide (qK Q (fH Q k) = 0) && pHas Q (fH Q k) k) = true := by
    have hex : ∃ p, p < qP Q ∧ (decide (qK Q p = 0) && pHas Q p k) = true := Classical.byContradiction fun q => by
      have : fH Q k = qP Q := fstB_none (fun i hi z => q ⟨i, hi, z⟩)
      omega
    obtain ⟨x1, x2, -⟩ := fstB_ex hex
    exact ⟨x1, x2⟩
  rw [Bool.and_eq_true, decide_eq_true_eq] at hfh
  obtain ⟨-, hk0, hhas⟩ := hfh
  obtain ⟨c1, c2⟩ := fC_lt hhas
  have hl3 := qL_3 hT hQ hh
  obtain ⟨o1, o2, o3⟩ := (hQ.2.2.2.2.1 _ hh).2.1 (by omega)
  obtain ⟨t1, t2, -⟩ := hT _ o1
  have hm3 : (3 * fH Q k + fC Q (fH Q k) k) % 3 = fC Q (fH Q k) k := by omega
  have hmem : ∀ a, a ∈ l → ∀ v, Dm T Q k v → (MEM T Q (S ||| 2 ^ k) (setT a k v) ↔ arT T Q (S ||| 2 ^ k) (setT a k v)) := fun a ha v hv => by
    refine ⟨fun z => z.2.2, fun z => ⟨fun j hj => ?_, fun j hj => ?_, z⟩⟩
    · have hn : ¬ (S.testBit j = true ∨ j = k) := fun z => hj (bit_add.mpr z)
      rw [setT_ne (fun e => hn (Or.inr e))]
      exact (hl1 a ha).1 j (fun z => hn (Or.inl z))
    · by_cases e : j = k
      · rw [e, setT_at]; exact hv
      · rw [setT_ne e]
        exact (hl1 a ha).2 j ((bit_add.mp hj).resolve_right e)
  have loop : ∀ d m (v : xU) (e : List (Nat → Int32)), l.length - m = d → m ≤ l.length → frV u v → e.Nodup → (∀ b, b ∈ e ↔ MEM T Q (S ||| 2 ^ k) b ∧ setT b k 0 ∈ l.take m) → e.length ≤ 500 → RWL 183 e v → xE mX10_meets 75 [(0, .ref 172), (1, .int (nI (S ||| 2 ^ k))), (2, .int (nI i)), (3, .int (nI k)), (4, .int (nI (3 * fH Q k + fC Q (fH Q k) k))), (5, .int (nI (qOf Q (fH Q k)))), (6, .int (nI e.length)), (7, .int (nI m))] [] (xmm v) R := by
    intro d
    induction d with
    | zero =>
      intro m v e hd hm fr e1 e2 e3 e4
      refine gX10_meets_75 v (S ||| 2 ^ k) i k _ _ e.length m l.length hi (by omega) (by omega) o1 e3 (by omega) h5 (by rw [fr.1 172 (by decide) (by decide)]; exact hrm) (fun _ => hdone v e fr e1 (fun b => ?_) e3 e4) (fun z => absurd (by omega) z)
      rw [e2 b, List.take_of_length_le (by omega)]
      refine ⟨fun z => z.1, fun z => ⟨z, ?_⟩⟩
      obtain ⟨a, x, a1, -, a3, -⟩ := (MEM_ext hQ hSk).mp z
      rw [a3, setT_back (a1.1 k hSk)]
      exact hl2 a a1
    | succ d ih =>
      intro m v e hd hm fr e1 e2 e3 e4
      have hml : m < l.length := by omega
      have ha : l[m]? = some l[m] := List.getElem?_eq_getElem hml
      generalize l[m] = a at ha
      have hal := List.mem_of_getElem? ha
      have ak : a k = 0 := (hl1 a hal).1 k hSk
      refine gX10_meets_75 v (S ||| 2 ^ k) i k _ _ e.length m l.length hi (by omega) (by omega) o1 e3 (by omega) h5 (by rw [fr.1 172 (by decide) (by decide)]; exact hrm) (fun z => absurd z (by omega)) (fun _ => ?_)
      have inner : ∀ d r (w : xU) (e' : List (Nat → Int32)), rwN T Q (fH Q k) - r = d → r ≤ rwN T Q (fH Q k) → frV u w → e'.Nodup → (∀ b, b ∈ e' ↔ MEM T Q (S ||| 2 ^ k) b ∧ (setT b k 0 ∈ l.take m ∨ (setT b k 0 = a ∧ ∃ r', r' < r ∧ cel T Q (fH Q k) r' (fC Q (fH Q k) k) = b k))) → e'.length ≤ 500 → RWL 183 e' w → xE mX10_meets 87 [(0, .ref 172), (1, .int (nI (S ||| 2 ^ k))), (2, .int (nI i)), (3, .int (nI k)), (4, .int (nI (3 * fH Q k + fC Q (fH Q k) k))), (5, .int (nI (qOf Q (fH Q k)))), (6, .int (nI e'.length)), (7, .int (nI m)), (8, .int (nI r))] [] (xmm w) R := by
        intro d
        induction d with
        | zero =>
          intro r w e' hd hr fw g1 g2 g3 g4
          have hC' := hC.V fw
          refine gX10_meets_87e w (S ||| 2 ^ k) i k _ _ e'.length m r (rwN T Q (fH Q k)) hi (by omega) (by omega) o1 g3 (by omega) t2 (by omega) (hC' _ o1).2.1 (fun _ => ?_) (fun z => absurd (by omega) z)
          refine ih (m + 1) w e' (by omega) hml fw g1 (fun b => ?_) g3 g4
          rw [g2 b, take_snoc ha]
          constructor
          · rintro ⟨z1, z2 | z2⟩
            · exact ⟨z1, Or.inl z2⟩
            · exact ⟨z1, Or.inr z2.1⟩
          · rintro ⟨z1, z2 | z2⟩
            · exact ⟨z1, Or.inl z2⟩
            · refine ⟨z1, Or.inr ⟨z2, ?_⟩⟩
              obtain ⟨r', q1, q2⟩ := z1.2.1 k (bit_add.mpr (Or.inr rfl))
              exact ⟨r', by omega, q2⟩
        | succ d ih2 =>
          intro r w e' hd hr fw g1 g2 g3 g4
          have hrl : r < rwN T Q (fH Q k) := by omega
          have hC' := hC.V fw
          have h' := h.V fw
          have hd' : rwN T Q (fH Q k) - (r + 1) = d := by omega
          have hia : xC mX10_isAgain [.ref 172, .int (nI (qOf Q (fH Q k))), .int (nI ((3 * fH Q k + fC Q (fH Q k) k) % 3)), .int (nI r)] (xmm w) (fun r' μ' => r' = some (.int (xb (bP (∃ j, j < r ∧ T.2.2 (qOf Q (fH Q k)) j (fC Q (fH Q k) k) = T.2.2 (qOf Q (fH Q k)) r (fC Q (fH Q k) k)) = true))) ∧ μ' = xmm w) := by
            rw [hm3]
            exact qX10_isAgain hT hC' o1 (by omega) hrl
          have hDm : Dm T Q k (cel T Q (fH Q k) r (fC Q (fH Q k) k)) := ⟨r, hrl, rfl⟩
          have hmm := hmem a hal _ hDm
          refine gX10_meets_87 w (S ||| 2 ^ k) i k _ _ e'.length m r (rwN T Q (fH Q k)) _ hi (by omega) (by omega) o1 g3 (by omega) t2 hrl hia (hC' _ o1).2.1 (fun z => absurd hrl (by omega)) (fun _ z => ?_) (fun _ z => ?_)
          · -- a new value
            have hnew : ∀ j, j < r → ¬ cel T Q (fH Q k) j (fC Q (fH Q k) k) = cel T Q (fH Q k) r (fC Q (fH Q k) k) := fun j hj q => z (bP_iff.mpr ⟨j, hj, q⟩)
            have nin : setT a k (cel T Q (fH Q k) r (fC Q (fH Q k) k)) ∉ e' := fun q => by
              obtain ⟨-, q2 | ⟨-, r', q3, q4⟩⟩ := (g2 _).mp q
              · rw [setT_back ak] at q2
                exact take_ne hn ha q2 rfl
              · rw [setT_at] at q4
                exact hnew r' q3 q4
            have step : ∀ b, (MEM T Q (S ||| 2 ^ k) b ∧ (setT b k 0 ∈ l.take m ∨ (setT b k 0 = a ∧ ∃ r', r' < r + 1 ∧ cel T Q (fH Q k) r' (fC Q (fH Q k) k) = b k))) ↔ b ∈ e' ∨ (MEM T Q (S ||| 2 ^ k) b ∧ b = setT a k (cel T Q (fH Q k) r (fC Q (fH Q k) k))) := fun b => by
              rw [g2 b]
              constructor
              · rintro ⟨z1, z2 | ⟨z2, r', z3, z4⟩⟩
                · exact Or.inl ⟨z1, Or.inl z2⟩
                · by_cases er : r' = r
                  · refine Or.inr ⟨z1, ?_⟩
                    rw [er] at z4
                    rw [z4, ← z2]
                    exact setT_fix.symm
                  · exact Or.inl ⟨z1, Or.inr ⟨z2, r', by omega, z4⟩⟩
              · rintro (⟨z1, z2 | ⟨z2, r', z3, z4⟩⟩ | ⟨z1, z2⟩)
                · exact ⟨z1, Or.inl z2⟩
                · exact ⟨z1, Or.inr ⟨z2, r', by omega, z4⟩⟩
                · refine ⟨z1, Or.inr ⟨?_, r, by omega, ?_⟩⟩
                  · rw [z2]; exact setT_back ak
                  · rw [z2, setT_at]
            refine mm_try hT hQ hC' h' (l := l) (a := a) hS' hk hh hhas hk0 hi ha (by omega) (hl.keep (fw.1 182 (by decide) (by decide))) g3 g4 hrl (fun x fx ex na => ?_) (fun x fx rx ya h5' => ?_) (fun x fx ya h5' => ?_)
            · refine ih2 (r + 1) x e' hd' hrl (fw.tr fx) g1 (fun b => ?_) g3 (g4.keep ex)
              rw [step b]
              refine ⟨Or.inl, fun q => q.resolve_right (fun y => na (hmm.mp ?_))⟩
              rw [← y.2]; exact y.1
            · have := ih2 (r + 1) x (e' ++ [setT a k (cel T Q (fH Q k) r (fC Q (fH Q k) k))]) hd' hrl (fw.tr fx) (nod_snoc g1 nin) (fun b => ?_) (by rw [List.length_append]; simp only [List.length_cons, List.length_nil]; omega) rx
              · rw [List.length_append] at this
                exact this
              · rw [step b, List.mem_append, List.mem_singleton]
                constructor
                · rintro (q | q)
                  · exact Or.inl q
                  · exact Or.inr ⟨by rw [q]; exact hmm.mpr ya, q⟩
                · rintro (q | q)
                  · exact Or.inl q
                  · exact Or.inr q.2
            · refine hbad x (e' ++ [setT a k (cel T Q (fH Q k) r (fC Q (fH Q k) k))]) (fw.tr fx) (nod_snoc g1 nin) (by rw [List.length_append]; simp only [List.length_cons, List.length_nil]; omega) (fun b hb => ?_)
              rcases List.mem_append.mp hb with q | q
              · exact ((g2 b).mp q).1
              · rw [List.mem_singleton.mp q]
                exact hmm.mpr ya
          · -- a value again
            obtain ⟨j, j1, j2⟩ := bP_iff.mp z
            refine ih2 (r + 1) w e' hd' hrl fw g1 (fun b => ?_) g3 g4
            rw [g2 b]
            constructor
            · rintro ⟨z1, z2 | ⟨z2, r', z3, z4⟩⟩
              · exact ⟨z1, Or.inl z2⟩
              · exact ⟨z1, Or.inr ⟨z2, r', by omega, z4⟩⟩
            · rintro ⟨z1, z2 | ⟨z2, r', z3, z4⟩⟩
              · exact ⟨z1, Or.inl z2⟩
              · by_cases er : r' = r
                · refine ⟨z1, Or.inr ⟨z2, j, j1, ?_⟩⟩
                  rw [← z4, er]
                  exact j2
                · exact ⟨z1, Or.inr ⟨z2, r', by omega, z4⟩⟩
      refine inner _ 0 v e rfl (Nat.zero_le _) fr e1 (fun b => ?_) e3 e4
      rw [e2 b]
      constructor
      · rintro ⟨z1, z2⟩
        exact ⟨z1, Or.inl z2⟩
      · rintro ⟨z1, z2 | ⟨z2, r', z3, z4⟩⟩
        · exact ⟨z1, z2⟩
        · exact absurd z3 (Nat.not_lt_zero r')
  refine loop _ 0 u [] rfl (Nat.zero_le _) frV.rf List.nodup_nil (fun b => ⟨fun z => (by cases z), fun z => ?_⟩) (Nat.zero_le _) (fun m b z => by simp at z)
  have := z.2
  simp at this

