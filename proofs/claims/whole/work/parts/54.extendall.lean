def frG (i : Nat) (u u' : xU) : Prop := (∀ x, x ≠ 146 → x ≠ 150 → x ≠ 151 → u'.1 x = u.1 x) ∧ (∀ j, j ≠ i → u'.1 146 j = u.1 146 j) ∧ (∀ x, x ≠ 148 + i % 2 → x ≠ 152 → u'.2.1 x = u.2.1 x) ∧ u'.2.2 = u.2.2
theorem frG.rf {i : Nat} {u : xU} : frG i u u := ⟨fun _ _ _ _ => rfl, fun _ _ => rfl, fun _ _ _ => rfl, rfl⟩
theorem frG.tr {i : Nat} {u v w : xU} (a : frG i u v) (b : frG i v w) : frG i u w := ⟨fun x h1 h2 h3 => (b.1 x h1 h2 h3).trans (a.1 x h1 h2 h3), fun j hj => (b.2.1 j hj).trans (a.2.1 j hj), fun x h1 h2 => (b.2.2.1 x h1 h2).trans (a.2.2.1 x h1 h2), b.2.2.2.trans a.2.2.2⟩
theorem frE.G {i : Nat} {u v : xU} (a : frE i u v) : frG i u v := ⟨a.1, a.2.1, fun x h1 _ => a.2.2.1 x h1, a.2.2.2⟩
theorem frA.G {i : Nat} {u v : xU} (a : frA u v) : frG i u v := ⟨fun x _ h2 h3 => a.1 x h2 h3, fun j _ => by rw [a.1 146 (by decide) (by decide)], fun x _ h2 => a.2.1 x h2, a.2.2⟩
theorem SLT.keep {Q : QST} {Z : Nat → Nat} {D : Nat → Nat → Int32} {S c : Nat} {l : List (Nat → Int32)} {u u' : xU} (h : SLT Q Z D S c l u) (e : u'.2.1 (148 + c) = u.2.1 (148 + c)) : SLT Q Z D S c l u' := fun j b hb => by
  rw [e]
  exact h j b hb
theorem take_ne {l : List (Nat → Int32)} {j : Nat} {a x : Nat → Int32} (h : l.Nodup) (ha : l[j]? = some a) (hx : x ∈ l.take j) : x ≠ a := by
  obtain ⟨i, hi, e⟩ := List.mem_take_iff_getElem.mp hx
  obtain ⟨hj, e2⟩ := List.getElem?_eq_some_iff.mp ha
  have := List.pairwise_iff_getElem.mp (List.nodup_iff_pairwise_ne.mp h) i j (by omega) hj (by omega)
  rw [e, e2] at this
  exact this
theorem take_snoc {l : List (Nat → Int32)} {j : Nat} {a x : Nat → Int32} (ha : l[j]? = some a) : x ∈ l.take (j + 1) ↔ x ∈ l.take j ∨ x = a := by
  rw [List.take_succ, ha, List.mem_append]
  simp

/-- one turn of meetAlong's loop: the next name k is met, into slot i + 1 -/
theorem qX7_turn {u : xU} {T : TBL} {Q : QST} (hT : TI T) (hQ : QI T Q) (hC : CT T u) (h : CQ T Q u) {Z : Nat → Nat} {D : Nat → Nat → Int32} (hpre : PRE T Q Z D u) {n S k i : Nat} {l : List (Nat → Int32)} (hS : S < 64) (hk : k < qN Q) (hSk : ¬ S.testBit k = true) (hh : fH Q k < qP Q) (hnm : n ≤ 6) (hi : i < n) (htr : u.1 5 i = nI k) (hn : l.Nodup) (hl : ∀ a, a ∈ l ↔ MEM T Q S a) (h5 : l.length ≤ 500) (hc : u.1 146 i = nI l.length) (hsl : SLT Q Z D S (i % 2) l u) {R : Option Value → xM → Prop}
    (good : ∀ (v : xU) (e : List (Nat → Int32)), frG (i + 1) u v → e.Nodup → (∀ b, b ∈ e ↔ MEM T Q (S ||| 2 ^ k) b) → e.length ≤ 500 → v.1 146 (i + 1) = nI e.length → SLT Q Z D (S ||| 2 ^ k) ((i + 1) % 2) e v → xE mX7_meetAlong 15 [(0, .ref 74), (1, .ref 3), (2, .ref 5), (3, .int (nI n)), (4, .int (nI (S ||| 2 ^ k))), (5, .int (nI (i + 1)))] [] (xmm v) R)
    (bad : ∀ (v : xU) (x : List (Nat → Int32)), frG (i + 1) u v → x.Nodup → x.length = 501 → (∀ b, b ∈ x → MEM T Q (S ||| 2 ^ k) b) → R (some (.int (-2))) (xmm v)) :
    xE mX7_meetAlong 15 [(0, .ref 74), (1, .ref 3), (2, .ref 5), (3, .int (nI n)), (4, .int (nI S)), (5, .int (nI i))] [] (xmm u) R := by
  have hn6 := hQ.1
  have hk6 : k < 6 := by omega
  refine gX7_meetAlong_15 u n S i hnm hi (fun z => absurd z (by omega)) (fun _ => ?_)
  have loop : ∀ d j (v : xU) (e : List (Nat → Int32)), l.length - j = d → j ≤ l.length → frG (i + 1) u v → e.Nodup → (∀ b, b ∈ e ↔ MEM T Q (S ||| 2 ^ k) b ∧ setT b k 0 ∈ l.take j) → e.length ≤ 500 → v.1 146 (i + 1) = nI e.length → SLT Q Z D (S ||| 2 ^ k) ((i + 1) % 2) e v → xE mX7_meetAlong 34 [(0, .ref 74), (1, .ref 3), (2, .ref 5), (3, .int (nI n)), (4, .int (nI S)), (5, .int (nI i)), (6, .int (nI j))] [] (xmm v) R := by
    intro d
    induction d with
    | zero =>
      intro j v e hd hj fr e1 e2 e3 e4 e5
      have tv : v.1 5 i = nI k := by rw [fr.1 5 (by decide) (by decide) (by decide)]; exact htr
      refine gX7_meetAlong_34 v n S i k j l.length _ hnm hi hk6 h5 (by omega) tv (by rw [fr.2.1 i (by omega)]; exact hc) rfl (fun _ => ?_) (fun z => absurd (by omega) z)
      rw [show ((nI S) ||| (1 <<< ((nI k) &&& 31))) = nI (S ||| 2 ^ k) from orI _ hS _ hk6]
      refine good v e fr e1 (fun b => ?_) e3 e4 e5
      rw [e2 b, List.take_of_length_le (by omega)]
      refine ⟨fun z => z.1, fun z => ⟨z, ?_⟩⟩
      obtain ⟨a, x, a1, -, a3, -⟩ := (MEM_ext hQ hSk).mp z
      rw [a3, setT_back (a1.1 k hSk)]
      exact (hl a).mpr a1
    | succ d ih =>
      intro j v e hd hj fr e1 e2 e3 e4 e5
      have hjl : j < l.length := by omega
      have ha : l[j]? = some l[j] := List.getElem?_eq_getElem hjl
      generalize l[j] = a at ha
      obtain ⟨m, m1, m2, m3, m4⟩ := hsl j a ha
      have mv : v.2.1 (148 + (i % 2)) j = nL m := by rw [fr.2.2.1 _ (by omega) (by omega)]; exact m1
      have hqv := h.keep hQ.2.1 (u' := v) (fun x hx => fr.1 x (by omega) (by omega) (by omega))
      have hcv : CT T v := hC.keep (fun x _ _ => fr.1 x (by omega) (by omega) (by omega))
      have hpv := hpre.keep hT hQ (u' := v) (fun x hx => fr.1 x (by omega) (by omega) (by omega)) (fun x hx => fr.2.2.1 x (by omega) (by omega))
      have tv : v.1 5 i = nI k := by rw [fr.1 5 (by decide) (by decide) (by decide)]; exact htr
      refine gX7_meetAlong_34 v n S i k j l.length _ hnm hi hk6 h5 (by omega) tv (by rw [fr.2.1 i (by omega)]; exact hc) mv (fun z => absurd z (by omega)) (fun _ => ?_)
      refine (qX7_agree hT hQ hcv hqv hpv hS m2 m3).mono ?_
      rintro r μ' ⟨w, rfl, rfl, ag, fa⟩
      have fw : frG (i + 1) u w := fr.tr fa.G
      have tw : w.1 5 i = nI k := by rw [fw.1 5 (by decide) (by decide) (by decide)]; exact htr
      refine gX7_meetAlong_69 w n S i k j _ hnm hi hk6 tw ?_
      rw [show ((nI S) ||| (1 <<< ((nI k) &&& 31))) = nI (S ||| 2 ^ k) from orI _ hS _ hk6]
      have hqw := h.keep hQ.2.1 (u' := w) (fun x hx => fw.1 x (by omega) (by omega) (by omega))
      have hpw := hpv.A hT hQ fa
      refine (qX7_extend hT hQ hqw hpw hS m2 hk hSk hh m3 m4 ((hl a).mp (List.mem_of_getElem? ha)) ag (i := i + 1) (by omega) e1 (fun b hb => ⟨((e2 b).mp hb).1, take_ne hn ha ((e2 b).mp hb).2⟩) e3 (by rw [fa.1 146 (by decide) (by decide)]; exact e4) (e5.keep (fa.2.1 _ (by omega)))).mono ?_
      rintro r μ' ⟨x, rfl, fx, ⟨rfl, e', n', m', l', c', s'⟩ | ⟨rfl, y, y1, y2, y3⟩⟩
      · refine gX7_meetAlong_t x n S i j hnm hi (by omega) (ih (j + 1) x (e ++ e') (by omega) hjl (fw.tr fx.G) n' (fun b => ?_) l' c' s')
        rw [List.mem_append, take_snoc ha, e2 b, m' b]
        constructor
        · rintro (⟨z1, z2⟩ | ⟨z1, z2⟩)
          · exact ⟨z1, Or.inl z2⟩
          · exact ⟨z1, Or.inr z2⟩
        · rintro ⟨z1, z2 | z2⟩
          · exact Or.inl ⟨z1, z2⟩
          · exact Or.inr ⟨z1, z2⟩
      · exact gX7_meetAlong_f x n S i j hnm (bad x y (fw.tr fx.G) y1 y2 y3)
  refine loop _ 0 _ [] rfl (Nat.zero_le _) ⟨fun x h1 _ _ => wi_row h1, fun j hj => wi_nek hj, fun _ _ _ => rfl, rfl⟩ List.nodup_nil (fun b => ⟨fun z => (by cases z), fun z => ?_⟩) (Nat.zero_le _) wi_self (fun j b z => ?_)
  · have := z.2
    simp at this
  · simp at z

/-- one turn of meetAlong's loop: the next name k is met, into slot i + 1 -/
theorem qX7_turnb {u : xU} {T : TBL} {Q : QST} (hT : TI T) (hQ : QI T Q) (hC : CT T u) (h : CQ T Q u) {Z : Nat → Nat} {D : Nat → Nat → Int32} (hpre : PRE T Q Z D u) {n S k i : Nat} {l : List (Nat → Int32)} (hS : S < 64) (hk : k < qN Q) (hSk : ¬ S.testBit k = true) (hh : fH Q k < qP Q) (hnm : n ≤ 4) (hi : i < n) (htr : u.1 155 i = nI k) (hn : l.Nodup) (hl : ∀ a, a ∈ l ↔ MEM T Q S a) (h5 : l.length ≤ 500) (hc : u.1 146 i = nI l.length) (hsl : SLT Q Z D S (i % 2) l u) {R : Option Value → xM → Prop}
    (good : ∀ (v : xU) (e : List (Nat → Int32)), frG (i + 1) u v → e.Nodup → (∀ b, b ∈ e ↔ MEM T Q (S ||| 2 ^ k) b) → e.length ≤ 500 → v.1 146 (i + 1) = nI e.length → SLT Q Z D (S ||| 2 ^ k) ((i + 1) % 2) e v → xE mX7_meetAlong 15 [(0, .ref 74), (1, .ref 3), (2, .ref 155), (3, .int (nI n)), (4, .int (nI (S ||| 2 ^ k))), (5, .int (nI (i + 1)))] [] (xmm v) R)
    (bad : ∀ (v : xU) (x : List (Nat → Int32)), frG (i + 1) u v → x.Nodup → x.length = 501 → (∀ b, b ∈ x → MEM T Q (S ||| 2 ^ k) b) → R (some (.int (-2))) (xmm v)) :
    xE mX7_meetAlong 15 [(0, .ref 74), (1, .ref 3), (2, .ref 155), (3, .int (nI n)), (4, .int (nI S)), (5, .int (nI i))] [] (xmm u) R := by
  have hn6 := hQ.1
  have hk6 : k < 6 := by omega
  refine gX7_meetAlongb_15 u n S i hnm hi (fun z => absurd z (by omega)) (fun _ => ?_)
  have loop : ∀ d j (v : xU) (e : List (Nat → Int32)), l.length - j = d → j ≤ l.length → frG (i + 1) u v → e.Nodup → (∀ b, b ∈ e ↔ MEM T Q (S ||| 2 ^ k) b ∧ setT b k 0 ∈ l.take j) → e.length ≤ 500 → v.1 146 (i + 1) = nI e.length → SLT Q Z D (S ||| 2 ^ k) ((i + 1) % 2) e v → xE mX7_meetAlong 34 [(0, .ref 74), (1, .ref 3), (2, .ref 155), (3, .int (nI n)), (4, .int (nI S)), (5, .int (nI i)), (6, .int (nI j))] [] (xmm v) R := by
    intro d
    induction d with
    | zero =>
      intro j v e hd hj fr e1 e2 e3 e4 e5
      have tv : v.1 155 i = nI k := by rw [fr.1 155 (by decide) (by decide) (by decide)]; exact htr
      refine gX7_meetAlongb_34 v n S i k j l.length _ hnm hi hk6 h5 (by omega) tv (by rw [fr.2.1 i (by omega)]; exact hc) rfl (fun _ => ?_) (fun z => absurd (by omega) z)
      rw [show ((nI S) ||| (1 <<< ((nI k) &&& 31))) = nI (S ||| 2 ^ k) from orI _ hS _ hk6]
      refine good v e fr e1 (fun b => ?_) e3 e4 e5
      rw [e2 b, List.take_of_length_le (by omega)]
      refine ⟨fun z => z.1, fun z => ⟨z, ?_⟩⟩
      obtain ⟨a, x, a1, -, a3, -⟩ := (MEM_ext hQ hSk).mp z
      rw [a3, setT_back (a1.1 k hSk)]
      exact (hl a).mpr a1
    | succ d ih =>
      intro j v e hd hj fr e1 e2 e3 e4 e5
      have hjl : j < l.length := by omega
      have ha : l[j]? = some l[j] := List.getElem?_eq_getElem hjl
      generalize l[j] = a at ha
      obtain ⟨m, m1, m2, m3, m4⟩ := hsl j a ha
      have mv : v.2.1 (148 + (i % 2)) j = nL m := by rw [fr.2.2.1 _ (by omega) (by omega)]; exact m1
      have hqv := h.keep hQ.2.1 (u' := v) (fun x hx => fr.1 x (by omega) (by omega) (by omega))
      have hcv : CT T v := hC.keep (fun x _ _ => fr.1 x (by omega) (by omega) (by omega))
      have hpv := hpre.keep hT hQ (u' := v) (fun x hx => fr.1 x (by omega) (by omega) (by omega)) (fun x hx => fr.2.2.1 x (by omega) (by omega))
      have tv : v.1 155 i = nI k := by rw [fr.1 155 (by decide) (by decide) (by decide)]; exact htr
      refine gX7_meetAlongb_34 v n S i k j l.length _ hnm hi hk6 h5 (by omega) tv (by rw [fr.2.1 i (by omega)]; exact hc) mv (fun z => absurd z (by omega)) (fun _ => ?_)
      refine (qX7_agree hT hQ hcv hqv hpv hS m2 m3).mono ?_
      rintro r μ' ⟨w, rfl, rfl, ag, fa⟩
      have fw : frG (i + 1) u w := fr.tr fa.G
      have tw : w.1 155 i = nI k := by rw [fw.1 155 (by decide) (by decide) (by decide)]; exact htr
      refine gX7_meetAlongb_69 w n S i k j _ hnm hi hk6 tw ?_
      rw [show ((nI S) ||| (1 <<< ((nI k) &&& 31))) = nI (S ||| 2 ^ k) from orI _ hS _ hk6]
      have hqw := h.keep hQ.2.1 (u' := w) (fun x hx => fw.1 x (by omega) (by omega) (by omega))
      have hpw := hpv.A hT hQ fa
      refine (qX7_extend hT hQ hqw hpw hS m2 hk hSk hh m3 m4 ((hl a).mp (List.mem_of_getElem? ha)) ag (i := i + 1) (by omega) e1 (fun b hb => ⟨((e2 b).mp hb).1, take_ne hn ha ((e2 b).mp hb).2⟩) e3 (by rw [fa.1 146 (by decide) (by decide)]; exact e4) (e5.keep (fa.2.1 _ (by omega)))).mono ?_
      rintro r μ' ⟨x, rfl, fx, ⟨rfl, e', n', m', l', c', s'⟩ | ⟨rfl, y, y1, y2, y3⟩⟩
      · refine gX7_meetAlongb_t x n S i j hnm hi (by omega) (ih (j + 1) x (e ++ e') (by omega) hjl (fw.tr fx.G) n' (fun b => ?_) l' c' s')
        rw [List.mem_append, take_snoc ha, e2 b, m' b]
        constructor
        · rintro (⟨z1, z2⟩ | ⟨z1, z2⟩)
          · exact ⟨z1, Or.inl z2⟩
          · exact ⟨z1, Or.inr z2⟩
        · rintro ⟨z1, z2 | z2⟩
          · exact Or.inl ⟨z1, z2⟩
          · exact Or.inr ⟨z1, z2⟩
      · exact gX7_meetAlongb_f x n S i j hnm (bad x y (fw.tr fx.G) y1 y2 y3)
  refine loop _ 0 _ [] rfl (Nat.zero_le _) ⟨fun x h1 _ _ => wi_row h1, fun j hj => wi_nek hj, fun _ _ _ => rfl, rfl⟩ List.nodup_nil (fun b => ⟨fun z => (by cases z), fun z => ?_⟩) (Nat.zero_le _) wi_self (fun j b z => ?_)
  · have := z.2
    simp at this
  · simp at z

/-- the set of the first names of an order -/
def psO (o : Nat → Nat) : Nat → Nat
  | 0 => 0
  | i + 1 => psO o i ||| 2 ^ o i
theorem psO_bit {o : Nat → Nat} {n : Nat} : ∀ {i : Nat}, (psO o i).testBit n = true ↔ ∃ j, j < i ∧ o j = n
  | 0 => by simp [psO]
  | i + 1 => by
    rw [psO, bit_add, psO_bit]
    constructor
    · rintro (⟨j, h1, h2⟩ | h)
      · exact ⟨j, by omega, h2⟩
      · exact ⟨i, by omega, h.symm⟩
    · rintro ⟨j, h1, h2⟩
      by_cases e : j = i
      · subst e; exact Or.inr h2.symm
      · exact Or.inl ⟨j, by omega, h2⟩
theorem psO_lt {o : Nat → Nat} {b : Nat} : ∀ {i : Nat}, (∀ j, j < i → o j < b) → psO o i < 2 ^ b
  | 0, _ => by rw [psO]; exact Nat.two_pow_pos b
  | i + 1, h => by
    rw [psO]
    exact Nat.or_lt_two_pow (psO_lt (fun j hj => h j (by omega))) (Nat.pow_lt_pow_right (by decide) (h i (by omega)))
theorem psO_congr {o o' : Nat → Nat} : ∀ {i : Nat}, (∀ j, j < i → o j = o' j) → psO o i = psO o' i
  | 0, _ => rfl
  | i + 1, h => by rw [psO, psO, psO_congr (fun j hj => h j (by omega)), h i (by omega)]
/-- a meeting of no names -/
theorem MEM_zero {T : TBL} {Q : QST} (hQ : QI T Q) {a : Nat → Int32} : MEM T Q 0 a ↔ a = (fun _ => 0) ∧ nlH T Q (qP Q) := by
  have nb : ∀ n, ¬ (0 : Nat).testBit n = true := fun n => by simp
  have hR : ∀ p, hasR T Q p 0 a ↔ ∃ r, r < rwN T Q p ∧ fitR T Q p r := fun p => ⟨fun ⟨r, r1, r2⟩ => ⟨r, r1, r2.1⟩, fun ⟨r, r1, r2⟩ => ⟨r, r1, r2, fun i _ n _ z => absurd z (nb n)⟩⟩
  have hM : ∀ p, msk (qM Q p) (qL Q p) = 0 ↔ ∀ i, i < qL Q p → ∀ n, ¬ qM Q p i = some n := fun p => by
    constructor
    · intro z i hi n hn
      have := msk_bit.mpr ⟨i, hi, hn⟩
      rw [z] at this
      exact nb n this
    · intro z
      apply Nat.eq_of_testBit_eq
      intro n
      cases hb : (msk (qM Q p) (qL Q p)).testBit n with
      | false => simp
      | true =>
        obtain ⟨i, hi, hn⟩ := msk_bit.mp hb
        exact absurd hn (z i hi n)
  have hW : ∀ p, whl Q p 0 ↔ msk (qM Q p) (qL Q p) = 0 := fun p => by
    rw [hM p]
    exact ⟨fun z i hi n hn => nb n (z i hi n hn), fun z i hi n hn => absurd hn (z i hi n)⟩
  have hN : ∀ p, pNmd Q p = true ↔ ¬ msk (qM Q p) (qL Q p) = 0 := fun p => by
    rw [pNmd_iff, hM p]
    constructor
    · rintro ⟨i, hi, hn⟩ z
      cases hm : qM Q p i with
      | none => exact hn hm
      | some n => exact z i hi n hm
    · intro z
      refine Classical.byContradiction fun q => z (fun i hi n hn => q ⟨i, hi, fun e => ?_⟩)
      rw [e] at hn
      cases hn
  have hT0 : ∀ p, ¬ tch Q p 0 := fun p ⟨i, _, n, _, z⟩ => nb n z
  have key : arT T Q 0 a ↔ nlH T Q (qP Q) := by
    constructor
    · intro z p hp hk hm
      obtain ⟨z0, z1, -, -⟩ := z p hp
      rw [← hR p]
      by_cases e : qK Q p = 0
      · refine ⟨fun _ => e, fun _ => (z0 e).resolve_left (fun y => (hN p).mp y.1 hm)⟩
      · exact ⟨fun y => absurd y (z1 (by omega) ((hW p).mpr hm)), fun y => absurd y e⟩
    · intro z p hp
      refine ⟨fun k0 => ?_, fun k1 hw y => ?_, fun k2 hw => ?_, fun k3 hw => ?_⟩
      · by_cases e : msk (qM Q p) (qL Q p) = 0
        · exact Or.inr ((hR p).mpr ((z p hp (by omega) e).mpr k0))
        · exact Or.inl ⟨(hN p).mpr e, hT0 p⟩
      · have := (z p hp (by omega) ((hW p).mp hw)).mp ((hR p).mp y)
        omega
      · obtain ⟨l2, m0⟩ := (hQ.2.2.2.2.1 p hp).2.2.1 (by omega)
        cases hm : qM Q p 0 with
        | none => exact absurd hm m0
        | some n => exact absurd (hw 0 (by omega) n hm) (nb n)
      · obtain ⟨l2, m0⟩ := (hQ.2.2.2.2.1 p hp).2.2.1 (by omega)
        cases hm : qM Q p 0 with
        | none => exact absurd hm m0
        | some n => exact absurd (hw 0 (by omega) n hm) (nb n)
  constructor
  · rintro ⟨z1, -, z3⟩
    exact ⟨funext fun j => z1 j (nb j), key.mp z3⟩
  · rintro ⟨z1, z2⟩
    exact ⟨fun j _ => by rw [z1], fun k hk => absurd hk (nb k), key.mpr z2⟩

