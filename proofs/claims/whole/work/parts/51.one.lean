/-- the slot c holds the meetings l of the names S -/
def SLT (Q : QST) (Z : Nat → Nat) (D : Nat → Nat → Int32) (S c : Nat) (l : List (Nat → Int32)) (u : xU) : Prop := ∀ j b, l[j]? = some b → ∃ m, u.2.1 (148 + c) j = nL m ∧ m < 2 ^ 36 ∧ SPT Q Z D S m b ∧ ∀ k, k < 6 → ¬ S.testBit k = true → spN m k = 0
def frE (i : Nat) (u u' : xU) : Prop := (∀ x, x ≠ 146 → x ≠ 150 → x ≠ 151 → u'.1 x = u.1 x) ∧ (∀ j, j ≠ i → u'.1 146 j = u.1 146 j) ∧ (∀ x, x ≠ 148 + i % 2 → u'.2.1 x = u.2.1 x) ∧ u'.2.2 = u.2.2
theorem frE.rf {i : Nat} {u : xU} : frE i u u := ⟨fun _ _ _ _ => rfl, fun _ _ => rfl, fun _ _ => rfl, rfl⟩
theorem frE.tr {i : Nat} {u v w : xU} (a : frE i u v) (b : frE i v w) : frE i u w := ⟨fun x h1 h2 h3 => (b.1 x h1 h2 h3).trans (a.1 x h1 h2 h3), fun j hj => (b.2.1 j hj).trans (a.2.1 j hj), fun x h1 => (b.2.2.1 x h1).trans (a.2.2.1 x h1), b.2.2.2.trans a.2.2.2⟩
theorem SPT_ext {Q : QST} {Z : Nat → Nat} {D : Nat → Nat → Int32} {S m k s : Nat} {a : Nat → Int32} {v : Int32} (h : SPT Q Z D S m a) (hm : m < 2 ^ 36) (hn : qN Q ≤ 6) (hk : k < qN Q) (hSk : ¬ S.testBit k = true) (hs : s < 64) (hz : s < Z k) (hv : D k s = v) (h0 : spN m k = 0) : SPT Q Z D (S ||| 2 ^ k) (xtm m s k) (setT a k v) := fun j hj => by
  obtain ⟨x1, x2, x3⟩ := xtm_sp hm hs (by omega) h0
  by_cases e : j = k
  · subst e
    rw [x2, setT_at]
    exact ⟨hk, hz, hv⟩
  · have hj' := (bit_add.mp hj).resolve_right e
    obtain ⟨y1, y2, y3⟩ := h j hj'
    rw [x3 j (by omega) e, setT_ne e]
    exact ⟨y1, y2, y3⟩
theorem setT_back {a : Nat → Int32} {k : Nat} {v : Int32} (h : a k = 0) : setT (setT a k v) k 0 = a := by
  funext j
  by_cases e : j = k
  · subst e; rw [setT_at, h]
  · rw [setT_ne e, setT_ne e]
theorem setT_fix {b : Nat → Int32} {k : Nat} : setT (setT b k 0) k (b k) = b := by
  funext j
  by_cases e : j = k
  · subst e; rw [setT_at]
  · rw [setT_ne e, setT_ne e]
/-- what extend ends with -/
def eoP (T : TBL) (Q : QST) (Z : Nat → Nat) (D : Nat → Nat → Int32) (S k i : Nat) (a : Nat → Int32) (l : List (Nat → Int32)) (u : xU) : Option Value → xM → Prop := fun r μ' => ∃ u', μ' = xmm u' ∧ frE i u u' ∧ ((r = some (.int (nI 1)) ∧ ∃ e, (l ++ e).Nodup ∧ (∀ b, b ∈ e ↔ MEM T Q (S ||| 2 ^ k) b ∧ setT b k 0 = a) ∧ (l ++ e).length ≤ 500 ∧ u'.1 146 i = nI (l ++ e).length ∧ SLT Q Z D (S ||| 2 ^ k) (i % 2) (l ++ e) u') ∨ (r = some (.int (nI 0)) ∧ ∃ x : List (Nat → Int32), x.Nodup ∧ x.length = 501 ∧ ∀ b, b ∈ x → MEM T Q (S ||| 2 ^ k) b))

