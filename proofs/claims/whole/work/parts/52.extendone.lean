theorem qX7_extendOne {u : xU} {T : TBL} {Q : QST} (hT : TI T) (hQ : QI T Q) (h : CQ T Q u) {Z : Nat → Nat} {D : Nat → Nat → Int32} (hpre : PRE T Q Z D u) {S m k i : Nat} {a : Nat → Int32} (hS : S < 64) (hm : m < 2 ^ 36) (hk : k < qN Q) (hSk : ¬ S.testBit k = true) (hh : fH Q k < qP Q) (hs : SPT Q Z D S m a) (hz : ∀ j, j < 6 → ¬ S.testBit j = true → spN m j = 0) (ha : MEM T Q S a) (hag : AGS T Q S a m u) (hi : i ≤ 6) {l : List (Nat → Int32)} (hn : l.Nodup) (hl : ∀ b, b ∈ l → MEM T Q (S ||| 2 ^ k) b ∧ setT b k 0 ≠ a) (h5 : l.length ≤ 500) (hc : u.1 146 i = nI l.length) (hsl : SLT Q Z D (S ||| 2 ^ k) (i % 2) l u) : xC mX7_extendOne [.ref 74, .ref 3, .int (nI i), .long (nL m), .int (nI (S ||| 2 ^ k)), .int (nI k)] (xmm u) (eoP T Q Z D S k i a l u) := by
  have hp10 := hQ.2.1
  have hn6 := hQ.1
  refine xC.of xpl7 (Nat.le_of_ble_eq_true rfl) (gX7_extendOne_0 u i (S ||| 2 ^ k) k _ (by omega) ?_)
  refine (qX7_narrowest hT hQ h hk hh hag.2).mono ?_
  rintro r μ' ⟨p, p1, p2, p3, rfl, rfl⟩
  sorry

