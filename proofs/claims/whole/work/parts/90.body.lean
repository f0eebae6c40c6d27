
/-- the ints at the start: the script alone -/
def i0 (L : Nat) (xs : Nat → Int32) : Nat → Nat → Int32 := fun a k => if a = 0 then (match k with | 0 => nI L | k + 1 => xs k) else 0
def F0m : Nat → Nat → Bool := fun c _ => mo c
def i1 (L : Nat) (xs : Nat → Int32) : Nat → Nat → Int32 := up2 (up2 (up2 (up2 (i0 L xs) 47 1 (-1)) 59 1 (-1)) 172 16 (-1)) 172 23 (-1)
theorem i1_0 (L : Nat) (xs : Nat → Int32) : i1 L xs 0 = i0 L xs 0 := by
  unfold i1
  rw [up2_ne (by decide), up2_ne (by decide), up2_ne (by decide), up2_ne (by decide)]
theorem i1_z {L : Nat} {xs : Nat → Int32} {a : Nat} (h0 : a ≠ 0) (h1 : a ≠ 47) (h2 : a ≠ 59) (h3 : a ≠ 172) (k : Nat) : i1 L xs a k = 0 := by
  unfold i1
  rw [up2_ne h3, up2_ne h3, up2_ne h2, up2_ne h1]
  exact if_neg h0
theorem i1_47 {L : Nat} {xs : Nat → Int32} : i1 L xs 47 0 = 0 ∧ i1 L xs 47 1 = -1 := by
  unfold i1
  rw [up2_ne (by decide), up2_ne (by decide), up2_ne (by decide)]
  exact ⟨by rw [up2_nek (by decide)]; rfl, up2_self⟩
theorem i1_59 {L : Nat} {xs : Nat → Int32} : i1 L xs 59 0 = 0 ∧ i1 L xs 59 1 = -1 := by
  unfold i1
  rw [up2_ne (by decide), up2_ne (by decide)]
  exact ⟨by rw [up2_nek (by decide), up2_ne (by decide)]; rfl, up2_self⟩
theorem i1_172 {L : Nat} {xs : Nat → Int32} : i1 L xs 172 16 = -1 ∧ i1 L xs 172 23 = -1 ∧ ∀ k, k ≠ 16 → k ≠ 23 → i1 L xs 172 k = 0 := by
  unfold i1
  refine ⟨by rw [up2_nek (by decide), up2_self], up2_self, fun k h1 h2 => ?_⟩
  rw [up2_nek h2, up2_nek h1, up2_ne (by decide), up2_ne (by decide)]
  rfl
/-- at the start both sides hold nothing -/
theorem LV_start (L : Nat) (xs : Nat → Int32) : LV (i1 L xs, fun _ _ => 0, none) := by
  refine ⟨(fun _ => 0, fun _ => 0, fun _ _ _ => 0), (0, 0, fun _ => 0, fun _ => 0, fun _ => 0, fun _ _ => none, fun _ _ => 0, fun i => i), (0, none, 0, fun _ => 0, fun _ => none, fun _ _ => 0), (0, none), ⟨?_, ?_, ?_, ?_, ?_⟩, ⟨?_, ?_, ?_, ?_⟩, ⟨?_, ?_, ?_, ?_⟩⟩
  · exact fun t _ => ⟨Nat.zero_le _, Nat.zero_le _, fun _ => rfl, fun _ _ _ _ _ => rfl, fun i j _ h => absurd h (Nat.not_lt_zero _)⟩
  · exact ⟨Nat.zero_le _, Nat.zero_le _, Nat.zero_le _, fun _ => rfl, fun p h => absurd h (Nat.not_lt_zero _), fun i h => absurd h (Nat.not_lt_zero _), fun i j h => absurd h (Nat.not_lt_zero _), fun i h => absurd h (Nat.not_lt_zero _)⟩
  · exact ⟨⟨Nat.zero_le _, fun l h => by cases h⟩, Nat.zero_le _, fun p h => absurd h (Nat.not_lt_zero _), fun _ => rfl⟩
  · exact fun l h => by cases h
  · exact ⟨⟨Nat.zero_le _, fun l h => by cases h⟩, fun h => absurd rfl h⟩
  · exact fun t ht => ⟨i1_z (by omega) (by omega) (by omega) (by omega) 0, i1_z (by omega) (by omega) (by omega) (by omega) 1, fun i c h => absurd h (Nat.not_lt_zero _)⟩
  · exact ⟨i1_z (L := L) (xs := xs) (a := 3) (by decide) (by decide) (by decide) (by decide) 0, i1_z (L := L) (xs := xs) (a := 3) (by decide) (by decide) (by decide) (by decide) 1, i1_z (L := L) (xs := xs) (a := 3) (by decide) (by decide) (by decide) (by decide) 4, fun i h => absurd h (Nat.not_lt_zero _), fun p h => absurd h (Nat.not_lt_zero _)⟩
  · exact ⟨i1_47 (L := L) (xs := xs), fun l h => by cases h⟩
  · exact i1_59 (L := L) (xs := xs)
  · exact fun t ht => ⟨i1_z (L := L) (xs := xs) (a := 173) (by decide) (by decide) (by decide) (by decide) t, i1_z (L := L) (xs := xs) (a := 174) (by decide) (by decide) (by decide) (by decide) t, fun i c h => absurd h (Nat.not_lt_zero _)⟩
  · exact ⟨(i1_172 (L := L) (xs := xs)).2.2 3 (by decide) (by decide), (i1_172 (L := L) (xs := xs)).2.2 4 (by decide) (by decide), fun i h => absurd h (Nat.not_lt_zero _), fun p h => absurd h (Nat.not_lt_zero _)⟩
  · exact ⟨(i1_172 (L := L) (xs := xs)).2.2 15 (by decide) (by decide), (i1_172 (L := L) (xs := xs)).1, fun l h => by cases h⟩
  · exact ⟨(i1_172 (L := L) (xs := xs)).2.2 22 (by decide) (by decide), (i1_172 (L := L) (xs := xs)).2.1, fun l h => by cases h⟩
theorem mOK_start (L : Nat) (xs : Nat → Int32) : mOK 0 (i0 L xs) F0m := ⟨fun c k h => Or.inr h, fun c k h => h, fun c k h => if_neg (Nat.ne_of_gt h)⟩
/-- the law's body: it ends with 1, 195 cells made -/
theorem lw_body {L : Nat} (hL : L ≤ 2560) (xs : Nat → Int32) : xE mL_law 0 [(0, .ref 0)] [] (MM 0 (i0 L xs) F0m) (fun r μ => r = some (.int 1) ∧ μ.1 = 195) := by
  have ok := mOK_start L xs
  refine cc_new dL_law_0 rfl kL_7 xinst9 xini9 1 rfl sh1 rfl ok (fun ok => ?_)
  refine xe_dup dL_law_3 rfl ?_
  refine cc_call (ct1 ok) (fun q => xe_callI (As := []) (rest := [.ref 1]) dL_law_4 wX9_init lL_9 iX9_init rfl rfl ⟨by decide, by decide⟩ rfl rfl (by simp [Value.category]) q) (fun F1 ok l1 n1 => ?_)
  refine xe_astore_n (L2 := [(0, .ref 0), (1, .ref 1)]) dL_law_7 rfl (by decide) rfl ?_
  refine cc_new dL_law_8 rfl kL_10 xinst10 xini10 172 rfl sh172 rfl ok (fun ok => ?_)
  refine xe_dup dL_law_11 rfl ?_
  refine cc_call (ct172 ok) (fun q => xe_callI (As := []) (rest := [.ref 172]) dL_law_12 wX10_init lL_12 iX10_init rfl rfl ⟨by decide, by decide⟩ rfl rfl (by simp [Value.category]) q) (fun F2 ok l2 n2 => ?_)
  refine xe_astore_n (L2 := [(0, .ref 0), (1, .ref 1), (2, .ref 172)]) dL_law_15 rfl (by decide) rfl ?_
  have hD : mDn F2 1 195 := fun c k h1 h2 h3 => if h : c ≤ 171 then l2 c k (n1 c k h1 h h3) else n2 c k (by omega) h2 h3
  rw [MM_xmm hD]
  refine xe_iconst (v := nI 0) dL_law_16 xc0 ?_
  refine xe_istore_n (L2 := [(0, .ref 0), (1, .ref 1), (2, .ref 172), (3, .int (nI 0))]) dL_law_17 rfl (by decide) rfl ?_
  exact lw_loop (Z := i0 L xs 0) (N := L) rfl hL (fun u => ⟨rfl, rfl⟩) L 0 _ (Or.inl (Nat.zero_add _).symm) (Nat.zero_le _) (i1_0 L xs) (LV_start L xs)

