/-! THE CLAIM OUT OF ONE WALK OF THE LAW'S BODY. Your part is whole_start (and what it stands on); all else here is the same for every law, but numbers. -/
def R_law : String := "JoinLoomLaw"
def lw_P (b : Addr) (xs : List Int32) (args : Array Value) (s : State) : Prop := args = #[.ref b] ∧ s.IntsAt b xs ∧ xs.length ≤ 2560 ∧ (Jvm.Cond.and given_1 narrow_1).before args s = true
def lw_Q (_ : Array Value) (s : State) (o : Outcome) (t : State) : Prop := o = .returned (some (.int 1)) ∧ Framed s o t [] 600000 7302250
def lw_Z (below : List Frame) (a : Array Value) (s : State) : State → Prop := fun t => ∃ o, t.status = .running ∧ Ended t below o ∧ lw_Q a s o t
/-- the law's own end, with 1 on the stack, nothing written that was there before, its room as the claim has it -/
theorem lw_ret {p : Program} {l : Launch} {e : Env} {s : State} {m : MethodId} {below : List Frame} {meth : Method} {c : Code} {b : Nat} (hx : p.tables.exec = Jvm.exec) (hb : c.code = code) (hr : meth.sig.returnType = ret) (hlocks : meth.locks = false) {pc : Nat} {H : Heap} {ls : Array Slot} (hdg : decode code pc = .ok (.ireturn, 1)) : W p l e room_1 s m #[Value.ref b] below meth c H [] 600000 7302250 (lw_Z below #[Value.ref b] s) (F0 m pc ls [.int 1]) := by
  intro T hT X
  obtain ⟨fs, hret, hrun, hended, hW, hframe⟩ := X.leave (v := some (.int 1)) (hlocks := hlocks) (fun h => by rw [hr] at h; cases h)
  have hmeth' : T.vm.method? m = some meth := X.method'
  refine ⟨T.setFrames fs, ?_, .returned (some (.int 1)), hrun, hended, rfl, ⟨_, rfl⟩, hW, hframe⟩
  jvm_step X.here [X.here.top, hx, hb, hdg, hmeth', hr, ret, narrow_b1]
  (try refine ⟨rfl, ?_⟩); (try refine ⟨rfl, ?_⟩)
  first | (intro acts; rw [hret _ acts rfl rfl rfl]) | rw [hret _ _ rfl rfl rfl]
  exact Steps.refl _
/-- what holds at the law's entry: the machine, the code, the tables' words (any of lw_tbl by 'hts w (by decide +kernel)'), the script of L ints xs at the cell b, what the Statement gives of the start (any of its parts by flat_of_before) -/
def lw_At (p : Program) (s : State) (m : MethodId) (meth : Method) (c : Code) (b L : Nat) (xs : Nat → Int32) : Prop :=
  p.tables.exec = Jvm.exec ∧ c.code = code ∧ meth.sig.returnType = ret ∧ c.maxLocals = 4 ∧ s.vm.findClass R_law = some m.cls ∧ (∀ w ∈ lw_tbl, w.before #[Value.ref b] s = true) ∧ va_X b L xs s s.heap ∧ b < s.heap.size ∧ meth.locks = false ∧ (Jvm.Cond.and given_1 narrow_1).before #[Value.ref b] s = true ∧ meth.name = "law"

theorem arr_p {s : State} {args : Array Value} {ty : FieldType} (h : (Cond.arrayClass ty).before args s = true) (hr : ∀ cA : ClassId, s.vm.findClass ("[" ++ ty.toString) = some cA → va_RA s cA ty) : ∃ cA : ClassId, ArrOfT s cA ty ∧ va_RA s cA ty := by
  obtain ⟨c, k, comp, h1, h2, h3⟩ := Cond.arrayClass_spec h
  exact ⟨c, fun n z => ⟨fun k h => (by cases h), k, h2, comp, h3⟩, hr c h1⟩
theorem arr_o {s : State} {args : Array Value} {C : String} (h : (Cond.arrayOver (.object C)).before args s = true) : ∃ cA : ClassId, ArrOfT s cA (.object C) ∧ va_RA s cA (.object C) := by
  obtain ⟨comp, c, k, h1, h2, h3, h4, h5⟩ := Cond.arrayOver_spec h
  exact ⟨c, fun n z => ⟨fun k h => (by cases h), k, h3, comp, h4⟩, k, comp, h3, h4, h1, h5⟩
theorem arr_a {s : State} {args : Array Value} {t : FieldType} (h : (Cond.arrayOver (.array t)).before args s = true) : ∃ cA : ClassId, ArrOfT s cA (.array t) ∧ va_RA s cA (.array t) := by
  obtain ⟨comp, c, k, h1, h2, h3, h4⟩ := Cond.arrayOver_specA h
  exact ⟨c, fun n z => ⟨fun k h => (by cases h), k, h2, comp, h3⟩, h4⟩
theorem arr_k {s : State} {args : Array Value} (hts : ∀ w ∈ xTB, w.before args s = true) (hN : ∀ w ∈ xNL, w.before args s = true) (k : Nat) : ∃ cA : ClassId, 50 ≤ k → k ≤ 56 → ArrOfT s cA (xET k) ∧ va_RA s cA (xET k) := by
  by_cases h : 50 ≤ k ∧ k ≤ 56
  · have : k = 50 ∨ k = 51 ∨ k = 52 ∨ k = 53 ∨ k = 54 ∨ k = 55 ∨ k = 56 := by omega
    rcases this with rfl | rfl | rfl | rfl | rfl | rfl | rfl
    · obtain ⟨c, h⟩ := arr_p (hts _ xac_int) (fun _ q => q)
      exact ⟨c, fun _ _ => h⟩
    · obtain ⟨c, h⟩ := arr_p (hts _ xac_long) (fun _ q => q)
      exact ⟨c, fun _ _ => h⟩
    · obtain ⟨c, h⟩ := arr_p (hts _ xac_boolean) (fun _ q => q)
      exact ⟨c, fun _ _ => h⟩
    · obtain ⟨c, h⟩ := arr_o (hN _ xao_X6)
      exact ⟨c, fun _ _ => h⟩
    · obtain ⟨c, h⟩ := arr_o (hN _ xao_X3)
      exact ⟨c, fun _ _ => h⟩
    · obtain ⟨c, h⟩ := arr_a (hN _ xao_int)
      exact ⟨c, fun _ _ => h⟩
    · obtain ⟨c, h⟩ := arr_a (hN _ xao_long)
      exact ⟨c, fun _ _ => h⟩
  · exact ⟨0, fun a b => absurd ⟨a, b⟩ h⟩
theorem cls_k {s : State} {args : Array Value} (hts : ∀ w ∈ xTB, w.before args s = true) (c : Nat) : ∃ (cC : ClassId) (iS : Nat → Nat), ∀ q : vw_C, xCl[c]? = some q → u_Kn s q.1 q.2.1 q.2.2 cC iS := by
  match c with
  | 0 => obtain ⟨a, b, h⟩ := u_known hts xlay0 (hts _ xinst0); exact ⟨a, b, fun q hq => by cases hq; exact h⟩
  | 1 => obtain ⟨a, b, h⟩ := u_known hts xlay1 (hts _ xinst1); exact ⟨a, b, fun q hq => by cases hq; exact h⟩
  | 2 => obtain ⟨a, b, h⟩ := u_known hts xlay2 (hts _ xinst2); exact ⟨a, b, fun q hq => by cases hq; exact h⟩
  | 3 => obtain ⟨a, b, h⟩ := u_known hts xlay3 (hts _ xinst3); exact ⟨a, b, fun q hq => by cases hq; exact h⟩
  | 4 => obtain ⟨a, b, h⟩ := u_known hts xlay4 (hts _ xinst4); exact ⟨a, b, fun q hq => by cases hq; exact h⟩
  | 5 => obtain ⟨a, b, h⟩ := u_known hts xlay5 (hts _ xinst5); exact ⟨a, b, fun q hq => by cases hq; exact h⟩
  | 6 => obtain ⟨a, b, h⟩ := u_known hts xlay6 (hts _ xinst6); exact ⟨a, b, fun q hq => by cases hq; exact h⟩
  | 7 => obtain ⟨a, b, h⟩ := u_known hts xlay7 (hts _ xinst7); exact ⟨a, b, fun q hq => by cases hq; exact h⟩
  | 8 => obtain ⟨a, b, h⟩ := u_known hts xlay8 (hts _ xinst8); exact ⟨a, b, fun q hq => by cases hq; exact h⟩
  | 9 => obtain ⟨a, b, h⟩ := u_known hts xlay9 (hts _ xinst9); exact ⟨a, b, fun q hq => by cases hq; exact h⟩
  | 10 => obtain ⟨a, b, h⟩ := u_known hts xlay10 (hts _ xinst10); exact ⟨a, b, fun q hq => by cases hq; exact h⟩
  | k + 11 => exact ⟨0, fun _ => 0, fun q hq => by simp [xCl] at hq⟩
theorem xK_start {s : State} {args : Array Value} (hts : ∀ w ∈ xTB, w.before args s = true) (hN : ∀ w ∈ xNL, w.before args s = true) : ∃ (D : va_G) (ca : Nat → ClassId), va_K D xCl [(ca 50, xET 50), (ca 51, xET 51), (ca 52, xET 52), (ca 53, xET 53), (ca 54, xET 54), (ca 55, xET 55), (ca 56, xET 56)] s := by
  have h1 : ∀ c, ∃ q : ClassId × (Nat → Nat), ∀ r : vw_C, xCl[c]? = some r → u_Kn s r.1 r.2.1 r.2.2 q.1 q.2 := fun c => by
    obtain ⟨a, b, h⟩ := cls_k hts c
    exact ⟨(a, b), h⟩
  refine ⟨(fun c => (Classical.choose (h1 c)).1, fun c => (Classical.choose (h1 c)).2), fun k => Classical.choose (arr_k hts hN k), fun c q hq => Classical.choose_spec (h1 c) q hq, fun k q hk => ?_⟩
  have h2 := fun k a b => Classical.choose_spec (arr_k hts hN k) a b
  match k, hk with
  | 0, hk => cases hk; exact h2 50 (by decide) (by decide)
  | 1, hk => cases hk; exact h2 51 (by decide) (by decide)
  | 2, hk => cases hk; exact h2 52 (by decide) (by decide)
  | 3, hk => cases hk; exact h2 53 (by decide) (by decide)
  | 4, hk => cases hk; exact h2 54 (by decide) (by decide)
  | 5, hk => cases hk; exact h2 55 (by decide) (by decide)
  | 6, hk => cases hk; exact h2 56 (by decide) (by decide)
  | k + 7, hk => simp at hk
theorem xN_start {s : State} {args : Array Value} (hN : ∀ w ∈ xNL, w.before args s = true) : xN s := fun w hw => by
  have h1 := hN w hw
  have h2 := (List.mem_filter.mp hw).2
  cases w <;> first | exact va_Nw.of rfl h1 | (cases h2; done) | exact h1
theorem whole_start {p : Program} {e : Env} {s : State} {m : MethodId} {below : List Frame} {meth : Method} {c : Code} (l : Launch) (hflags : l.flags = flags0) {b L : Nat} {xs : Nat → Int32} (hL : L ≤ 2560) (C0 : lw_At p s m meth c b L xs) : W p l e room_1 s m #[Value.ref b] below meth c s.heap [] 0 0 (lw_Z below #[Value.ref b] s) (entryFrame m ([Value.ref b] : List Value).toArray 4) := by
  obtain ⟨hexec, hcode, hret, hml, hown, hts, hX, hbl, hlk, -, hnm⟩ := C0
  have hTB : ∀ w ∈ xTB, w.before #[Value.ref b] s = true := fun w hw => hts w (xTB_lw hw)
  have hNL : ∀ w ∈ xNL, w.before #[Value.ref b] s = true := fun w hw => hts w (List.mem_append_right _ (List.mem_filter.mp hw).1)
  obtain ⟨D, ca, hK⟩ := xK_start hTB hNL
  obtain ⟨r, μ', ⟨rfl, hn⟩, h1, h2, h3, h4⟩ := lw_body hL xs
  have hC : xCx mL_law p room_1 s m #[Value.ref b] meth c (b, s.heap.size, L, xs, D, ca) := ⟨⟨hexec, hcode, hml, hown, hTB⟩, ⟨Nat.le_refl _, Nat.le_refl _⟩, ⟨hK, hbl, xN_start hNL⟩, hX, hnm, Nat.le_refl _⟩
  have hR : xR (b, s.heap.size, L, xs, D, ca) (MM 0 (i0 L xs) F0m) s.heap := ⟨rfl, fun k q hk => by simp [xW, MM] at hk, hL, rfl, fun i => rfl⟩
  have hl := lv_entry ([Value.ref b] : List Value) (n := 4) (Nat.le_of_ble_eq_true rfl)
  have hend : xEnd mL_law p l e room_1 s m #[Value.ref b] below meth c (b, s.heap.size, L, xs, D, ca) 0 (some (.int 1)) μ' (lw_Z below #[Value.ref b] s) := by
    intro H locs pc ls gR gS gd
    rw [hn]
    refine va_forget gS.2.2 ?_
    refine W.widen (k := 600000) (n := 7302250) (by decide) (by decide +kernel) ?_
    exact lw_ret hexec hcode hret hlk gd
  have key := h4 p l e room_1 s m #[Value.ref b] below meth c (b, s.heap.size, L, xs, D, ca) 0 (lw_Z below #[Value.ref b] s) hC (by rw [hn]; exact ⟨by decide, by decide +kernel⟩) ⟨Nat.le_refl _, Nat.le_refl _⟩ hend s.heap [] _ hR va_S.rf hl
  rw [lg_entry_eq]
  exact key

