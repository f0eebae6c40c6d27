theorem xlg_len (g : xG) (vs : List Value) : (lg_sl (vs.map (xup g))).length = (lg_sl vs).length := by
  induction vs with
  | nil => rfl
  | cons v vs ih =>
    simp only [lg_sl, List.map_cons, List.flatMap_cons, List.length_append, xup_cat] at ih ⊢
    rw [ih]
    by_cases h : v.category = 2 <;> simp [h]
theorem xlv_args (g : xG) : ∀ (vs : List Value) (i : Nat), lv_args i (vs.map (xup g)) = (lv_args i vs).map (fun q => (q.1, xup g q.2))
  | [], _ => rfl
  | v :: vs, i => by
    simp only [List.map_cons, lv_args, xup_cat]
    rw [xlv_args g vs]
theorem xok_narrow {v : Int32} (h : v = 0 ∨ v = 1) : narrow .boolean (.int v) = .int v := by
  rcases h with rfl | rfl <;> rfl
/-- a whole run out of a body's run -/
theorem xMt.of {M : xD} {as : List Value} {μ μ' : xM} {r : Option Value} (hpl : plainName M.1.cls = true) (hlen : (lg_sl as).length ≤ M.2.2.1) (h : xWk M 0 (lv_args 0 as) [] μ r μ') : xMt M as μ r μ' := by
  obtain ⟨h1, h2, h3, h4⟩ := h
  refine ⟨h1, h2, h3, fun l g => Met.ofW (cc := M.2.1) (maxL := M.2.2.1) (ret := M.2.2.2.1) hpl rfl ?_⟩
  intro p e s m args below meth c s₁ B hml hv
  obtain ⟨rfl, hR, hK, hX⟩ := hv
  have hts := atoms_spec (ws := Cond.code M.1 M.2.1 M.2.2.1 M.2.2.2.1 :: xTB) B.pre
  have hin := (name_of_methodNamed B.named B.method).1
  have hb0 : g.2.1 ≤ s.heap.size := by rw [hR.1]; exact Nat.le_add_right _ _
  have hC : xCx M p (headSpec (Cond.code M.1 M.2.1 M.2.2.1 M.2.2.2.1 :: xTB) (xrm M (μ'.1 - μ.1) (xtot μ'.1 - xtot μ.1))).room s m (as.map (xup g)).toArray meth c g := ⟨⟨B.exec, B.bytes, hml, findClass_of_methodNamed B.named, fun w hw => hts w (List.mem_cons_of_mem _ hw)⟩, ⟨Nat.le_refl _, Nat.le_refl _⟩, hK, hX, hin, hb0⟩
  have hl := lv_entry (as.map (xup g)) (n := M.2.2.1) (by rw [xlg_len]; exact hlen)
  rw [xlv_args] at hl
  rw [lg_entry_eq]
  have hr := B.returns
  have hlocks := B.notSynchronized
  have hend : xEnd M p l e (headSpec (Cond.code M.1 M.2.1 M.2.2.1 M.2.2.2.1 :: xTB) (xrm M (μ'.1 - μ.1) (xtot μ'.1 - xtot μ.1))).room s m (as.map (xup g)).toArray below meth c g μ.1 r μ' (MQ below (xQc g r μ') (as.map (xup g)).toArray s (μ'.1 - μ.1) (xtot μ'.1 - xtot μ.1) (xA g)) := by
    intro H locs pc ls gR gS gd
    have hq : ∀ t : State, t.heap = H → s.WarmedH t.vm → xQc g r μ' (as.map (xup g)).toArray s (.returned (r.map (xup g))) t := fun t ht hW => ⟨rfl, by rw [ht]; exact gR, gS.F ht⟩
    obtain ⟨nm, cc, ml, rt, fr, lo⟩ := M
    dsimp only at h3 gd hr hC
    match rt, r, h3 with
    | none, none, _ => exact W.vret hC.1.1 hC.1.2.1 hr hq gS.2.2 gd
    | some .int, some (.int v), _ => exact W.iret hC.1.1 hC.1.2.1 hr hq gS.2.2 gd
    | some .boolean, some (.int v), h3 => exact W.zret hC.1.1 hC.1.2.1 hr (xok_narrow h3) hq gS.2.2 gd
    | some .long, some (.long v), _ => exact W.lret hC.1.1 hC.1.2.1 hr hq gS.2.2 gd
    | some (.object n), some .null, _ => exact W.aret hC.1.1 hC.1.2.1 hr (Or.inl ⟨n, rfl⟩) (Or.inl rfl) hq gS.2.2 gd
    | some (.object n), some (.ref a), _ => exact W.aret hC.1.1 hC.1.2.1 hr (Or.inl ⟨n, rfl⟩) (Or.inr ⟨_, rfl⟩) hq gS.2.2 gd
  have key := h4 p l e _ s m _ below meth c g μ.1 _ hC ⟨Nat.le_refl _, Nat.le_refl _⟩ ⟨Nat.le_refl _, Nat.le_refl _⟩ hend s.heap [] _ hR va_S.rf hl
  rw [Nat.sub_self, Nat.sub_self] at key
  exact key
theorem xC.of {M : xD} {as : List Value} {μ : xM} {Q : Option Value → xM → Prop} (hpl : plainName M.1.cls = true) (hlen : (lg_sl as).length ≤ M.2.2.1) (h : xE M 0 (lv_args 0 as) [] μ Q) : xC M as μ Q := by
  obtain ⟨r, μ', hq, hw⟩ := h
  exact ⟨r, μ', hq, xMt.of hpl hlen hw⟩
theorem xPc_blind {g : xG} {as : List Value} {μ : xM} : FrameBlind (xPc g as μ) := fun a U gf mk q => by
  obtain ⟨q0, qR, qK, qX⟩ := q
  exact ⟨q0, qR, xK.same (u := U) (U := U.calling gf mk a) rfl qK, va_X.moved (u := U) (U := U.calling gf mk a) (Vm.Alike.refl U.vm) qX⟩
section XQ
variable {M : xD} {p : Program} {l : Launch} {e : Env} {R : Room} {s : State} {m : MethodId} {args : Array Value} {below : List Frame} {meth : Method} {c : Code} {g : xG} {H : Heap} {locs : List Loc} {cells slots : Nat} {ls : Array Slot} {μ : xM}
theorem xPc_at (C : xCx M p R s m args meth c g) (hR : xR g μ H) (hS : va_S (xA g) s.heap H locs) (as : List Value) : ∀ U : State, U.heap = H → s.WarmedH U.vm → xPc g as μ (as.map (xup g)).toArray U := fun U hU hW => by
  obtain ⟨-, -, hK, hX, -, hb⟩ := C
  have h1 : g.1 < s.heap.size := Nat.lt_of_lt_of_le hK.2.1 hb
  exact ⟨rfl, by rw [hU]; exact hR, xK.warm hW hK, by rw [hU]; exact va_X.moved hW.alike (va_X.kept hX (hS.2.1 g.1 h1 (Nat.not_le.mpr hK.2.1)))⟩
end XQ
/-- behind a call -/
theorem xE.call {M M' : xD} {pc : Nat} {L : List (Nat × Value)} {st rest as : List Value} {μ : xM} {Q : Option Value → xM → Prop} (h : xC M' as μ (fun r μ1 => xE M (pc + 3) L (r.toList ++ rest) μ1 Q))
    (run : ∀ (p : Program) (l : Launch) (e : Env) (R : Room) (s : State) (m : MethodId) (args : Array Value) (below : List Frame) (meth : Method) (c : Code) (g : xG) (H : Heap) (locs : List Loc) (cells slots : Nat) (ls : Array Slot) (mc ms : Nat) (Qc : Array Value → State → Outcome → State → Prop),
      xCx M p R s m args meth c g → xR g μ H → va_S (xA g) s.heap H locs → lv_has ls M.2.2.1 (L.map fun q => (q.1, xup g q.2)) → Met l M'.1 (.code M'.1 M'.2.1 M'.2.2.1 M'.2.2.2.1 :: xTB) (xrm M' mc ms) (xPc g as μ) Qc mc ms (xA g) → cells + mc ≤ R.cells ∧ slots + ms ≤ R.slots →
      va_Run p l e R s m args below meth c H locs cells slots mc ms (F0 m pc ls (st.map (xup g))) (rest.map (xup g)) (Qc (as.map (xup g)).toArray) (xA g)) : xE M pc L st μ Q := by
  obtain ⟨r1, μ1, ⟨r, μ', hq, w1, w2, w3, w4⟩, c1, c2, c3, c4⟩ := h
  refine ⟨r, μ', hq, Nat.le_trans c1 w1, Nat.le_trans c2 w2, w3, fun p l e R s m args below meth c g n0 Qf C hr hn he H locs ls hR hS hl => ?_⟩
  have run := run p l e R s m args below meth c g H locs (μ.1 - n0) (xtot μ.1 - xtot n0) ls _ _ _ C hR hS hl (c4 l g) (by omega)
  intro T hT X
  obtain ⟨v, st₀, t, T', Lc, h0, X', hL, e1, e2, ⟨hv, hR1, hF⟩, stp⟩ := run T hT X
  cases hv
  rw [show μ.1 - n0 + (μ1.1 - μ.1) = μ1.1 - n0 by omega, show xtot μ.1 - xtot n0 + (xtot μ1.1 - xtot μ.1) = xtot μ1.1 - xtot n0 by omega] at X'
  have hF1 := hF.1
  have hF2 := hF.2
  rw [h0] at hF1 hF2
  have hS1 : va_S (xA g) s.heap t.heap (locs ++ Lc) := ⟨Nat.le_trans hS.1 hF1, fun q g1 g2 => (hF2 q (Nat.lt_of_lt_of_le g1 hS.1) g2).trans (hS.2.1 q g1 g2), fun q hq => by
    rcases List.mem_append.mp hq with h | h
    · exact hS.2.2 q h
    · exact hL q h⟩
  have key := w4 p l e R s m args below meth c g n0 Qf C hr ⟨Nat.le_trans hn.1 c1, Nat.le_trans hn.2 c2⟩ he t.heap (locs ++ Lc) ls hR1 hS1 hl T' e1 X'
  obtain ⟨t2, a1, b1⟩ := key
  refine ⟨t2, stp t2 ?_, b1⟩
  cases r1 with
  | none => exact a1
  | some v => exact a1
def xPar (M' : xD) (n : Nat) : Prop := M'.1.cls ≠ "java/lang/invoke/MethodHandle" ∧ M'.1.cls ≠ "java/lang/invoke/VarHandle" ∧ (parseMethodDescriptor M'.1.desc).map (fun d => d.parameters.length) = some n
/-- what the words say of a method -/
def xMw (M' : xD) (n : Nat) : Prop := Cond.code M'.1 M'.2.1 M'.2.2.1 M'.2.2.2.1 ∈ xTB ∧ Cond.initialized M'.1.cls ∈ xTB ∧ xPar M' n
theorem xMw.good {M' : xD} {n : Nat} (h : xMw M' n) : GoodIn xTB (.code M'.1 M'.2.1 M'.2.2.1 M'.2.2.2.1 :: xTB) := fun w hw => by
  rcases List.mem_cons.mp hw with rfl | hw
  · exact xTB_good _ h.1
  · exact xTB_good _ hw
/-- the callee's room is within the caller's -/
def xRo (M M' : xD) : Prop := M'.2.2.2.2.1 + 1 ≤ M.2.2.2.2.1 ∧ 8 + (M'.2.2.1 + 11) + M'.2.2.2.2.2 ≤ M.2.2.2.2.2
section XC
variable {M M' : xD} {pc : Nat} {L : List (Nat × Value)} {st rest As : List Value} {μ : xM} {Q : Option Value → xM → Prop} {a idx ci N n : Nat} {T : u_T} {host : String}
theorem xcats {g : xG} {st : List Value} (h : (st.map fun v => v.category).sum ≤ 8) : ((st.map (xup g)).map fun v => v.category).sum ≤ 8 := by
  rw [List.map_map, show ((fun v : Value => v.category) ∘ xup g) = (fun v : Value => v.category) from funext (xup_cat g)]
  exact h
theorem xe_callV (hd : decode M.2.1 pc = .ok (.invokevirtual idx, 3)) (hw : xMw M' n) (hl2 : Cond.methodLink M.1.cls idx M'.1 ∈ xTB) (hi2 : Cond.instanceMethod M'.1 ∈ xTB) (hs2 : Cond.selects M'.1.cls M'.1 M'.1 ∈ xTB) (hro : xRo M M') (hs : xSH a = (ci, N)) (hc : xCl[ci]? = some (M'.1.cls, T, N)) (ha : xin μ a) (hn : As.length = n) (hst : st = As.reverse ++ .ref a :: rest) (h8 : (rest.map fun v => v.category).sum ≤ 8) (h : xC M' (.ref a :: As) μ (fun r μ1 => xE M (pc + 3) L (r.toList ++ rest) μ1 Q)) : xE M pc L st μ Q := by
  subst hst
  refine xE.call h fun p l e R s m args below meth c g H locs cells slots ls mc ms Qc C hR hS hl hM hf => ?_
  have cb := callB_of (R := R) (s := s) (args := args) (mc := mc) (ms := ms) (rm := xrm M' mc ms) n C.1.2.2.2.2 hw.good rfl rfl rfl (C.1.2.2.2.2 _ hw.2.1) (C.1.2.2.2.2 _ hl2) hw.2.2 ⟨Nat.le_trans hro.1 C.2.1.1, Nat.le_trans hro.2 C.2.1.2⟩
  exact va_runV (As := As.map (xup g)) (n := n) (b := xad g a) ⟨C.1.1, C.1.2.1, C.1.2.2.1, C.1.2.2.2.1, C.1.2.2.2.2⟩ hM ⟨cb, C.1.2.2.2.2 _ hi2, C.1.2.2.2.2 _ hs2⟩ ⟨xPc_blind, va_recv C.2.2.1.1 hR.2.1 hc (xW_obj ha hs (xcls ci _ hc).1), xPc_at C hR hS (.ref a :: As)⟩ rfl (by rw [List.length_map]; exact hn) hl.1 (by simp [xup]) (lv_room (xcats h8)) hd hf
theorem xe_callS (hd : decode M.2.1 pc = .ok (.invokestatic idx, 3)) (hw : xMw M' n) (hl2 : Cond.methodLink M.1.cls idx M'.1 ∈ xTB) (hi2 : Cond.static M'.1 ∈ xTB) (hro : xRo M M') (hn : As.length = n) (hst : st = As.reverse ++ rest) (h8 : (rest.map fun v => v.category).sum ≤ 8) (h : xC M' As μ (fun r μ1 => xE M (pc + 3) L (r.toList ++ rest) μ1 Q)) : xE M pc L st μ Q := by
  subst hst
  refine xE.call h fun p l e R s m args below meth c g H locs cells slots ls mc ms Qc C hR hS hl hM hf => ?_
  have cb := callB_of (R := R) (s := s) (args := args) (mc := mc) (ms := ms) (rm := xrm M' mc ms) n C.1.2.2.2.2 hw.good rfl rfl rfl (C.1.2.2.2.2 _ hw.2.1) (C.1.2.2.2.2 _ hl2) hw.2.2 ⟨Nat.le_trans hro.1 C.2.1.1, Nat.le_trans hro.2 C.2.1.2⟩
  exact va_runS (As := As.map (xup g)) (n := n) ⟨C.1.1, C.1.2.1, C.1.2.2.1, C.1.2.2.2.1, C.1.2.2.2.2⟩ hM ⟨cb, C.1.2.2.2.2 _ hi2⟩ ⟨xPc_blind, xPc_at C hR hS As⟩ rfl (by rw [List.length_map]; exact hn) hl.1 (by simp) (lv_room (xcats h8)) hd hf
theorem xe_callI (hd : decode M.2.1 pc = .ok (.invokespecial idx, 3)) (hw : xMw M' n) (hl2 : Cond.methodLink M.1.cls idx M'.1 ∈ xTB) (hi2 : Cond.instanceMethod M'.1 ∈ xTB) (hi : M'.1.name = "<init>") (hv : M'.2.2.2.1 = none) (hro : xRo M M') (hn : As.length = n) (hst : st = As.reverse ++ .ref a :: rest) (h8 : (rest.map fun v => v.category).sum ≤ 8) (h : xC M' (.ref a :: As) μ (fun r μ1 => xE M (pc + 3) L (r.toList ++ rest) μ1 Q)) : xE M pc L st μ Q := by
  subst hst
  refine xE.call h fun p l e R s m args below meth c g H locs cells slots ls mc ms Qc C hR hS hl hM hf => ?_
  have cb := callB_of (R := R) (s := s) (args := args) (mc := mc) (ms := ms) (rm := xrm M' mc ms) n C.1.2.2.2.2 hw.good rfl rfl rfl (C.1.2.2.2.2 _ hw.2.1) (C.1.2.2.2.2 _ hl2) hw.2.2 ⟨Nat.le_trans hro.1 C.2.1.1, Nat.le_trans hro.2 C.2.1.2⟩
  rw [hv] at cb
  exact va_runI (As := As.map (xup g)) (n := n) (b := xad g a) ⟨C.1.1, C.1.2.1, C.1.2.2.1, C.1.2.2.2.1, C.1.2.2.2.2⟩ (by rw [hv] at hM; exact hM) ⟨cb, hi, C.1.2.2.2.2 _ hi2⟩ ⟨xPc_blind, xPc_at C hR hS (.ref a :: As)⟩ rfl (by rw [List.length_map]; exact hn) hl.1 (by simp [xup]) (lv_room (xcats h8)) hd hf
theorem xcn_of {p : Program} {R : Room} {s : State} {m : MethodId} {args : Array Value} {meth : Method} {c : Code} {g : xG} {mc ms : Nat} (C : xCx M p R s m args meth c g) (hw : xMw M' n) (hl2 : Cond.methodLinkNest M.1.cls idx M'.1 host ∈ xNL) (hro : xRo M M') : va_CN R s args M.1.cls idx M'.1 host M'.2.1 M'.2.2.1 M'.2.2.2.1 (.code M'.1 M'.2.1 M'.2.2.1 M'.2.2.2.1 :: xTB) (xrm M' mc ms) mc ms n := by
  refine ⟨⟨rfl, rfl, Nat.le_trans hro.1 C.2.1.1, Nat.le_trans hro.2 C.2.1.2, pay_in C.1.2.2.2.2 hw.good, List.mem_cons_self⟩, C.1.2.2.2.2 _ hw.1, C.1.2.2.2.2 _ hw.2.1, ⟨hw.2.2.1, hw.2.2.2.1⟩, fun sig h => ?_, va_Nw.use rfl (C.2.2.1.2.2 _ hl2)⟩
  have h2 := hw.2.2.2.2
  rw [h] at h2
  exact (Option.some.inj h2).symm
theorem xe_callSN (hd : decode M.2.1 pc = .ok (.invokestatic idx, 3)) (hw : xMw M' n) (hl2 : Cond.methodLinkNest M.1.cls idx M'.1 host ∈ xNL) (hi2 : Cond.static M'.1 ∈ xTB) (hro : xRo M M') (hn : As.length = n) (hst : st = As.reverse ++ rest) (h8 : (rest.map fun v => v.category).sum ≤ 8) (h : xC M' As μ (fun r μ1 => xE M (pc + 3) L (r.toList ++ rest) μ1 Q)) : xE M pc L st μ Q := by
  subst hst
  refine xE.call h fun p l e R s m args below meth c g H locs cells slots ls mc ms Qc C hR hS hl hM hf => ?_
  exact va_runSN (As := As.map (xup g)) (n := n) ⟨C.1.1, C.1.2.1, C.1.2.2.1, C.1.2.2.2.1, C.1.2.2.2.2⟩ hM ⟨xcn_of C hw hl2 hro, C.1.2.2.2.2 _ hi2, trivial⟩ ⟨xPc_blind, xPc_at C hR hS As⟩ rfl (by rw [List.length_map]; exact hn) hl.1 (by simp) (lv_room (xcats h8)) hd hf
theorem xe_callIN (hd : decode M.2.1 pc = .ok (.invokespecial idx, 3)) (hw : xMw M' n) (hl2 : Cond.methodLinkNest M.1.cls idx M'.1 host ∈ xNL) (hi2 : Cond.instanceMethod M'.1 ∈ xTB) (hi : M'.1.name = "<init>") (hv : M'.2.2.2.1 = none) (hro : xRo M M') (hn : As.length = n) (hst : st = As.reverse ++ .ref a :: rest) (h8 : (rest.map fun v => v.category).sum ≤ 8) (h : xC M' (.ref a :: As) μ (fun r μ1 => xE M (pc + 3) L (r.toList ++ rest) μ1 Q)) : xE M pc L st μ Q := by
  subst hst
  refine xE.call h fun p l e R s m args below meth c g H locs cells slots ls mc ms Qc C hR hS hl hM hf => ?_
  have cn := xcn_of (mc := mc) (ms := ms) C hw hl2 hro
  rw [hv] at cn
  exact va_runIN (As := As.map (xup g)) (n := n) (b := xad g a) ⟨C.1.1, C.1.2.1, C.1.2.2.1, C.1.2.2.2.1, C.1.2.2.2.2⟩ (by rw [hv] at hM; exact hM) ⟨cn, hi, C.1.2.2.2.2 _ hi2⟩ ⟨xPc_blind, xPc_at C hR hS (.ref a :: As)⟩ rfl (by rw [List.length_map]; exact hn) hl.1 (by simp [xup]) (lv_room (xcats h8)) hd hf
end XC
