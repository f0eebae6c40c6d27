theorem xouter (c : ClassId) (N h0 : Nat) : ∀ i : Nat, Jvm.Free.Multi.outerC c N h0 i = arrV c N (fun j => va_rf (if j < i then some (h0 + 1 + j) else none))
  | 0 => by
    show ({ cls := c, slots := Array.replicate N .null, vm := .none } : Cell) = _
    rw [arrV_new]
    exact congrArg (arrV c N) (funext fun j => by simp [va_rf])
  | i + 1 => by
    show (Jvm.Free.Multi.outerC c N h0 i).setSlot i (.ref (h0 + 1 + i)) = _
    rw [xouter c N h0 i, arrV_store]
    refine congrArg (arrV c N) (funext fun j => ?_)
    by_cases e : j = i
    · subst e
      simp [updV, va_rf]
    · by_cases h : j < i
      · simp [updV, e, h, Nat.lt_succ_of_lt h]
      · simp [updV, e, h, show ¬ j < i + 1 by omega]
set_option maxHeartbeats 4000000 in
/-- new T[n][k]: the outer array's references stand in the plane from the start -/
theorem xe_multi {M : xD} {pc : Nat} {L : List (Nat × Value)} {st : List Value} {μ : xM} {Q : Option Value → xM → Prop} {idx n k kd ki : Nat} {ty : FieldType} {vn vk : Int32} (hd : decode M.2.1 pc = .ok (.multianewarray idx 2, 4)) (hk : kd = 55 ∧ ki = 50 ∧ ty = .int ∨ kd = 56 ∧ ki = 51 ∧ ty = .long)
    (h1 : Cond.classLink M.1.cls idx ("[" ++ (FieldType.array ty).toString) ∈ xTB) (h2 : Cond.arrayOver (.array ty) ∈ xNL) (h3 : Cond.arrayClass ty ∈ xTB) (hvn : ¬ vn < 0) (hn : vn.toNatClampNeg = n) (hvk : ¬ vk < 0) (hkk : vk.toNatClampNeg = k) (hsm : n * 4 ≤ 536870912) (hsm2 : k * 8 ≤ 536870912)
    (b : Nat) (hb : μ.1 + 1 = b) (hs : xSH b = (kd, n)) (hsi : ∀ j, j < n → xSH (b + 1 + j) = (ki, k)) (hz : ∀ j, j < n → xz μ (b + 1 + j)) (hr : ∀ j, μ.2.2.2 b j = if j < n then some (b + 1 + j) else none) (ht : xtot (μ.1 + (1 + n)) - xtot μ.1 = n + n * k)
    (h : xE M (pc + 4) L (.ref b :: st) (xgr μ (1 + n)) Q) : xE M pc L (.int vk :: .int vn :: st) μ Q := by
  subst hb
  subst hn
  subst hkk
  refine xE.grow (1 + vn.toNatClampNeg) h fun p l e R s m args below meth c g Qf H locs cells slots ls C hR hS hce hsl kk => ?_
  rw [ht] at hsl kk
  intro T hT Xs
  obtain ⟨vm₁, cA, comp, -, fA, fC, hO, hI, X', step⟩ := Xs.multianewarray2F C.1.1 C.1.2.2.2.1 (C.1.2.2.2.2 _ h1) (C.2.2.1.2.2 _ h2) (C.1.2.2.2.2 _ h3) (g := F0 m pc ls (.int vk :: .int vn :: st.map (xup g))) rfl (by rw [C.1.2.1]; exact hd) rfl hvn hvk hsm (by rcases hk with ⟨-, -, rfl⟩ | ⟨-, -, rfl⟩ <;> (refine Nat.le_trans (Nat.mul_le_mul_left _ ?_) hsm2; decide)) (by omega) (by rcases hk with ⟨-, -, rfl⟩ | ⟨-, -, rfl⟩ <;> rfl) (by rcases hk with ⟨-, -, rfl⟩ | ⟨-, -, rfl⟩ <;> rfl) hce hsl
  generalize hF : Jvm.Free.Multi.fill (T.setVm vm₁) cA comp vn.toNatClampNeg vk.toNatClampNeg (defaultValue ty) vn.toNatClampNeg = F at X' step
  have hTh : (T.setVm vm₁).heap = H := hT
  obtain ⟨f1, f2, -, -⟩ := Jvm.Free.Multi.fill_facts (T.setVm vm₁) cA comp vn.toNatClampNeg vk.toNatClampNeg (defaultValue ty) vn.toNatClampNeg
  rw [hF, hTh] at f1 f2
  have o1 : ∀ x : Nat, x < H.size → F.heap[x]? = H[x]? := fun x hx => by
    have := Jvm.Free.Multi.fill_old (T.setVm vm₁) cA comp vn.toNatClampNeg vk.toNatClampNeg (defaultValue ty) (a := x) (by rw [hTh]; exact hx) vn.toNatClampNeg
    rw [hF, hTh] at this
    exact this
  have hrow : ∀ j : Nat, j < vn.toNatClampNeg → F.heap[H.size + 1 + j]? = some (Jvm.Free.Multi.innerC comp vk.toNatClampNeg (defaultValue ty)) := fun j hj => by
    have := Jvm.Free.Multi.fill_inner (T.setVm vm₁) cA comp vn.toNatClampNeg vk.toNatClampNeg (defaultValue ty) vn.toNatClampNeg j hj
    rw [hF, hTh] at this
    exact this
  have z1 : F.heap.size = H.size + (1 + vn.toNatClampNeg) := by rw [f1]; omega
  have hkd : 52 < kd ∧ kd < 57 := by rcases hk with ⟨rfl, -⟩ | ⟨rfl, -⟩ <;> decide
  have hcA : xca g kd = cA := by
    rcases hk with ⟨rfl, -, rfl⟩ | ⟨rfl, -, rfl⟩
    · exact Option.some.inj (((C.2.2.1.1.2 5 _ rfl).2).symm.trans fA)
    · exact Option.some.inj (((C.2.2.1.1.2 6 _ rfl).2).symm.trans fA)
  have hcI : xca g ki = comp := by
    rcases hk with ⟨-, rfl, rfl⟩ | ⟨-, rfl, rfl⟩
    · exact Option.some.inj (((C.2.2.1.1.2 0 _ rfl).2).symm.trans fC)
    · exact Option.some.inj (((C.2.2.1.1.2 1 _ rfl).2).symm.trans fC)
  have key := kk F.heap (xgr_P hR o1 z1 (fun j hj => ?_)) (xgr_S hS o1 z1)
  · obtain ⟨t, a1, b1⟩ := key F rfl (by rw [show cells + (1 + vn.toNatClampNeg) = cells + 1 + vn.toNatClampNeg by omega, show slots + (vn.toNatClampNeg + vn.toNatClampNeg * vk.toNatClampNeg) = slots + vn.toNatClampNeg + vn.toNatClampNeg * vk.toNatClampNeg by omega]; exact X')
    refine ⟨t, step t ?_, b1⟩
    rw [List.map_cons, xup_new hR, ← hT] at a1
    exact a1
  · rw [← hR.1]
    cases j with
    | zero =>
      rw [Nat.add_zero, Nat.add_zero, xcell_ref hs hkd.1]
      show F.heap[H.size]? = some (vp_cell _ _)
      rw [f2, vp_cell_q, xouter, hcA]
      refine congrArg (fun f => some (arrV cA _ f)) (funext fun j => ?_)
      rw [hr j]
      by_cases hj2 : j < vn.toNatClampNeg
      · rw [if_pos hj2, if_pos hj2, hR.1]
        rw [show μ.1 + 1 + 1 + j = (μ.1 + 1 + j) + 1 by omega]
        show va_rf (some (g.2.1 + μ.1 + 1 + j)) = va_rf (some (g.2.1 + (μ.1 + 1 + j)))
        rw [show g.2.1 + μ.1 + 1 + j = g.2.1 + (μ.1 + 1 + j) by omega]
      · rw [if_neg hj2, if_neg hj2]
        rfl
    | succ j =>
      have hj2 : j < vn.toNatClampNeg := by omega
      have e1 := hrow j hj2
      rw [show μ.1 + (j + 1) + 1 = μ.1 + 1 + 1 + j by omega, show H.size + (j + 1) = H.size + 1 + j by omega]
      obtain ⟨y1, y2, y3⟩ := hz j hj2
      rcases hk with ⟨rfl, rfl, rfl⟩ | ⟨rfl, rfl, rfl⟩
      · rw [xcell_int (hsi j hj2)]
        show F.heap[H.size + 1 + j]? = some (vp_cell _ _)
        rw [e1, vp_cell_i, hcI]
        show some ({ cls := comp, slots := Array.replicate vk.toNatClampNeg (.int 0), vm := .none } : Cell) = _
        rw [arrV_new]
        exact congrArg (fun f => some (arrV comp _ f)) (funext fun i => by rw [y1 i])
      · rw [xcell_long (hsi j hj2)]
        show F.heap[H.size + 1 + j]? = some (vp_cell _ _)
        rw [e1, vp_cell_l, hcI]
        show some ({ cls := comp, slots := Array.replicate vk.toNatClampNeg (.long 0), vm := .none } : Cell) = _
        rw [arrV_new]
        exact congrArg (fun f => some (arrV comp _ f)) (funext fun i => by rw [y2 i])
