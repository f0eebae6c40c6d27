theorem rm48 (j : Nat) : xRR none 48 j = if j < 6 then some (48 + 1 + j) else none := by unfold xRR; simp
theorem rm60 (j : Nat) : xRR none 60 j = if j < 6 then some (60 + 1 + j) else none := by unfold xRR; simp
theorem rm76 (j : Nat) : xRR none 76 j = if j < 6 then some (76 + 1 + j) else none := by unfold xRR; simp
theorem rm84 (j : Nat) : xRR none 84 j = if j < 30 then some (84 + 1 + j) else none := by unfold xRR; simp
theorem rm115 (j : Nat) : xRR none 115 j = if j < 30 then some (115 + 1 + j) else none := by unfold xRR; simp
theorem rm147 (j : Nat) : xRR none 147 j = if j < 2 then some (147 + 1 + j) else none := by unfold xRR; simp
theorem ct6 {i : Nat → Nat → Int32} {F : Nat → Nat → Bool} (ok : mOK 6 i F) : xC mX3_init [.ref 6] (MM 6 i F) (mCP 9 i F 6) := by
  refine xC.of xpl3 (by decide) ?_
  show xE mX3_init 0 [(0, .ref 6)] [] (MM 6 i F) _
  refine xe_aload_n 0 dX3_init_0 rfl rfl ?_
  refine xe_objInit dX3_init_1 lX3_3 xobj_i xobj_c ⟨by decide, by decide⟩ ?_
  refine xe_aload_n 0 dX3_init_4 rfl rfl ?_
  refine xe_iconst (v := nI 3) dX3_init_5 xc3 ?_
  refine cc_newarr dX3_init_6 (Or.inl ⟨rfl, rfl⟩) xac_int (by decide +kernel) (nI_nat (by decide)) (by decide) 7 rfl sh7 rfl ok (fun ok => ?_)
  refine cc_putFA dX3_init_8 fX3_9 rfl ⟨_, _, rfl, rfl⟩ sh6 (by decide) (by decide) rfl ok (fun F1 ok l1 f1 => ?_)
  refine xe_aload_n 0 dX3_init_11 rfl rfl ?_
  refine xe_iconst (v := nI 3) dX3_init_12 xc3 ?_
  refine cc_newarr dX3_init_13 (Or.inl ⟨rfl, rfl⟩) xac_int (by decide +kernel) (nI_nat (by decide)) (by decide) 8 rfl sh8 rfl ok (fun ok => ?_)
  refine cc_putFA dX3_init_15 fX3_15 rfl ⟨_, _, rfl, rfl⟩ sh6 (by decide) (by decide) rfl ok (fun F2 ok l2 f2 => ?_)
  refine xe_aload_n 0 dX3_init_18 rfl rfl ?_
  refine xe_bipush (v := nI 6) dX3_init_19 xcb6 ?_
  refine cc_newarr dX3_init_21 (Or.inl ⟨rfl, rfl⟩) xac_int (by decide +kernel) (nI_nat (by decide)) (by decide) 9 rfl sh9 rfl ok (fun ok => ?_)
  refine cc_putFA dX3_init_23 fX3_18 rfl ⟨_, _, rfl, rfl⟩ sh6 (by decide) (by decide) rfl ok (fun F3 ok l3 f3 => ?_)
  have t3 : mLe F3 F3 := mLe.rfl'
  have t2 : mLe F2 F3 := l3.tr t3
  have t1 : mLe F1 F3 := l2.tr t2
  have t0 : mLe F F3 := l1.tr t1
  exact xe_ret (r := none) dX3_init_26 trivial ⟨rfl, _, rfl, ok, t0, mDn.mk ok [(6, 5), (6, 6), (6, 7)] [] (by decide +kernel) (fn1 (t1 _ _ f1) (fn1 (t2 _ _ f2) (fn1 (t3 _ _ f3) fn0))) fn0⟩

theorem ct10 {i : Nat → Nat → Int32} {F : Nat → Nat → Bool} (ok : mOK 10 i F) : xC mX3_init [.ref 10] (MM 10 i F) (mCP 13 i F 10) := by
  refine xC.of xpl3 (by decide) ?_
  show xE mX3_init 0 [(0, .ref 10)] [] (MM 10 i F) _
  refine xe_aload_n 0 dX3_init_0 rfl rfl ?_
  refine xe_objInit dX3_init_1 lX3_3 xobj_i xobj_c ⟨by decide, by decide⟩ ?_
  refine xe_aload_n 0 dX3_init_4 rfl rfl ?_
  refine xe_iconst (v := nI 3) dX3_init_5 xc3 ?_
  refine cc_newarr dX3_init_6 (Or.inl ⟨rfl, rfl⟩) xac_int (by decide +kernel) (nI_nat (by decide)) (by decide) 11 rfl sh11 rfl ok (fun ok => ?_)
  refine cc_putFA dX3_init_8 fX3_9 rfl ⟨_, _, rfl, rfl⟩ sh10 (by decide) (by decide) rfl ok (fun F1 ok l1 f1 => ?_)
  refine xe_aload_n 0 dX3_init_11 rfl rfl ?_
  refine xe_iconst (v := nI 3) dX3_init_12 xc3 ?_
  refine cc_newarr dX3_init_13 (Or.inl ⟨rfl, rfl⟩) xac_int (by decide +kernel) (nI_nat (by decide)) (by decide) 12 rfl sh12 rfl ok (fun ok => ?_)
  refine cc_putFA dX3_init_15 fX3_15 rfl ⟨_, _, rfl, rfl⟩ sh10 (by decide) (by decide) rfl ok (fun F2 ok l2 f2 => ?_)
  refine xe_aload_n 0 dX3_init_18 rfl rfl ?_
  refine xe_bipush (v := nI 6) dX3_init_19 xcb6 ?_
  refine cc_newarr dX3_init_21 (Or.inl ⟨rfl, rfl⟩) xac_int (by decide +kernel) (nI_nat (by decide)) (by decide) 13 rfl sh13 rfl ok (fun ok => ?_)
  refine cc_putFA dX3_init_23 fX3_18 rfl ⟨_, _, rfl, rfl⟩ sh10 (by decide) (by decide) rfl ok (fun F3 ok l3 f3 => ?_)
  have t3 : mLe F3 F3 := mLe.rfl'
  have t2 : mLe F2 F3 := l3.tr t3
  have t1 : mLe F1 F3 := l2.tr t2
  have t0 : mLe F F3 := l1.tr t1
  exact xe_ret (r := none) dX3_init_26 trivial ⟨rfl, _, rfl, ok, t0, mDn.mk ok [(10, 5), (10, 6), (10, 7)] [] (by decide +kernel) (fn1 (t1 _ _ f1) (fn1 (t2 _ _ f2) (fn1 (t3 _ _ f3) fn0))) fn0⟩

theorem ct14 {i : Nat → Nat → Int32} {F : Nat → Nat → Bool} (ok : mOK 14 i F) : xC mX3_init [.ref 14] (MM 14 i F) (mCP 17 i F 14) := by
  refine xC.of xpl3 (by decide) ?_
  show xE mX3_init 0 [(0, .ref 14)] [] (MM 14 i F) _
  refine xe_aload_n 0 dX3_init_0 rfl rfl ?_
  refine xe_objInit dX3_init_1 lX3_3 xobj_i xobj_c ⟨by decide, by decide⟩ ?_
  refine xe_aload_n 0 dX3_init_4 rfl rfl ?_
  refine xe_iconst (v := nI 3) dX3_init_5 xc3 ?_
  refine cc_newarr dX3_init_6 (Or.inl ⟨rfl, rfl⟩) xac_int (by decide +kernel) (nI_nat (by decide)) (by decide) 15 rfl sh15 rfl ok (fun ok => ?_)
  refine cc_putFA dX3_init_8 fX3_9 rfl ⟨_, _, rfl, rfl⟩ sh14 (by decide) (by decide) rfl ok (fun F1 ok l1 f1 => ?_)
  refine xe_aload_n 0 dX3_init_11 rfl rfl ?_
  refine xe_iconst (v := nI 3) dX3_init_12 xc3 ?_
  refine cc_newarr dX3_init_13 (Or.inl ⟨rfl, rfl⟩) xac_int (by decide +kernel) (nI_nat (by decide)) (by decide) 16 rfl sh16 rfl ok (fun ok => ?_)
  refine cc_putFA dX3_init_15 fX3_15 rfl ⟨_, _, rfl, rfl⟩ sh14 (by decide) (by decide) rfl ok (fun F2 ok l2 f2 => ?_)
  refine xe_aload_n 0 dX3_init_18 rfl rfl ?_
  refine xe_bipush (v := nI 6) dX3_init_19 xcb6 ?_
  refine cc_newarr dX3_init_21 (Or.inl ⟨rfl, rfl⟩) xac_int (by decide +kernel) (nI_nat (by decide)) (by decide) 17 rfl sh17 rfl ok (fun ok => ?_)
  refine cc_putFA dX3_init_23 fX3_18 rfl ⟨_, _, rfl, rfl⟩ sh14 (by decide) (by decide) rfl ok (fun F3 ok l3 f3 => ?_)
  have t3 : mLe F3 F3 := mLe.rfl'
  have t2 : mLe F2 F3 := l3.tr t3
  have t1 : mLe F1 F3 := l2.tr t2
  have t0 : mLe F F3 := l1.tr t1
  exact xe_ret (r := none) dX3_init_26 trivial ⟨rfl, _, rfl, ok, t0, mDn.mk ok [(14, 5), (14, 6), (14, 7)] [] (by decide +kernel) (fn1 (t1 _ _ f1) (fn1 (t2 _ _ f2) (fn1 (t3 _ _ f3) fn0))) fn0⟩

theorem ct18 {i : Nat → Nat → Int32} {F : Nat → Nat → Bool} (ok : mOK 18 i F) : xC mX3_init [.ref 18] (MM 18 i F) (mCP 21 i F 18) := by
  refine xC.of xpl3 (by decide) ?_
  show xE mX3_init 0 [(0, .ref 18)] [] (MM 18 i F) _
  refine xe_aload_n 0 dX3_init_0 rfl rfl ?_
  refine xe_objInit dX3_init_1 lX3_3 xobj_i xobj_c ⟨by decide, by decide⟩ ?_
  refine xe_aload_n 0 dX3_init_4 rfl rfl ?_
  refine xe_iconst (v := nI 3) dX3_init_5 xc3 ?_
  refine cc_newarr dX3_init_6 (Or.inl ⟨rfl, rfl⟩) xac_int (by decide +kernel) (nI_nat (by decide)) (by decide) 19 rfl sh19 rfl ok (fun ok => ?_)
  refine cc_putFA dX3_init_8 fX3_9 rfl ⟨_, _, rfl, rfl⟩ sh18 (by decide) (by decide) rfl ok (fun F1 ok l1 f1 => ?_)
  refine xe_aload_n 0 dX3_init_11 rfl rfl ?_
  refine xe_iconst (v := nI 3) dX3_init_12 xc3 ?_
  refine cc_newarr dX3_init_13 (Or.inl ⟨rfl, rfl⟩) xac_int (by decide +kernel) (nI_nat (by decide)) (by decide) 20 rfl sh20 rfl ok (fun ok => ?_)
  refine cc_putFA dX3_init_15 fX3_15 rfl ⟨_, _, rfl, rfl⟩ sh18 (by decide) (by decide) rfl ok (fun F2 ok l2 f2 => ?_)
  refine xe_aload_n 0 dX3_init_18 rfl rfl ?_
  refine xe_bipush (v := nI 6) dX3_init_19 xcb6 ?_
  refine cc_newarr dX3_init_21 (Or.inl ⟨rfl, rfl⟩) xac_int (by decide +kernel) (nI_nat (by decide)) (by decide) 21 rfl sh21 rfl ok (fun ok => ?_)
  refine cc_putFA dX3_init_23 fX3_18 rfl ⟨_, _, rfl, rfl⟩ sh18 (by decide) (by decide) rfl ok (fun F3 ok l3 f3 => ?_)
  have t3 : mLe F3 F3 := mLe.rfl'
  have t2 : mLe F2 F3 := l3.tr t3
  have t1 : mLe F1 F3 := l2.tr t2
  have t0 : mLe F F3 := l1.tr t1
  exact xe_ret (r := none) dX3_init_26 trivial ⟨rfl, _, rfl, ok, t0, mDn.mk ok [(18, 5), (18, 6), (18, 7)] [] (by decide +kernel) (fn1 (t1 _ _ f1) (fn1 (t2 _ _ f2) (fn1 (t3 _ _ f3) fn0))) fn0⟩

theorem ct22 {i : Nat → Nat → Int32} {F : Nat → Nat → Bool} (ok : mOK 22 i F) : xC mX3_init [.ref 22] (MM 22 i F) (mCP 25 i F 22) := by
  refine xC.of xpl3 (by decide) ?_
  show xE mX3_init 0 [(0, .ref 22)] [] (MM 22 i F) _
  refine xe_aload_n 0 dX3_init_0 rfl rfl ?_
  refine xe_objInit dX3_init_1 lX3_3 xobj_i xobj_c ⟨by decide, by decide⟩ ?_
  refine xe_aload_n 0 dX3_init_4 rfl rfl ?_
  refine xe_iconst (v := nI 3) dX3_init_5 xc3 ?_
  refine cc_newarr dX3_init_6 (Or.inl ⟨rfl, rfl⟩) xac_int (by decide +kernel) (nI_nat (by decide)) (by decide) 23 rfl sh23 rfl ok (fun ok => ?_)
  refine cc_putFA dX3_init_8 fX3_9 rfl ⟨_, _, rfl, rfl⟩ sh22 (by decide) (by decide) rfl ok (fun F1 ok l1 f1 => ?_)
  refine xe_aload_n 0 dX3_init_11 rfl rfl ?_
  refine xe_iconst (v := nI 3) dX3_init_12 xc3 ?_
  refine cc_newarr dX3_init_13 (Or.inl ⟨rfl, rfl⟩) xac_int (by decide +kernel) (nI_nat (by decide)) (by decide) 24 rfl sh24 rfl ok (fun ok => ?_)
  refine cc_putFA dX3_init_15 fX3_15 rfl ⟨_, _, rfl, rfl⟩ sh22 (by decide) (by decide) rfl ok (fun F2 ok l2 f2 => ?_)
  refine xe_aload_n 0 dX3_init_18 rfl rfl ?_
  refine xe_bipush (v := nI 6) dX3_init_19 xcb6 ?_
  refine cc_newarr dX3_init_21 (Or.inl ⟨rfl, rfl⟩) xac_int (by decide +kernel) (nI_nat (by decide)) (by decide) 25 rfl sh25 rfl ok (fun ok => ?_)
  refine cc_putFA dX3_init_23 fX3_18 rfl ⟨_, _, rfl, rfl⟩ sh22 (by decide) (by decide) rfl ok (fun F3 ok l3 f3 => ?_)
  have t3 : mLe F3 F3 := mLe.rfl'
  have t2 : mLe F2 F3 := l3.tr t3
  have t1 : mLe F1 F3 := l2.tr t2
  have t0 : mLe F F3 := l1.tr t1
  exact xe_ret (r := none) dX3_init_26 trivial ⟨rfl, _, rfl, ok, t0, mDn.mk ok [(22, 5), (22, 6), (22, 7)] [] (by decide +kernel) (fn1 (t1 _ _ f1) (fn1 (t2 _ _ f2) (fn1 (t3 _ _ f3) fn0))) fn0⟩

theorem ct26 {i : Nat → Nat → Int32} {F : Nat → Nat → Bool} (ok : mOK 26 i F) : xC mX3_init [.ref 26] (MM 26 i F) (mCP 29 i F 26) := by
  refine xC.of xpl3 (by decide) ?_
  show xE mX3_init 0 [(0, .ref 26)] [] (MM 26 i F) _
  refine xe_aload_n 0 dX3_init_0 rfl rfl ?_
  refine xe_objInit dX3_init_1 lX3_3 xobj_i xobj_c ⟨by decide, by decide⟩ ?_
  refine xe_aload_n 0 dX3_init_4 rfl rfl ?_
  refine xe_iconst (v := nI 3) dX3_init_5 xc3 ?_
  refine cc_newarr dX3_init_6 (Or.inl ⟨rfl, rfl⟩) xac_int (by decide +kernel) (nI_nat (by decide)) (by decide) 27 rfl sh27 rfl ok (fun ok => ?_)
  refine cc_putFA dX3_init_8 fX3_9 rfl ⟨_, _, rfl, rfl⟩ sh26 (by decide) (by decide) rfl ok (fun F1 ok l1 f1 => ?_)
  refine xe_aload_n 0 dX3_init_11 rfl rfl ?_
  refine xe_iconst (v := nI 3) dX3_init_12 xc3 ?_
  refine cc_newarr dX3_init_13 (Or.inl ⟨rfl, rfl⟩) xac_int (by decide +kernel) (nI_nat (by decide)) (by decide) 28 rfl sh28 rfl ok (fun ok => ?_)
  refine cc_putFA dX3_init_15 fX3_15 rfl ⟨_, _, rfl, rfl⟩ sh26 (by decide) (by decide) rfl ok (fun F2 ok l2 f2 => ?_)
  refine xe_aload_n 0 dX3_init_18 rfl rfl ?_
  refine xe_bipush (v := nI 6) dX3_init_19 xcb6 ?_
  refine cc_newarr dX3_init_21 (Or.inl ⟨rfl, rfl⟩) xac_int (by decide +kernel) (nI_nat (by decide)) (by decide) 29 rfl sh29 rfl ok (fun ok => ?_)
  refine cc_putFA dX3_init_23 fX3_18 rfl ⟨_, _, rfl, rfl⟩ sh26 (by decide) (by decide) rfl ok (fun F3 ok l3 f3 => ?_)
  have t3 : mLe F3 F3 := mLe.rfl'
  have t2 : mLe F2 F3 := l3.tr t3
  have t1 : mLe F1 F3 := l2.tr t2
  have t0 : mLe F F3 := l1.tr t1
  exact xe_ret (r := none) dX3_init_26 trivial ⟨rfl, _, rfl, ok, t0, mDn.mk ok [(26, 5), (26, 6), (26, 7)] [] (by decide +kernel) (fn1 (t1 _ _ f1) (fn1 (t2 _ _ f2) (fn1 (t3 _ _ f3) fn0))) fn0⟩

theorem ct30 {i : Nat → Nat → Int32} {F : Nat → Nat → Bool} (ok : mOK 30 i F) : xC mX3_init [.ref 30] (MM 30 i F) (mCP 33 i F 30) := by
  refine xC.of xpl3 (by decide) ?_
  show xE mX3_init 0 [(0, .ref 30)] [] (MM 30 i F) _
  refine xe_aload_n 0 dX3_init_0 rfl rfl ?_
  refine xe_objInit dX3_init_1 lX3_3 xobj_i xobj_c ⟨by decide, by decide⟩ ?_
  refine xe_aload_n 0 dX3_init_4 rfl rfl ?_
  refine xe_iconst (v := nI 3) dX3_init_5 xc3 ?_
  refine cc_newarr dX3_init_6 (Or.inl ⟨rfl, rfl⟩) xac_int (by decide +kernel) (nI_nat (by decide)) (by decide) 31 rfl sh31 rfl ok (fun ok => ?_)
  refine cc_putFA dX3_init_8 fX3_9 rfl ⟨_, _, rfl, rfl⟩ sh30 (by decide) (by decide) rfl ok (fun F1 ok l1 f1 => ?_)
  refine xe_aload_n 0 dX3_init_11 rfl rfl ?_
  refine xe_iconst (v := nI 3) dX3_init_12 xc3 ?_
  refine cc_newarr dX3_init_13 (Or.inl ⟨rfl, rfl⟩) xac_int (by decide +kernel) (nI_nat (by decide)) (by decide) 32 rfl sh32 rfl ok (fun ok => ?_)
  refine cc_putFA dX3_init_15 fX3_15 rfl ⟨_, _, rfl, rfl⟩ sh30 (by decide) (by decide) rfl ok (fun F2 ok l2 f2 => ?_)
  refine xe_aload_n 0 dX3_init_18 rfl rfl ?_
  refine xe_bipush (v := nI 6) dX3_init_19 xcb6 ?_
  refine cc_newarr dX3_init_21 (Or.inl ⟨rfl, rfl⟩) xac_int (by decide +kernel) (nI_nat (by decide)) (by decide) 33 rfl sh33 rfl ok (fun ok => ?_)
  refine cc_putFA dX3_init_23 fX3_18 rfl ⟨_, _, rfl, rfl⟩ sh30 (by decide) (by decide) rfl ok (fun F3 ok l3 f3 => ?_)
  have t3 : mLe F3 F3 := mLe.rfl'
  have t2 : mLe F2 F3 := l3.tr t3
  have t1 : mLe F1 F3 := l2.tr t2
  have t0 : mLe F F3 := l1.tr t1
  exact xe_ret (r := none) dX3_init_26 trivial ⟨rfl, _, rfl, ok, t0, mDn.mk ok [(30, 5), (30, 6), (30, 7)] [] (by decide +kernel) (fn1 (t1 _ _ f1) (fn1 (t2 _ _ f2) (fn1 (t3 _ _ f3) fn0))) fn0⟩

theorem ct34 {i : Nat → Nat → Int32} {F : Nat → Nat → Bool} (ok : mOK 34 i F) : xC mX3_init [.ref 34] (MM 34 i F) (mCP 37 i F 34) := by
  refine xC.of xpl3 (by decide) ?_
  show xE mX3_init 0 [(0, .ref 34)] [] (MM 34 i F) _
  refine xe_aload_n 0 dX3_init_0 rfl rfl ?_
  refine xe_objInit dX3_init_1 lX3_3 xobj_i xobj_c ⟨by decide, by decide⟩ ?_
  refine xe_aload_n 0 dX3_init_4 rfl rfl ?_
  refine xe_iconst (v := nI 3) dX3_init_5 xc3 ?_
  refine cc_newarr dX3_init_6 (Or.inl ⟨rfl, rfl⟩) xac_int (by decide +kernel) (nI_nat (by decide)) (by decide) 35 rfl sh35 rfl ok (fun ok => ?_)
  refine cc_putFA dX3_init_8 fX3_9 rfl ⟨_, _, rfl, rfl⟩ sh34 (by decide) (by decide) rfl ok (fun F1 ok l1 f1 => ?_)
  refine xe_aload_n 0 dX3_init_11 rfl rfl ?_
  refine xe_iconst (v := nI 3) dX3_init_12 xc3 ?_
  refine cc_newarr dX3_init_13 (Or.inl ⟨rfl, rfl⟩) xac_int (by decide +kernel) (nI_nat (by decide)) (by decide) 36 rfl sh36 rfl ok (fun ok => ?_)
  refine cc_putFA dX3_init_15 fX3_15 rfl ⟨_, _, rfl, rfl⟩ sh34 (by decide) (by decide) rfl ok (fun F2 ok l2 f2 => ?_)
  refine xe_aload_n 0 dX3_init_18 rfl rfl ?_
  refine xe_bipush (v := nI 6) dX3_init_19 xcb6 ?_
  refine cc_newarr dX3_init_21 (Or.inl ⟨rfl, rfl⟩) xac_int (by decide +kernel) (nI_nat (by decide)) (by decide) 37 rfl sh37 rfl ok (fun ok => ?_)
  refine cc_putFA dX3_init_23 fX3_18 rfl ⟨_, _, rfl, rfl⟩ sh34 (by decide) (by decide) rfl ok (fun F3 ok l3 f3 => ?_)
  have t3 : mLe F3 F3 := mLe.rfl'
  have t2 : mLe F2 F3 := l3.tr t3
  have t1 : mLe F1 F3 := l2.tr t2
  have t0 : mLe F F3 := l1.tr t1
  exact xe_ret (r := none) dX3_init_26 trivial ⟨rfl, _, rfl, ok, t0, mDn.mk ok [(34, 5), (34, 6), (34, 7)] [] (by decide +kernel) (fn1 (t1 _ _ f1) (fn1 (t2 _ _ f2) (fn1 (t3 _ _ f3) fn0))) fn0⟩

theorem ct38 {i : Nat → Nat → Int32} {F : Nat → Nat → Bool} (ok : mOK 38 i F) : xC mX3_init [.ref 38] (MM 38 i F) (mCP 41 i F 38) := by
  refine xC.of xpl3 (by decide) ?_
  show xE mX3_init 0 [(0, .ref 38)] [] (MM 38 i F) _
  refine xe_aload_n 0 dX3_init_0 rfl rfl ?_
  refine xe_objInit dX3_init_1 lX3_3 xobj_i xobj_c ⟨by decide, by decide⟩ ?_
  refine xe_aload_n 0 dX3_init_4 rfl rfl ?_
  refine xe_iconst (v := nI 3) dX3_init_5 xc3 ?_
  refine cc_newarr dX3_init_6 (Or.inl ⟨rfl, rfl⟩) xac_int (by decide +kernel) (nI_nat (by decide)) (by decide) 39 rfl sh39 rfl ok (fun ok => ?_)
  refine cc_putFA dX3_init_8 fX3_9 rfl ⟨_, _, rfl, rfl⟩ sh38 (by decide) (by decide) rfl ok (fun F1 ok l1 f1 => ?_)
  refine xe_aload_n 0 dX3_init_11 rfl rfl ?_
  refine xe_iconst (v := nI 3) dX3_init_12 xc3 ?_
  refine cc_newarr dX3_init_13 (Or.inl ⟨rfl, rfl⟩) xac_int (by decide +kernel) (nI_nat (by decide)) (by decide) 40 rfl sh40 rfl ok (fun ok => ?_)
  refine cc_putFA dX3_init_15 fX3_15 rfl ⟨_, _, rfl, rfl⟩ sh38 (by decide) (by decide) rfl ok (fun F2 ok l2 f2 => ?_)
  refine xe_aload_n 0 dX3_init_18 rfl rfl ?_
  refine xe_bipush (v := nI 6) dX3_init_19 xcb6 ?_
  refine cc_newarr dX3_init_21 (Or.inl ⟨rfl, rfl⟩) xac_int (by decide +kernel) (nI_nat (by decide)) (by decide) 41 rfl sh41 rfl ok (fun ok => ?_)
  refine cc_putFA dX3_init_23 fX3_18 rfl ⟨_, _, rfl, rfl⟩ sh38 (by decide) (by decide) rfl ok (fun F3 ok l3 f3 => ?_)
  have t3 : mLe F3 F3 := mLe.rfl'
  have t2 : mLe F2 F3 := l3.tr t3
  have t1 : mLe F1 F3 := l2.tr t2
  have t0 : mLe F F3 := l1.tr t1
  exact xe_ret (r := none) dX3_init_26 trivial ⟨rfl, _, rfl, ok, t0, mDn.mk ok [(38, 5), (38, 6), (38, 7)] [] (by decide +kernel) (fn1 (t1 _ _ f1) (fn1 (t2 _ _ f2) (fn1 (t3 _ _ f3) fn0))) fn0⟩

theorem ct42 {i : Nat → Nat → Int32} {F : Nat → Nat → Bool} (ok : mOK 42 i F) : xC mX3_init [.ref 42] (MM 42 i F) (mCP 45 i F 42) := by
  refine xC.of xpl3 (by decide) ?_
  show xE mX3_init 0 [(0, .ref 42)] [] (MM 42 i F) _
  refine xe_aload_n 0 dX3_init_0 rfl rfl ?_
  refine xe_objInit dX3_init_1 lX3_3 xobj_i xobj_c ⟨by decide, by decide⟩ ?_
  refine xe_aload_n 0 dX3_init_4 rfl rfl ?_
  refine xe_iconst (v := nI 3) dX3_init_5 xc3 ?_
  refine cc_newarr dX3_init_6 (Or.inl ⟨rfl, rfl⟩) xac_int (by decide +kernel) (nI_nat (by decide)) (by decide) 43 rfl sh43 rfl ok (fun ok => ?_)
  refine cc_putFA dX3_init_8 fX3_9 rfl ⟨_, _, rfl, rfl⟩ sh42 (by decide) (by decide) rfl ok (fun F1 ok l1 f1 => ?_)
  refine xe_aload_n 0 dX3_init_11 rfl rfl ?_
  refine xe_iconst (v := nI 3) dX3_init_12 xc3 ?_
  refine cc_newarr dX3_init_13 (Or.inl ⟨rfl, rfl⟩) xac_int (by decide +kernel) (nI_nat (by decide)) (by decide) 44 rfl sh44 rfl ok (fun ok => ?_)
  refine cc_putFA dX3_init_15 fX3_15 rfl ⟨_, _, rfl, rfl⟩ sh42 (by decide) (by decide) rfl ok (fun F2 ok l2 f2 => ?_)
  refine xe_aload_n 0 dX3_init_18 rfl rfl ?_
  refine xe_bipush (v := nI 6) dX3_init_19 xcb6 ?_
  refine cc_newarr dX3_init_21 (Or.inl ⟨rfl, rfl⟩) xac_int (by decide +kernel) (nI_nat (by decide)) (by decide) 45 rfl sh45 rfl ok (fun ok => ?_)
  refine cc_putFA dX3_init_23 fX3_18 rfl ⟨_, _, rfl, rfl⟩ sh42 (by decide) (by decide) rfl ok (fun F3 ok l3 f3 => ?_)
  have t3 : mLe F3 F3 := mLe.rfl'
  have t2 : mLe F2 F3 := l3.tr t3
  have t1 : mLe F1 F3 := l2.tr t2
  have t0 : mLe F F3 := l1.tr t1
  exact xe_ret (r := none) dX3_init_26 trivial ⟨rfl, _, rfl, ok, t0, mDn.mk ok [(42, 5), (42, 6), (42, 7)] [] (by decide +kernel) (fn1 (t1 _ _ f1) (fn1 (t2 _ _ f2) (fn1 (t3 _ _ f3) fn0))) fn0⟩

theorem ct3 {i : Nat → Nat → Int32} {F : Nat → Nat → Bool} (ok : mOK 3 i F) : xC mX4_init [.ref 3] (MM 3 i F) (mCP 45 i F 3) := by
  refine xC.of xpl4 (by decide) ?_
  show xE mX4_init 0 [(0, .ref 3)] [] (MM 3 i F) _
  refine xe_aload_n 0 dX4_init_0 rfl rfl ?_
  refine xe_objInit dX4_init_1 lX4_3 xobj_i xobj_c ⟨by decide, by decide⟩ ?_
  refine xe_aload_n 0 dX4_init_4 rfl rfl ?_
  refine xe_bipush (v := nI 10) dX4_init_5 xcb10 ?_
  refine cc_newref dX4_init_7 (Or.inr ⟨rfl, rfl⟩) kX4_9 xao_X3 (by decide +kernel) (nI_nat (by decide)) (by decide) 4 rfl sh4 rfl ok (fun ok => ?_)
  refine cc_putFA dX4_init_10 fX4_11 rfl ⟨_, _, rfl, rfl⟩ sh3 (by decide) (by decide) rfl ok (fun F1 ok l1 f1 => ?_)
  refine xe_aload_n 0 dX4_init_13 rfl rfl ?_
  refine xe_bipush (v := nI 6) dX4_init_14 xcb6 ?_
  refine cc_newarr dX4_init_16 (Or.inl ⟨rfl, rfl⟩) xac_int (by decide +kernel) (nI_nat (by decide)) (by decide) 5 rfl sh5 rfl ok (fun ok => ?_)
  refine cc_putFA dX4_init_18 fX4_17 rfl ⟨_, _, rfl, rfl⟩ sh3 (by decide) (by decide) rfl ok (fun F2 ok l2 f2 => ?_)
  refine xe_iconst (v := nI 0) dX4_init_21 xc0 ?_
  refine xe_istore_n (L2 := [(0, .ref 3), (1, .int (nI 0))]) dX4_init_22 rfl (by decide) rfl ?_
  refine xe_iload_n 1 dX4_init_23 rfl rfl ?_
  refine xe_bipush (v := nI 10) dX4_init_24 xcb10 ?_
  refine xe_icmp_ge 48 dX4_init_26 (by decide) (fun q => absurd q (by decide +kernel)) (fun _ => ?_)
  refine xe_aload_n 0 dX4_init_29 rfl rfl ?_
  refine cc_getR dX4_init_30 fX4_11 rfl sh3 (by decide) (by decide) (l2 _ _ f1) rfl ?_
  refine xe_iload_n 1 dX4_init_33 rfl rfl ?_
  refine cc_new dX4_init_34 rfl kX4_9 xinst3 xini3 6 rfl sh6 rfl ok (fun ok => ?_)
  refine xe_dup dX4_init_37 rfl ?_
  refine cc_call (ct6 ok) (fun q => xe_callIN (As := []) (rest := [.ref 6, .int (nI 0), .ref 4]) dX4_init_38 wX3_init lX4_21 iX3_init rfl rfl ⟨by decide, by decide⟩ rfl rfl (by simp [Value.category]) q) (fun F3 ok l3 n3 => ?_)
  refine cc_aastore (k := 0) dX4_init_41 sh4 (by decide) (by decide) (by decide) (by decide) (by decide) (by decide) (by decide) (by decide) sh6 rfl rfl rfl ok (fun F4 ok l4 f4 => ?_)
  refine xe_iinc (v := nI 1) (L2 := [(0, .ref 3), (1, .int (nI 1))]) 1 dX4_init_42 rfl (by decide +kernel) (by decide) rfl ?_
  refine xe_goto 23 dX4_init_45 (by decide) ?_
  refine xe_iload_n 1 dX4_init_23 rfl rfl ?_
  refine xe_bipush (v := nI 10) dX4_init_24 xcb10 ?_
  refine xe_icmp_ge 48 dX4_init_26 (by decide) (fun q => absurd q (by decide +kernel)) (fun _ => ?_)
  refine xe_aload_n 0 dX4_init_29 rfl rfl ?_
  refine cc_getR dX4_init_30 fX4_11 rfl sh3 (by decide) (by decide) (l4 _ _ (l3 _ _ (l2 _ _ f1))) rfl ?_
  refine xe_iload_n 1 dX4_init_33 rfl rfl ?_
  refine cc_new dX4_init_34 rfl kX4_9 xinst3 xini3 10 rfl sh10 rfl ok (fun ok => ?_)
  refine xe_dup dX4_init_37 rfl ?_
  refine cc_call (ct10 ok) (fun q => xe_callIN (As := []) (rest := [.ref 10, .int (nI 1), .ref 4]) dX4_init_38 wX3_init lX4_21 iX3_init rfl rfl ⟨by decide, by decide⟩ rfl rfl (by simp [Value.category]) q) (fun F5 ok l5 n5 => ?_)
  refine cc_aastore (k := 1) dX4_init_41 sh4 (by decide) (by decide) (by decide) (by decide) (by decide) (by decide) (by decide) (by decide) sh10 rfl rfl rfl ok (fun F6 ok l6 f6 => ?_)
  refine xe_iinc (v := nI 2) (L2 := [(0, .ref 3), (1, .int (nI 2))]) 1 dX4_init_42 rfl (by decide +kernel) (by decide) rfl ?_
  refine xe_goto 23 dX4_init_45 (by decide) ?_
  refine xe_iload_n 1 dX4_init_23 rfl rfl ?_
  refine xe_bipush (v := nI 10) dX4_init_24 xcb10 ?_
  refine xe_icmp_ge 48 dX4_init_26 (by decide) (fun q => absurd q (by decide +kernel)) (fun _ => ?_)
  refine xe_aload_n 0 dX4_init_29 rfl rfl ?_
  refine cc_getR dX4_init_30 fX4_11 rfl sh3 (by decide) (by decide) (l6 _ _ (l5 _ _ (l4 _ _ (l3 _ _ (l2 _ _ f1))))) rfl ?_
  refine xe_iload_n 1 dX4_init_33 rfl rfl ?_
  refine cc_new dX4_init_34 rfl kX4_9 xinst3 xini3 14 rfl sh14 rfl ok (fun ok => ?_)
  refine xe_dup dX4_init_37 rfl ?_
  refine cc_call (ct14 ok) (fun q => xe_callIN (As := []) (rest := [.ref 14, .int (nI 2), .ref 4]) dX4_init_38 wX3_init lX4_21 iX3_init rfl rfl ⟨by decide, by decide⟩ rfl rfl (by simp [Value.category]) q) (fun F7 ok l7 n7 => ?_)
  refine cc_aastore (k := 2) dX4_init_41 sh4 (by decide) (by decide) (by decide) (by decide) (by decide) (by decide) (by decide) (by decide) sh14 rfl rfl rfl ok (fun F8 ok l8 f8 => ?_)
  refine xe_iinc (v := nI 3) (L2 := [(0, .ref 3), (1, .int (nI 3))]) 1 dX4_init_42 rfl (by decide +kernel) (by decide) rfl ?_
  refine xe_goto 23 dX4_init_45 (by decide) ?_
  refine xe_iload_n 1 dX4_init_23 rfl rfl ?_
  refine xe_bipush (v := nI 10) dX4_init_24 xcb10 ?_
  refine xe_icmp_ge 48 dX4_init_26 (by decide) (fun q => absurd q (by decide +kernel)) (fun _ => ?_)
  refine xe_aload_n 0 dX4_init_29 rfl rfl ?_
  refine cc_getR dX4_init_30 fX4_11 rfl sh3 (by decide) (by decide) (l8 _ _ (l7 _ _ (l6 _ _ (l5 _ _ (l4 _ _ (l3 _ _ (l2 _ _ f1))))))) rfl ?_
  refine xe_iload_n 1 dX4_init_33 rfl rfl ?_
  refine cc_new dX4_init_34 rfl kX4_9 xinst3 xini3 18 rfl sh18 rfl ok (fun ok => ?_)
  refine xe_dup dX4_init_37 rfl ?_
  refine cc_call (ct18 ok) (fun q => xe_callIN (As := []) (rest := [.ref 18, .int (nI 3), .ref 4]) dX4_init_38 wX3_init lX4_21 iX3_init rfl rfl ⟨by decide, by decide⟩ rfl rfl (by simp [Value.category]) q) (fun F9 ok l9 n9 => ?_)
  refine cc_aastore (k := 3) dX4_init_41 sh4 (by decide) (by decide) (by decide) (by decide) (by decide) (by decide) (by decide) (by decide) sh18 rfl rfl rfl ok (fun F10 ok l10 f10 => ?_)
  refine xe_iinc (v := nI 4) (L2 := [(0, .ref 3), (1, .int (nI 4))]) 1 dX4_init_42 rfl (by decide +kernel) (by decide) rfl ?_
  refine xe_goto 23 dX4_init_45 (by decide) ?_
  refine xe_iload_n 1 dX4_init_23 rfl rfl ?_
  refine xe_bipush (v := nI 10) dX4_init_24 xcb10 ?_
  refine xe_icmp_ge 48 dX4_init_26 (by decide) (fun q => absurd q (by decide +kernel)) (fun _ => ?_)
  refine xe_aload_n 0 dX4_init_29 rfl rfl ?_
  refine cc_getR dX4_init_30 fX4_11 rfl sh3 (by decide) (by decide) (l10 _ _ (l9 _ _ (l8 _ _ (l7 _ _ (l6 _ _ (l5 _ _ (l4 _ _ (l3 _ _ (l2 _ _ f1))))))))) rfl ?_
  refine xe_iload_n 1 dX4_init_33 rfl rfl ?_
  refine cc_new dX4_init_34 rfl kX4_9 xinst3 xini3 22 rfl sh22 rfl ok (fun ok => ?_)
  refine xe_dup dX4_init_37 rfl ?_
  refine cc_call (ct22 ok) (fun q => xe_callIN (As := []) (rest := [.ref 22, .int (nI 4), .ref 4]) dX4_init_38 wX3_init lX4_21 iX3_init rfl rfl ⟨by decide, by decide⟩ rfl rfl (by simp [Value.category]) q) (fun F11 ok l11 n11 => ?_)
  refine cc_aastore (k := 4) dX4_init_41 sh4 (by decide) (by decide) (by decide) (by decide) (by decide) (by decide) (by decide) (by decide) sh22 rfl rfl rfl ok (fun F12 ok l12 f12 => ?_)
  refine xe_iinc (v := nI 5) (L2 := [(0, .ref 3), (1, .int (nI 5))]) 1 dX4_init_42 rfl (by decide +kernel) (by decide) rfl ?_
  refine xe_goto 23 dX4_init_45 (by decide) ?_
  refine xe_iload_n 1 dX4_init_23 rfl rfl ?_
  refine xe_bipush (v := nI 10) dX4_init_24 xcb10 ?_
  refine xe_icmp_ge 48 dX4_init_26 (by decide) (fun q => absurd q (by decide +kernel)) (fun _ => ?_)
  refine xe_aload_n 0 dX4_init_29 rfl rfl ?_
  refine cc_getR dX4_init_30 fX4_11 rfl sh3 (by decide) (by decide) (l12 _ _ (l11 _ _ (l10 _ _ (l9 _ _ (l8 _ _ (l7 _ _ (l6 _ _ (l5 _ _ (l4 _ _ (l3 _ _ (l2 _ _ f1))))))))))) rfl ?_
  refine xe_iload_n 1 dX4_init_33 rfl rfl ?_
  refine cc_new dX4_init_34 rfl kX4_9 xinst3 xini3 26 rfl sh26 rfl ok (fun ok => ?_)
  refine xe_dup dX4_init_37 rfl ?_
  refine cc_call (ct26 ok) (fun q => xe_callIN (As := []) (rest := [.ref 26, .int (nI 5), .ref 4]) dX4_init_38 wX3_init lX4_21 iX3_init rfl rfl ⟨by decide, by decide⟩ rfl rfl (by simp [Value.category]) q) (fun F13 ok l13 n13 => ?_)
  refine cc_aastore (k := 5) dX4_init_41 sh4 (by decide) (by decide) (by decide) (by decide) (by decide) (by decide) (by decide) (by decide) sh26 rfl rfl rfl ok (fun F14 ok l14 f14 => ?_)
  refine xe_iinc (v := nI 6) (L2 := [(0, .ref 3), (1, .int (nI 6))]) 1 dX4_init_42 rfl (by decide +kernel) (by decide) rfl ?_
  refine xe_goto 23 dX4_init_45 (by decide) ?_
  refine xe_iload_n 1 dX4_init_23 rfl rfl ?_
  refine xe_bipush (v := nI 10) dX4_init_24 xcb10 ?_
  refine xe_icmp_ge 48 dX4_init_26 (by decide) (fun q => absurd q (by decide +kernel)) (fun _ => ?_)
  refine xe_aload_n 0 dX4_init_29 rfl rfl ?_
  refine cc_getR dX4_init_30 fX4_11 rfl sh3 (by decide) (by decide) (l14 _ _ (l13 _ _ (l12 _ _ (l11 _ _ (l10 _ _ (l9 _ _ (l8 _ _ (l7 _ _ (l6 _ _ (l5 _ _ (l4 _ _ (l3 _ _ (l2 _ _ f1))))))))))))) rfl ?_
  refine xe_iload_n 1 dX4_init_33 rfl rfl ?_
  refine cc_new dX4_init_34 rfl kX4_9 xinst3 xini3 30 rfl sh30 rfl ok (fun ok => ?_)
  refine xe_dup dX4_init_37 rfl ?_
  refine cc_call (ct30 ok) (fun q => xe_callIN (As := []) (rest := [.ref 30, .int (nI 6), .ref 4]) dX4_init_38 wX3_init lX4_21 iX3_init rfl rfl ⟨by decide, by decide⟩ rfl rfl (by simp [Value.category]) q) (fun F15 ok l15 n15 => ?_)
  refine cc_aastore (k := 6) dX4_init_41 sh4 (by decide) (by decide) (by decide) (by decide) (by decide) (by decide) (by decide) (by decide) sh30 rfl rfl rfl ok (fun F16 ok l16 f16 => ?_)
  refine xe_iinc (v := nI 7) (L2 := [(0, .ref 3), (1, .int (nI 7))]) 1 dX4_init_42 rfl (by decide +kernel) (by decide) rfl ?_
  refine xe_goto 23 dX4_init_45 (by decide) ?_
  refine xe_iload_n 1 dX4_init_23 rfl rfl ?_
  refine xe_bipush (v := nI 10) dX4_init_24 xcb10 ?_
  refine xe_icmp_ge 48 dX4_init_26 (by decide) (fun q => absurd q (by decide +kernel)) (fun _ => ?_)
  refine xe_aload_n 0 dX4_init_29 rfl rfl ?_
  refine cc_getR dX4_init_30 fX4_11 rfl sh3 (by decide) (by decide) (l16 _ _ (l15 _ _ (l14 _ _ (l13 _ _ (l12 _ _ (l11 _ _ (l10 _ _ (l9 _ _ (l8 _ _ (l7 _ _ (l6 _ _ (l5 _ _ (l4 _ _ (l3 _ _ (l2 _ _ f1))))))))))))))) rfl ?_
  refine xe_iload_n 1 dX4_init_33 rfl rfl ?_
  refine cc_new dX4_init_34 rfl kX4_9 xinst3 xini3 34 rfl sh34 rfl ok (fun ok => ?_)
  refine xe_dup dX4_init_37 rfl ?_
  refine cc_call (ct34 ok) (fun q => xe_callIN (As := []) (rest := [.ref 34, .int (nI 7), .ref 4]) dX4_init_38 wX3_init lX4_21 iX3_init rfl rfl ⟨by decide, by decide⟩ rfl rfl (by simp [Value.category]) q) (fun F17 ok l17 n17 => ?_)
  refine cc_aastore (k := 7) dX4_init_41 sh4 (by decide) (by decide) (by decide) (by decide) (by decide) (by decide) (by decide) (by decide) sh34 rfl rfl rfl ok (fun F18 ok l18 f18 => ?_)
  refine xe_iinc (v := nI 8) (L2 := [(0, .ref 3), (1, .int (nI 8))]) 1 dX4_init_42 rfl (by decide +kernel) (by decide) rfl ?_
  refine xe_goto 23 dX4_init_45 (by decide) ?_
  refine xe_iload_n 1 dX4_init_23 rfl rfl ?_
  refine xe_bipush (v := nI 10) dX4_init_24 xcb10 ?_
  refine xe_icmp_ge 48 dX4_init_26 (by decide) (fun q => absurd q (by decide +kernel)) (fun _ => ?_)
  refine xe_aload_n 0 dX4_init_29 rfl rfl ?_
  refine cc_getR dX4_init_30 fX4_11 rfl sh3 (by decide) (by decide) (l18 _ _ (l17 _ _ (l16 _ _ (l15 _ _ (l14 _ _ (l13 _ _ (l12 _ _ (l11 _ _ (l10 _ _ (l9 _ _ (l8 _ _ (l7 _ _ (l6 _ _ (l5 _ _ (l4 _ _ (l3 _ _ (l2 _ _ f1))))))))))))))))) rfl ?_
  refine xe_iload_n 1 dX4_init_33 rfl rfl ?_
  refine cc_new dX4_init_34 rfl kX4_9 xinst3 xini3 38 rfl sh38 rfl ok (fun ok => ?_)
  refine xe_dup dX4_init_37 rfl ?_
  refine cc_call (ct38 ok) (fun q => xe_callIN (As := []) (rest := [.ref 38, .int (nI 8), .ref 4]) dX4_init_38 wX3_init lX4_21 iX3_init rfl rfl ⟨by decide, by decide⟩ rfl rfl (by simp [Value.category]) q) (fun F19 ok l19 n19 => ?_)
  refine cc_aastore (k := 8) dX4_init_41 sh4 (by decide) (by decide) (by decide) (by decide) (by decide) (by decide) (by decide) (by decide) sh38 rfl rfl rfl ok (fun F20 ok l20 f20 => ?_)
  refine xe_iinc (v := nI 9) (L2 := [(0, .ref 3), (1, .int (nI 9))]) 1 dX4_init_42 rfl (by decide +kernel) (by decide) rfl ?_
  refine xe_goto 23 dX4_init_45 (by decide) ?_
  refine xe_iload_n 1 dX4_init_23 rfl rfl ?_
  refine xe_bipush (v := nI 10) dX4_init_24 xcb10 ?_
  refine xe_icmp_ge 48 dX4_init_26 (by decide) (fun q => absurd q (by decide +kernel)) (fun _ => ?_)
  refine xe_aload_n 0 dX4_init_29 rfl rfl ?_
  refine cc_getR dX4_init_30 fX4_11 rfl sh3 (by decide) (by decide) (l20 _ _ (l19 _ _ (l18 _ _ (l17 _ _ (l16 _ _ (l15 _ _ (l14 _ _ (l13 _ _ (l12 _ _ (l11 _ _ (l10 _ _ (l9 _ _ (l8 _ _ (l7 _ _ (l6 _ _ (l5 _ _ (l4 _ _ (l3 _ _ (l2 _ _ f1))))))))))))))))))) rfl ?_
  refine xe_iload_n 1 dX4_init_33 rfl rfl ?_
  refine cc_new dX4_init_34 rfl kX4_9 xinst3 xini3 42 rfl sh42 rfl ok (fun ok => ?_)
  refine xe_dup dX4_init_37 rfl ?_
  refine cc_call (ct42 ok) (fun q => xe_callIN (As := []) (rest := [.ref 42, .int (nI 9), .ref 4]) dX4_init_38 wX3_init lX4_21 iX3_init rfl rfl ⟨by decide, by decide⟩ rfl rfl (by simp [Value.category]) q) (fun F21 ok l21 n21 => ?_)
  refine cc_aastore (k := 9) dX4_init_41 sh4 (by decide) (by decide) (by decide) (by decide) (by decide) (by decide) (by decide) (by decide) sh42 rfl rfl rfl ok (fun F22 ok l22 f22 => ?_)
  refine xe_iinc (v := nI 10) (L2 := [(0, .ref 3), (1, .int (nI 10))]) 1 dX4_init_42 rfl (by decide +kernel) (by decide) rfl ?_
  refine xe_goto 23 dX4_init_45 (by decide) ?_
  refine xe_iload_n 1 dX4_init_23 rfl rfl ?_
  refine xe_bipush (v := nI 10) dX4_init_24 xcb10 ?_
  refine xe_icmp_ge 48 dX4_init_26 (by decide) (fun _ => ?_) (fun q => absurd (by decide +kernel) q)
  have t22 : mLe F22 F22 := mLe.rfl'
  have t21 : mLe F21 F22 := l22.tr t22
  have t20 : mLe F20 F22 := l21.tr t21
  have t19 : mLe F19 F22 := l20.tr t20
  have t18 : mLe F18 F22 := l19.tr t19
  have t17 : mLe F17 F22 := l18.tr t18
  have t16 : mLe F16 F22 := l17.tr t17
  have t15 : mLe F15 F22 := l16.tr t16
  have t14 : mLe F14 F22 := l15.tr t15
  have t13 : mLe F13 F22 := l14.tr t14
  have t12 : mLe F12 F22 := l13.tr t13
  have t11 : mLe F11 F22 := l12.tr t12
  have t10 : mLe F10 F22 := l11.tr t11
  have t9 : mLe F9 F22 := l10.tr t10
  have t8 : mLe F8 F22 := l9.tr t9
  have t7 : mLe F7 F22 := l8.tr t8
  have t6 : mLe F6 F22 := l7.tr t7
  have t5 : mLe F5 F22 := l6.tr t6
  have t4 : mLe F4 F22 := l5.tr t5
  have t3 : mLe F3 F22 := l4.tr t4
  have t2 : mLe F2 F22 := l3.tr t3
  have t1 : mLe F1 F22 := l2.tr t2
  have t0 : mLe F F22 := l1.tr t1
  exact xe_ret (r := none) dX4_init_48 trivial ⟨rfl, _, rfl, ok, t0, mDn.mk ok [(3, 2), (3, 3), (4, 0), (4, 1), (4, 2), (4, 3), (4, 4), (4, 5), (4, 6), (4, 7), (4, 8), (4, 9)] [(6, 9), (10, 13), (14, 17), (18, 21), (22, 25), (26, 29), (30, 33), (34, 37), (38, 41), (42, 45)] (by decide +kernel) (fn1 (t1 _ _ f1) (fn1 (t2 _ _ f2) (fn1 (t4 _ _ f4) (fn1 (t6 _ _ f6) (fn1 (t8 _ _ f8) (fn1 (t10 _ _ f10) (fn1 (t12 _ _ f12) (fn1 (t14 _ _ f14) (fn1 (t16 _ _ f16) (fn1 (t18 _ _ f18) (fn1 (t20 _ _ f20) (fn1 (t22 _ _ f22) fn0)))))))))))) (fn1 (n3.le t3) (fn1 (n5.le t5) (fn1 (n7.le t7) (fn1 (n9.le t9) (fn1 (n11.le t11) (fn1 (n13.le t13) (fn1 (n15.le t15) (fn1 (n17.le t17) (fn1 (n19.le t19) (fn1 (n21.le t21) fn0))))))))))⟩

theorem ct47 {i : Nat → Nat → Int32} {F : Nat → Nat → Bool} (ok : mOK 47 i F) : xC mX0_init [.ref 47] (MM 47 i F) (mCP 55 (up2 i 47 1 (-1)) F 47) := by
  refine xC.of xpl0 (by decide) ?_
  show xE mX0_init 0 [(0, .ref 47)] [] (MM 47 i F) _
  refine xe_aload_n 0 dX0_init_0 rfl rfl ?_
  refine xe_objInit dX0_init_1 lX0_3 xobj_i xobj_c ⟨by decide, by decide⟩ ?_
  refine xe_aload_n 0 dX0_init_4 rfl rfl ?_
  refine xe_iconst (v := -1) dX0_init_5 xcm1 ?_
  refine cc_putI dX0_init_6 fX0_9 sh47 (by decide) (by decide) ok (fun ok => ?_)
  refine xe_aload_n 0 dX0_init_9 rfl rfl ?_
  refine xe_bipush (v := nI 6) dX0_init_10 xcb6 ?_
  refine xe_bipush (v := nI 64) dX0_init_12 xcb64 ?_
  refine cc_multi dX0_init_14 (Or.inl ⟨rfl, rfl, rfl⟩) kX0_15 xao_int xac_int (by decide +kernel) (nI_nat (by decide)) (by decide +kernel) (nI_nat (by decide)) (by decide) (by decide) 48 54 rfl rfl sh48 (by decide +kernel) (by decide +kernel) rfl rm48 (by decide +kernel) ok (fun ok => ?_)
  refine cc_putFA dX0_init_18 fX0_17 rfl ⟨_, _, rfl, rfl⟩ sh47 (by decide) (by decide) rfl ok (fun F1 ok l1 f1 => ?_)
  refine xe_aload_n 0 dX0_init_21 rfl rfl ?_
  refine xe_sipush (v := nI 500) dX0_init_22 xcs500 ?_
  refine cc_newarr dX0_init_25 (Or.inr (Or.inl ⟨rfl, rfl⟩)) xac_long (by decide +kernel) (nI_nat (by decide)) (by decide) 55 rfl sh55 rfl ok (fun ok => ?_)
  refine cc_putFA dX0_init_27 fX0_20 rfl ⟨_, _, rfl, rfl⟩ sh47 (by decide) (by decide) rfl ok (fun F2 ok l2 f2 => ?_)
  have t2 : mLe F2 F2 := mLe.rfl'
  have t1 : mLe F1 F2 := l2.tr t2
  have t0 : mLe F F2 := l1.tr t1
  exact xe_ret (r := none) dX0_init_30 trivial ⟨rfl, _, rfl, ok, t0, mDn.mk ok [(47, 2), (47, 3)] [] (by decide +kernel) (fn1 (t1 _ _ f1) (fn1 (t2 _ _ f2) fn0)) fn0⟩

theorem ct46 {i : Nat → Nat → Int32} {F : Nat → Nat → Bool} (ok : mOK 46 i F) : xC mX8_init [.ref 46] (MM 46 i F) (mCP 58 (up2 i 47 1 (-1)) F 46) := by
  refine xC.of xpl8 (by decide) ?_
  show xE mX8_init 0 [(0, .ref 46)] [] (MM 46 i F) _
  refine xe_aload_n 0 dX8_init_0 rfl rfl ?_
  refine xe_objInit dX8_init_1 lX8_3 xobj_i xobj_c ⟨by decide, by decide⟩ ?_
  refine xe_aload_n 0 dX8_init_4 rfl rfl ?_
  refine cc_new dX8_init_5 rfl kX8_9 xinst0 xini0 47 rfl sh47 rfl ok (fun ok => ?_)
  refine xe_dup dX8_init_8 rfl ?_
  refine cc_call (ct47 ok) (fun q => xe_callIN (As := []) (rest := [.ref 47, .ref 46]) dX8_init_9 wX0_init lX8_11 iX0_init rfl rfl ⟨by decide, by decide⟩ rfl rfl (by simp [Value.category]) q) (fun F1 ok l1 n1 => ?_)
  refine cc_putFO dX8_init_12 fX8_12 rfl ⟨_, _, rfl, rfl⟩ sh46 (by decide) (by decide) rfl ok (fun F2 ok l2 f2 => ?_)
  refine xe_aload_n 0 dX8_init_15 rfl rfl ?_
  refine xe_bipush (v := nI 10) dX8_init_16 xcb10 ?_
  refine cc_newarr dX8_init_18 (Or.inl ⟨rfl, rfl⟩) xac_int (by decide +kernel) (nI_nat (by decide)) (by decide) 56 rfl sh56 rfl ok (fun ok => ?_)
  refine cc_putFA dX8_init_20 fX8_18 rfl ⟨_, _, rfl, rfl⟩ sh46 (by decide) (by decide) rfl ok (fun F3 ok l3 f3 => ?_)
  refine xe_aload_n 0 dX8_init_23 rfl rfl ?_
  refine xe_bipush (v := nI 6) dX8_init_24 xcb6 ?_
  refine cc_newarr dX8_init_26 (Or.inl ⟨rfl, rfl⟩) xac_int (by decide +kernel) (nI_nat (by decide)) (by decide) 57 rfl sh57 rfl ok (fun ok => ?_)
  refine cc_putFA dX8_init_28 fX8_22 rfl ⟨_, _, rfl, rfl⟩ sh46 (by decide) (by decide) rfl ok (fun F4 ok l4 f4 => ?_)
  refine xe_aload_n 0 dX8_init_31 rfl rfl ?_
  refine xe_sipush (v := nI 500) dX8_init_32 xcs500 ?_
  refine cc_newarr dX8_init_35 (Or.inl ⟨rfl, rfl⟩) xac_int (by decide +kernel) (nI_nat (by decide)) (by decide) 58 rfl sh58 rfl ok (fun ok => ?_)
  refine cc_putFA dX8_init_37 fX8_25 rfl ⟨_, _, rfl, rfl⟩ sh46 (by decide) (by decide) rfl ok (fun F5 ok l5 f5 => ?_)
  have t5 : mLe F5 F5 := mLe.rfl'
  have t4 : mLe F4 F5 := l5.tr t5
  have t3 : mLe F3 F5 := l4.tr t4
  have t2 : mLe F2 F5 := l3.tr t3
  have t1 : mLe F1 F5 := l2.tr t2
  have t0 : mLe F F5 := l1.tr t1
  exact xe_ret (r := none) dX8_init_40 trivial ⟨rfl, _, rfl, ok, t0, mDn.mk ok [(46, 0), (46, 2), (46, 3), (46, 4)] [(47, 55)] (by decide +kernel) (fn1 (t2 _ _ f2) (fn1 (t3 _ _ f3) (fn1 (t4 _ _ f4) (fn1 (t5 _ _ f5) fn0)))) (fn1 (n1.le t1) fn0)⟩

theorem ct59 {i : Nat → Nat → Int32} {F : Nat → Nat → Bool} (ok : mOK 59 i F) : xC mX0_init [.ref 59] (MM 59 i F) (mCP 67 (up2 i 59 1 (-1)) F 59) := by
  refine xC.of xpl0 (by decide) ?_
  show xE mX0_init 0 [(0, .ref 59)] [] (MM 59 i F) _
  refine xe_aload_n 0 dX0_init_0 rfl rfl ?_
  refine xe_objInit dX0_init_1 lX0_3 xobj_i xobj_c ⟨by decide, by decide⟩ ?_
  refine xe_aload_n 0 dX0_init_4 rfl rfl ?_
  refine xe_iconst (v := -1) dX0_init_5 xcm1 ?_
  refine cc_putI dX0_init_6 fX0_9 sh59 (by decide) (by decide) ok (fun ok => ?_)
  refine xe_aload_n 0 dX0_init_9 rfl rfl ?_
  refine xe_bipush (v := nI 6) dX0_init_10 xcb6 ?_
  refine xe_bipush (v := nI 64) dX0_init_12 xcb64 ?_
  refine cc_multi dX0_init_14 (Or.inl ⟨rfl, rfl, rfl⟩) kX0_15 xao_int xac_int (by decide +kernel) (nI_nat (by decide)) (by decide +kernel) (nI_nat (by decide)) (by decide) (by decide) 60 66 rfl rfl sh60 (by decide +kernel) (by decide +kernel) rfl rm60 (by decide +kernel) ok (fun ok => ?_)
  refine cc_putFA dX0_init_18 fX0_17 rfl ⟨_, _, rfl, rfl⟩ sh59 (by decide) (by decide) rfl ok (fun F1 ok l1 f1 => ?_)
  refine xe_aload_n 0 dX0_init_21 rfl rfl ?_
  refine xe_sipush (v := nI 500) dX0_init_22 xcs500 ?_
  refine cc_newarr dX0_init_25 (Or.inr (Or.inl ⟨rfl, rfl⟩)) xac_long (by decide +kernel) (nI_nat (by decide)) (by decide) 67 rfl sh67 rfl ok (fun ok => ?_)
  refine cc_putFA dX0_init_27 fX0_20 rfl ⟨_, _, rfl, rfl⟩ sh59 (by decide) (by decide) rfl ok (fun F2 ok l2 f2 => ?_)
  have t2 : mLe F2 F2 := mLe.rfl'
  have t1 : mLe F1 F2 := l2.tr t2
  have t0 : mLe F F2 := l1.tr t1
  exact xe_ret (r := none) dX0_init_30 trivial ⟨rfl, _, rfl, ok, t0, mDn.mk ok [(59, 2), (59, 3)] [] (by decide +kernel) (fn1 (t1 _ _ f1) (fn1 (t2 _ _ f2) fn0)) fn0⟩

theorem ct68 {i : Nat → Nat → Int32} {F : Nat → Nat → Bool} (ok : mOK 68 i F) : xC mX2_init [.ref 68] (MM 68 i F) (mCP 69 i F 68) := by
  refine xC.of xpl2 (by decide) ?_
  show xE mX2_init 0 [(0, .ref 68)] [] (MM 68 i F) _
  refine xe_aload_n 0 dX2_init_0 rfl rfl ?_
  refine xe_objInit dX2_init_1 lX2_3 xobj_i xobj_c ⟨by decide, by decide⟩ ?_
  refine xe_aload_n 0 dX2_init_4 rfl rfl ?_
  refine xe_sipush (v := nI 500) dX2_init_5 xcs500 ?_
  refine cc_newarr dX2_init_8 (Or.inl ⟨rfl, rfl⟩) xac_int (by decide +kernel) (nI_nat (by decide)) (by decide) 69 rfl sh69 rfl ok (fun ok => ?_)
  refine cc_putFA dX2_init_10 fX2_9 rfl ⟨_, _, rfl, rfl⟩ sh68 (by decide) (by decide) rfl ok (fun F1 ok l1 f1 => ?_)
  have t1 : mLe F1 F1 := mLe.rfl'
  have t0 : mLe F F1 := l1.tr t1
  exact xe_ret (r := none) dX2_init_13 trivial ⟨rfl, _, rfl, ok, t0, mDn.mk ok [(68, 2)] [] (by decide +kernel) (fn1 (t1 _ _ f1) fn0) fn0⟩

theorem ct70 {i : Nat → Nat → Int32} {F : Nat → Nat → Bool} (ok : mOK 70 i F) : xC mX5_init [.ref 70] (MM 70 i F) (mCP 70 i F 70) := by
  refine xC.of xpl5 (by decide) ?_
  show xE mX5_init 0 [(0, .ref 70)] [] (MM 70 i F) _
  refine xe_aload_n 0 dX5_init_0 rfl rfl ?_
  refine xe_objInit dX5_init_1 lX5_1 xobj_i xobj_c ⟨by decide, by decide⟩ ?_
  have t0 : mLe F F := mLe.rfl'
  exact xe_ret (r := none) dX5_init_4 trivial ⟨rfl, _, rfl, ok, t0, mDn.mk ok [] [] (by decide +kernel) fn0 fn0⟩

theorem ct71 {i : Nat → Nat → Int32} {F : Nat → Nat → Bool} (ok : mOK 71 i F) : xC mX1_init [.ref 71] (MM 71 i F) (mCP 73 i F 71) := by
  refine xC.of xpl1 (by decide) ?_
  show xE mX1_init 0 [(0, .ref 71)] [] (MM 71 i F) _
  refine xe_aload_n 0 dX1_init_0 rfl rfl ?_
  refine xe_objInit dX1_init_1 lX1_3 xobj_i xobj_c ⟨by decide, by decide⟩ ?_
  refine xe_aload_n 0 dX1_init_4 rfl rfl ?_
  refine xe_iconst (v := nI 5) dX1_init_5 xc5 ?_
  refine cc_newarr dX1_init_6 (Or.inl ⟨rfl, rfl⟩) xac_int (by decide +kernel) (nI_nat (by decide)) (by decide) 72 rfl sh72 rfl ok (fun ok => ?_)
  refine cc_putFA dX1_init_8 fX1_9 rfl ⟨_, _, rfl, rfl⟩ sh71 (by decide) (by decide) rfl ok (fun F1 ok l1 f1 => ?_)
  refine xe_aload_n 0 dX1_init_11 rfl rfl ?_
  refine xe_iconst (v := nI 5) dX1_init_12 xc5 ?_
  refine cc_newarr dX1_init_13 (Or.inl ⟨rfl, rfl⟩) xac_int (by decide +kernel) (nI_nat (by decide)) (by decide) 73 rfl sh73 rfl ok (fun ok => ?_)
  refine cc_putFA dX1_init_15 fX1_15 rfl ⟨_, _, rfl, rfl⟩ sh71 (by decide) (by decide) rfl ok (fun F2 ok l2 f2 => ?_)
  have t2 : mLe F2 F2 := mLe.rfl'
  have t1 : mLe F1 F2 := l2.tr t2
  have t0 : mLe F F2 := l1.tr t1
  exact xe_ret (r := none) dX1_init_18 trivial ⟨rfl, _, rfl, ok, t0, mDn.mk ok [(71, 2), (71, 3)] [] (by decide +kernel) (fn1 (t1 _ _ f1) (fn1 (t2 _ _ f2) fn0)) fn0⟩

theorem ct74 {i : Nat → Nat → Int32} {F : Nat → Nat → Bool} (ok : mOK 74 i F) : xC mX7_init [.ref 74] (MM 74 i F) (mCP 155 i F 74) := by
  refine xC.of xpl7 (by decide) ?_
  show xE mX7_init 0 [(0, .ref 74)] [] (MM 74 i F) _
  refine xe_aload_n 0 dX7_init_0 rfl rfl ?_
  refine xe_objInit dX7_init_1 lX7_3 xobj_i xobj_c ⟨by decide, by decide⟩ ?_
  refine xe_aload_n 0 dX7_init_4 rfl rfl ?_
  refine xe_bipush (v := nI 6) dX7_init_5 xcb6 ?_
  refine cc_newarr dX7_init_7 (Or.inl ⟨rfl, rfl⟩) xac_int (by decide +kernel) (nI_nat (by decide)) (by decide) 75 rfl sh75 rfl ok (fun ok => ?_)
  refine cc_putFA dX7_init_9 fX7_9 rfl ⟨_, _, rfl, rfl⟩ sh74 (by decide) (by decide) rfl ok (fun F1 ok l1 f1 => ?_)
  refine xe_aload_n 0 dX7_init_12 rfl rfl ?_
  refine xe_bipush (v := nI 6) dX7_init_13 xcb6 ?_
  refine xe_bipush (v := nI 64) dX7_init_15 xcb64 ?_
  refine cc_multi dX7_init_17 (Or.inl ⟨rfl, rfl, rfl⟩) kX7_15 xao_int xac_int (by decide +kernel) (nI_nat (by decide)) (by decide +kernel) (nI_nat (by decide)) (by decide) (by decide) 76 82 rfl rfl sh76 (by decide +kernel) (by decide +kernel) rfl rm76 (by decide +kernel) ok (fun ok => ?_)
  refine cc_putFA dX7_init_21 fX7_17 rfl ⟨_, _, rfl, rfl⟩ sh74 (by decide) (by decide) rfl ok (fun F2 ok l2 f2 => ?_)
  refine xe_aload_n 0 dX7_init_24 rfl rfl ?_
  refine xe_bipush (v := nI 10) dX7_init_25 xcb10 ?_
  refine cc_newarr dX7_init_27 (Or.inr (Or.inl ⟨rfl, rfl⟩)) xac_long (by decide +kernel) (nI_nat (by decide)) (by decide) 83 rfl sh83 rfl ok (fun ok => ?_)
  refine cc_putFA dX7_init_29 fX7_20 rfl ⟨_, _, rfl, rfl⟩ sh74 (by decide) (by decide) rfl ok (fun F3 ok l3 f3 => ?_)
  refine xe_aload_n 0 dX7_init_32 rfl rfl ?_
  refine xe_bipush (v := nI 30) dX7_init_33 xcb30 ?_
  refine xe_bipush (v := nI 64) dX7_init_35 xcb64 ?_
  refine cc_multi dX7_init_37 (Or.inr ⟨rfl, rfl, rfl⟩) kX7_24 xao_long xac_long (by decide +kernel) (nI_nat (by decide)) (by decide +kernel) (nI_nat (by decide)) (by decide) (by decide) 84 114 rfl rfl sh84 (by decide +kernel) (by decide +kernel) rfl rm84 (by decide +kernel) ok (fun ok => ?_)
  refine cc_putFA dX7_init_41 fX7_26 rfl ⟨_, _, rfl, rfl⟩ sh74 (by decide) (by decide) rfl ok (fun F4 ok l4 f4 => ?_)
  refine xe_aload_n 0 dX7_init_44 rfl rfl ?_
  refine xe_bipush (v := nI 30) dX7_init_45 xcb30 ?_
  refine xe_bipush (v := nI 64) dX7_init_47 xcb64 ?_
  refine cc_multi dX7_init_49 (Or.inl ⟨rfl, rfl, rfl⟩) kX7_15 xao_int xac_int (by decide +kernel) (nI_nat (by decide)) (by decide +kernel) (nI_nat (by decide)) (by decide) (by decide) 115 145 rfl rfl sh115 (by decide +kernel) (by decide +kernel) rfl rm115 (by decide +kernel) ok (fun ok => ?_)
  refine cc_putFA dX7_init_53 fX7_29 rfl ⟨_, _, rfl, rfl⟩ sh74 (by decide) (by decide) rfl ok (fun F5 ok l5 f5 => ?_)
  refine xe_aload_n 0 dX7_init_56 rfl rfl ?_
  refine xe_bipush (v := nI 7) dX7_init_57 xcb7 ?_
  refine cc_newarr dX7_init_59 (Or.inl ⟨rfl, rfl⟩) xac_int (by decide +kernel) (nI_nat (by decide)) (by decide) 146 rfl sh146 rfl ok (fun ok => ?_)
  refine cc_putFA dX7_init_61 fX7_32 rfl ⟨_, _, rfl, rfl⟩ sh74 (by decide) (by decide) rfl ok (fun F6 ok l6 f6 => ?_)
  refine xe_aload_n 0 dX7_init_64 rfl rfl ?_
  refine xe_iconst (v := nI 2) dX7_init_65 xc2 ?_
  refine xe_sipush (v := nI 500) dX7_init_66 xcs500 ?_
  refine cc_multi dX7_init_69 (Or.inr ⟨rfl, rfl, rfl⟩) kX7_24 xao_long xac_long (by decide +kernel) (nI_nat (by decide)) (by decide +kernel) (nI_nat (by decide)) (by decide) (by decide) 147 149 rfl rfl sh147 (by decide +kernel) (by decide +kernel) rfl rm147 (by decide +kernel) ok (fun ok => ?_)
  refine cc_putFA dX7_init_73 fX7_35 rfl ⟨_, _, rfl, rfl⟩ sh74 (by decide) (by decide) rfl ok (fun F7 ok l7 f7 => ?_)
  refine xe_aload_n 0 dX7_init_76 rfl rfl ?_
  refine xe_bipush (v := nI 6) dX7_init_77 xcb6 ?_
  refine cc_newarr dX7_init_79 (Or.inl ⟨rfl, rfl⟩) xac_int (by decide +kernel) (nI_nat (by decide)) (by decide) 150 rfl sh150 rfl ok (fun ok => ?_)
  refine cc_putFA dX7_init_81 fX7_38 rfl ⟨_, _, rfl, rfl⟩ sh74 (by decide) (by decide) rfl ok (fun F8 ok l8 f8 => ?_)
  refine xe_aload_n 0 dX7_init_84 rfl rfl ?_
  refine xe_bipush (v := nI 6) dX7_init_85 xcb6 ?_
  refine cc_newarr dX7_init_87 (Or.inl ⟨rfl, rfl⟩) xac_int (by decide +kernel) (nI_nat (by decide)) (by decide) 151 rfl sh151 rfl ok (fun ok => ?_)
  refine cc_putFA dX7_init_89 fX7_41 rfl ⟨_, _, rfl, rfl⟩ sh74 (by decide) (by decide) rfl ok (fun F9 ok l9 f9 => ?_)
  refine xe_aload_n 0 dX7_init_92 rfl rfl ?_
  refine xe_bipush (v := nI 10) dX7_init_93 xcb10 ?_
  refine cc_newarr dX7_init_95 (Or.inr (Or.inl ⟨rfl, rfl⟩)) xac_long (by decide +kernel) (nI_nat (by decide)) (by decide) 152 rfl sh152 rfl ok (fun ok => ?_)
  refine cc_putFA dX7_init_97 fX7_44 rfl ⟨_, _, rfl, rfl⟩ sh74 (by decide) (by decide) rfl ok (fun F10 ok l10 f10 => ?_)
  refine xe_aload_n 0 dX7_init_100 rfl rfl ?_
  refine xe_bipush (v := nI 16) dX7_init_101 xcb16 ?_
  refine cc_newarr dX7_init_103 (Or.inl ⟨rfl, rfl⟩) xac_int (by decide +kernel) (nI_nat (by decide)) (by decide) 153 rfl sh153 rfl ok (fun ok => ?_)
  refine cc_putFA dX7_init_105 fX7_47 rfl ⟨_, _, rfl, rfl⟩ sh74 (by decide) (by decide) rfl ok (fun F11 ok l11 f11 => ?_)
  refine xe_aload_n 0 dX7_init_108 rfl rfl ?_
  refine xe_bipush (v := nI 16) dX7_init_109 xcb16 ?_
  refine cc_newarr dX7_init_111 (Or.inl ⟨rfl, rfl⟩) xac_int (by decide +kernel) (nI_nat (by decide)) (by decide) 154 rfl sh154 rfl ok (fun ok => ?_)
  refine cc_putFA dX7_init_113 fX7_50 rfl ⟨_, _, rfl, rfl⟩ sh74 (by decide) (by decide) rfl ok (fun F12 ok l12 f12 => ?_)
  refine xe_aload_n 0 dX7_init_116 rfl rfl ?_
  refine xe_iconst (v := nI 4) dX7_init_117 xc4 ?_
  refine cc_newarr dX7_init_118 (Or.inl ⟨rfl, rfl⟩) xac_int (by decide +kernel) (nI_nat (by decide)) (by decide) 155 rfl sh155 rfl ok (fun ok => ?_)
  refine cc_putFA dX7_init_120 fX7_53 rfl ⟨_, _, rfl, rfl⟩ sh74 (by decide) (by decide) rfl ok (fun F13 ok l13 f13 => ?_)
  have t13 : mLe F13 F13 := mLe.rfl'
  have t12 : mLe F12 F13 := l13.tr t13
  have t11 : mLe F11 F13 := l12.tr t12
  have t10 : mLe F10 F13 := l11.tr t11
  have t9 : mLe F9 F13 := l10.tr t10
  have t8 : mLe F8 F13 := l9.tr t9
  have t7 : mLe F7 F13 := l8.tr t8
  have t6 : mLe F6 F13 := l7.tr t7
  have t5 : mLe F5 F13 := l6.tr t6
  have t4 : mLe F4 F13 := l5.tr t5
  have t3 : mLe F3 F13 := l4.tr t4
  have t2 : mLe F2 F13 := l3.tr t3
  have t1 : mLe F1 F13 := l2.tr t2
  have t0 : mLe F F13 := l1.tr t1
  exact xe_ret (r := none) dX7_init_123 trivial ⟨rfl, _, rfl, ok, t0, mDn.mk ok [(74, 0), (74, 1), (74, 2), (74, 3), (74, 4), (74, 5), (74, 6), (74, 7), (74, 8), (74, 9), (74, 10), (74, 11), (74, 12)] [] (by decide +kernel) (fn1 (t1 _ _ f1) (fn1 (t2 _ _ f2) (fn1 (t3 _ _ f3) (fn1 (t4 _ _ f4) (fn1 (t5 _ _ f5) (fn1 (t6 _ _ f6) (fn1 (t7 _ _ f7) (fn1 (t8 _ _ f8) (fn1 (t9 _ _ f9) (fn1 (t10 _ _ f10) (fn1 (t11 _ _ f11) (fn1 (t12 _ _ f12) (fn1 (t13 _ _ f13) fn0))))))))))))) fn0⟩

theorem ct156 {i : Nat → Nat → Int32} {F : Nat → Nat → Bool} (ok : mOK 156 i F) : xC mX6_init [.ref 156] (MM 156 i F) (mCP 157 i F 156) := by
  refine xC.of xpl6 (by decide) ?_
  show xE mX6_init 0 [(0, .ref 156)] [] (MM 156 i F) _
  refine xe_aload_n 0 dX6_init_0 rfl rfl ?_
  refine xe_objInit dX6_init_1 lX6_3 xobj_i xobj_c ⟨by decide, by decide⟩ ?_
  refine xe_aload_n 0 dX6_init_4 rfl rfl ?_
  refine xe_bipush (v := nI 120) dX6_init_5 xcb120 ?_
  refine cc_newarr dX6_init_7 (Or.inl ⟨rfl, rfl⟩) xac_int (by decide +kernel) (nI_nat (by decide)) (by decide) 157 rfl sh157 rfl ok (fun ok => ?_)
  refine cc_putFA dX6_init_9 fX6_9 rfl ⟨_, _, rfl, rfl⟩ sh156 (by decide) (by decide) rfl ok (fun F1 ok l1 f1 => ?_)
  have t1 : mLe F1 F1 := mLe.rfl'
  have t0 : mLe F F1 := l1.tr t1
  exact xe_ret (r := none) dX6_init_12 trivial ⟨rfl, _, rfl, ok, t0, mDn.mk ok [(156, 2)] [] (by decide +kernel) (fn1 (t1 _ _ f1) fn0) fn0⟩

theorem ct158 {i : Nat → Nat → Int32} {F : Nat → Nat → Bool} (ok : mOK 158 i F) : xC mX6_init [.ref 158] (MM 158 i F) (mCP 159 i F 158) := by
  refine xC.of xpl6 (by decide) ?_
  show xE mX6_init 0 [(0, .ref 158)] [] (MM 158 i F) _
  refine xe_aload_n 0 dX6_init_0 rfl rfl ?_
  refine xe_objInit dX6_init_1 lX6_3 xobj_i xobj_c ⟨by decide, by decide⟩ ?_
  refine xe_aload_n 0 dX6_init_4 rfl rfl ?_
  refine xe_bipush (v := nI 120) dX6_init_5 xcb120 ?_
  refine cc_newarr dX6_init_7 (Or.inl ⟨rfl, rfl⟩) xac_int (by decide +kernel) (nI_nat (by decide)) (by decide) 159 rfl sh159 rfl ok (fun ok => ?_)
  refine cc_putFA dX6_init_9 fX6_9 rfl ⟨_, _, rfl, rfl⟩ sh158 (by decide) (by decide) rfl ok (fun F1 ok l1 f1 => ?_)
  have t1 : mLe F1 F1 := mLe.rfl'
  have t0 : mLe F F1 := l1.tr t1
  exact xe_ret (r := none) dX6_init_12 trivial ⟨rfl, _, rfl, ok, t0, mDn.mk ok [(158, 2)] [] (by decide +kernel) (fn1 (t1 _ _ f1) fn0) fn0⟩

theorem ct160 {i : Nat → Nat → Int32} {F : Nat → Nat → Bool} (ok : mOK 160 i F) : xC mX6_init [.ref 160] (MM 160 i F) (mCP 161 i F 160) := by
  refine xC.of xpl6 (by decide) ?_
  show xE mX6_init 0 [(0, .ref 160)] [] (MM 160 i F) _
  refine xe_aload_n 0 dX6_init_0 rfl rfl ?_
  refine xe_objInit dX6_init_1 lX6_3 xobj_i xobj_c ⟨by decide, by decide⟩ ?_
  refine xe_aload_n 0 dX6_init_4 rfl rfl ?_
  refine xe_bipush (v := nI 120) dX6_init_5 xcb120 ?_
  refine cc_newarr dX6_init_7 (Or.inl ⟨rfl, rfl⟩) xac_int (by decide +kernel) (nI_nat (by decide)) (by decide) 161 rfl sh161 rfl ok (fun ok => ?_)
  refine cc_putFA dX6_init_9 fX6_9 rfl ⟨_, _, rfl, rfl⟩ sh160 (by decide) (by decide) rfl ok (fun F1 ok l1 f1 => ?_)
  have t1 : mLe F1 F1 := mLe.rfl'
  have t0 : mLe F F1 := l1.tr t1
  exact xe_ret (r := none) dX6_init_12 trivial ⟨rfl, _, rfl, ok, t0, mDn.mk ok [(160, 2)] [] (by decide +kernel) (fn1 (t1 _ _ f1) fn0) fn0⟩

theorem ct162 {i : Nat → Nat → Int32} {F : Nat → Nat → Bool} (ok : mOK 162 i F) : xC mX6_init [.ref 162] (MM 162 i F) (mCP 163 i F 162) := by
  refine xC.of xpl6 (by decide) ?_
  show xE mX6_init 0 [(0, .ref 162)] [] (MM 162 i F) _
  refine xe_aload_n 0 dX6_init_0 rfl rfl ?_
  refine xe_objInit dX6_init_1 lX6_3 xobj_i xobj_c ⟨by decide, by decide⟩ ?_
  refine xe_aload_n 0 dX6_init_4 rfl rfl ?_
  refine xe_bipush (v := nI 120) dX6_init_5 xcb120 ?_
  refine cc_newarr dX6_init_7 (Or.inl ⟨rfl, rfl⟩) xac_int (by decide +kernel) (nI_nat (by decide)) (by decide) 163 rfl sh163 rfl ok (fun ok => ?_)
  refine cc_putFA dX6_init_9 fX6_9 rfl ⟨_, _, rfl, rfl⟩ sh162 (by decide) (by decide) rfl ok (fun F1 ok l1 f1 => ?_)
  have t1 : mLe F1 F1 := mLe.rfl'
  have t0 : mLe F F1 := l1.tr t1
  exact xe_ret (r := none) dX6_init_12 trivial ⟨rfl, _, rfl, ok, t0, mDn.mk ok [(162, 2)] [] (by decide +kernel) (fn1 (t1 _ _ f1) fn0) fn0⟩

theorem ct164 {i : Nat → Nat → Int32} {F : Nat → Nat → Bool} (ok : mOK 164 i F) : xC mX6_init [.ref 164] (MM 164 i F) (mCP 165 i F 164) := by
  refine xC.of xpl6 (by decide) ?_
  show xE mX6_init 0 [(0, .ref 164)] [] (MM 164 i F) _
  refine xe_aload_n 0 dX6_init_0 rfl rfl ?_
  refine xe_objInit dX6_init_1 lX6_3 xobj_i xobj_c ⟨by decide, by decide⟩ ?_
  refine xe_aload_n 0 dX6_init_4 rfl rfl ?_
  refine xe_bipush (v := nI 120) dX6_init_5 xcb120 ?_
  refine cc_newarr dX6_init_7 (Or.inl ⟨rfl, rfl⟩) xac_int (by decide +kernel) (nI_nat (by decide)) (by decide) 165 rfl sh165 rfl ok (fun ok => ?_)
  refine cc_putFA dX6_init_9 fX6_9 rfl ⟨_, _, rfl, rfl⟩ sh164 (by decide) (by decide) rfl ok (fun F1 ok l1 f1 => ?_)
  have t1 : mLe F1 F1 := mLe.rfl'
  have t0 : mLe F F1 := l1.tr t1
  exact xe_ret (r := none) dX6_init_12 trivial ⟨rfl, _, rfl, ok, t0, mDn.mk ok [(164, 2)] [] (by decide +kernel) (fn1 (t1 _ _ f1) fn0) fn0⟩

theorem ct166 {i : Nat → Nat → Int32} {F : Nat → Nat → Bool} (ok : mOK 166 i F) : xC mX6_init [.ref 166] (MM 166 i F) (mCP 167 i F 166) := by
  refine xC.of xpl6 (by decide) ?_
  show xE mX6_init 0 [(0, .ref 166)] [] (MM 166 i F) _
  refine xe_aload_n 0 dX6_init_0 rfl rfl ?_
  refine xe_objInit dX6_init_1 lX6_3 xobj_i xobj_c ⟨by decide, by decide⟩ ?_
  refine xe_aload_n 0 dX6_init_4 rfl rfl ?_
  refine xe_bipush (v := nI 120) dX6_init_5 xcb120 ?_
  refine cc_newarr dX6_init_7 (Or.inl ⟨rfl, rfl⟩) xac_int (by decide +kernel) (nI_nat (by decide)) (by decide) 167 rfl sh167 rfl ok (fun ok => ?_)
  refine cc_putFA dX6_init_9 fX6_9 rfl ⟨_, _, rfl, rfl⟩ sh166 (by decide) (by decide) rfl ok (fun F1 ok l1 f1 => ?_)
  have t1 : mLe F1 F1 := mLe.rfl'
  have t0 : mLe F F1 := l1.tr t1
  exact xe_ret (r := none) dX6_init_12 trivial ⟨rfl, _, rfl, ok, t0, mDn.mk ok [(166, 2)] [] (by decide +kernel) (fn1 (t1 _ _ f1) fn0) fn0⟩

theorem ct168 {i : Nat → Nat → Int32} {F : Nat → Nat → Bool} (ok : mOK 168 i F) : xC mX6_init [.ref 168] (MM 168 i F) (mCP 169 i F 168) := by
  refine xC.of xpl6 (by decide) ?_
  show xE mX6_init 0 [(0, .ref 168)] [] (MM 168 i F) _
  refine xe_aload_n 0 dX6_init_0 rfl rfl ?_
  refine xe_objInit dX6_init_1 lX6_3 xobj_i xobj_c ⟨by decide, by decide⟩ ?_
  refine xe_aload_n 0 dX6_init_4 rfl rfl ?_
  refine xe_bipush (v := nI 120) dX6_init_5 xcb120 ?_
  refine cc_newarr dX6_init_7 (Or.inl ⟨rfl, rfl⟩) xac_int (by decide +kernel) (nI_nat (by decide)) (by decide) 169 rfl sh169 rfl ok (fun ok => ?_)
  refine cc_putFA dX6_init_9 fX6_9 rfl ⟨_, _, rfl, rfl⟩ sh168 (by decide) (by decide) rfl ok (fun F1 ok l1 f1 => ?_)
  have t1 : mLe F1 F1 := mLe.rfl'
  have t0 : mLe F F1 := l1.tr t1
  exact xe_ret (r := none) dX6_init_12 trivial ⟨rfl, _, rfl, ok, t0, mDn.mk ok [(168, 2)] [] (by decide +kernel) (fn1 (t1 _ _ f1) fn0) fn0⟩

theorem ct170 {i : Nat → Nat → Int32} {F : Nat → Nat → Bool} (ok : mOK 170 i F) : xC mX6_init [.ref 170] (MM 170 i F) (mCP 171 i F 170) := by
  refine xC.of xpl6 (by decide) ?_
  show xE mX6_init 0 [(0, .ref 170)] [] (MM 170 i F) _
  refine xe_aload_n 0 dX6_init_0 rfl rfl ?_
  refine xe_objInit dX6_init_1 lX6_3 xobj_i xobj_c ⟨by decide, by decide⟩ ?_
  refine xe_aload_n 0 dX6_init_4 rfl rfl ?_
  refine xe_bipush (v := nI 120) dX6_init_5 xcb120 ?_
  refine cc_newarr dX6_init_7 (Or.inl ⟨rfl, rfl⟩) xac_int (by decide +kernel) (nI_nat (by decide)) (by decide) 171 rfl sh171 rfl ok (fun ok => ?_)
  refine cc_putFA dX6_init_9 fX6_9 rfl ⟨_, _, rfl, rfl⟩ sh170 (by decide) (by decide) rfl ok (fun F1 ok l1 f1 => ?_)
  have t1 : mLe F1 F1 := mLe.rfl'
  have t0 : mLe F F1 := l1.tr t1
  exact xe_ret (r := none) dX6_init_12 trivial ⟨rfl, _, rfl, ok, t0, mDn.mk ok [(170, 2)] [] (by decide +kernel) (fn1 (t1 _ _ f1) fn0) fn0⟩

theorem ct1 {i : Nat → Nat → Int32} {F : Nat → Nat → Bool} (ok : mOK 1 i F) : xC mX9_init [.ref 1] (MM 1 i F) (mCP 171 (up2 (up2 i 47 1 (-1)) 59 1 (-1)) F 1) := by
  refine xC.of xpl9 (by decide) ?_
  show xE mX9_init 0 [(0, .ref 1)] [] (MM 1 i F) _
  refine xe_aload_n 0 dX9_init_0 rfl rfl ?_
  refine xe_objInit dX9_init_1 lX9_3 xobj_i xobj_c ⟨by decide, by decide⟩ ?_
  refine xe_aload_n 0 dX9_init_4 rfl rfl ?_
  refine xe_bipush (v := nI 8) dX9_init_5 xcb8 ?_
  refine cc_newref dX9_init_7 (Or.inl ⟨rfl, rfl⟩) kX9_9 xao_X6 (by decide +kernel) (nI_nat (by decide)) (by decide) 2 rfl sh2 rfl ok (fun ok => ?_)
  refine cc_putFA dX9_init_10 fX9_11 rfl ⟨_, _, rfl, rfl⟩ sh1 (by decide) (by decide) rfl ok (fun F1 ok l1 f1 => ?_)
  refine xe_aload_n 0 dX9_init_13 rfl rfl ?_
  refine cc_new dX9_init_14 rfl kX9_15 xinst4 xini4 3 rfl sh3 rfl ok (fun ok => ?_)
  refine xe_dup dX9_init_17 rfl ?_
  refine cc_call (ct3 ok) (fun q => xe_callI (As := []) (rest := [.ref 3, .ref 1]) dX9_init_18 wX4_init lX9_17 iX4_init rfl rfl ⟨by decide, by decide⟩ rfl rfl (by simp [Value.category]) q) (fun F2 ok l2 n2 => ?_)
  refine cc_putFO dX9_init_21 fX9_18 rfl ⟨_, _, rfl, rfl⟩ sh1 (by decide) (by decide) rfl ok (fun F3 ok l3 f3 => ?_)
  refine xe_aload_n 0 dX9_init_24 rfl rfl ?_
  refine cc_new dX9_init_25 rfl kX9_22 xinst8 xini8 46 rfl sh46 rfl ok (fun ok => ?_)
  refine xe_dup dX9_init_28 rfl ?_
  refine cc_call (ct46 ok) (fun q => xe_callIN (As := []) (rest := [.ref 46, .ref 1]) dX9_init_29 wX8_init lX9_24 iX8_init rfl rfl ⟨by decide, by decide⟩ rfl rfl (by simp [Value.category]) q) (fun F4 ok l4 n4 => ?_)
  refine cc_putFO dX9_init_32 fX9_25 rfl ⟨_, _, rfl, rfl⟩ sh1 (by decide) (by decide) rfl ok (fun F5 ok l5 f5 => ?_)
  refine xe_aload_n 0 dX9_init_35 rfl rfl ?_
  refine cc_new dX9_init_36 rfl kX9_29 xinst0 xini0 59 rfl sh59 rfl ok (fun ok => ?_)
  refine xe_dup dX9_init_39 rfl ?_
  refine cc_call (ct59 ok) (fun q => xe_callIN (As := []) (rest := [.ref 59, .ref 1]) dX9_init_40 wX0_init lX9_31 iX0_init rfl rfl ⟨by decide, by decide⟩ rfl rfl (by simp [Value.category]) q) (fun F6 ok l6 n6 => ?_)
  refine cc_putFO dX9_init_43 fX9_32 rfl ⟨_, _, rfl, rfl⟩ sh1 (by decide) (by decide) rfl ok (fun F7 ok l7 f7 => ?_)
  refine xe_aload_n 0 dX9_init_46 rfl rfl ?_
  refine cc_new dX9_init_47 rfl kX9_36 xinst2 xini2 68 rfl sh68 rfl ok (fun ok => ?_)
  refine xe_dup dX9_init_50 rfl ?_
  refine cc_call (ct68 ok) (fun q => xe_callIN (As := []) (rest := [.ref 68, .ref 1]) dX9_init_51 wX2_init lX9_38 iX2_init rfl rfl ⟨by decide, by decide⟩ rfl rfl (by simp [Value.category]) q) (fun F8 ok l8 n8 => ?_)
  refine cc_putFO dX9_init_54 fX9_39 rfl ⟨_, _, rfl, rfl⟩ sh1 (by decide) (by decide) rfl ok (fun F9 ok l9 f9 => ?_)
  refine xe_aload_n 0 dX9_init_57 rfl rfl ?_
  refine cc_new dX9_init_58 rfl kX9_43 xinst5 xini5 70 rfl sh70 rfl ok (fun ok => ?_)
  refine xe_dup dX9_init_61 rfl ?_
  refine cc_call (ct70 ok) (fun q => xe_callIN (As := []) (rest := [.ref 70, .ref 1]) dX9_init_62 wX5_init lX9_45 iX5_init rfl rfl ⟨by decide, by decide⟩ rfl rfl (by simp [Value.category]) q) (fun F10 ok l10 n10 => ?_)
  refine cc_putFO dX9_init_65 fX9_46 rfl ⟨_, _, rfl, rfl⟩ sh1 (by decide) (by decide) rfl ok (fun F11 ok l11 f11 => ?_)
  refine xe_aload_n 0 dX9_init_68 rfl rfl ?_
  refine cc_new dX9_init_69 rfl kX9_50 xinst1 xini1 71 rfl sh71 rfl ok (fun ok => ?_)
  refine xe_dup dX9_init_72 rfl ?_
  refine cc_call (ct71 ok) (fun q => xe_callIN (As := []) (rest := [.ref 71, .ref 1]) dX9_init_73 wX1_init lX9_52 iX1_init rfl rfl ⟨by decide, by decide⟩ rfl rfl (by simp [Value.category]) q) (fun F12 ok l12 n12 => ?_)
  refine cc_putFO dX9_init_76 fX9_53 rfl ⟨_, _, rfl, rfl⟩ sh1 (by decide) (by decide) rfl ok (fun F13 ok l13 f13 => ?_)
  refine xe_aload_n 0 dX9_init_79 rfl rfl ?_
  refine cc_new dX9_init_80 rfl kX9_57 xinst7 xini7 74 rfl sh74 rfl ok (fun ok => ?_)
  refine xe_dup dX9_init_83 rfl ?_
  refine cc_call (ct74 ok) (fun q => xe_callIN (As := []) (rest := [.ref 74, .ref 1]) dX9_init_84 wX7_init lX9_59 iX7_init rfl rfl ⟨by decide, by decide⟩ rfl rfl (by simp [Value.category]) q) (fun F14 ok l14 n14 => ?_)
  refine cc_putFO dX9_init_87 fX9_60 rfl ⟨_, _, rfl, rfl⟩ sh1 (by decide) (by decide) rfl ok (fun F15 ok l15 f15 => ?_)
  refine xe_iconst (v := nI 0) dX9_init_90 xc0 ?_
  refine xe_istore_n (L2 := [(0, .ref 1), (1, .int (nI 0))]) dX9_init_91 rfl (by decide) rfl ?_
  refine xe_iload_n 1 dX9_init_92 rfl rfl ?_
  refine xe_bipush (v := nI 8) dX9_init_93 xcb8 ?_
  refine xe_icmp_ge 117 dX9_init_95 (by decide) (fun q => absurd q (by decide +kernel)) (fun _ => ?_)
  refine xe_aload_n 0 dX9_init_98 rfl rfl ?_
  refine cc_getR dX9_init_99 fX9_11 rfl sh1 (by decide) (by decide) (l15 _ _ (l14 _ _ (l13 _ _ (l12 _ _ (l11 _ _ (l10 _ _ (l9 _ _ (l8 _ _ (l7 _ _ (l6 _ _ (l5 _ _ (l4 _ _ (l3 _ _ (l2 _ _ f1)))))))))))))) rfl ?_
  refine xe_iload_n 1 dX9_init_102 rfl rfl ?_
  refine cc_new dX9_init_103 rfl kX9_9 xinst6 xini6 156 rfl sh156 rfl ok (fun ok => ?_)
  refine xe_dup dX9_init_106 rfl ?_
  refine cc_call (ct156 ok) (fun q => xe_callIN (As := []) (rest := [.ref 156, .int (nI 0), .ref 2]) dX9_init_107 wX6_init lX9_64 iX6_init rfl rfl ⟨by decide, by decide⟩ rfl rfl (by simp [Value.category]) q) (fun F16 ok l16 n16 => ?_)
  refine cc_aastore (k := 0) dX9_init_110 sh2 (by decide) (by decide) (by decide) (by decide) (by decide) (by decide) (by decide) (by decide) sh156 rfl rfl rfl ok (fun F17 ok l17 f17 => ?_)
  refine xe_iinc (v := nI 1) (L2 := [(0, .ref 1), (1, .int (nI 1))]) 1 dX9_init_111 rfl (by decide +kernel) (by decide) rfl ?_
  refine xe_goto 92 dX9_init_114 (by decide) ?_
  refine xe_iload_n 1 dX9_init_92 rfl rfl ?_
  refine xe_bipush (v := nI 8) dX9_init_93 xcb8 ?_
  refine xe_icmp_ge 117 dX9_init_95 (by decide) (fun q => absurd q (by decide +kernel)) (fun _ => ?_)
  refine xe_aload_n 0 dX9_init_98 rfl rfl ?_
  refine cc_getR dX9_init_99 fX9_11 rfl sh1 (by decide) (by decide) (l17 _ _ (l16 _ _ (l15 _ _ (l14 _ _ (l13 _ _ (l12 _ _ (l11 _ _ (l10 _ _ (l9 _ _ (l8 _ _ (l7 _ _ (l6 _ _ (l5 _ _ (l4 _ _ (l3 _ _ (l2 _ _ f1)))))))))))))))) rfl ?_
  refine xe_iload_n 1 dX9_init_102 rfl rfl ?_
  refine cc_new dX9_init_103 rfl kX9_9 xinst6 xini6 158 rfl sh158 rfl ok (fun ok => ?_)
  refine xe_dup dX9_init_106 rfl ?_
  refine cc_call (ct158 ok) (fun q => xe_callIN (As := []) (rest := [.ref 158, .int (nI 1), .ref 2]) dX9_init_107 wX6_init lX9_64 iX6_init rfl rfl ⟨by decide, by decide⟩ rfl rfl (by simp [Value.category]) q) (fun F18 ok l18 n18 => ?_)
  refine cc_aastore (k := 1) dX9_init_110 sh2 (by decide) (by decide) (by decide) (by decide) (by decide) (by decide) (by decide) (by decide) sh158 rfl rfl rfl ok (fun F19 ok l19 f19 => ?_)
  refine xe_iinc (v := nI 2) (L2 := [(0, .ref 1), (1, .int (nI 2))]) 1 dX9_init_111 rfl (by decide +kernel) (by decide) rfl ?_
  refine xe_goto 92 dX9_init_114 (by decide) ?_
  refine xe_iload_n 1 dX9_init_92 rfl rfl ?_
  refine xe_bipush (v := nI 8) dX9_init_93 xcb8 ?_
  refine xe_icmp_ge 117 dX9_init_95 (by decide) (fun q => absurd q (by decide +kernel)) (fun _ => ?_)
  refine xe_aload_n 0 dX9_init_98 rfl rfl ?_
  refine cc_getR dX9_init_99 fX9_11 rfl sh1 (by decide) (by decide) (l19 _ _ (l18 _ _ (l17 _ _ (l16 _ _ (l15 _ _ (l14 _ _ (l13 _ _ (l12 _ _ (l11 _ _ (l10 _ _ (l9 _ _ (l8 _ _ (l7 _ _ (l6 _ _ (l5 _ _ (l4 _ _ (l3 _ _ (l2 _ _ f1)))))))))))))))))) rfl ?_
  refine xe_iload_n 1 dX9_init_102 rfl rfl ?_
  refine cc_new dX9_init_103 rfl kX9_9 xinst6 xini6 160 rfl sh160 rfl ok (fun ok => ?_)
  refine xe_dup dX9_init_106 rfl ?_
  refine cc_call (ct160 ok) (fun q => xe_callIN (As := []) (rest := [.ref 160, .int (nI 2), .ref 2]) dX9_init_107 wX6_init lX9_64 iX6_init rfl rfl ⟨by decide, by decide⟩ rfl rfl (by simp [Value.category]) q) (fun F20 ok l20 n20 => ?_)
  refine cc_aastore (k := 2) dX9_init_110 sh2 (by decide) (by decide) (by decide) (by decide) (by decide) (by decide) (by decide) (by decide) sh160 rfl rfl rfl ok (fun F21 ok l21 f21 => ?_)
  refine xe_iinc (v := nI 3) (L2 := [(0, .ref 1), (1, .int (nI 3))]) 1 dX9_init_111 rfl (by decide +kernel) (by decide) rfl ?_
  refine xe_goto 92 dX9_init_114 (by decide) ?_
  refine xe_iload_n 1 dX9_init_92 rfl rfl ?_
  refine xe_bipush (v := nI 8) dX9_init_93 xcb8 ?_
  refine xe_icmp_ge 117 dX9_init_95 (by decide) (fun q => absurd q (by decide +kernel)) (fun _ => ?_)
  refine xe_aload_n 0 dX9_init_98 rfl rfl ?_
  refine cc_getR dX9_init_99 fX9_11 rfl sh1 (by decide) (by decide) (l21 _ _ (l20 _ _ (l19 _ _ (l18 _ _ (l17 _ _ (l16 _ _ (l15 _ _ (l14 _ _ (l13 _ _ (l12 _ _ (l11 _ _ (l10 _ _ (l9 _ _ (l8 _ _ (l7 _ _ (l6 _ _ (l5 _ _ (l4 _ _ (l3 _ _ (l2 _ _ f1)))))))))))))))))))) rfl ?_
  refine xe_iload_n 1 dX9_init_102 rfl rfl ?_
  refine cc_new dX9_init_103 rfl kX9_9 xinst6 xini6 162 rfl sh162 rfl ok (fun ok => ?_)
  refine xe_dup dX9_init_106 rfl ?_
  refine cc_call (ct162 ok) (fun q => xe_callIN (As := []) (rest := [.ref 162, .int (nI 3), .ref 2]) dX9_init_107 wX6_init lX9_64 iX6_init rfl rfl ⟨by decide, by decide⟩ rfl rfl (by simp [Value.category]) q) (fun F22 ok l22 n22 => ?_)
  refine cc_aastore (k := 3) dX9_init_110 sh2 (by decide) (by decide) (by decide) (by decide) (by decide) (by decide) (by decide) (by decide) sh162 rfl rfl rfl ok (fun F23 ok l23 f23 => ?_)
  refine xe_iinc (v := nI 4) (L2 := [(0, .ref 1), (1, .int (nI 4))]) 1 dX9_init_111 rfl (by decide +kernel) (by decide) rfl ?_
  refine xe_goto 92 dX9_init_114 (by decide) ?_
  refine xe_iload_n 1 dX9_init_92 rfl rfl ?_
  refine xe_bipush (v := nI 8) dX9_init_93 xcb8 ?_
  refine xe_icmp_ge 117 dX9_init_95 (by decide) (fun q => absurd q (by decide +kernel)) (fun _ => ?_)
  refine xe_aload_n 0 dX9_init_98 rfl rfl ?_
  refine cc_getR dX9_init_99 fX9_11 rfl sh1 (by decide) (by decide) (l23 _ _ (l22 _ _ (l21 _ _ (l20 _ _ (l19 _ _ (l18 _ _ (l17 _ _ (l16 _ _ (l15 _ _ (l14 _ _ (l13 _ _ (l12 _ _ (l11 _ _ (l10 _ _ (l9 _ _ (l8 _ _ (l7 _ _ (l6 _ _ (l5 _ _ (l4 _ _ (l3 _ _ (l2 _ _ f1)))))))))))))))))))))) rfl ?_
  refine xe_iload_n 1 dX9_init_102 rfl rfl ?_
  refine cc_new dX9_init_103 rfl kX9_9 xinst6 xini6 164 rfl sh164 rfl ok (fun ok => ?_)
  refine xe_dup dX9_init_106 rfl ?_
  refine cc_call (ct164 ok) (fun q => xe_callIN (As := []) (rest := [.ref 164, .int (nI 4), .ref 2]) dX9_init_107 wX6_init lX9_64 iX6_init rfl rfl ⟨by decide, by decide⟩ rfl rfl (by simp [Value.category]) q) (fun F24 ok l24 n24 => ?_)
  refine cc_aastore (k := 4) dX9_init_110 sh2 (by decide) (by decide) (by decide) (by decide) (by decide) (by decide) (by decide) (by decide) sh164 rfl rfl rfl ok (fun F25 ok l25 f25 => ?_)
  refine xe_iinc (v := nI 5) (L2 := [(0, .ref 1), (1, .int (nI 5))]) 1 dX9_init_111 rfl (by decide +kernel) (by decide) rfl ?_
  refine xe_goto 92 dX9_init_114 (by decide) ?_
  refine xe_iload_n 1 dX9_init_92 rfl rfl ?_
  refine xe_bipush (v := nI 8) dX9_init_93 xcb8 ?_
  refine xe_icmp_ge 117 dX9_init_95 (by decide) (fun q => absurd q (by decide +kernel)) (fun _ => ?_)
  refine xe_aload_n 0 dX9_init_98 rfl rfl ?_
  refine cc_getR dX9_init_99 fX9_11 rfl sh1 (by decide) (by decide) (l25 _ _ (l24 _ _ (l23 _ _ (l22 _ _ (l21 _ _ (l20 _ _ (l19 _ _ (l18 _ _ (l17 _ _ (l16 _ _ (l15 _ _ (l14 _ _ (l13 _ _ (l12 _ _ (l11 _ _ (l10 _ _ (l9 _ _ (l8 _ _ (l7 _ _ (l6 _ _ (l5 _ _ (l4 _ _ (l3 _ _ (l2 _ _ f1)))))))))))))))))))))))) rfl ?_
  refine xe_iload_n 1 dX9_init_102 rfl rfl ?_
  refine cc_new dX9_init_103 rfl kX9_9 xinst6 xini6 166 rfl sh166 rfl ok (fun ok => ?_)
  refine xe_dup dX9_init_106 rfl ?_
  refine cc_call (ct166 ok) (fun q => xe_callIN (As := []) (rest := [.ref 166, .int (nI 5), .ref 2]) dX9_init_107 wX6_init lX9_64 iX6_init rfl rfl ⟨by decide, by decide⟩ rfl rfl (by simp [Value.category]) q) (fun F26 ok l26 n26 => ?_)
  refine cc_aastore (k := 5) dX9_init_110 sh2 (by decide) (by decide) (by decide) (by decide) (by decide) (by decide) (by decide) (by decide) sh166 rfl rfl rfl ok (fun F27 ok l27 f27 => ?_)
  refine xe_iinc (v := nI 6) (L2 := [(0, .ref 1), (1, .int (nI 6))]) 1 dX9_init_111 rfl (by decide +kernel) (by decide) rfl ?_
  refine xe_goto 92 dX9_init_114 (by decide) ?_
  refine xe_iload_n 1 dX9_init_92 rfl rfl ?_
  refine xe_bipush (v := nI 8) dX9_init_93 xcb8 ?_
  refine xe_icmp_ge 117 dX9_init_95 (by decide) (fun q => absurd q (by decide +kernel)) (fun _ => ?_)
  refine xe_aload_n 0 dX9_init_98 rfl rfl ?_
  refine cc_getR dX9_init_99 fX9_11 rfl sh1 (by decide) (by decide) (l27 _ _ (l26 _ _ (l25 _ _ (l24 _ _ (l23 _ _ (l22 _ _ (l21 _ _ (l20 _ _ (l19 _ _ (l18 _ _ (l17 _ _ (l16 _ _ (l15 _ _ (l14 _ _ (l13 _ _ (l12 _ _ (l11 _ _ (l10 _ _ (l9 _ _ (l8 _ _ (l7 _ _ (l6 _ _ (l5 _ _ (l4 _ _ (l3 _ _ (l2 _ _ f1)))))))))))))))))))))))))) rfl ?_
  refine xe_iload_n 1 dX9_init_102 rfl rfl ?_
  refine cc_new dX9_init_103 rfl kX9_9 xinst6 xini6 168 rfl sh168 rfl ok (fun ok => ?_)
  refine xe_dup dX9_init_106 rfl ?_
  refine cc_call (ct168 ok) (fun q => xe_callIN (As := []) (rest := [.ref 168, .int (nI 6), .ref 2]) dX9_init_107 wX6_init lX9_64 iX6_init rfl rfl ⟨by decide, by decide⟩ rfl rfl (by simp [Value.category]) q) (fun F28 ok l28 n28 => ?_)
  refine cc_aastore (k := 6) dX9_init_110 sh2 (by decide) (by decide) (by decide) (by decide) (by decide) (by decide) (by decide) (by decide) sh168 rfl rfl rfl ok (fun F29 ok l29 f29 => ?_)
  refine xe_iinc (v := nI 7) (L2 := [(0, .ref 1), (1, .int (nI 7))]) 1 dX9_init_111 rfl (by decide +kernel) (by decide) rfl ?_
  refine xe_goto 92 dX9_init_114 (by decide) ?_
  refine xe_iload_n 1 dX9_init_92 rfl rfl ?_
  refine xe_bipush (v := nI 8) dX9_init_93 xcb8 ?_
  refine xe_icmp_ge 117 dX9_init_95 (by decide) (fun q => absurd q (by decide +kernel)) (fun _ => ?_)
  refine xe_aload_n 0 dX9_init_98 rfl rfl ?_
  refine cc_getR dX9_init_99 fX9_11 rfl sh1 (by decide) (by decide) (l29 _ _ (l28 _ _ (l27 _ _ (l26 _ _ (l25 _ _ (l24 _ _ (l23 _ _ (l22 _ _ (l21 _ _ (l20 _ _ (l19 _ _ (l18 _ _ (l17 _ _ (l16 _ _ (l15 _ _ (l14 _ _ (l13 _ _ (l12 _ _ (l11 _ _ (l10 _ _ (l9 _ _ (l8 _ _ (l7 _ _ (l6 _ _ (l5 _ _ (l4 _ _ (l3 _ _ (l2 _ _ f1)))))))))))))))))))))))))))) rfl ?_
  refine xe_iload_n 1 dX9_init_102 rfl rfl ?_
  refine cc_new dX9_init_103 rfl kX9_9 xinst6 xini6 170 rfl sh170 rfl ok (fun ok => ?_)
  refine xe_dup dX9_init_106 rfl ?_
  refine cc_call (ct170 ok) (fun q => xe_callIN (As := []) (rest := [.ref 170, .int (nI 7), .ref 2]) dX9_init_107 wX6_init lX9_64 iX6_init rfl rfl ⟨by decide, by decide⟩ rfl rfl (by simp [Value.category]) q) (fun F30 ok l30 n30 => ?_)
  refine cc_aastore (k := 7) dX9_init_110 sh2 (by decide) (by decide) (by decide) (by decide) (by decide) (by decide) (by decide) (by decide) sh170 rfl rfl rfl ok (fun F31 ok l31 f31 => ?_)
  refine xe_iinc (v := nI 8) (L2 := [(0, .ref 1), (1, .int (nI 8))]) 1 dX9_init_111 rfl (by decide +kernel) (by decide) rfl ?_
  refine xe_goto 92 dX9_init_114 (by decide) ?_
  refine xe_iload_n 1 dX9_init_92 rfl rfl ?_
  refine xe_bipush (v := nI 8) dX9_init_93 xcb8 ?_
  refine xe_icmp_ge 117 dX9_init_95 (by decide) (fun _ => ?_) (fun q => absurd (by decide +kernel) q)
  have t31 : mLe F31 F31 := mLe.rfl'
  have t30 : mLe F30 F31 := l31.tr t31
  have t29 : mLe F29 F31 := l30.tr t30
  have t28 : mLe F28 F31 := l29.tr t29
  have t27 : mLe F27 F31 := l28.tr t28
  have t26 : mLe F26 F31 := l27.tr t27
  have t25 : mLe F25 F31 := l26.tr t26
  have t24 : mLe F24 F31 := l25.tr t25
  have t23 : mLe F23 F31 := l24.tr t24
  have t22 : mLe F22 F31 := l23.tr t23
  have t21 : mLe F21 F31 := l22.tr t22
  have t20 : mLe F20 F31 := l21.tr t21
  have t19 : mLe F19 F31 := l20.tr t20
  have t18 : mLe F18 F31 := l19.tr t19
  have t17 : mLe F17 F31 := l18.tr t18
  have t16 : mLe F16 F31 := l17.tr t17
  have t15 : mLe F15 F31 := l16.tr t16
  have t14 : mLe F14 F31 := l15.tr t15
  have t13 : mLe F13 F31 := l14.tr t14
  have t12 : mLe F12 F31 := l13.tr t13
  have t11 : mLe F11 F31 := l12.tr t12
  have t10 : mLe F10 F31 := l11.tr t11
  have t9 : mLe F9 F31 := l10.tr t10
  have t8 : mLe F8 F31 := l9.tr t9
  have t7 : mLe F7 F31 := l8.tr t8
  have t6 : mLe F6 F31 := l7.tr t7
  have t5 : mLe F5 F31 := l6.tr t6
  have t4 : mLe F4 F31 := l5.tr t5
  have t3 : mLe F3 F31 := l4.tr t4
  have t2 : mLe F2 F31 := l3.tr t3
  have t1 : mLe F1 F31 := l2.tr t2
  have t0 : mLe F F31 := l1.tr t1
  exact xe_ret (r := none) dX9_init_117 trivial ⟨rfl, _, rfl, ok, t0, mDn.mk ok [(1, 0), (1, 1), (1, 2), (1, 3), (1, 4), (1, 5), (1, 6), (1, 7), (2, 0), (2, 1), (2, 2), (2, 3), (2, 4), (2, 5), (2, 6), (2, 7)] [(3, 45), (46, 58), (59, 67), (68, 69), (70, 70), (71, 73), (74, 155), (156, 157), (158, 159), (160, 161), (162, 163), (164, 165), (166, 167), (168, 169), (170, 171)] (by decide +kernel) (fn1 (t1 _ _ f1) (fn1 (t3 _ _ f3) (fn1 (t5 _ _ f5) (fn1 (t7 _ _ f7) (fn1 (t9 _ _ f9) (fn1 (t11 _ _ f11) (fn1 (t13 _ _ f13) (fn1 (t15 _ _ f15) (fn1 (t17 _ _ f17) (fn1 (t19 _ _ f19) (fn1 (t21 _ _ f21) (fn1 (t23 _ _ f23) (fn1 (t25 _ _ f25) (fn1 (t27 _ _ f27) (fn1 (t29 _ _ f29) (fn1 (t31 _ _ f31) fn0)))))))))))))))) (fn1 (n2.le t2) (fn1 (n4.le t4) (fn1 (n6.le t6) (fn1 (n8.le t8) (fn1 (n10.le t10) (fn1 (n12.le t12) (fn1 (n14.le t14) (fn1 (n16.le t16) (fn1 (n18.le t18) (fn1 (n20.le t20) (fn1 (n22.le t22) (fn1 (n24.le t24) (fn1 (n26.le t26) (fn1 (n28.le t28) (fn1 (n30.le t30) fn0)))))))))))))))⟩

theorem ct172 {i : Nat → Nat → Int32} {F : Nat → Nat → Bool} (ok : mOK 172 i F) : xC mX10_init [.ref 172] (MM 172 i F) (mCP 195 (up2 (up2 i 172 16 (-1)) 172 23 (-1)) F 172) := by
  refine xC.of xpl10 (by decide) ?_
  show xE mX10_init 0 [(0, .ref 172)] [] (MM 172 i F) _
  refine xe_aload_n 0 dX10_init_0 rfl rfl ?_
  refine xe_objInit dX10_init_1 lX10_1 xobj_i xobj_c ⟨by decide, by decide⟩ ?_
  refine xe_aload_n 0 dX10_init_4 rfl rfl ?_
  refine xe_bipush (v := nI 8) dX10_init_5 xcb8 ?_
  refine cc_newarr dX10_init_7 (Or.inl ⟨rfl, rfl⟩) xac_int (by decide +kernel) (nI_nat (by decide)) (by decide) 173 rfl sh173 rfl ok (fun ok => ?_)
  refine cc_putFA dX10_init_9 fX10_7 rfl ⟨_, _, rfl, rfl⟩ sh172 (by decide) (by decide) rfl ok (fun F1 ok l1 f1 => ?_)
  refine xe_aload_n 0 dX10_init_12 rfl rfl ?_
  refine xe_bipush (v := nI 8) dX10_init_13 xcb8 ?_
  refine cc_newarr dX10_init_15 (Or.inl ⟨rfl, rfl⟩) xac_int (by decide +kernel) (nI_nat (by decide)) (by decide) 174 rfl sh174 rfl ok (fun ok => ?_)
  refine cc_putFA dX10_init_17 fX10_13 rfl ⟨_, _, rfl, rfl⟩ sh172 (by decide) (by decide) rfl ok (fun F2 ok l2 f2 => ?_)
  refine xe_aload_n 0 dX10_init_20 rfl rfl ?_
  refine xe_sipush (v := nI 960) dX10_init_21 xcs960 ?_
  refine cc_newarr dX10_init_24 (Or.inl ⟨rfl, rfl⟩) xac_int (by decide +kernel) (nI_nat (by decide)) (by decide) 175 rfl sh175 rfl ok (fun ok => ?_)
  refine cc_putFA dX10_init_26 fX10_16 rfl ⟨_, _, rfl, rfl⟩ sh172 (by decide) (by decide) rfl ok (fun F3 ok l3 f3 => ?_)
  refine xe_aload_n 0 dX10_init_29 rfl rfl ?_
  refine xe_bipush (v := nI 10) dX10_init_30 xcb10 ?_
  refine cc_newarr dX10_init_32 (Or.inl ⟨rfl, rfl⟩) xac_int (by decide +kernel) (nI_nat (by decide)) (by decide) 176 rfl sh176 rfl ok (fun ok => ?_)
  refine cc_putFA dX10_init_34 fX10_19 rfl ⟨_, _, rfl, rfl⟩ sh172 (by decide) (by decide) rfl ok (fun F4 ok l4 f4 => ?_)
  refine xe_aload_n 0 dX10_init_37 rfl rfl ?_
  refine xe_bipush (v := nI 10) dX10_init_38 xcb10 ?_
  refine cc_newarr dX10_init_40 (Or.inl ⟨rfl, rfl⟩) xac_int (by decide +kernel) (nI_nat (by decide)) (by decide) 177 rfl sh177 rfl ok (fun ok => ?_)
  refine cc_putFA dX10_init_42 fX10_22 rfl ⟨_, _, rfl, rfl⟩ sh172 (by decide) (by decide) rfl ok (fun F5 ok l5 f5 => ?_)
  refine xe_aload_n 0 dX10_init_45 rfl rfl ?_
  refine xe_bipush (v := nI 10) dX10_init_46 xcb10 ?_
  refine cc_newarr dX10_init_48 (Or.inl ⟨rfl, rfl⟩) xac_int (by decide +kernel) (nI_nat (by decide)) (by decide) 178 rfl sh178 rfl ok (fun ok => ?_)
  refine cc_putFA dX10_init_50 fX10_25 rfl ⟨_, _, rfl, rfl⟩ sh172 (by decide) (by decide) rfl ok (fun F6 ok l6 f6 => ?_)
  refine xe_aload_n 0 dX10_init_53 rfl rfl ?_
  refine xe_bipush (v := nI 30) dX10_init_54 xcb30 ?_
  refine cc_newarr dX10_init_56 (Or.inl ⟨rfl, rfl⟩) xac_int (by decide +kernel) (nI_nat (by decide)) (by decide) 179 rfl sh179 rfl ok (fun ok => ?_)
  refine cc_putFA dX10_init_58 fX10_28 rfl ⟨_, _, rfl, rfl⟩ sh172 (by decide) (by decide) rfl ok (fun F7 ok l7 f7 => ?_)
  refine xe_aload_n 0 dX10_init_61 rfl rfl ?_
  refine xe_bipush (v := nI 30) dX10_init_62 xcb30 ?_
  refine cc_newarr dX10_init_64 (Or.inl ⟨rfl, rfl⟩) xac_int (by decide +kernel) (nI_nat (by decide)) (by decide) 180 rfl sh180 rfl ok (fun ok => ?_)
  refine cc_putFA dX10_init_66 fX10_31 rfl ⟨_, _, rfl, rfl⟩ sh172 (by decide) (by decide) rfl ok (fun F8 ok l8 f8 => ?_)
  refine xe_aload_n 0 dX10_init_69 rfl rfl ?_
  refine xe_bipush (v := nI 6) dX10_init_70 xcb6 ?_
  refine cc_newarr dX10_init_72 (Or.inl ⟨rfl, rfl⟩) xac_int (by decide +kernel) (nI_nat (by decide)) (by decide) 181 rfl sh181 rfl ok (fun ok => ?_)
  refine cc_putFA dX10_init_74 fX10_34 rfl ⟨_, _, rfl, rfl⟩ sh172 (by decide) (by decide) rfl ok (fun F9 ok l9 f9 => ?_)
  refine xe_aload_n 0 dX10_init_77 rfl rfl ?_
  refine xe_sipush (v := nI 3006) dX10_init_78 xcs3006 ?_
  refine cc_newarr dX10_init_81 (Or.inl ⟨rfl, rfl⟩) xac_int (by decide +kernel) (nI_nat (by decide)) (by decide) 182 rfl sh182 rfl ok (fun ok => ?_)
  refine cc_putFA dX10_init_83 fX10_37 rfl ⟨_, _, rfl, rfl⟩ sh172 (by decide) (by decide) rfl ok (fun F10 ok l10 f10 => ?_)
  refine xe_aload_n 0 dX10_init_86 rfl rfl ?_
  refine xe_sipush (v := nI 3006) dX10_init_87 xcs3006 ?_
  refine cc_newarr dX10_init_90 (Or.inl ⟨rfl, rfl⟩) xac_int (by decide +kernel) (nI_nat (by decide)) (by decide) 183 rfl sh183 rfl ok (fun ok => ?_)
  refine cc_putFA dX10_init_92 fX10_40 rfl ⟨_, _, rfl, rfl⟩ sh172 (by decide) (by decide) rfl ok (fun F11 ok l11 f11 => ?_)
  refine xe_aload_n 0 dX10_init_95 rfl rfl ?_
  refine xe_bipush (v := nI 6) dX10_init_96 xcb6 ?_
  refine cc_newarr dX10_init_98 (Or.inl ⟨rfl, rfl⟩) xac_int (by decide +kernel) (nI_nat (by decide)) (by decide) 184 rfl sh184 rfl ok (fun ok => ?_)
  refine cc_putFA dX10_init_100 fX10_43 rfl ⟨_, _, rfl, rfl⟩ sh172 (by decide) (by decide) rfl ok (fun F12 ok l12 f12 => ?_)
  refine xe_aload_n 0 dX10_init_103 rfl rfl ?_
  refine xe_iconst (v := -1) dX10_init_104 xcm1 ?_
  refine cc_putI dX10_init_105 fX10_46 sh172 (by decide) (by decide) ok (fun ok => ?_)
  refine xe_aload_n 0 dX10_init_108 rfl rfl ?_
  refine xe_sipush (v := nI 3006) dX10_init_109 xcs3006 ?_
  refine cc_newarr dX10_init_112 (Or.inl ⟨rfl, rfl⟩) xac_int (by decide +kernel) (nI_nat (by decide)) (by decide) 185 rfl sh185 rfl ok (fun ok => ?_)
  refine cc_putFA dX10_init_114 fX10_50 rfl ⟨_, _, rfl, rfl⟩ sh172 (by decide) (by decide) rfl ok (fun F13 ok l13 f13 => ?_)
  refine xe_aload_n 0 dX10_init_117 rfl rfl ?_
  refine xe_bipush (v := nI 6) dX10_init_118 xcb6 ?_
  refine cc_newarr dX10_init_120 (Or.inl ⟨rfl, rfl⟩) xac_int (by decide +kernel) (nI_nat (by decide)) (by decide) 186 rfl sh186 rfl ok (fun ok => ?_)
  refine cc_putFA dX10_init_122 fX10_53 rfl ⟨_, _, rfl, rfl⟩ sh172 (by decide) (by decide) rfl ok (fun F14 ok l14 f14 => ?_)
  refine xe_aload_n 0 dX10_init_125 rfl rfl ?_
  refine xe_sipush (v := nI 5010) dX10_init_126 xcs5010 ?_
  refine cc_newarr dX10_init_129 (Or.inl ⟨rfl, rfl⟩) xac_int (by decide +kernel) (nI_nat (by decide)) (by decide) 187 rfl sh187 rfl ok (fun ok => ?_)
  refine cc_putFA dX10_init_131 fX10_56 rfl ⟨_, _, rfl, rfl⟩ sh172 (by decide) (by decide) rfl ok (fun F15 ok l15 f15 => ?_)
  refine xe_aload_n 0 dX10_init_134 rfl rfl ?_
  refine xe_bipush (v := nI 10) dX10_init_135 xcb10 ?_
  refine cc_newarr dX10_init_137 (Or.inr (Or.inr ⟨rfl, rfl⟩)) xac_boolean (by decide +kernel) (nI_nat (by decide)) (by decide) 188 rfl sh188 rfl ok (fun ok => ?_)
  refine cc_putFA dX10_init_139 fX10_59 rfl ⟨_, _, rfl, rfl⟩ sh172 (by decide) (by decide) rfl ok (fun F16 ok l16 f16 => ?_)
  refine xe_aload_n 0 dX10_init_142 rfl rfl ?_
  refine xe_iconst (v := -1) dX10_init_143 xcm1 ?_
  refine cc_putI dX10_init_144 fX10_63 sh172 (by decide) (by decide) ok (fun ok => ?_)
  refine xe_aload_n 0 dX10_init_147 rfl rfl ?_
  refine xe_sipush (v := nI 3006) dX10_init_148 xcs3006 ?_
  refine cc_newarr dX10_init_151 (Or.inl ⟨rfl, rfl⟩) xac_int (by decide +kernel) (nI_nat (by decide)) (by decide) 189 rfl sh189 rfl ok (fun ok => ?_)
  refine cc_putFA dX10_init_153 fX10_66 rfl ⟨_, _, rfl, rfl⟩ sh172 (by decide) (by decide) rfl ok (fun F17 ok l17 f17 => ?_)
  refine xe_aload_n 0 dX10_init_156 rfl rfl ?_
  refine xe_bipush (v := nI 6) dX10_init_157 xcb6 ?_
  refine cc_newarr dX10_init_159 (Or.inl ⟨rfl, rfl⟩) xac_int (by decide +kernel) (nI_nat (by decide)) (by decide) 190 rfl sh190 rfl ok (fun ok => ?_)
  refine cc_putFA dX10_init_161 fX10_69 rfl ⟨_, _, rfl, rfl⟩ sh172 (by decide) (by decide) rfl ok (fun F18 ok l18 f18 => ?_)
  refine xe_aload_n 0 dX10_init_164 rfl rfl ?_
  refine xe_bipush (v := nI 10) dX10_init_165 xcb10 ?_
  refine cc_newarr dX10_init_167 (Or.inl ⟨rfl, rfl⟩) xac_int (by decide +kernel) (nI_nat (by decide)) (by decide) 191 rfl sh191 rfl ok (fun ok => ?_)
  refine cc_putFA dX10_init_169 fX10_72 rfl ⟨_, _, rfl, rfl⟩ sh172 (by decide) (by decide) rfl ok (fun F19 ok l19 f19 => ?_)
  refine xe_aload_n 0 dX10_init_172 rfl rfl ?_
  refine xe_bipush (v := nI 10) dX10_init_173 xcb10 ?_
  refine cc_newarr dX10_init_175 (Or.inl ⟨rfl, rfl⟩) xac_int (by decide +kernel) (nI_nat (by decide)) (by decide) 192 rfl sh192 rfl ok (fun ok => ?_)
  refine cc_putFA dX10_init_177 fX10_75 rfl ⟨_, _, rfl, rfl⟩ sh172 (by decide) (by decide) rfl ok (fun F20 ok l20 f20 => ?_)
  refine xe_aload_n 0 dX10_init_180 rfl rfl ?_
  refine xe_bipush (v := nI 6) dX10_init_181 xcb6 ?_
  refine cc_newarr dX10_init_183 (Or.inl ⟨rfl, rfl⟩) xac_int (by decide +kernel) (nI_nat (by decide)) (by decide) 193 rfl sh193 rfl ok (fun ok => ?_)
  refine cc_putFA dX10_init_185 fX10_78 rfl ⟨_, _, rfl, rfl⟩ sh172 (by decide) (by decide) rfl ok (fun F21 ok l21 f21 => ?_)
  refine xe_aload_n 0 dX10_init_188 rfl rfl ?_
  refine xe_bipush (v := nI 6) dX10_init_189 xcb6 ?_
  refine cc_newarr dX10_init_191 (Or.inl ⟨rfl, rfl⟩) xac_int (by decide +kernel) (nI_nat (by decide)) (by decide) 194 rfl sh194 rfl ok (fun ok => ?_)
  refine cc_putFA dX10_init_193 fX10_81 rfl ⟨_, _, rfl, rfl⟩ sh172 (by decide) (by decide) rfl ok (fun F22 ok l22 f22 => ?_)
  refine xe_aload_n 0 dX10_init_196 rfl rfl ?_
  refine xe_iconst (v := nI 3) dX10_init_197 xc3 ?_
  refine cc_newarr dX10_init_198 (Or.inl ⟨rfl, rfl⟩) xac_int (by decide +kernel) (nI_nat (by decide)) (by decide) 195 rfl sh195 rfl ok (fun ok => ?_)
  refine cc_putFA dX10_init_200 fX10_84 rfl ⟨_, _, rfl, rfl⟩ sh172 (by decide) (by decide) rfl ok (fun F23 ok l23 f23 => ?_)
  have t23 : mLe F23 F23 := mLe.rfl'
  have t22 : mLe F22 F23 := l23.tr t23
  have t21 : mLe F21 F23 := l22.tr t22
  have t20 : mLe F20 F23 := l21.tr t21
  have t19 : mLe F19 F23 := l20.tr t20
  have t18 : mLe F18 F23 := l19.tr t19
  have t17 : mLe F17 F23 := l18.tr t18
  have t16 : mLe F16 F23 := l17.tr t17
  have t15 : mLe F15 F23 := l16.tr t16
  have t14 : mLe F14 F23 := l15.tr t15
  have t13 : mLe F13 F23 := l14.tr t14
  have t12 : mLe F12 F23 := l13.tr t13
  have t11 : mLe F11 F23 := l12.tr t12
  have t10 : mLe F10 F23 := l11.tr t11
  have t9 : mLe F9 F23 := l10.tr t10
  have t8 : mLe F8 F23 := l9.tr t9
  have t7 : mLe F7 F23 := l8.tr t8
  have t6 : mLe F6 F23 := l7.tr t7
  have t5 : mLe F5 F23 := l6.tr t6
  have t4 : mLe F4 F23 := l5.tr t5
  have t3 : mLe F3 F23 := l4.tr t4
  have t2 : mLe F2 F23 := l3.tr t3
  have t1 : mLe F1 F23 := l2.tr t2
  have t0 : mLe F F23 := l1.tr t1
  exact xe_ret (r := none) dX10_init_203 trivial ⟨rfl, _, rfl, ok, t0, mDn.mk ok [(172, 0), (172, 1), (172, 2), (172, 5), (172, 6), (172, 7), (172, 8), (172, 9), (172, 10), (172, 11), (172, 12), (172, 14), (172, 18), (172, 19), (172, 20), (172, 21), (172, 24), (172, 25), (172, 26), (172, 27), (172, 28), (172, 29), (172, 30)] [] (by decide +kernel) (fn1 (t1 _ _ f1) (fn1 (t2 _ _ f2) (fn1 (t3 _ _ f3) (fn1 (t4 _ _ f4) (fn1 (t5 _ _ f5) (fn1 (t6 _ _ f6) (fn1 (t7 _ _ f7) (fn1 (t8 _ _ f8) (fn1 (t9 _ _ f9) (fn1 (t10 _ _ f10) (fn1 (t11 _ _ f11) (fn1 (t12 _ _ f12) (fn1 (t13 _ _ f13) (fn1 (t14 _ _ f14) (fn1 (t15 _ _ f15) (fn1 (t16 _ _ f16) (fn1 (t17 _ _ f17) (fn1 (t18 _ _ f18) (fn1 (t19 _ _ f19) (fn1 (t20 _ _ f20) (fn1 (t21 _ _ f21) (fn1 (t22 _ _ f22) (fn1 (t23 _ _ f23) fn0))))))))))))))))))))))) fn0⟩

