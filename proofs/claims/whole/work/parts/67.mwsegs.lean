theorem gX10_against_r_0 (u : xU) (i j n : Nat) {Q : Option Value → xM → Prop} (hi : i < 501) (hj : j < 501) (hn : n ≤ 6) 
    (k1 : xE mX10_against_ 3 [(0, .ref 185), (1, .int (nI (i))), (2, .ref 182), (3, .int (nI (j))), (4, .int (nI (n))), (5, .int (nI (0)))] [] (xmm u) Q) : xE mX10_against_ 0 [(0, .ref 185), (1, .int (nI (i))), (2, .ref 182), (3, .int (nI (j))), (4, .int (nI (n)))] [] (xmm u) Q := by
  refine xe_iconst (v := nI (0)) dX10_against__0 xc0 ?_
  refine xe_istore (L2 := [(0, .ref 185), (1, .int (nI (i))), (2, .ref 182), (3, .int (nI (j))), (4, .int (nI (n))), (5, .int (nI (0)))]) dX10_against__1 (by decide) rfl ?_
  exact k1

theorem gX10_against_r_3 (u : xU) (i j n k : Nat) (x y : Int32) {Q : Option Value → xM → Prop} (hi : i < 501) (hj : j < 501) (hn : n ≤ 6) (hk : k ≤ n) (v1 : u.1 185 ((6 * i) + k) = x) (v2 : u.1 182 ((6 * j) + k) = y)
    (k1 : n ≤ k → Q (some (.int (nI (0)))) (xmm u))
    (k2 : ¬ n ≤ k → (cmpK x y) = 0 → xE mX10_against_ 3 [(0, .ref 185), (1, .int (nI (i))), (2, .ref 182), (3, .int (nI (j))), (4, .int (nI (n))), (5, .int (nI (k + 1)))] [] (xmm u) Q)
    (k3 : ¬ n ≤ k → ¬ (cmpK x y) = 0 → Q (some (.int (cmpK x y))) (xmm u)) : xE mX10_against_ 3 [(0, .ref 185), (1, .int (nI (i))), (2, .ref 182), (3, .int (nI (j))), (4, .int (nI (n))), (5, .int (nI (k)))] [] (xmm u) Q := by
  refine xe_iload 5 dX10_against__3 rfl ?_
  refine xe_iload 4 dX10_against__5 rfl ?_
  refine xn_icmp_ge 47 dX10_against__7 (by decide) (by omega) (by omega) (fun c1 => ?_) (fun c1 => ?_)
  · refine xe_iconst (v := nI (0)) dX10_against__47 xc0 ?_
    exact xe_ret (r := (some (.int (nI (0))))) dX10_against__48 trivial (k1 c1)
  · refine xe_aload_n 0 dX10_against__10 rfl rfl ?_
    refine xe_bipush (v := nI (6)) dX10_against__11 xcb6 ?_
    refine xe_iload_n 1 dX10_against__13 rfl rfl ?_
    refine xn_imul dX10_against__14 ?_
    refine xe_iload 5 dX10_against__15 rfl ?_
    refine xn_iadd dX10_against__17 ?_
    refine xr_iald (k := (6 * i) + k) (v := x) dX10_against__18 sh185 (by decide) (by omega) (by decide) v1 ?_
    refine xe_aload_n 2 dX10_against__19 rfl rfl ?_
    refine xe_bipush (v := nI (6)) dX10_against__20 xcb6 ?_
    refine xe_iload_n 3 dX10_against__22 rfl rfl ?_
    refine xn_imul dX10_against__23 ?_
    refine xe_iload 5 dX10_against__24 rfl ?_
    refine xn_iadd dX10_against__26 ?_
    refine xr_iald (k := (6 * j) + k) (v := y) dX10_against__27 sh182 (by decide) (by omega) (by decide) v2 ?_
    refine xe_callS (As := [.int (x), .int (y)]) (rest := []) dX10_against__28 wX10_rank lX10_99 tX10_rank ⟨by decide, by decide⟩ rfl rfl (by simp [Value.category]) (xC.pure (v := .int (cmpK x y)) (qX10_rank u x y) ?_)
    refine xe_istore (L2 := [(0, .ref 185), (1, .int (nI (i))), (2, .ref 182), (3, .int (nI (j))), (4, .int (nI (n))), (5, .int (nI (k))), (6, .int (cmpK x y))]) dX10_against__31 (by decide) rfl ?_
    refine xe_iload 6 dX10_against__33 rfl ?_
    refine xe_if_eq 41 dX10_against__35 (by decide) (fun c2 => ?_) (fun c2 => ?_)
    · refine xn_iinc (c := 1) (L2 := [(0, .ref 185), (1, .int (nI (i))), (2, .ref 182), (3, .int (nI (j))), (4, .int (nI (n))), (5, .int (nI (k + 1))), (6, .int (cmpK x y))]) 5 dX10_against__41 rfl (by decide) rfl ?_
      refine xe_goto 3 dX10_against__44 (by decide) ?_
      refine xE.sub [0, 1, 2, 3, 4, 5] rfl ?_
      exact k2 c1 c2
    · refine xe_iload 6 dX10_against__38 rfl ?_
      exact xe_ret (r := (some (.int (cmpK x y)))) dX10_against__40 trivial (k3 c1 c2)

theorem gX10_against_k_0 (u : xU) (i j n : Nat) {Q : Option Value → xM → Prop} (hi : i < 501) (hj : j < 501) (hn : n ≤ 6) 
    (k1 : xE mX10_against_ 3 [(0, .ref 185), (1, .int (nI (i))), (2, .ref 189), (3, .int (nI (j))), (4, .int (nI (n))), (5, .int (nI (0)))] [] (xmm u) Q) : xE mX10_against_ 0 [(0, .ref 185), (1, .int (nI (i))), (2, .ref 189), (3, .int (nI (j))), (4, .int (nI (n)))] [] (xmm u) Q := by
  refine xe_iconst (v := nI (0)) dX10_against__0 xc0 ?_
  refine xe_istore (L2 := [(0, .ref 185), (1, .int (nI (i))), (2, .ref 189), (3, .int (nI (j))), (4, .int (nI (n))), (5, .int (nI (0)))]) dX10_against__1 (by decide) rfl ?_
  exact k1

theorem gX10_against_k_3 (u : xU) (i j n k : Nat) (x y : Int32) {Q : Option Value → xM → Prop} (hi : i < 501) (hj : j < 501) (hn : n ≤ 6) (hk : k ≤ n) (v1 : u.1 185 ((6 * i) + k) = x) (v2 : u.1 189 ((6 * j) + k) = y)
    (k1 : n ≤ k → Q (some (.int (nI (0)))) (xmm u))
    (k2 : ¬ n ≤ k → (cmpK x y) = 0 → xE mX10_against_ 3 [(0, .ref 185), (1, .int (nI (i))), (2, .ref 189), (3, .int (nI (j))), (4, .int (nI (n))), (5, .int (nI (k + 1)))] [] (xmm u) Q)
    (k3 : ¬ n ≤ k → ¬ (cmpK x y) = 0 → Q (some (.int (cmpK x y))) (xmm u)) : xE mX10_against_ 3 [(0, .ref 185), (1, .int (nI (i))), (2, .ref 189), (3, .int (nI (j))), (4, .int (nI (n))), (5, .int (nI (k)))] [] (xmm u) Q := by
  refine xe_iload 5 dX10_against__3 rfl ?_
  refine xe_iload 4 dX10_against__5 rfl ?_
  refine xn_icmp_ge 47 dX10_against__7 (by decide) (by omega) (by omega) (fun c1 => ?_) (fun c1 => ?_)
  · refine xe_iconst (v := nI (0)) dX10_against__47 xc0 ?_
    exact xe_ret (r := (some (.int (nI (0))))) dX10_against__48 trivial (k1 c1)
  · refine xe_aload_n 0 dX10_against__10 rfl rfl ?_
    refine xe_bipush (v := nI (6)) dX10_against__11 xcb6 ?_
    refine xe_iload_n 1 dX10_against__13 rfl rfl ?_
    refine xn_imul dX10_against__14 ?_
    refine xe_iload 5 dX10_against__15 rfl ?_
    refine xn_iadd dX10_against__17 ?_
    refine xr_iald (k := (6 * i) + k) (v := x) dX10_against__18 sh185 (by decide) (by omega) (by decide) v1 ?_
    refine xe_aload_n 2 dX10_against__19 rfl rfl ?_
    refine xe_bipush (v := nI (6)) dX10_against__20 xcb6 ?_
    refine xe_iload_n 3 dX10_against__22 rfl rfl ?_
    refine xn_imul dX10_against__23 ?_
    refine xe_iload 5 dX10_against__24 rfl ?_
    refine xn_iadd dX10_against__26 ?_
    refine xr_iald (k := (6 * j) + k) (v := y) dX10_against__27 sh189 (by decide) (by omega) (by decide) v2 ?_
    refine xe_callS (As := [.int (x), .int (y)]) (rest := []) dX10_against__28 wX10_rank lX10_99 tX10_rank ⟨by decide, by decide⟩ rfl rfl (by simp [Value.category]) (xC.pure (v := .int (cmpK x y)) (qX10_rank u x y) ?_)
    refine xe_istore (L2 := [(0, .ref 185), (1, .int (nI (i))), (2, .ref 189), (3, .int (nI (j))), (4, .int (nI (n))), (5, .int (nI (k))), (6, .int (cmpK x y))]) dX10_against__31 (by decide) rfl ?_
    refine xe_iload 6 dX10_against__33 rfl ?_
    refine xe_if_eq 41 dX10_against__35 (by decide) (fun c2 => ?_) (fun c2 => ?_)
    · refine xn_iinc (c := 1) (L2 := [(0, .ref 185), (1, .int (nI (i))), (2, .ref 189), (3, .int (nI (j))), (4, .int (nI (n))), (5, .int (nI (k + 1))), (6, .int (cmpK x y))]) 5 dX10_against__41 rfl (by decide) rfl ?_
      refine xe_goto 3 dX10_against__44 (by decide) ?_
      refine xE.sub [0, 1, 2, 3, 4, 5] rfl ?_
      exact k2 c1 c2
    · refine xe_iload 6 dX10_against__38 rfl ?_
      exact xe_ret (r := (some (.int (cmpK x y)))) dX10_against__40 trivial (k3 c1 c2)

theorem gX10_against_w_0 (u : xU) (i j n : Nat) {Q : Option Value → xM → Prop} (hi : i < 501) (hj : j < 501) (hn : n ≤ 6) 
    (k1 : xE mX10_against_ 3 [(0, .ref 189), (1, .int (nI (i))), (2, .ref 185), (3, .int (nI (j))), (4, .int (nI (n))), (5, .int (nI (0)))] [] (xmm u) Q) : xE mX10_against_ 0 [(0, .ref 189), (1, .int (nI (i))), (2, .ref 185), (3, .int (nI (j))), (4, .int (nI (n)))] [] (xmm u) Q := by
  refine xe_iconst (v := nI (0)) dX10_against__0 xc0 ?_
  refine xe_istore (L2 := [(0, .ref 189), (1, .int (nI (i))), (2, .ref 185), (3, .int (nI (j))), (4, .int (nI (n))), (5, .int (nI (0)))]) dX10_against__1 (by decide) rfl ?_
  exact k1

theorem gX10_against_w_3 (u : xU) (i j n k : Nat) (x y : Int32) {Q : Option Value → xM → Prop} (hi : i < 501) (hj : j < 501) (hn : n ≤ 6) (hk : k ≤ n) (v1 : u.1 189 ((6 * i) + k) = x) (v2 : u.1 185 ((6 * j) + k) = y)
    (k1 : n ≤ k → Q (some (.int (nI (0)))) (xmm u))
    (k2 : ¬ n ≤ k → (cmpK x y) = 0 → xE mX10_against_ 3 [(0, .ref 189), (1, .int (nI (i))), (2, .ref 185), (3, .int (nI (j))), (4, .int (nI (n))), (5, .int (nI (k + 1)))] [] (xmm u) Q)
    (k3 : ¬ n ≤ k → ¬ (cmpK x y) = 0 → Q (some (.int (cmpK x y))) (xmm u)) : xE mX10_against_ 3 [(0, .ref 189), (1, .int (nI (i))), (2, .ref 185), (3, .int (nI (j))), (4, .int (nI (n))), (5, .int (nI (k)))] [] (xmm u) Q := by
  refine xe_iload 5 dX10_against__3 rfl ?_
  refine xe_iload 4 dX10_against__5 rfl ?_
  refine xn_icmp_ge 47 dX10_against__7 (by decide) (by omega) (by omega) (fun c1 => ?_) (fun c1 => ?_)
  · refine xe_iconst (v := nI (0)) dX10_against__47 xc0 ?_
    exact xe_ret (r := (some (.int (nI (0))))) dX10_against__48 trivial (k1 c1)
  · refine xe_aload_n 0 dX10_against__10 rfl rfl ?_
    refine xe_bipush (v := nI (6)) dX10_against__11 xcb6 ?_
    refine xe_iload_n 1 dX10_against__13 rfl rfl ?_
    refine xn_imul dX10_against__14 ?_
    refine xe_iload 5 dX10_against__15 rfl ?_
    refine xn_iadd dX10_against__17 ?_
    refine xr_iald (k := (6 * i) + k) (v := x) dX10_against__18 sh189 (by decide) (by omega) (by decide) v1 ?_
    refine xe_aload_n 2 dX10_against__19 rfl rfl ?_
    refine xe_bipush (v := nI (6)) dX10_against__20 xcb6 ?_
    refine xe_iload_n 3 dX10_against__22 rfl rfl ?_
    refine xn_imul dX10_against__23 ?_
    refine xe_iload 5 dX10_against__24 rfl ?_
    refine xn_iadd dX10_against__26 ?_
    refine xr_iald (k := (6 * j) + k) (v := y) dX10_against__27 sh185 (by decide) (by omega) (by decide) v2 ?_
    refine xe_callS (As := [.int (x), .int (y)]) (rest := []) dX10_against__28 wX10_rank lX10_99 tX10_rank ⟨by decide, by decide⟩ rfl rfl (by simp [Value.category]) (xC.pure (v := .int (cmpK x y)) (qX10_rank u x y) ?_)
    refine xe_istore (L2 := [(0, .ref 189), (1, .int (nI (i))), (2, .ref 185), (3, .int (nI (j))), (4, .int (nI (n))), (5, .int (nI (k))), (6, .int (cmpK x y))]) dX10_against__31 (by decide) rfl ?_
    refine xe_iload 6 dX10_against__33 rfl ?_
    refine xe_if_eq 41 dX10_against__35 (by decide) (fun c2 => ?_) (fun c2 => ?_)
    · refine xn_iinc (c := 1) (L2 := [(0, .ref 189), (1, .int (nI (i))), (2, .ref 185), (3, .int (nI (j))), (4, .int (nI (n))), (5, .int (nI (k + 1))), (6, .int (cmpK x y))]) 5 dX10_against__41 rfl (by decide) rfl ?_
      refine xe_goto 3 dX10_against__44 (by decide) ?_
      refine xE.sub [0, 1, 2, 3, 4, 5] rfl ?_
      exact k2 c1 c2
    · refine xe_iload 6 dX10_against__38 rfl ?_
      exact xe_ret (r := (some (.int (cmpK x y)))) dX10_against__40 trivial (k3 c1 c2)

theorem gX10_weave_0 (u : xU) (b : Bool) {Q : Option Value → xM → Prop} (hho : xC mX10_holds [.ref 172] (xmm u) (fun r μ' => r = some (.int (xb (b = true))) ∧ μ' = xmm u)) 
    (k1 : b = true → xC mX10_meets [.ref 172] (xmm u) (fun r μ1 => xE mX10_weave 13 [(0, .ref 172)] (r.toList ++ []) μ1 Q))
    (k2 : ¬ (b = true) → Q (some (.int (-1))) (xmm u)) : xE mX10_weave 0 [(0, .ref 172)] [] (xmm u) Q := by
  refine xe_aload_n 0 dX10_weave_0 rfl rfl ?_
  refine xe_callV (As := []) (rest := []) dX10_weave_1 wX10_holds lX10_166 iX10_holds sX10_holds ⟨by decide, by decide⟩ sh172 rfl (xin_mm (by decide)) rfl rfl (by simp [Value.category]) (xC.pure (v := .int (xb (b = true))) (hho) ?_)
  refine xb_if_ne 9 dX10_weave_4 (by decide) (fun c1 => ?_) (fun c1 => ?_)
  · refine xe_aload_n 0 dX10_weave_9 rfl rfl ?_
    refine xe_callV (As := []) (rest := []) dX10_weave_10 wX10_meets lX10_170 iX10_meets sX10_meets ⟨by decide, by decide⟩ sh172 rfl (xin_mm (by decide)) rfl rfl (by simp [Value.category]) ?_
    exact k1 c1
  · refine xe_iconst (v := -1) dX10_weave_7 xcm1 ?_
    exact xe_ret (r := (some (.int (-1)))) dX10_weave_8 trivial (k2 c1)

theorem gX10_weave_f (u : xU) {Q : Option Value → xM → Prop}  
    (k1 : Q (some (.int (-2))) (xmm u)) : xE mX10_weave 13 [(0, .ref 172)] [.int (nI (0))] (xmm u) Q := by
  refine xn_if_ne 19 dX10_weave_13 (by decide) (by omega) (fun q => absurd q (by decide)) (fun _ => ?_)
  refine xe_bipush (v := -2) dX10_weave_16 xcbm2 ?_
  exact xe_ret (r := (some (.int (-2)))) dX10_weave_18 trivial (k1)

theorem gX10_weave_t (u : xU) (nn n : Nat) (rm : Nat) {Q : Option Value → xM → Prop} (hnn : nn ≤ 6) (hn : n ≤ 10) (v1 : u.1 172 3 = nI (nn)) (v2 : u.1 172 4 = nI (n)) (v3 : u.1 172 13 = nI (rm))
    (k1 : xE mX10_weave 45 [(0, .ref 172), (1, .int (nI (0)))] [] (xmm (wi (wi (wi u 172 15 (nI (nn))) 172 16 (nI (rm))) 172 17 (nI (n)))) Q) : xE mX10_weave 13 [(0, .ref 172)] [.int (nI (1))] (xmm u) Q := by
  refine xn_if_ne 19 dX10_weave_13 (by decide) (by omega) (fun _ => ?_) (fun q => absurd q (by decide))
  refine xe_aload_n 0 dX10_weave_19 rfl rfl ?_
  refine xe_aload_n 0 dX10_weave_20 rfl rfl ?_
  refine xr_getI (v := nI (nn)) dX10_weave_21 fX10_119 sh172 (by decide) v1 ?_
  refine xr_putI dX10_weave_24 fX10_173 sh172 (by decide) ?_
  refine xe_aload_n 0 dX10_weave_27 rfl rfl ?_
  refine xe_aload_n 0 dX10_weave_28 rfl rfl ?_
  refine xr_getI (v := nI (rm)) dX10_weave_29 fX10_153 sh172 (by decide) ((wi_nek (by decide)).trans v3) ?_
  refine xr_putI dX10_weave_32 fX10_46 sh172 (by decide) ?_
  refine xe_aload_n 0 dX10_weave_35 rfl rfl ?_
  refine xe_aload_n 0 dX10_weave_36 rfl rfl ?_
  refine xr_getI (v := nI (n)) dX10_weave_37 fX10_92 sh172 (by decide) ((wi_nek (by decide)).trans ((wi_nek (by decide)).trans v2)) ?_
  refine xr_putI dX10_weave_40 fX10_176 sh172 (by decide) ?_
  refine xe_iconst (v := nI (0)) dX10_weave_43 xc0 ?_
  refine xe_istore_n (L2 := [(0, .ref 172), (1, .int (nI (0)))]) dX10_weave_44 rfl (by decide) rfl ?_
  exact k1

theorem gX10_weave_45 (u : xU) (nn n : Nat) (i : Nat) (x : Int32) {Q : Option Value → xM → Prop} (hnn : nn ≤ 6) (hn : n ≤ 10) (hi : i ≤ nn) (v1 : u.1 172 3 = nI (nn)) (v2 : u.1 172 4 = nI (n)) (v3 : u.1 184 i = x)
    (k1 : nn ≤ i → xE mX10_weave 73 [(0, .ref 172), (1, .int (nI (0)))] [] (xmm u) Q)
    (k2 : ¬ nn ≤ i → xE mX10_weave 45 [(0, .ref 172), (1, .int (nI (i + 1)))] [] (xmm (wi u 186 i (x))) Q) : xE mX10_weave 45 [(0, .ref 172), (1, .int (nI (i)))] [] (xmm u) Q := by
  refine xe_iload_n 1 dX10_weave_45 rfl rfl ?_
  refine xe_aload_n 0 dX10_weave_46 rfl rfl ?_
  refine xr_getI (v := nI (nn)) dX10_weave_47 fX10_119 sh172 (by decide) v1 ?_
  refine xn_icmp_ge 71 dX10_weave_50 (by decide) (by omega) (by omega) (fun c1 => ?_) (fun c1 => ?_)
  · refine xe_iconst (v := nI (0)) dX10_weave_71 xc0 ?_
    refine xe_istore_n (L2 := [(0, .ref 172), (1, .int (nI (0)))]) dX10_weave_72 rfl (by decide) rfl ?_
    exact k1 c1
  · refine xe_aload_n 0 dX10_weave_53 rfl rfl ?_
    refine xr_getR (b := 186) dX10_weave_54 fX10_53 rfl sh172 (by decide) rfl ?_
    refine xe_iload_n 1 dX10_weave_57 rfl rfl ?_
    refine xe_aload_n 0 dX10_weave_58 rfl rfl ?_
    refine xr_getR (b := 184) dX10_weave_59 fX10_43 rfl sh172 (by decide) rfl ?_
    refine xe_iload_n 1 dX10_weave_62 rfl rfl ?_
    refine xr_iald (k := i) (v := x) dX10_weave_63 sh184 (by decide) (by omega) (by decide) v3 ?_
    refine xr_iast (k := i) dX10_weave_64 sh186 (by decide) (by omega) (by decide) ?_
    refine xn_iinc (c := 1) (L2 := [(0, .ref 172), (1, .int (nI (i + 1)))]) 1 dX10_weave_65 rfl (by decide) rfl ?_
    refine xe_goto 45 dX10_weave_68 (by decide) ?_
    exact k2 c1

theorem gX10_weave_73 (u : xU) (m rm : Nat) {Q : Option Value → xM → Prop} (hrm : rm ≤ 500) (hm : m ≤ rm) (v1 : u.1 172 13 = nI (rm))
    (k1 : rm ≤ m → xE mX10_weave 198 [(0, .ref 172), (1, .int (nI (0)))] [] (xmm u) Q)
    (k2 : ¬ rm ≤ m → xE mX10_weave 83 [(0, .ref 172), (1, .int (nI (m))), (2, .int (nI (m)))] [] (xmm u) Q) : xE mX10_weave 73 [(0, .ref 172), (1, .int (nI (m)))] [] (xmm u) Q := by
  refine xe_iload_n 1 dX10_weave_73 rfl rfl ?_
  refine xe_aload_n 0 dX10_weave_74 rfl rfl ?_
  refine xr_getI (v := nI (rm)) dX10_weave_75 fX10_153 sh172 (by decide) v1 ?_
  refine xn_icmp_ge 196 dX10_weave_78 (by decide) (by omega) (by omega) (fun c1 => ?_) (fun c1 => ?_)
  · refine xe_iconst (v := nI (0)) dX10_weave_196 xc0 ?_
    refine xe_istore_n (L2 := [(0, .ref 172), (1, .int (nI (0)))]) dX10_weave_197 rfl (by decide) rfl ?_
    exact k1 c1
  · refine xe_iload_n 1 dX10_weave_81 rfl rfl ?_
    refine xe_istore_n (L2 := [(0, .ref 172), (1, .int (nI (m))), (2, .int (nI (m)))]) dX10_weave_82 rfl (by decide) rfl ?_
    exact k2 c1

theorem gX10_weave_83 (u : xU) (nn m i : Nat) (d : Int32) {Q : Option Value → xM → Prop} (hnn : nn ≤ 6) (hm : m < 500) (hi : i ≤ m) (hi1 : 1 ≤ i) (hag : xC mX10_against_ [.ref 185, .int (nI (i - 1)), .ref 182, .int (nI m), .int (nI nn)] (xmm u) (fun r μ' => r = some (.int d) ∧ μ' = xmm u)) (v1 : u.1 172 3 = nI (nn))
    (k1 : i ≤ 0 → xE mX10_weave 156 [(0, .ref 172), (1, .int (nI (m))), (2, .int (nI (i))), (3, .int (nI (0)))] [] (xmm u) Q)
    (k2 : ¬ i ≤ 0 → d ≤ 0 → xE mX10_weave 156 [(0, .ref 172), (1, .int (nI (m))), (2, .int (nI (i))), (3, .int (nI (0)))] [] (xmm u) Q)
    (k3 : ¬ i ≤ 0 → ¬ d ≤ 0 → xE mX10_weave 111 [(0, .ref 172), (1, .int (nI (m))), (2, .int (nI (i))), (3, .int (nI (0)))] [] (xmm u) Q) : xE mX10_weave 83 [(0, .ref 172), (1, .int (nI (m))), (2, .int (nI (i)))] [] (xmm u) Q := by
  refine xe_iload_n 2 dX10_weave_83 rfl rfl ?_
  refine xn_if_le 154 dX10_weave_84 (by decide) (by omega) (fun c1 => ?_) (fun c1 => ?_)
  · refine xe_iconst (v := nI (0)) dX10_weave_154 xc0 ?_
    refine xe_istore_n (L2 := [(0, .ref 172), (1, .int (nI (m))), (2, .int (nI (i))), (3, .int (nI (0)))]) dX10_weave_155 rfl (by decide) rfl ?_
    exact k1 c1
  · refine xe_aload_n 0 dX10_weave_87 rfl rfl ?_
    refine xr_getR (b := 185) dX10_weave_88 fX10_50 rfl sh172 (by decide) rfl ?_
    refine xe_iload_n 2 dX10_weave_91 rfl rfl ?_
    refine xe_iconst (v := nI (1)) dX10_weave_92 xc1 ?_
    refine xn_isub dX10_weave_93 (by omega) ?_
    refine xe_aload_n 0 dX10_weave_94 rfl rfl ?_
    refine xr_getR (b := 182) dX10_weave_95 fX10_37 rfl sh172 (by decide) rfl ?_
    refine xe_iload_n 1 dX10_weave_98 rfl rfl ?_
    refine xe_aload_n 0 dX10_weave_99 rfl rfl ?_
    refine xr_getI (v := nI (nn)) dX10_weave_100 fX10_119 sh172 (by decide) v1 ?_
    refine xe_callS (As := [.ref 185, .int (nI (i - 1)), .ref 182, .int (nI (m)), .int (nI (nn))]) (rest := []) dX10_weave_103 wX10_against_ lX10_179 tX10_against_ ⟨by decide, by decide⟩ rfl rfl (by simp [Value.category]) (xC.pure (v := .int (d)) (hag) ?_)
    refine xe_if_le 154 dX10_weave_106 (by decide) (fun c2 => ?_) (fun c2 => ?_)
    · refine xe_iconst (v := nI (0)) dX10_weave_154 xc0 ?_
      refine xe_istore_n (L2 := [(0, .ref 172), (1, .int (nI (m))), (2, .int (nI (i))), (3, .int (nI (0)))]) dX10_weave_155 rfl (by decide) rfl ?_
      exact k2 c1 c2
    · refine xe_iconst (v := nI (0)) dX10_weave_109 xc0 ?_
      refine xe_istore_n (L2 := [(0, .ref 172), (1, .int (nI (m))), (2, .int (nI (i))), (3, .int (nI (0)))]) dX10_weave_110 rfl (by decide) rfl ?_
      exact k3 c1 c2

theorem gX10_weave_83z (u : xU) (m : Nat) {Q : Option Value → xM → Prop}  
    (k1 : xE mX10_weave 156 [(0, .ref 172), (1, .int (nI (m))), (2, .int (nI (0))), (3, .int (nI (0)))] [] (xmm u) Q) : xE mX10_weave 83 [(0, .ref 172), (1, .int (nI (m))), (2, .int (nI (0)))] [] (xmm u) Q := by
  refine xe_iload_n 2 dX10_weave_83 rfl rfl ?_
  refine xn_if_le 154 dX10_weave_84 (by decide) (by omega) (fun _ => ?_) (fun q => absurd q (by decide))
  refine xe_iconst (v := nI (0)) dX10_weave_154 xc0 ?_
  refine xe_istore_n (L2 := [(0, .ref 172), (1, .int (nI (m))), (2, .int (nI (0))), (3, .int (nI (0)))]) dX10_weave_155 rfl (by decide) rfl ?_
  exact k1

theorem gX10_weave_111 (u : xU) (m i j : Nat) (x : Int32) {Q : Option Value → xM → Prop} (hm : m < 500) (hi : i ≤ m) (hi1 : 1 ≤ i) (hj : j ≤ 6) (v1 : u.1 185 (((6 * i) - 6) + j) = x)
    (k1 : 6 ≤ j → xE mX10_weave 83 [(0, .ref 172), (1, .int (nI (m))), (2, .int (nI (i - 1)))] [] (xmm u) Q)
    (k2 : ¬ 6 ≤ j → xE mX10_weave 111 [(0, .ref 172), (1, .int (nI (m))), (2, .int (nI (i))), (3, .int (nI (j + 1)))] [] (xmm (wi u 185 ((6 * i) + j) (x))) Q) : xE mX10_weave 111 [(0, .ref 172), (1, .int (nI (m))), (2, .int (nI (i))), (3, .int (nI (j)))] [] (xmm u) Q := by
  refine xe_iload_n 3 dX10_weave_111 rfl rfl ?_
  refine xe_bipush (v := nI (6)) dX10_weave_112 xcb6 ?_
  refine xn_icmp_ge 148 dX10_weave_114 (by decide) (by omega) (by omega) (fun c1 => ?_) (fun c1 => ?_)
  · refine xn_idec (L2 := [(0, .ref 172), (1, .int (nI (m))), (2, .int (nI (i - 1))), (3, .int (nI (j)))]) 2 dX10_weave_148 rfl (by omega) (by decide) rfl ?_
    refine xe_goto 83 dX10_weave_151 (by decide) ?_
    refine xE.sub [0, 1, 2] rfl ?_
    exact k1 c1
  · refine xe_aload_n 0 dX10_weave_117 rfl rfl ?_
    refine xr_getR (b := 185) dX10_weave_118 fX10_50 rfl sh172 (by decide) rfl ?_
    refine xe_bipush (v := nI (6)) dX10_weave_121 xcb6 ?_
    refine xe_iload_n 2 dX10_weave_123 rfl rfl ?_
    refine xn_imul dX10_weave_124 ?_
    refine xe_iload_n 3 dX10_weave_125 rfl rfl ?_
    refine xn_iadd dX10_weave_126 ?_
    refine xe_aload_n 0 dX10_weave_127 rfl rfl ?_
    refine xr_getR (b := 185) dX10_weave_128 fX10_50 rfl sh172 (by decide) rfl ?_
    refine xe_bipush (v := nI (6)) dX10_weave_131 xcb6 ?_
    refine xe_iload_n 2 dX10_weave_133 rfl rfl ?_
    refine xn_imul dX10_weave_134 ?_
    refine xe_bipush (v := nI (6)) dX10_weave_135 xcb6 ?_
    refine xn_isub dX10_weave_137 (by omega) ?_
    refine xe_iload_n 3 dX10_weave_138 rfl rfl ?_
    refine xn_iadd dX10_weave_139 ?_
    refine xr_iald (k := ((6 * i) - 6) + j) (v := x) dX10_weave_140 sh185 (by decide) (by omega) (by decide) v1 ?_
    refine xr_iast (k := (6 * i) + j) dX10_weave_141 sh185 (by decide) (by omega) (by decide) ?_
    refine xn_iinc (c := 1) (L2 := [(0, .ref 172), (1, .int (nI (m))), (2, .int (nI (i))), (3, .int (nI (j + 1)))]) 3 dX10_weave_142 rfl (by decide) rfl ?_
    refine xe_goto 111 dX10_weave_145 (by decide) ?_
    exact k2 c1

theorem gX10_weave_156 (u : xU) (m i j : Nat) (x : Int32) {Q : Option Value → xM → Prop} (hm : m < 500) (hi : i ≤ m) (hj : j ≤ 6) (v1 : u.1 182 ((6 * m) + j) = x)
    (k1 : 6 ≤ j → xE mX10_weave 73 [(0, .ref 172), (1, .int (nI (m + 1)))] [] (xmm u) Q)
    (k2 : ¬ 6 ≤ j → xE mX10_weave 156 [(0, .ref 172), (1, .int (nI (m))), (2, .int (nI (i))), (3, .int (nI (j + 1)))] [] (xmm (wi u 185 ((6 * i) + j) (x))) Q) : xE mX10_weave 156 [(0, .ref 172), (1, .int (nI (m))), (2, .int (nI (i))), (3, .int (nI (j)))] [] (xmm u) Q := by
  refine xe_iload_n 3 dX10_weave_156 rfl rfl ?_
  refine xe_bipush (v := nI (6)) dX10_weave_157 xcb6 ?_
  refine xn_icmp_ge 190 dX10_weave_159 (by decide) (by omega) (by omega) (fun c1 => ?_) (fun c1 => ?_)
  · refine xn_iinc (c := 1) (L2 := [(0, .ref 172), (1, .int (nI (m + 1))), (2, .int (nI (i))), (3, .int (nI (j)))]) 1 dX10_weave_190 rfl (by decide) rfl ?_
    refine xe_goto 73 dX10_weave_193 (by decide) ?_
    refine xE.sub [0, 1] rfl ?_
    exact k1 c1
  · refine xe_aload_n 0 dX10_weave_162 rfl rfl ?_
    refine xr_getR (b := 185) dX10_weave_163 fX10_50 rfl sh172 (by decide) rfl ?_
    refine xe_bipush (v := nI (6)) dX10_weave_166 xcb6 ?_
    refine xe_iload_n 2 dX10_weave_168 rfl rfl ?_
    refine xn_imul dX10_weave_169 ?_
    refine xe_iload_n 3 dX10_weave_170 rfl rfl ?_
    refine xn_iadd dX10_weave_171 ?_
    refine xe_aload_n 0 dX10_weave_172 rfl rfl ?_
    refine xr_getR (b := 182) dX10_weave_173 fX10_37 rfl sh172 (by decide) rfl ?_
    refine xe_bipush (v := nI (6)) dX10_weave_176 xcb6 ?_
    refine xe_iload_n 1 dX10_weave_178 rfl rfl ?_
    refine xn_imul dX10_weave_179 ?_
    refine xe_iload_n 3 dX10_weave_180 rfl rfl ?_
    refine xn_iadd dX10_weave_181 ?_
    refine xr_iald (k := (6 * m) + j) (v := x) dX10_weave_182 sh182 (by decide) (by omega) (by decide) v1 ?_
    refine xr_iast (k := (6 * i) + j) dX10_weave_183 sh185 (by decide) (by omega) (by decide) ?_
    refine xn_iinc (c := 1) (L2 := [(0, .ref 172), (1, .int (nI (m))), (2, .int (nI (i))), (3, .int (nI (j + 1)))]) 3 dX10_weave_184 rfl (by decide) rfl ?_
    refine xe_goto 156 dX10_weave_187 (by decide) ?_
    exact k2 c1

theorem gX10_weave_198 (u : xU) (nn n : Nat) (p kd : Nat) {Q : Option Value → xM → Prop} (hnn : nn ≤ 6) (hn : n ≤ 10) (hp : p < n) (hkd : kd ≤ 3) (v1 : u.1 172 3 = nI (nn)) (v2 : u.1 172 4 = nI (n)) (v3 : u.1 176 p = nI (kd))
    (k1 : 10 ≤ p → xE mX10_weave 240 [(0, .ref 172), (1, .int (nI (0)))] [] (xmm u) Q)
    (k2 : ¬ 10 ≤ p → n ≤ p → xE mX10_weave 198 [(0, .ref 172), (1, .int (nI (p + 1)))] [] (xmm (wi u 188 p (xb (False)))) Q)
    (k3 : ¬ 10 ≤ p → ¬ n ≤ p → ¬ kd = 0 → xE mX10_weave 198 [(0, .ref 172), (1, .int (nI (p + 1)))] [] (xmm (wi u 188 p (xb (False)))) Q)
    (k4 : ¬ 10 ≤ p → ¬ n ≤ p → kd = 0 → xE mX10_weave 198 [(0, .ref 172), (1, .int (nI (p + 1)))] [] (xmm (wi u 188 p (xb (True)))) Q) : xE mX10_weave 198 [(0, .ref 172), (1, .int (nI (p)))] [] (xmm u) Q := by
  refine xe_iload_n 1 dX10_weave_198 rfl rfl ?_
  refine xe_bipush (v := nI (10)) dX10_weave_199 xcb10 ?_
  refine xn_icmp_ge 238 dX10_weave_201 (by decide) (by omega) (by omega) (fun c1 => ?_) (fun c1 => ?_)
  · refine xe_iconst (v := nI (0)) dX10_weave_238 xc0 ?_
    refine xe_istore_n (L2 := [(0, .ref 172), (1, .int (nI (0)))]) dX10_weave_239 rfl (by decide) rfl ?_
    exact k1 c1
  · refine xe_aload_n 0 dX10_weave_204 rfl rfl ?_
    refine xr_getR (b := 188) dX10_weave_205 fX10_59 rfl sh172 (by decide) rfl ?_
    refine xe_iload_n 1 dX10_weave_208 rfl rfl ?_
    refine xe_iload_n 1 dX10_weave_209 rfl rfl ?_
    refine xe_aload_n 0 dX10_weave_210 rfl rfl ?_
    refine xr_getI (v := nI (n)) dX10_weave_211 fX10_92 sh172 (by decide) v2 ?_
    refine xn_icmp_ge 230 dX10_weave_214 (by decide) (by omega) (by omega) (fun c2 => ?_) (fun c2 => ?_)
    · refine xe_iconst (v := nI (0)) dX10_weave_230 xc0 ?_
      refine xr_zast (P := False) (k := p) dX10_weave_231 sh188 (by decide) (by omega) (by decide) ?_
      refine xn_iinc (c := 1) (L2 := [(0, .ref 172), (1, .int (nI (p + 1)))]) 1 dX10_weave_232 rfl (by decide) rfl ?_
      refine xe_goto 198 dX10_weave_235 (by decide) ?_
      exact k2 c1 c2
    · refine xe_aload_n 0 dX10_weave_217 rfl rfl ?_
      refine xr_getR (b := 176) dX10_weave_218 fX10_19 rfl sh172 (by decide) rfl ?_
      refine xe_iload_n 1 dX10_weave_221 rfl rfl ?_
      refine xr_iald (k := p) (v := nI (kd)) dX10_weave_222 sh176 (by decide) (by omega) (by decide) v3 ?_
      refine xn_if_ne 230 dX10_weave_223 (by decide) (by omega) (fun c3 => ?_) (fun c3 => ?_)
      · refine xe_iconst (v := nI (0)) dX10_weave_230 xc0 ?_
        refine xr_zast (P := False) (k := p) dX10_weave_231 sh188 (by decide) (by omega) (by decide) ?_
        refine xn_iinc (c := 1) (L2 := [(0, .ref 172), (1, .int (nI (p + 1)))]) 1 dX10_weave_232 rfl (by decide) rfl ?_
        refine xe_goto 198 dX10_weave_235 (by decide) ?_
        exact k3 c1 c2 c3
      · refine xe_iconst (v := nI (1)) dX10_weave_226 xc1 ?_
        refine xe_goto 231 dX10_weave_227 (by decide) ?_
        refine xr_zast (P := True) (k := p) dX10_weave_231 sh188 (by decide) (by omega) (by decide) ?_
        refine xn_iinc (c := 1) (L2 := [(0, .ref 172), (1, .int (nI (p + 1)))]) 1 dX10_weave_232 rfl (by decide) rfl ?_
        refine xe_goto 198 dX10_weave_235 (by decide) ?_
        exact k4 c1 c2 c3

theorem gX10_weave_198n (u : xU) (nn n : Nat) (p : Nat) {Q : Option Value → xM → Prop} (hnn : nn ≤ 6) (hn : n ≤ 10) (hp : n ≤ p) (hp1 : p ≤ 10) (v1 : u.1 172 3 = nI (nn)) (v2 : u.1 172 4 = nI (n))
    (k1 : 10 ≤ p → xE mX10_weave 240 [(0, .ref 172), (1, .int (nI (0)))] [] (xmm u) Q)
    (k2 : ¬ 10 ≤ p → n ≤ p → xE mX10_weave 198 [(0, .ref 172), (1, .int (nI (p + 1)))] [] (xmm (wi u 188 p (xb (False)))) Q)
    (k3 : ¬ 10 ≤ p → ¬ n ≤ p → ¬ (u.1 176 p) = 0 → xE mX10_weave 198 [(0, .ref 172), (1, .int (nI (p + 1)))] [] (xmm (wi u 188 p (xb (False)))) Q)
    (k4 : ¬ 10 ≤ p → ¬ n ≤ p → (u.1 176 p) = 0 → xE mX10_weave 198 [(0, .ref 172), (1, .int (nI (p + 1)))] [] (xmm (wi u 188 p (xb (True)))) Q) : xE mX10_weave 198 [(0, .ref 172), (1, .int (nI (p)))] [] (xmm u) Q := by
  refine xe_iload_n 1 dX10_weave_198 rfl rfl ?_
  refine xe_bipush (v := nI (10)) dX10_weave_199 xcb10 ?_
  refine xn_icmp_ge 238 dX10_weave_201 (by decide) (by omega) (by omega) (fun c1 => ?_) (fun c1 => ?_)
  · refine xe_iconst (v := nI (0)) dX10_weave_238 xc0 ?_
    refine xe_istore_n (L2 := [(0, .ref 172), (1, .int (nI (0)))]) dX10_weave_239 rfl (by decide) rfl ?_
    exact k1 c1
  · refine xe_aload_n 0 dX10_weave_204 rfl rfl ?_
    refine xr_getR (b := 188) dX10_weave_205 fX10_59 rfl sh172 (by decide) rfl ?_
    refine xe_iload_n 1 dX10_weave_208 rfl rfl ?_
    refine xe_iload_n 1 dX10_weave_209 rfl rfl ?_
    refine xe_aload_n 0 dX10_weave_210 rfl rfl ?_
    refine xr_getI (v := nI (n)) dX10_weave_211 fX10_92 sh172 (by decide) v2 ?_
    refine xn_icmp_ge 230 dX10_weave_214 (by decide) (by omega) (by omega) (fun c2 => ?_) (fun c2 => ?_)
    · refine xe_iconst (v := nI (0)) dX10_weave_230 xc0 ?_
      refine xr_zast (P := False) (k := p) dX10_weave_231 sh188 (by decide) (by omega) (by decide) ?_
      refine xn_iinc (c := 1) (L2 := [(0, .ref 172), (1, .int (nI (p + 1)))]) 1 dX10_weave_232 rfl (by decide) rfl ?_
      refine xe_goto 198 dX10_weave_235 (by decide) ?_
      exact k2 c1 c2
    · refine xe_aload_n 0 dX10_weave_217 rfl rfl ?_
      refine xr_getR (b := 176) dX10_weave_218 fX10_19 rfl sh172 (by decide) rfl ?_
      refine xe_iload_n 1 dX10_weave_221 rfl rfl ?_
      refine xr_iald (k := p) (v := u.1 176 p) dX10_weave_222 sh176 (by decide) (by omega) (by decide) rfl ?_
      refine xe_if_ne 230 dX10_weave_223 (by decide) (fun c3 => ?_) (fun c3 => ?_)
      · refine xe_iconst (v := nI (0)) dX10_weave_230 xc0 ?_
        refine xr_zast (P := False) (k := p) dX10_weave_231 sh188 (by decide) (by omega) (by decide) ?_
        refine xn_iinc (c := 1) (L2 := [(0, .ref 172), (1, .int (nI (p + 1)))]) 1 dX10_weave_232 rfl (by decide) rfl ?_
        refine xe_goto 198 dX10_weave_235 (by decide) ?_
        exact k3 c1 c2 c3
      · refine xe_iconst (v := nI (1)) dX10_weave_226 xc1 ?_
        refine xe_goto 231 dX10_weave_227 (by decide) ?_
        refine xr_zast (P := True) (k := p) dX10_weave_231 sh188 (by decide) (by omega) (by decide) ?_
        refine xn_iinc (c := 1) (L2 := [(0, .ref 172), (1, .int (nI (p + 1)))]) 1 dX10_weave_232 rfl (by decide) rfl ?_
        refine xe_goto 198 dX10_weave_235 (by decide) ?_
        exact k4 c1 c2 c3

theorem gX10_weave_240 (u : xU) (m wm : Nat) {Q : Option Value → xM → Prop} (hwm : wm ≤ 500) (hm : m ≤ wm) (v1 : u.1 172 16 = nI (wm))
    (k1 : wm ≤ m → Q (some (.int (nI (wm)))) (xmm u))
    (k2 : ¬ wm ≤ m → xE mX10_weave 250 [(0, .ref 172), (1, .int (nI (m))), (2, .int (nI (0)))] [] (xmm u) Q) : xE mX10_weave 240 [(0, .ref 172), (1, .int (nI (m)))] [] (xmm u) Q := by
  refine xe_iload_n 1 dX10_weave_240 rfl rfl ?_
  refine xe_aload_n 0 dX10_weave_241 rfl rfl ?_
  refine xr_getI (v := nI (wm)) dX10_weave_242 fX10_46 sh172 (by decide) v1 ?_
  refine xn_icmp_ge 338 dX10_weave_245 (by decide) (by omega) (by omega) (fun c1 => ?_) (fun c1 => ?_)
  · refine xe_aload_n 0 dX10_weave_338 rfl rfl ?_
    refine xr_getI (v := nI (wm)) dX10_weave_339 fX10_46 sh172 (by decide) v1 ?_
    exact xe_ret (r := (some (.int (nI (wm))))) dX10_weave_342 trivial (k1 c1)
  · refine xe_iconst (v := nI (0)) dX10_weave_248 xc0 ?_
    refine xe_istore_n (L2 := [(0, .ref 172), (1, .int (nI (m))), (2, .int (nI (0)))]) dX10_weave_249 rfl (by decide) rfl ?_
    exact k2 c1

theorem gX10_weave_250 (u : xU) (m k : Nat) (x : Int32) {Q : Option Value → xM → Prop} (hm : m < 500) (hk : k ≤ 6) (v1 : u.1 185 ((6 * m) + k) = x)
    (k1 : 6 ≤ k → xE mX10_weave 281 [(0, .ref 172), (1, .int (nI (m))), (2, .int (nI (0)))] [] (xmm u) Q)
    (k2 : ¬ 6 ≤ k → xE mX10_weave 250 [(0, .ref 172), (1, .int (nI (m))), (2, .int (nI (k + 1)))] [] (xmm (wi u 190 k (x))) Q) : xE mX10_weave 250 [(0, .ref 172), (1, .int (nI (m))), (2, .int (nI (k)))] [] (xmm u) Q := by
  refine xe_iload_n 2 dX10_weave_250 rfl rfl ?_
  refine xe_bipush (v := nI (6)) dX10_weave_251 xcb6 ?_
  refine xn_icmp_ge 279 dX10_weave_253 (by decide) (by omega) (by omega) (fun c1 => ?_) (fun c1 => ?_)
  · refine xe_iconst (v := nI (0)) dX10_weave_279 xc0 ?_
    refine xe_istore_n (L2 := [(0, .ref 172), (1, .int (nI (m))), (2, .int (nI (0)))]) dX10_weave_280 rfl (by decide) rfl ?_
    exact k1 c1
  · refine xe_aload_n 0 dX10_weave_256 rfl rfl ?_
    refine xr_getR (b := 190) dX10_weave_257 fX10_69 rfl sh172 (by decide) rfl ?_
    refine xe_iload_n 2 dX10_weave_260 rfl rfl ?_
    refine xe_aload_n 0 dX10_weave_261 rfl rfl ?_
    refine xr_getR (b := 185) dX10_weave_262 fX10_50 rfl sh172 (by decide) rfl ?_
    refine xe_bipush (v := nI (6)) dX10_weave_265 xcb6 ?_
    refine xe_iload_n 1 dX10_weave_267 rfl rfl ?_
    refine xn_imul dX10_weave_268 ?_
    refine xe_iload_n 2 dX10_weave_269 rfl rfl ?_
    refine xn_iadd dX10_weave_270 ?_
    refine xr_iald (k := (6 * m) + k) (v := x) dX10_weave_271 sh185 (by decide) (by omega) (by decide) v1 ?_
    refine xr_iast (k := k) dX10_weave_272 sh190 (by decide) (by omega) (by decide) ?_
    refine xn_iinc (c := 1) (L2 := [(0, .ref 172), (1, .int (nI (m))), (2, .int (nI (k + 1)))]) 2 dX10_weave_273 rfl (by decide) rfl ?_
    refine xe_goto 250 dX10_weave_276 (by decide) ?_
    exact k2 c1

theorem gX10_weave_281h (u : xU) (nn n : Nat) (m p kd : Nat) (ro : Int32) {Q : Option Value → xM → Prop} (hnn : nn ≤ 6) (hn : n ≤ 10) (hm : m < 500) (hp : p < n) (hkd : kd = 0) (hro : xC mX10_rowOf [.ref 172, .int (nI p), .int ((1 <<< ((nI (nn)) &&& 31)) - 1)] (xmm u) (fun r μ' => r = some (.int (ro)) ∧ μ' = xmm u)) (v1 : u.1 172 3 = nI (nn)) (v2 : u.1 172 4 = nI (n)) (v3 : u.1 176 p = nI (kd))
    (k1 : n ≤ p → xE mX10_weave 240 [(0, .ref 172), (1, .int (nI (m + 1)))] [] (xmm u) Q)
    (k2 : ¬ n ≤ p → ¬ kd = 0 → xE mX10_weave 281 [(0, .ref 172), (1, .int (nI (m))), (2, .int (nI (p + 1)))] [] (xmm (wi u 187 ((10 * m) + p) (-1))) Q)
    (k3 : ¬ n ≤ p → kd = 0 → xE mX10_weave 281 [(0, .ref 172), (1, .int (nI (m))), (2, .int (nI (p + 1)))] [] (xmm (wi u 187 ((10 * m) + p) (ro))) Q) : xE mX10_weave 281 [(0, .ref 172), (1, .int (nI (m))), (2, .int (nI (p)))] [] (xmm u) Q := by
  refine xe_iload_n 2 dX10_weave_281 rfl rfl ?_
  refine xe_aload_n 0 dX10_weave_282 rfl rfl ?_
  refine xr_getI (v := nI (n)) dX10_weave_283 fX10_92 sh172 (by decide) v2 ?_
  refine xn_icmp_ge 332 dX10_weave_286 (by decide) (by omega) (by omega) (fun c1 => ?_) (fun c1 => ?_)
  · refine xn_iinc (c := 1) (L2 := [(0, .ref 172), (1, .int (nI (m + 1))), (2, .int (nI (p)))]) 1 dX10_weave_332 rfl (by decide) rfl ?_
    refine xe_goto 240 dX10_weave_335 (by decide) ?_
    refine xE.sub [0, 1] rfl ?_
    exact k1 c1
  · refine xe_aload_n 0 dX10_weave_289 rfl rfl ?_
    refine xr_getR (b := 187) dX10_weave_290 fX10_56 rfl sh172 (by decide) rfl ?_
    refine xe_bipush (v := nI (10)) dX10_weave_293 xcb10 ?_
    refine xe_iload_n 1 dX10_weave_295 rfl rfl ?_
    refine xn_imul dX10_weave_296 ?_
    refine xe_iload_n 2 dX10_weave_297 rfl rfl ?_
    refine xn_iadd dX10_weave_298 ?_
    refine xe_aload_n 0 dX10_weave_299 rfl rfl ?_
    refine xr_getR (b := 176) dX10_weave_300 fX10_19 rfl sh172 (by decide) rfl ?_
    refine xe_iload_n 2 dX10_weave_303 rfl rfl ?_
    refine xr_iald (k := p) (v := nI (kd)) dX10_weave_304 sh176 (by decide) (by omega) (by decide) v3 ?_
    refine xn_if_ne 324 dX10_weave_305 (by decide) (by omega) (fun c2 => ?_) (fun c2 => ?_)
    · refine xe_iconst (v := -1) dX10_weave_324 xcm1 ?_
      refine xr_iast (k := (10 * m) + p) dX10_weave_325 sh187 (by decide) (by omega) (by decide) ?_
      refine xn_iinc (c := 1) (L2 := [(0, .ref 172), (1, .int (nI (m))), (2, .int (nI (p + 1)))]) 2 dX10_weave_326 rfl (by decide) rfl ?_
      refine xe_goto 281 dX10_weave_329 (by decide) ?_
      exact k2 c1 c2
    · refine xe_aload_n 0 dX10_weave_308 rfl rfl ?_
      refine xe_iload_n 2 dX10_weave_309 rfl rfl ?_
      refine xe_iconst (v := nI (1)) dX10_weave_310 xc1 ?_
      refine xe_aload_n 0 dX10_weave_311 rfl rfl ?_
      refine xr_getI (v := nI (nn)) dX10_weave_312 fX10_119 sh172 (by decide) v1 ?_
      refine xe_ishl dX10_weave_315 ?_
      refine xe_iconst (v := nI (1)) dX10_weave_316 xc1 ?_
      refine xe_isub dX10_weave_317 ?_
      refine xe_callV (As := [.int (nI (p)), .int ((1 <<< ((nI (nn)) &&& 31)) - 1)]) (rest := [.int (nI ((10 * m) + p)), .ref 187]) dX10_weave_318 wX10_rowOf lX10_144 iX10_rowOf sX10_rowOf ⟨by decide, by decide⟩ sh172 rfl (xin_mm (by decide)) rfl rfl (by simp [Value.category]) (xC.pure (v := .int (ro)) (hro) ?_)
      refine xe_goto 325 dX10_weave_321 (by decide) ?_
      refine xr_iast (k := (10 * m) + p) dX10_weave_325 sh187 (by decide) (by omega) (by decide) ?_
      refine xn_iinc (c := 1) (L2 := [(0, .ref 172), (1, .int (nI (m))), (2, .int (nI (p + 1)))]) 2 dX10_weave_326 rfl (by decide) rfl ?_
      refine xe_goto 281 dX10_weave_329 (by decide) ?_
      exact k3 c1 c2

theorem gX10_weave_281n (u : xU) (nn n : Nat) (m p kd : Nat) {Q : Option Value → xM → Prop} (hnn : nn ≤ 6) (hn : n ≤ 10) (hm : m < 500) (hp : p < n) (hk1 : 1 ≤ kd) (hkd : kd ≤ 3) (v1 : u.1 172 3 = nI (nn)) (v2 : u.1 172 4 = nI (n)) (v3 : u.1 176 p = nI (kd))
    (k1 : n ≤ p → xE mX10_weave 240 [(0, .ref 172), (1, .int (nI (m + 1)))] [] (xmm u) Q)
    (k2 : ¬ n ≤ p → ¬ kd = 0 → xE mX10_weave 281 [(0, .ref 172), (1, .int (nI (m))), (2, .int (nI (p + 1)))] [] (xmm (wi u 187 ((10 * m) + p) (-1))) Q)
    (k3 : ¬ n ≤ p → kd = 0 → xC mX10_rowOf [.ref 172, .int (nI (p)), .int ((1 <<< ((nI (nn)) &&& 31)) - 1)] (xmm u) (fun r μ1 => xE mX10_weave 321 [(0, .ref 172), (1, .int (nI (m))), (2, .int (nI (p)))] (r.toList ++ [.int (nI ((10 * m) + p)), .ref 187]) μ1 Q)) : xE mX10_weave 281 [(0, .ref 172), (1, .int (nI (m))), (2, .int (nI (p)))] [] (xmm u) Q := by
  refine xe_iload_n 2 dX10_weave_281 rfl rfl ?_
  refine xe_aload_n 0 dX10_weave_282 rfl rfl ?_
  refine xr_getI (v := nI (n)) dX10_weave_283 fX10_92 sh172 (by decide) v2 ?_
  refine xn_icmp_ge 332 dX10_weave_286 (by decide) (by omega) (by omega) (fun c1 => ?_) (fun c1 => ?_)
  · refine xn_iinc (c := 1) (L2 := [(0, .ref 172), (1, .int (nI (m + 1))), (2, .int (nI (p)))]) 1 dX10_weave_332 rfl (by decide) rfl ?_
    refine xe_goto 240 dX10_weave_335 (by decide) ?_
    refine xE.sub [0, 1] rfl ?_
    exact k1 c1
  · refine xe_aload_n 0 dX10_weave_289 rfl rfl ?_
    refine xr_getR (b := 187) dX10_weave_290 fX10_56 rfl sh172 (by decide) rfl ?_
    refine xe_bipush (v := nI (10)) dX10_weave_293 xcb10 ?_
    refine xe_iload_n 1 dX10_weave_295 rfl rfl ?_
    refine xn_imul dX10_weave_296 ?_
    refine xe_iload_n 2 dX10_weave_297 rfl rfl ?_
    refine xn_iadd dX10_weave_298 ?_
    refine xe_aload_n 0 dX10_weave_299 rfl rfl ?_
    refine xr_getR (b := 176) dX10_weave_300 fX10_19 rfl sh172 (by decide) rfl ?_
    refine xe_iload_n 2 dX10_weave_303 rfl rfl ?_
    refine xr_iald (k := p) (v := nI (kd)) dX10_weave_304 sh176 (by decide) (by omega) (by decide) v3 ?_
    refine xn_if_ne 324 dX10_weave_305 (by decide) (by omega) (fun c2 => ?_) (fun c2 => ?_)
    · refine xe_iconst (v := -1) dX10_weave_324 xcm1 ?_
      refine xr_iast (k := (10 * m) + p) dX10_weave_325 sh187 (by decide) (by omega) (by decide) ?_
      refine xn_iinc (c := 1) (L2 := [(0, .ref 172), (1, .int (nI (m))), (2, .int (nI (p + 1)))]) 2 dX10_weave_326 rfl (by decide) rfl ?_
      refine xe_goto 281 dX10_weave_329 (by decide) ?_
      exact k2 c1 c2
    · refine xe_aload_n 0 dX10_weave_308 rfl rfl ?_
      refine xe_iload_n 2 dX10_weave_309 rfl rfl ?_
      refine xe_iconst (v := nI (1)) dX10_weave_310 xc1 ?_
      refine xe_aload_n 0 dX10_weave_311 rfl rfl ?_
      refine xr_getI (v := nI (nn)) dX10_weave_312 fX10_119 sh172 (by decide) v1 ?_
      refine xe_ishl dX10_weave_315 ?_
      refine xe_iconst (v := nI (1)) dX10_weave_316 xc1 ?_
      refine xe_isub dX10_weave_317 ?_
      refine xe_callV (As := [.int (nI (p)), .int ((1 <<< ((nI (nn)) &&& 31)) - 1)]) (rest := [.int (nI ((10 * m) + p)), .ref 187]) dX10_weave_318 wX10_rowOf lX10_144 iX10_rowOf sX10_rowOf ⟨by decide, by decide⟩ sh172 rfl (xin_mm (by decide)) rfl rfl (by simp [Value.category]) ?_
      exact k3 c1 c2

theorem gX10_weave_281e (u : xU) (nn n : Nat) (m p : Nat) {Q : Option Value → xM → Prop} (hnn : nn ≤ 6) (hn : n ≤ 10) (hm : m < 500) (hp : p = n) (v1 : u.1 172 3 = nI (nn)) (v2 : u.1 172 4 = nI (n))
    (k1 : n ≤ p → xE mX10_weave 240 [(0, .ref 172), (1, .int (nI (m + 1)))] [] (xmm u) Q)
    (k2 : ¬ n ≤ p → ¬ (u.1 176 p) = 0 → xE mX10_weave 281 [(0, .ref 172), (1, .int (nI (m))), (2, .int (nI (p + 1)))] [] (xmm (wi u 187 ((10 * m) + p) (-1))) Q)
    (k3 : ¬ n ≤ p → (u.1 176 p) = 0 → xC mX10_rowOf [.ref 172, .int (nI (p)), .int ((1 <<< ((nI (nn)) &&& 31)) - 1)] (xmm u) (fun r μ1 => xE mX10_weave 321 [(0, .ref 172), (1, .int (nI (m))), (2, .int (nI (p)))] (r.toList ++ [.int (nI ((10 * m) + p)), .ref 187]) μ1 Q)) : xE mX10_weave 281 [(0, .ref 172), (1, .int (nI (m))), (2, .int (nI (p)))] [] (xmm u) Q := by
  refine xe_iload_n 2 dX10_weave_281 rfl rfl ?_
  refine xe_aload_n 0 dX10_weave_282 rfl rfl ?_
  refine xr_getI (v := nI (n)) dX10_weave_283 fX10_92 sh172 (by decide) v2 ?_
  refine xn_icmp_ge 332 dX10_weave_286 (by decide) (by omega) (by omega) (fun c1 => ?_) (fun c1 => ?_)
  · refine xn_iinc (c := 1) (L2 := [(0, .ref 172), (1, .int (nI (m + 1))), (2, .int (nI (p)))]) 1 dX10_weave_332 rfl (by decide) rfl ?_
    refine xe_goto 240 dX10_weave_335 (by decide) ?_
    refine xE.sub [0, 1] rfl ?_
    exact k1 c1
  · refine xe_aload_n 0 dX10_weave_289 rfl rfl ?_
    refine xr_getR (b := 187) dX10_weave_290 fX10_56 rfl sh172 (by decide) rfl ?_
    refine xe_bipush (v := nI (10)) dX10_weave_293 xcb10 ?_
    refine xe_iload_n 1 dX10_weave_295 rfl rfl ?_
    refine xn_imul dX10_weave_296 ?_
    refine xe_iload_n 2 dX10_weave_297 rfl rfl ?_
    refine xn_iadd dX10_weave_298 ?_
    refine xe_aload_n 0 dX10_weave_299 rfl rfl ?_
    refine xr_getR (b := 176) dX10_weave_300 fX10_19 rfl sh172 (by decide) rfl ?_
    refine xe_iload_n 2 dX10_weave_303 rfl rfl ?_
    refine xr_iald (k := p) (v := u.1 176 p) dX10_weave_304 sh176 (by decide) (by omega) (by decide) rfl ?_
    refine xe_if_ne 324 dX10_weave_305 (by decide) (fun c2 => ?_) (fun c2 => ?_)
    · refine xe_iconst (v := -1) dX10_weave_324 xcm1 ?_
      refine xr_iast (k := (10 * m) + p) dX10_weave_325 sh187 (by decide) (by omega) (by decide) ?_
      refine xn_iinc (c := 1) (L2 := [(0, .ref 172), (1, .int (nI (m))), (2, .int (nI (p + 1)))]) 2 dX10_weave_326 rfl (by decide) rfl ?_
      refine xe_goto 281 dX10_weave_329 (by decide) ?_
      exact k2 c1 c2
    · refine xe_aload_n 0 dX10_weave_308 rfl rfl ?_
      refine xe_iload_n 2 dX10_weave_309 rfl rfl ?_
      refine xe_iconst (v := nI (1)) dX10_weave_310 xc1 ?_
      refine xe_aload_n 0 dX10_weave_311 rfl rfl ?_
      refine xr_getI (v := nI (nn)) dX10_weave_312 fX10_119 sh172 (by decide) v1 ?_
      refine xe_ishl dX10_weave_315 ?_
      refine xe_iconst (v := nI (1)) dX10_weave_316 xc1 ?_
      refine xe_isub dX10_weave_317 ?_
      refine xe_callV (As := [.int (nI (p)), .int ((1 <<< ((nI (nn)) &&& 31)) - 1)]) (rest := [.int (nI ((10 * m) + p)), .ref 187]) dX10_weave_318 wX10_rowOf lX10_144 iX10_rowOf sX10_rowOf ⟨by decide, by decide⟩ sh172 rfl (xin_mm (by decide)) rfl rfl (by simp [Value.category]) ?_
      exact k3 c1 c2

