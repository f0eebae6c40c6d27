theorem gX10_least_0 (u : xU) {Q : Option Value → xM → Prop}  
    (k1 : xE mX10_least 4 [(0, .ref 172), (1, .int (nI (1))), (2, .int (nI (0)))] [] (xmm u) Q) : xE mX10_least 0 [(0, .ref 172)] [] (xmm u) Q := by
  refine xe_iconst (v := nI (1)) dX10_least_0 xc1 ?_
  refine xe_istore_n (L2 := [(0, .ref 172), (1, .int (nI (1)))]) dX10_least_1 rfl (by decide) rfl ?_
  refine xe_iconst (v := nI (0)) dX10_least_2 xc0 ?_
  refine xe_istore_n (L2 := [(0, .ref 172), (1, .int (nI (1))), (2, .int (nI (0)))]) dX10_least_3 rfl (by decide) rfl ?_
  exact k1

theorem gX10_least_4 (u : xU) (nn n : Nat) (w p kd : Nat) (en : Bool) {Q : Option Value → xM → Prop} (hnn : nn ≤ 6) (hn : n ≤ 10) (hw : w ≤ 243) (hp : p < n) (hkd : kd ≤ 3) (hin : xC mX10_isNamed [.ref 172, .int (nI p)] (xmm (wi u 191 p (nI (0)))) (fun r μ' => r = some (.int (xb (en = true))) ∧ μ' = xmm (wi u 191 p (nI (0))))) (v1 : u.1 172 3 = nI (nn)) (v2 : u.1 172 4 = nI (n)) (v3 : u.1 176 p = nI (kd))
    (k1 : n ≤ p → xE mX10_least 57 [(0, .ref 172), (1, .int (nI (w))), (2, .long ((-1))), (4, .int (nI (0)))] [] (xmm u) Q)
    (k2 : ¬ n ≤ p → ¬ kd = 0 → xE mX10_least 4 [(0, .ref 172), (1, .int (nI (w * 1))), (2, .int (nI (p + 1)))] [] (xmm (wi u 191 p (nI (0)))) Q)
    (k3 : ¬ n ≤ p → kd = 0 → ¬ (en = true) → xE mX10_least 4 [(0, .ref 172), (1, .int (nI (w * 1))), (2, .int (nI (p + 1)))] [] (xmm (wi u 191 p (nI (0)))) Q)
    (k4 : ¬ n ≤ p → kd = 0 → en = true → xE mX10_least 4 [(0, .ref 172), (1, .int (nI (w * 3))), (2, .int (nI (p + 1)))] [] (xmm (wi u 191 p (nI (0)))) Q) : xE mX10_least 4 [(0, .ref 172), (1, .int (nI (w))), (2, .int (nI (p)))] [] (xmm u) Q := by
  refine xe_iload_n 2 dX10_least_4 rfl rfl ?_
  refine xe_aload_n 0 dX10_least_5 rfl rfl ?_
  refine xr_getI (v := nI (n)) dX10_least_6 fX10_92 sh172 (by decide) v2 ?_
  refine xn_icmp_ge 50 dX10_least_9 (by decide) (by omega) (by omega) (fun c1 => ?_) (fun c1 => ?_)
  · refine xe_ldc2 dX10_least_50 kX10_201 ?_
    refine xe_lstore_n (L2 := [(0, .ref 172), (1, .int (nI (w))), (2, .long ((-1)))]) dX10_least_53 rfl (by decide) rfl ?_
    refine xe_iconst (v := nI (0)) dX10_least_54 xc0 ?_
    refine xe_istore (L2 := [(0, .ref 172), (1, .int (nI (w))), (2, .long ((-1))), (4, .int (nI (0)))]) dX10_least_55 (by decide) rfl ?_
    exact k1 c1
  · refine xe_aload_n 0 dX10_least_12 rfl rfl ?_
    refine xr_getR (b := 191) dX10_least_13 fX10_72 rfl sh172 (by decide) rfl ?_
    refine xe_iload_n 2 dX10_least_16 rfl rfl ?_
    refine xe_iconst (v := nI (0)) dX10_least_17 xc0 ?_
    refine xr_iast (k := p) dX10_least_18 sh191 (by decide) (by omega) (by decide) ?_
    refine xe_iload_n 1 dX10_least_19 rfl rfl ?_
    refine xe_aload_n 0 dX10_least_20 rfl rfl ?_
    refine xr_getR (b := 176) dX10_least_21 fX10_19 rfl sh172 (by decide) rfl ?_
    refine xe_iload_n 2 dX10_least_24 rfl rfl ?_
    refine xr_iald (k := p) (v := nI (kd)) dX10_least_25 sh176 (by decide) (by omega) (by decide) ((wi_ne (by omega)).trans v3) ?_
    refine xn_if_ne 41 dX10_least_26 (by decide) (by omega) (fun c2 => ?_) (fun c2 => ?_)
    · refine xe_iconst (v := nI (1)) dX10_least_41 xc1 ?_
      refine xn_imul dX10_least_42 ?_
      refine xe_istore_n (L2 := [(0, .ref 172), (1, .int (nI (w * 1))), (2, .int (nI (p)))]) dX10_least_43 rfl (by decide) rfl ?_
      refine xn_iinc (c := 1) (L2 := [(0, .ref 172), (1, .int (nI (w * 1))), (2, .int (nI (p + 1)))]) 2 dX10_least_44 rfl (by decide) rfl ?_
      refine xe_goto 4 dX10_least_47 (by decide) ?_
      exact k2 c1 c2
    · refine xe_aload_n 0 dX10_least_29 rfl rfl ?_
      refine xe_iload_n 2 dX10_least_30 rfl rfl ?_
      refine xe_callV (As := [.int (nI (p))]) (rest := [.int (nI (w))]) dX10_least_31 wX10_isNamed lX10_138 iX10_isNamed sX10_isNamed ⟨by decide, by decide⟩ sh172 rfl (xin_mm (by decide)) rfl rfl (by simp [Value.category]) (xC.pure (v := .int (xb (en = true))) (hin) ?_)
      refine xb_if_eq 41 dX10_least_34 (by decide) (fun c3 => ?_) (fun c3 => ?_)
      · refine xe_iconst (v := nI (1)) dX10_least_41 xc1 ?_
        refine xn_imul dX10_least_42 ?_
        refine xe_istore_n (L2 := [(0, .ref 172), (1, .int (nI (w * 1))), (2, .int (nI (p)))]) dX10_least_43 rfl (by decide) rfl ?_
        refine xn_iinc (c := 1) (L2 := [(0, .ref 172), (1, .int (nI (w * 1))), (2, .int (nI (p + 1)))]) 2 dX10_least_44 rfl (by decide) rfl ?_
        refine xe_goto 4 dX10_least_47 (by decide) ?_
        exact k3 c1 c2 c3
      · refine xe_iconst (v := nI (3)) dX10_least_37 xc3 ?_
        refine xe_goto 42 dX10_least_38 (by decide) ?_
        refine xn_imul dX10_least_42 ?_
        refine xe_istore_n (L2 := [(0, .ref 172), (1, .int (nI (w * 3))), (2, .int (nI (p)))]) dX10_least_43 rfl (by decide) rfl ?_
        refine xn_iinc (c := 1) (L2 := [(0, .ref 172), (1, .int (nI (w * 3))), (2, .int (nI (p + 1)))]) 2 dX10_least_44 rfl (by decide) rfl ?_
        refine xe_goto 4 dX10_least_47 (by decide) ?_
        exact k4 c1 c2 c3

theorem gX10_least_4e (u : xU) (nn n : Nat) (w p : Nat) {Q : Option Value → xM → Prop} (hnn : nn ≤ 6) (hn : n ≤ 10) (hw : w ≤ 243) (hp : p = n) (v1 : u.1 172 3 = nI (nn)) (v2 : u.1 172 4 = nI (n))
    (k1 : n ≤ p → xE mX10_least 57 [(0, .ref 172), (1, .int (nI (w))), (2, .long ((-1))), (4, .int (nI (0)))] [] (xmm u) Q)
    (k2 : ¬ n ≤ p → ¬ (u.1 176 p) = 0 → xE mX10_least 4 [(0, .ref 172), (1, .int (nI (w * 1))), (2, .int (nI (p + 1)))] [] (xmm (wi u 191 p (nI (0)))) Q)
    (k3 : ¬ n ≤ p → (u.1 176 p) = 0 → xC mX10_isNamed [.ref 172, .int (nI (p))] (xmm (wi u 191 p (nI (0)))) (fun r μ1 => xE mX10_least 34 [(0, .ref 172), (2, .int (nI (p)))] (r.toList ++ [.int (nI (w))]) μ1 Q)) : xE mX10_least 4 [(0, .ref 172), (1, .int (nI (w))), (2, .int (nI (p)))] [] (xmm u) Q := by
  refine xe_iload_n 2 dX10_least_4 rfl rfl ?_
  refine xe_aload_n 0 dX10_least_5 rfl rfl ?_
  refine xr_getI (v := nI (n)) dX10_least_6 fX10_92 sh172 (by decide) v2 ?_
  refine xn_icmp_ge 50 dX10_least_9 (by decide) (by omega) (by omega) (fun c1 => ?_) (fun c1 => ?_)
  · refine xe_ldc2 dX10_least_50 kX10_201 ?_
    refine xe_lstore_n (L2 := [(0, .ref 172), (1, .int (nI (w))), (2, .long ((-1)))]) dX10_least_53 rfl (by decide) rfl ?_
    refine xe_iconst (v := nI (0)) dX10_least_54 xc0 ?_
    refine xe_istore (L2 := [(0, .ref 172), (1, .int (nI (w))), (2, .long ((-1))), (4, .int (nI (0)))]) dX10_least_55 (by decide) rfl ?_
    exact k1 c1
  · refine xe_aload_n 0 dX10_least_12 rfl rfl ?_
    refine xr_getR (b := 191) dX10_least_13 fX10_72 rfl sh172 (by decide) rfl ?_
    refine xe_iload_n 2 dX10_least_16 rfl rfl ?_
    refine xe_iconst (v := nI (0)) dX10_least_17 xc0 ?_
    refine xr_iast (k := p) dX10_least_18 sh191 (by decide) (by omega) (by decide) ?_
    refine xe_iload_n 1 dX10_least_19 rfl rfl ?_
    refine xe_aload_n 0 dX10_least_20 rfl rfl ?_
    refine xr_getR (b := 176) dX10_least_21 fX10_19 rfl sh172 (by decide) rfl ?_
    refine xe_iload_n 2 dX10_least_24 rfl rfl ?_
    refine xr_iald (k := p) (v := u.1 176 p) dX10_least_25 sh176 (by decide) (by omega) (by decide) ((wi_ne (by omega))) ?_
    refine xe_if_ne 41 dX10_least_26 (by decide) (fun c2 => ?_) (fun c2 => ?_)
    · refine xe_iconst (v := nI (1)) dX10_least_41 xc1 ?_
      refine xn_imul dX10_least_42 ?_
      refine xe_istore_n (L2 := [(0, .ref 172), (1, .int (nI (w * 1))), (2, .int (nI (p)))]) dX10_least_43 rfl (by decide) rfl ?_
      refine xn_iinc (c := 1) (L2 := [(0, .ref 172), (1, .int (nI (w * 1))), (2, .int (nI (p + 1)))]) 2 dX10_least_44 rfl (by decide) rfl ?_
      refine xe_goto 4 dX10_least_47 (by decide) ?_
      exact k2 c1 c2
    · refine xe_aload_n 0 dX10_least_29 rfl rfl ?_
      refine xe_iload_n 2 dX10_least_30 rfl rfl ?_
      refine xE.sub [0, 2] rfl ?_
      refine xe_callV (As := [.int (nI (p))]) (rest := [.int (nI (w))]) dX10_least_31 wX10_isNamed lX10_138 iX10_isNamed sX10_isNamed ⟨by decide, by decide⟩ sh172 rfl (xin_mm (by decide)) rfl rfl (by simp [Value.category]) ?_
      exact k3 c1 c2

theorem gX10_least_57 (u : xU) (nn n : Nat) (w v : Nat) (x : Int64) {Q : Option Value → xM → Prop} (hnn : nn ≤ 6) (hn : n ≤ 10) (hn0 : 1 ≤ n) (hw : w ≤ 243) (hv : v ≤ w) (v1 : u.1 172 3 = nI (nn)) (v2 : u.1 172 4 = nI (n))
    (k1 : w ≤ v → Q (some (.long (x))) (xmm u))
    (k2 : ¬ w ≤ v → xE mX10_least 75 [(0, .ref 172), (1, .int (nI (w))), (2, .long (x)), (4, .int (nI (v))), (5, .int (nI (v))), (6, .int (nI (n - 1)))] [] (xmm u) Q) : xE mX10_least 57 [(0, .ref 172), (1, .int (nI (w))), (2, .long (x)), (4, .int (nI (v)))] [] (xmm u) Q := by
  refine xe_iload 3 dX10_least_57 rfl ?_
  refine xe_iload_n 1 dX10_least_59 rfl rfl ?_
  refine xn_icmp_ge 200 dX10_least_60 (by decide) (by omega) (by omega) (fun c1 => ?_) (fun c1 => ?_)
  · refine xe_lload_n 2 dX10_least_200 rfl rfl ?_
    exact xe_ret (r := (some (.long (x)))) dX10_least_201 trivial (k1 c1)
  · refine xe_iload 3 dX10_least_63 rfl ?_
    refine xe_istore (L2 := [(0, .ref 172), (1, .int (nI (w))), (2, .long (x)), (4, .int (nI (v))), (5, .int (nI (v)))]) dX10_least_65 (by decide) rfl ?_
    refine xe_aload_n 0 dX10_least_67 rfl rfl ?_
    refine xr_getI (v := nI (n)) dX10_least_68 fX10_92 sh172 (by decide) v2 ?_
    refine xe_iconst (v := nI (1)) dX10_least_71 xc1 ?_
    refine xn_isub dX10_least_72 (by omega) ?_
    refine xe_istore (L2 := [(0, .ref 172), (1, .int (nI (w))), (2, .long (x)), (4, .int (nI (v))), (5, .int (nI (v))), (6, .int (nI (n - 1)))]) dX10_least_73 (by decide) rfl ?_
    exact k2 c1

theorem gX10_least_75 (u : xU) (nn n : Nat) (w v r0 p kd : Nat) (x : Int64) (en : Bool) {Q : Option Value → xM → Prop} (hnn : nn ≤ 6) (hn : n ≤ 10) (hr : r0 ≤ 243) (hp1 : 1 ≤ p) (hp : p < n) (hkd : kd ≤ 3) (hin : xC mX10_isNamed [.ref 172, .int (nI p)] (xmm u) (fun r μ' => r = some (.int (xb (en = true))) ∧ μ' = xmm u)) (v1 : u.1 172 3 = nI (nn)) (v2 : u.1 172 4 = nI (n)) (v3 : u.1 176 p = nI (kd))
    (k1 : ¬ kd = 0 → xE mX10_least 75 [(0, .ref 172), (1, .int (nI (w))), (2, .long (x)), (4, .int (nI (v))), (5, .int (nI (r0))), (6, .int (nI (p - 1)))] [] (xmm u) Q)
    (k2 : kd = 0 → en = true → xE mX10_least 75 [(0, .ref 172), (1, .int (nI (w))), (2, .long (x)), (4, .int (nI (v))), (5, .int (nI (r0 / 3))), (6, .int (nI (p - 1)))] [] (xmm (wi u 191 p (nI (r0 % 3)))) Q)
    (k3 : kd = 0 → ¬ (en = true) → xE mX10_least 75 [(0, .ref 172), (1, .int (nI (w))), (2, .long (x)), (4, .int (nI (v))), (5, .int (nI (r0))), (6, .int (nI (p - 1)))] [] (xmm u) Q) : xE mX10_least 75 [(0, .ref 172), (1, .int (nI (w))), (2, .long (x)), (4, .int (nI (v))), (5, .int (nI (r0))), (6, .int (nI (p)))] [] (xmm u) Q := by
  refine xe_iload 5 dX10_least_75 rfl ?_
  refine xn_if_lt 125 dX10_least_77 (by decide) (by omega) (fun q => absurd q (by omega)) (fun _ => ?_)
  refine xe_aload_n 0 dX10_least_80 rfl rfl ?_
  refine xr_getR (b := 176) dX10_least_81 fX10_19 rfl sh172 (by decide) rfl ?_
  refine xe_iload 5 dX10_least_84 rfl ?_
  refine xr_iald (k := p) (v := nI (kd)) dX10_least_86 sh176 (by decide) (by omega) (by decide) v3 ?_
  refine xn_if_ne 119 dX10_least_87 (by decide) (by omega) (fun c1 => ?_) (fun c1 => ?_)
  · refine xn_idec (L2 := [(0, .ref 172), (1, .int (nI (w))), (2, .long (x)), (4, .int (nI (v))), (5, .int (nI (r0))), (6, .int (nI (p - 1)))]) 5 dX10_least_119 rfl (by omega) (by decide) rfl ?_
    refine xe_goto 75 dX10_least_122 (by decide) ?_
    exact k1 c1
  · refine xe_aload_n 0 dX10_least_90 rfl rfl ?_
    refine xe_iload 5 dX10_least_91 rfl ?_
    refine xe_callV (As := [.int (nI (p))]) (rest := []) dX10_least_93 wX10_isNamed lX10_138 iX10_isNamed sX10_isNamed ⟨by decide, by decide⟩ sh172 rfl (xin_mm (by decide)) rfl rfl (by simp [Value.category]) (xC.pure (v := .int (xb (en = true))) (hin) ?_)
    refine xb_if_ne 102 dX10_least_96 (by decide) (fun c2 => ?_) (fun c2 => ?_)
    · refine xe_aload_n 0 dX10_least_102 rfl rfl ?_
      refine xr_getR (b := 191) dX10_least_103 fX10_72 rfl sh172 (by decide) rfl ?_
      refine xe_iload 5 dX10_least_106 rfl ?_
      refine xe_iload 4 dX10_least_108 rfl ?_
      refine xe_iconst (v := nI (3)) dX10_least_110 xc3 ?_
      refine xn_irem dX10_least_111 (by omega) (by omega) (by omega) ?_
      refine xr_iast (k := p) dX10_least_112 sh191 (by decide) (by omega) (by decide) ?_
      refine xe_iload 4 dX10_least_113 rfl ?_
      refine xe_iconst (v := nI (3)) dX10_least_115 xc3 ?_
      refine xn_idiv dX10_least_116 (by omega) (by omega) (by omega) ?_
      refine xe_istore (L2 := [(0, .ref 172), (1, .int (nI (w))), (2, .long (x)), (4, .int (nI (v))), (5, .int (nI (r0 / 3))), (6, .int (nI (p)))]) dX10_least_117 (by decide) rfl ?_
      refine xn_idec (L2 := [(0, .ref 172), (1, .int (nI (w))), (2, .long (x)), (4, .int (nI (v))), (5, .int (nI (r0 / 3))), (6, .int (nI (p - 1)))]) 5 dX10_least_119 rfl (by omega) (by decide) rfl ?_
      refine xe_goto 75 dX10_least_122 (by decide) ?_
      exact k2 c1 c2
    · refine xe_goto 119 dX10_least_99 (by decide) ?_
      refine xn_idec (L2 := [(0, .ref 172), (1, .int (nI (w))), (2, .long (x)), (4, .int (nI (v))), (5, .int (nI (r0))), (6, .int (nI (p - 1)))]) 5 dX10_least_119 rfl (by omega) (by decide) rfl ?_
      refine xe_goto 75 dX10_least_122 (by decide) ?_
      exact k3 c1 c2

theorem gX10_least_75z (u : xU) (nn n : Nat) (w v r0 kd : Nat) (x : Int64) (en : Bool) {Q : Option Value → xM → Prop} (hnn : nn ≤ 6) (hn : n ≤ 10) (hr : r0 ≤ 243) (hp : 1 ≤ n) (hkd : kd ≤ 3) (hin : xC mX10_isNamed [.ref 172, .int (nI (0))] (xmm u) (fun r μ' => r = some (.int (xb (en = true))) ∧ μ' = xmm u)) (v1 : u.1 172 3 = nI (nn)) (v2 : u.1 172 4 = nI (n)) (v3 : u.1 176 0 = nI (kd))
    (k1 : ¬ kd = 0 → xE mX10_least 75 [(0, .ref 172), (1, .int (nI (w))), (2, .long (x)), (4, .int (nI (v))), (5, .int (nI (r0))), (6, .int (0 + Int32.ofInt (-1)))] [] (xmm u) Q)
    (k2 : kd = 0 → en = true → xE mX10_least 75 [(0, .ref 172), (1, .int (nI (w))), (2, .long (x)), (4, .int (nI (v))), (5, .int (nI (r0 / 3))), (6, .int (0 + Int32.ofInt (-1)))] [] (xmm (wi u 191 0 (nI (r0 % 3)))) Q)
    (k3 : kd = 0 → ¬ (en = true) → xE mX10_least 75 [(0, .ref 172), (1, .int (nI (w))), (2, .long (x)), (4, .int (nI (v))), (5, .int (nI (r0))), (6, .int (0 + Int32.ofInt (-1)))] [] (xmm u) Q) : xE mX10_least 75 [(0, .ref 172), (1, .int (nI (w))), (2, .long (x)), (4, .int (nI (v))), (5, .int (nI (r0))), (6, .int (nI (0)))] [] (xmm u) Q := by
  refine xe_iload 5 dX10_least_75 rfl ?_
  refine xn_if_lt 125 dX10_least_77 (by decide) (by omega) (fun q => absurd q (by omega)) (fun _ => ?_)
  refine xe_aload_n 0 dX10_least_80 rfl rfl ?_
  refine xr_getR (b := 176) dX10_least_81 fX10_19 rfl sh172 (by decide) rfl ?_
  refine xe_iload 5 dX10_least_84 rfl ?_
  refine xr_iald (k := 0) (v := nI (kd)) dX10_least_86 sh176 (by decide) (by omega) (by decide) v3 ?_
  refine xn_if_ne 119 dX10_least_87 (by decide) (by omega) (fun c1 => ?_) (fun c1 => ?_)
  · refine xe_iinc (L2 := [(0, .ref 172), (1, .int (nI (w))), (2, .long (x)), (4, .int (nI (v))), (5, .int (nI (r0))), (6, .int (0 + Int32.ofInt (-1)))]) 5 dX10_least_119 rfl rfl (by decide) rfl ?_
    refine xe_goto 75 dX10_least_122 (by decide) ?_
    exact k1 c1
  · refine xe_aload_n 0 dX10_least_90 rfl rfl ?_
    refine xe_iload 5 dX10_least_91 rfl ?_
    refine xe_callV (As := [.int (nI (0))]) (rest := []) dX10_least_93 wX10_isNamed lX10_138 iX10_isNamed sX10_isNamed ⟨by decide, by decide⟩ sh172 rfl (xin_mm (by decide)) rfl rfl (by simp [Value.category]) (xC.pure (v := .int (xb (en = true))) (hin) ?_)
    refine xb_if_ne 102 dX10_least_96 (by decide) (fun c2 => ?_) (fun c2 => ?_)
    · refine xe_aload_n 0 dX10_least_102 rfl rfl ?_
      refine xr_getR (b := 191) dX10_least_103 fX10_72 rfl sh172 (by decide) rfl ?_
      refine xe_iload 5 dX10_least_106 rfl ?_
      refine xe_iload 4 dX10_least_108 rfl ?_
      refine xe_iconst (v := nI (3)) dX10_least_110 xc3 ?_
      refine xn_irem dX10_least_111 (by omega) (by omega) (by omega) ?_
      refine xr_iast (k := 0) dX10_least_112 sh191 (by decide) (by omega) (by decide) ?_
      refine xe_iload 4 dX10_least_113 rfl ?_
      refine xe_iconst (v := nI (3)) dX10_least_115 xc3 ?_
      refine xn_idiv dX10_least_116 (by omega) (by omega) (by omega) ?_
      refine xe_istore (L2 := [(0, .ref 172), (1, .int (nI (w))), (2, .long (x)), (4, .int (nI (v))), (5, .int (nI (r0 / 3))), (6, .int (nI (0)))]) dX10_least_117 (by decide) rfl ?_
      refine xe_iinc (L2 := [(0, .ref 172), (1, .int (nI (w))), (2, .long (x)), (4, .int (nI (v))), (5, .int (nI (r0 / 3))), (6, .int (0 + Int32.ofInt (-1)))]) 5 dX10_least_119 rfl rfl (by decide) rfl ?_
      refine xe_goto 75 dX10_least_122 (by decide) ?_
      exact k2 c1 c2
    · refine xe_goto 119 dX10_least_99 (by decide) ?_
      refine xe_iinc (L2 := [(0, .ref 172), (1, .int (nI (w))), (2, .long (x)), (4, .int (nI (v))), (5, .int (nI (r0))), (6, .int (0 + Int32.ofInt (-1)))]) 5 dX10_least_119 rfl rfl (by decide) rfl ?_
      refine xe_goto 75 dX10_least_122 (by decide) ?_
      exact k3 c1 c2

theorem gX10_least_75n (u : xU) (w v r0 : Nat) (i : Int32) (x : Int64) (ec : Bool) {Q : Option Value → xM → Prop} (hi : i < 0) (hr : r0 ≤ 243) (hv : v < w) (hw : w ≤ 243) (hcv : xC mX10_covers [.ref 172] (xmm u) (fun r μ' => r = some (.int (xb (ec = true))) ∧ μ' = xmm u)) 
    (k1 : i < 0 → ec = true → xC mX10_product [.ref 172] (xmm u) (fun r μ1 => xE mX10_least 139 [(0, .ref 172), (1, .int (nI (w))), (2, .long (x)), (4, .int (nI (v)))] (r.toList ++ []) μ1 Q))
    (k2 : i < 0 → ¬ (ec = true) → xE mX10_least 57 [(0, .ref 172), (1, .int (nI (w))), (2, .long (x)), (4, .int (nI (v + 1)))] [] (xmm u) Q)
    (k3 : ¬ i < 0 → False) : xE mX10_least 75 [(0, .ref 172), (1, .int (nI (w))), (2, .long (x)), (4, .int (nI (v))), (5, .int (nI (r0))), (6, .int (i))] [] (xmm u) Q := by
  refine xe_iload 5 dX10_least_75 rfl ?_
  refine xe_if_lt 125 dX10_least_77 (by decide) (fun c1 => ?_) (fun c1 => ?_)
  · refine xe_aload_n 0 dX10_least_125 rfl rfl ?_
    refine xe_callV (As := []) (rest := []) dX10_least_126 wX10_covers lX10_203 iX10_covers sX10_covers ⟨by decide, by decide⟩ sh172 rfl (xin_mm (by decide)) rfl rfl (by simp [Value.category]) (xC.pure (v := .int (xb (ec = true))) (hcv) ?_)
    refine xb_if_ne 135 dX10_least_129 (by decide) (fun c2 => ?_) (fun c2 => ?_)
    · refine xe_aload_n 0 dX10_least_135 rfl rfl ?_
      refine xE.sub [0, 1, 2, 3] rfl ?_
      refine xe_callV (As := []) (rest := []) dX10_least_136 wX10_product lX10_206 iX10_product sX10_product ⟨by decide, by decide⟩ sh172 rfl (xin_mm (by decide)) rfl rfl (by simp [Value.category]) ?_
      exact k1 c1 c2
    · refine xe_goto 194 dX10_least_132 (by decide) ?_
      refine xn_iinc (c := 1) (L2 := [(0, .ref 172), (1, .int (nI (w))), (2, .long (x)), (4, .int (nI (v + 1))), (5, .int (nI (r0))), (6, .int (i))]) 3 dX10_least_194 rfl (by decide) rfl ?_
      refine xe_goto 57 dX10_least_197 (by decide) ?_
      refine xE.sub [0, 1, 2, 3] rfl ?_
      exact k2 c1 c2
  · refine xe_aload_n 0 dX10_least_80 rfl rfl ?_
    refine xr_getR (b := 176) dX10_least_81 fX10_19 rfl sh172 (by decide) rfl ?_
    refine xe_iload 5 dX10_least_84 rfl ?_
    exact (k3 c1).elim

theorem gX10_least_139 (u : xU) (w v : Nat) (x y : Int64) {Q : Option Value → xM → Prop} (hv : v < w) (hw : w ≤ 243) 
    (k1 : (lg_cmp x ((-1))) = 0 → xE mX10_least 165 [(0, .ref 172), (1, .int (nI (w))), (2, .long (y)), (4, .int (nI (v))), (8, .int (nI (0)))] [] (xmm u) Q)
    (k2 : ¬ (lg_cmp x ((-1))) = 0 → (lg_cmp y x) < 0 → xE mX10_least 165 [(0, .ref 172), (1, .int (nI (w))), (2, .long (y)), (4, .int (nI (v))), (8, .int (nI (0)))] [] (xmm u) Q)
    (k3 : ¬ (lg_cmp x ((-1))) = 0 → ¬ (lg_cmp y x) < 0 → xE mX10_least 57 [(0, .ref 172), (1, .int (nI (w))), (2, .long (x)), (4, .int (nI (v + 1)))] [] (xmm u) Q) : xE mX10_least 139 [(0, .ref 172), (1, .int (nI (w))), (2, .long (x)), (4, .int (nI (v)))] [.long (y)] (xmm u) Q := by
  refine xe_lstore (L2 := [(0, .ref 172), (1, .int (nI (w))), (2, .long (x)), (4, .int (nI (v))), (6, .long (y))]) dX10_least_139 (by decide) rfl ?_
  refine xe_lload_n 2 dX10_least_141 rfl rfl ?_
  refine xe_ldc2 dX10_least_142 kX10_201 ?_
  refine xe_lcmp dX10_least_145 ?_
  refine xe_if_eq 159 dX10_least_146 (by decide) (fun c1 => ?_) (fun c1 => ?_)
  · refine xe_lload 4 dX10_least_159 rfl ?_
    refine xe_lstore_n (L2 := [(0, .ref 172), (1, .int (nI (w))), (2, .long (y)), (4, .int (nI (v))), (6, .long (y))]) dX10_least_161 rfl (by decide) rfl ?_
    refine xe_iconst (v := nI (0)) dX10_least_162 xc0 ?_
    refine xe_istore (L2 := [(0, .ref 172), (1, .int (nI (w))), (2, .long (y)), (4, .int (nI (v))), (6, .long (y)), (8, .int (nI (0)))]) dX10_least_163 (by decide) rfl ?_
    refine xE.sub [0, 1, 2, 3, 5] rfl ?_
    exact k1 c1
  · refine xe_lload 4 dX10_least_149 rfl ?_
    refine xe_lload_n 2 dX10_least_151 rfl rfl ?_
    refine xe_lcmp dX10_least_152 ?_
    refine xe_if_lt 159 dX10_least_153 (by decide) (fun c2 => ?_) (fun c2 => ?_)
    · refine xe_lload 4 dX10_least_159 rfl ?_
      refine xe_lstore_n (L2 := [(0, .ref 172), (1, .int (nI (w))), (2, .long (y)), (4, .int (nI (v))), (6, .long (y))]) dX10_least_161 rfl (by decide) rfl ?_
      refine xe_iconst (v := nI (0)) dX10_least_162 xc0 ?_
      refine xe_istore (L2 := [(0, .ref 172), (1, .int (nI (w))), (2, .long (y)), (4, .int (nI (v))), (6, .long (y)), (8, .int (nI (0)))]) dX10_least_163 (by decide) rfl ?_
      refine xE.sub [0, 1, 2, 3, 5] rfl ?_
      exact k2 c1 c2
    · refine xe_goto 194 dX10_least_156 (by decide) ?_
      refine xn_iinc (c := 1) (L2 := [(0, .ref 172), (1, .int (nI (w))), (2, .long (x)), (4, .int (nI (v + 1))), (6, .long (y))]) 3 dX10_least_194 rfl (by decide) rfl ?_
      refine xe_goto 57 dX10_least_197 (by decide) ?_
      refine xE.sub [0, 1, 2, 3] rfl ?_
      exact k3 c1 c2

theorem gX10_least_165 (u : xU) (nn n : Nat) (w v p s : Nat) (x : Int64) {Q : Option Value → xM → Prop} (hnn : nn ≤ 6) (hn : n ≤ 10) (hv : v < w) (hw : w ≤ 243) (hp : p < n) (v1 : u.1 172 3 = nI (nn)) (v2 : u.1 172 4 = nI (n)) (v3 : u.1 191 p = nI (s))
    (k1 : n ≤ p → xE mX10_least 57 [(0, .ref 172), (1, .int (nI (w))), (2, .long (x)), (4, .int (nI (v + 1)))] [] (xmm u) Q)
    (k2 : ¬ n ≤ p → xE mX10_least 165 [(0, .ref 172), (1, .int (nI (w))), (2, .long (x)), (4, .int (nI (v))), (8, .int (nI (p + 1)))] [] (xmm (wi u 192 p (nI (s)))) Q) : xE mX10_least 165 [(0, .ref 172), (1, .int (nI (w))), (2, .long (x)), (4, .int (nI (v))), (8, .int (nI (p)))] [] (xmm u) Q := by
  refine xe_iload 4 dX10_least_165 rfl ?_
  refine xe_aload_n 0 dX10_least_167 rfl rfl ?_
  refine xr_getI (v := nI (n)) dX10_least_168 fX10_92 sh172 (by decide) v2 ?_
  refine xn_icmp_ge 194 dX10_least_171 (by decide) (by omega) (by omega) (fun c1 => ?_) (fun c1 => ?_)
  · refine xn_iinc (c := 1) (L2 := [(0, .ref 172), (1, .int (nI (w))), (2, .long (x)), (4, .int (nI (v + 1))), (8, .int (nI (p)))]) 3 dX10_least_194 rfl (by decide) rfl ?_
    refine xe_goto 57 dX10_least_197 (by decide) ?_
    refine xE.sub [0, 1, 2, 3] rfl ?_
    exact k1 c1
  · refine xe_aload_n 0 dX10_least_174 rfl rfl ?_
    refine xr_getR (b := 192) dX10_least_175 fX10_75 rfl sh172 (by decide) rfl ?_
    refine xe_iload 4 dX10_least_178 rfl ?_
    refine xe_aload_n 0 dX10_least_180 rfl rfl ?_
    refine xr_getR (b := 191) dX10_least_181 fX10_72 rfl sh172 (by decide) rfl ?_
    refine xe_iload 4 dX10_least_184 rfl ?_
    refine xr_iald (k := p) (v := nI (s)) dX10_least_186 sh191 (by decide) (by omega) (by decide) v3 ?_
    refine xr_iast (k := p) dX10_least_187 sh192 (by decide) (by omega) (by decide) ?_
    refine xn_iinc (c := 1) (L2 := [(0, .ref 172), (1, .int (nI (w))), (2, .long (x)), (4, .int (nI (v))), (8, .int (nI (p + 1)))]) 4 dX10_least_188 rfl (by decide) rfl ?_
    refine xe_goto 165 dX10_least_191 (by decide) ?_
    exact k2 c1

theorem gX10_least_165e (u : xU) (nn n : Nat) (w v p : Nat) (x : Int64) {Q : Option Value → xM → Prop} (hnn : nn ≤ 6) (hn : n ≤ 10) (hv : v < w) (hw : w ≤ 243) (hp : p = n) (v1 : u.1 172 3 = nI (nn)) (v2 : u.1 172 4 = nI (n))
    (k1 : n ≤ p → xE mX10_least 57 [(0, .ref 172), (1, .int (nI (w))), (2, .long (x)), (4, .int (nI (v + 1)))] [] (xmm u) Q)
    (k2 : ¬ n ≤ p → xE mX10_least 165 [(0, .ref 172), (1, .int (nI (w))), (2, .long (x)), (4, .int (nI (v))), (8, .int (nI (p + 1)))] [] (xmm (wi u 192 p (u.1 191 p))) Q) : xE mX10_least 165 [(0, .ref 172), (1, .int (nI (w))), (2, .long (x)), (4, .int (nI (v))), (8, .int (nI (p)))] [] (xmm u) Q := by
  refine xe_iload 4 dX10_least_165 rfl ?_
  refine xe_aload_n 0 dX10_least_167 rfl rfl ?_
  refine xr_getI (v := nI (n)) dX10_least_168 fX10_92 sh172 (by decide) v2 ?_
  refine xn_icmp_ge 194 dX10_least_171 (by decide) (by omega) (by omega) (fun c1 => ?_) (fun c1 => ?_)
  · refine xn_iinc (c := 1) (L2 := [(0, .ref 172), (1, .int (nI (w))), (2, .long (x)), (4, .int (nI (v + 1))), (8, .int (nI (p)))]) 3 dX10_least_194 rfl (by decide) rfl ?_
    refine xe_goto 57 dX10_least_197 (by decide) ?_
    refine xE.sub [0, 1, 2, 3] rfl ?_
    exact k1 c1
  · refine xe_aload_n 0 dX10_least_174 rfl rfl ?_
    refine xr_getR (b := 192) dX10_least_175 fX10_75 rfl sh172 (by decide) rfl ?_
    refine xe_iload 4 dX10_least_178 rfl ?_
    refine xe_aload_n 0 dX10_least_180 rfl rfl ?_
    refine xr_getR (b := 191) dX10_least_181 fX10_72 rfl sh172 (by decide) rfl ?_
    refine xe_iload 4 dX10_least_184 rfl ?_
    refine xr_iald (k := p) (v := u.1 191 p) dX10_least_186 sh191 (by decide) (by omega) (by decide) rfl ?_
    refine xr_iast (k := p) dX10_least_187 sh192 (by decide) (by omega) (by decide) ?_
    refine xn_iinc (c := 1) (L2 := [(0, .ref 172), (1, .int (nI (w))), (2, .long (x)), (4, .int (nI (v))), (8, .int (nI (p + 1)))]) 4 dX10_least_188 rfl (by decide) rfl ?_
    refine xe_goto 165 dX10_least_191 (by decide) ?_
    exact k2 c1

theorem gX10_covers_0 (u : xU) {Q : Option Value → xM → Prop}  
    (k1 : xE mX10_covers 2 [(0, .ref 172), (1, .int (nI (0)))] [] (xmm u) Q) : xE mX10_covers 0 [(0, .ref 172)] [] (xmm u) Q := by
  refine xe_iconst (v := nI (0)) dX10_covers_0 xc0 ?_
  refine xe_istore_n (L2 := [(0, .ref 172), (1, .int (nI (0)))]) dX10_covers_1 rfl (by decide) rfl ?_
  exact k1

theorem gX10_covers_2 (u : xU) (nn n : Nat) (k : Nat) {Q : Option Value → xM → Prop} (hnn : nn ≤ 6) (hn : n ≤ 10) (hk : k ≤ nn) (v1 : u.1 172 3 = nI (nn)) (v2 : u.1 172 4 = nI (n))
    (k1 : nn ≤ k → Q (some (.int (nI (1)))) (xmm u))
    (k2 : ¬ nn ≤ k → xE mX10_covers 14 [(0, .ref 172), (1, .int (nI (k))), (2, .int (nI (0))), (3, .int (nI (0)))] [] (xmm u) Q) : xE mX10_covers 2 [(0, .ref 172), (1, .int (nI (k)))] [] (xmm u) Q := by
  refine xe_iload_n 1 dX10_covers_2 rfl rfl ?_
  refine xe_aload_n 0 dX10_covers_3 rfl rfl ?_
  refine xr_getI (v := nI (nn)) dX10_covers_4 fX10_119 sh172 (by decide) v1 ?_
  refine xn_icmp_ge 72 dX10_covers_7 (by decide) (by omega) (by omega) (fun c1 => ?_) (fun c1 => ?_)
  · refine xe_iconst (v := nI (1)) dX10_covers_72 xc1 ?_
    exact xe_ret (r := (some (.int (nI (1))))) dX10_covers_73 (Or.inr rfl) (k1 c1)
  · refine xe_iconst (v := nI (0)) dX10_covers_10 xc0 ?_
    refine xe_istore_n (L2 := [(0, .ref 172), (1, .int (nI (k))), (2, .int (nI (0)))]) dX10_covers_11 rfl (by decide) rfl ?_
    refine xe_iconst (v := nI (0)) dX10_covers_12 xc0 ?_
    refine xe_istore_n (L2 := [(0, .ref 172), (1, .int (nI (k))), (2, .int (nI (0))), (3, .int (nI (0)))]) dX10_covers_13 rfl (by decide) rfl ?_
    exact k2 c1

theorem gX10_covers_14 (u : xU) (nn n : Nat) (k f p kd s : Nat) (eh : Bool) {Q : Option Value → xM → Prop} (hnn : nn ≤ 6) (hn : n ≤ 10) (hk : k < nn) (hf : f ≤ 20) (hp : p < n) (hkd : kd ≤ 3) (hs : s ≤ 2) (hhn : xC mX10_hasName [.ref 172, .int (nI p), .int (nI k)] (xmm u) (fun r μ' => r = some (.int (xb (eh = true))) ∧ μ' = xmm u)) (v1 : u.1 172 3 = nI (nn)) (v2 : u.1 172 4 = nI (n)) (v3 : u.1 176 p = nI (kd)) (v4 : u.1 191 p = nI (s))
    (k1 : n ≤ p → 2 ≤ f → xE mX10_covers 2 [(0, .ref 172), (1, .int (nI (k + 1)))] [] (xmm u) Q)
    (k2 : n ≤ p → ¬ 2 ≤ f → Q (some (.int (nI (0)))) (xmm u))
    (k3 : ¬ n ≤ p → ¬ kd = 0 → xE mX10_covers 14 [(0, .ref 172), (1, .int (nI (k))), (2, .int (nI (f + 0))), (3, .int (nI (p + 1)))] [] (xmm u) Q)
    (k4 : ¬ n ≤ p → kd = 0 → ¬ (eh = true) → xE mX10_covers 14 [(0, .ref 172), (1, .int (nI (k))), (2, .int (nI (f + 0))), (3, .int (nI (p + 1)))] [] (xmm u) Q)
    (k5 : ¬ n ≤ p → kd = 0 → eh = true → xE mX10_covers 14 [(0, .ref 172), (1, .int (nI (k))), (2, .int (nI (f + s))), (3, .int (nI (p + 1)))] [] (xmm u) Q) : xE mX10_covers 14 [(0, .ref 172), (1, .int (nI (k))), (2, .int (nI (f))), (3, .int (nI (p)))] [] (xmm u) Q := by
  refine xe_iload_n 3 dX10_covers_14 rfl rfl ?_
  refine xe_aload_n 0 dX10_covers_15 rfl rfl ?_
  refine xr_getI (v := nI (n)) dX10_covers_16 fX10_92 sh172 (by decide) v2 ?_
  refine xn_icmp_ge 59 dX10_covers_19 (by decide) (by omega) (by omega) (fun c1 => ?_) (fun c1 => ?_)
  · refine xe_iload_n 2 dX10_covers_59 rfl rfl ?_
    refine xe_iconst (v := nI (2)) dX10_covers_60 xc2 ?_
    refine xn_icmp_ge 66 dX10_covers_61 (by decide) (by omega) (by omega) (fun c2 => ?_) (fun c2 => ?_)
    · refine xn_iinc (c := 1) (L2 := [(0, .ref 172), (1, .int (nI (k + 1))), (2, .int (nI (f))), (3, .int (nI (p)))]) 1 dX10_covers_66 rfl (by decide) rfl ?_
      refine xe_goto 2 dX10_covers_69 (by decide) ?_
      refine xE.sub [0, 1] rfl ?_
      exact k1 c1 c2
    · refine xe_iconst (v := nI (0)) dX10_covers_64 xc0 ?_
      exact xe_ret (r := (some (.int (nI (0))))) dX10_covers_65 (Or.inl rfl) (k2 c1 c2)
  · refine xe_iload_n 2 dX10_covers_22 rfl rfl ?_
    refine xe_aload_n 0 dX10_covers_23 rfl rfl ?_
    refine xr_getR (b := 176) dX10_covers_24 fX10_19 rfl sh172 (by decide) rfl ?_
    refine xe_iload_n 3 dX10_covers_27 rfl rfl ?_
    refine xr_iald (k := p) (v := nI (kd)) dX10_covers_28 sh176 (by decide) (by omega) (by decide) v3 ?_
    refine xn_if_ne 50 dX10_covers_29 (by decide) (by omega) (fun c3 => ?_) (fun c3 => ?_)
    · refine xe_iconst (v := nI (0)) dX10_covers_50 xc0 ?_
      refine xn_iadd dX10_covers_51 ?_
      refine xe_istore_n (L2 := [(0, .ref 172), (1, .int (nI (k))), (2, .int (nI (f + 0))), (3, .int (nI (p)))]) dX10_covers_52 rfl (by decide) rfl ?_
      refine xn_iinc (c := 1) (L2 := [(0, .ref 172), (1, .int (nI (k))), (2, .int (nI (f + 0))), (3, .int (nI (p + 1)))]) 3 dX10_covers_53 rfl (by decide) rfl ?_
      refine xe_goto 14 dX10_covers_56 (by decide) ?_
      exact k3 c1 c3
    · refine xe_aload_n 0 dX10_covers_32 rfl rfl ?_
      refine xe_iload_n 3 dX10_covers_33 rfl rfl ?_
      refine xe_iload_n 1 dX10_covers_34 rfl rfl ?_
      refine xe_callV (As := [.int (nI (p)), .int (nI (k))]) (rest := [.int (nI (f))]) dX10_covers_35 wX10_hasName lX10_125 iX10_hasName sX10_hasName ⟨by decide, by decide⟩ sh172 rfl (xin_mm (by decide)) rfl rfl (by simp [Value.category]) (xC.pure (v := .int (xb (eh = true))) (hhn) ?_)
      refine xb_if_eq 50 dX10_covers_38 (by decide) (fun c4 => ?_) (fun c4 => ?_)
      · refine xe_iconst (v := nI (0)) dX10_covers_50 xc0 ?_
        refine xn_iadd dX10_covers_51 ?_
        refine xe_istore_n (L2 := [(0, .ref 172), (1, .int (nI (k))), (2, .int (nI (f + 0))), (3, .int (nI (p)))]) dX10_covers_52 rfl (by decide) rfl ?_
        refine xn_iinc (c := 1) (L2 := [(0, .ref 172), (1, .int (nI (k))), (2, .int (nI (f + 0))), (3, .int (nI (p + 1)))]) 3 dX10_covers_53 rfl (by decide) rfl ?_
        refine xe_goto 14 dX10_covers_56 (by decide) ?_
        exact k4 c1 c3 c4
      · refine xe_aload_n 0 dX10_covers_41 rfl rfl ?_
        refine xr_getR (b := 191) dX10_covers_42 fX10_72 rfl sh172 (by decide) rfl ?_
        refine xe_iload_n 3 dX10_covers_45 rfl rfl ?_
        refine xr_iald (k := p) (v := nI (s)) dX10_covers_46 sh191 (by decide) (by omega) (by decide) v4 ?_
        refine xe_goto 51 dX10_covers_47 (by decide) ?_
        refine xn_iadd dX10_covers_51 ?_
        refine xe_istore_n (L2 := [(0, .ref 172), (1, .int (nI (k))), (2, .int (nI (f + s))), (3, .int (nI (p)))]) dX10_covers_52 rfl (by decide) rfl ?_
        refine xn_iinc (c := 1) (L2 := [(0, .ref 172), (1, .int (nI (k))), (2, .int (nI (f + s))), (3, .int (nI (p + 1)))]) 3 dX10_covers_53 rfl (by decide) rfl ?_
        refine xe_goto 14 dX10_covers_56 (by decide) ?_
        exact k5 c1 c3 c4

theorem gX10_covers_e (u : xU) (nn n : Nat) (k f p : Nat) {Q : Option Value → xM → Prop} (hnn : nn ≤ 6) (hn : n ≤ 10) (hk : k < nn) (hf : f ≤ 20) (hp : p = n) (v1 : u.1 172 3 = nI (nn)) (v2 : u.1 172 4 = nI (n))
    (k1 : n ≤ p → 2 ≤ f → xE mX10_covers 2 [(0, .ref 172), (1, .int (nI (k + 1)))] [] (xmm u) Q)
    (k2 : n ≤ p → ¬ 2 ≤ f → Q (some (.int (nI (0)))) (xmm u))
    (k3 : ¬ n ≤ p → ¬ (u.1 176 p) = 0 → xE mX10_covers 14 [(0, .ref 172), (1, .int (nI (k))), (2, .int (nI (f + 0))), (3, .int (nI (p + 1)))] [] (xmm u) Q)
    (k4 : ¬ n ≤ p → (u.1 176 p) = 0 → xC mX10_hasName [.ref 172, .int (nI (p)), .int (nI (k))] (xmm u) (fun r μ1 => xE mX10_covers 38 [(0, .ref 172), (1, .int (nI (k))), (3, .int (nI (p)))] (r.toList ++ [.int (nI (f))]) μ1 Q)) : xE mX10_covers 14 [(0, .ref 172), (1, .int (nI (k))), (2, .int (nI (f))), (3, .int (nI (p)))] [] (xmm u) Q := by
  refine xe_iload_n 3 dX10_covers_14 rfl rfl ?_
  refine xe_aload_n 0 dX10_covers_15 rfl rfl ?_
  refine xr_getI (v := nI (n)) dX10_covers_16 fX10_92 sh172 (by decide) v2 ?_
  refine xn_icmp_ge 59 dX10_covers_19 (by decide) (by omega) (by omega) (fun c1 => ?_) (fun c1 => ?_)
  · refine xe_iload_n 2 dX10_covers_59 rfl rfl ?_
    refine xe_iconst (v := nI (2)) dX10_covers_60 xc2 ?_
    refine xn_icmp_ge 66 dX10_covers_61 (by decide) (by omega) (by omega) (fun c2 => ?_) (fun c2 => ?_)
    · refine xn_iinc (c := 1) (L2 := [(0, .ref 172), (1, .int (nI (k + 1))), (2, .int (nI (f))), (3, .int (nI (p)))]) 1 dX10_covers_66 rfl (by decide) rfl ?_
      refine xe_goto 2 dX10_covers_69 (by decide) ?_
      refine xE.sub [0, 1] rfl ?_
      exact k1 c1 c2
    · refine xe_iconst (v := nI (0)) dX10_covers_64 xc0 ?_
      exact xe_ret (r := (some (.int (nI (0))))) dX10_covers_65 (Or.inl rfl) (k2 c1 c2)
  · refine xe_iload_n 2 dX10_covers_22 rfl rfl ?_
    refine xe_aload_n 0 dX10_covers_23 rfl rfl ?_
    refine xr_getR (b := 176) dX10_covers_24 fX10_19 rfl sh172 (by decide) rfl ?_
    refine xe_iload_n 3 dX10_covers_27 rfl rfl ?_
    refine xr_iald (k := p) (v := u.1 176 p) dX10_covers_28 sh176 (by decide) (by omega) (by decide) rfl ?_
    refine xe_if_ne 50 dX10_covers_29 (by decide) (fun c3 => ?_) (fun c3 => ?_)
    · refine xe_iconst (v := nI (0)) dX10_covers_50 xc0 ?_
      refine xn_iadd dX10_covers_51 ?_
      refine xe_istore_n (L2 := [(0, .ref 172), (1, .int (nI (k))), (2, .int (nI (f + 0))), (3, .int (nI (p)))]) dX10_covers_52 rfl (by decide) rfl ?_
      refine xn_iinc (c := 1) (L2 := [(0, .ref 172), (1, .int (nI (k))), (2, .int (nI (f + 0))), (3, .int (nI (p + 1)))]) 3 dX10_covers_53 rfl (by decide) rfl ?_
      refine xe_goto 14 dX10_covers_56 (by decide) ?_
      exact k3 c1 c3
    · refine xe_aload_n 0 dX10_covers_32 rfl rfl ?_
      refine xe_iload_n 3 dX10_covers_33 rfl rfl ?_
      refine xe_iload_n 1 dX10_covers_34 rfl rfl ?_
      refine xE.sub [0, 1, 3] rfl ?_
      refine xe_callV (As := [.int (nI (p)), .int (nI (k))]) (rest := [.int (nI (f))]) dX10_covers_35 wX10_hasName lX10_125 iX10_hasName sX10_hasName ⟨by decide, by decide⟩ sh172 rfl (xin_mm (by decide)) rfl rfl (by simp [Value.category]) ?_
      exact k4 c1 c3

theorem gX10_product_0 (u : xU) {Q : Option Value → xM → Prop}  
    (k1 : xE mX10_product 4 [(0, .ref 172), (1, .long (1)), (3, .int (nI (0)))] [] (xmm u) Q) : xE mX10_product 0 [(0, .ref 172)] [] (xmm u) Q := by
  refine xe_lconst (v := 1) dX10_product_0 (by decide) ?_
  refine xe_lstore_n (L2 := [(0, .ref 172), (1, .long (1))]) dX10_product_1 rfl (by decide) rfl ?_
  refine xe_iconst (v := nI (0)) dX10_product_2 xc0 ?_
  refine xe_istore_n (L2 := [(0, .ref 172), (1, .long (1)), (3, .int (nI (0)))]) dX10_product_3 rfl (by decide) rfl ?_
  exact k1

theorem gX10_product_4 (u : xU) (nn n : Nat) (p : Nat) (x : Int64) {Q : Option Value → xM → Prop} (hnn : nn ≤ 6) (hn : n ≤ 10) (hp : p ≤ n) (v1 : u.1 172 3 = nI (nn)) (v2 : u.1 172 4 = nI (n))
    (k1 : n ≤ p → Q (some (.long (x))) (xmm u))
    (k2 : ¬ n ≤ p → xE mX10_product 15 [(0, .ref 172), (1, .long (x)), (3, .int (nI (p))), (4, .int (nI (0)))] [] (xmm u) Q) : xE mX10_product 4 [(0, .ref 172), (1, .long (x)), (3, .int (nI (p)))] [] (xmm u) Q := by
  refine xe_iload_n 2 dX10_product_4 rfl rfl ?_
  refine xe_aload_n 0 dX10_product_5 rfl rfl ?_
  refine xr_getI (v := nI (n)) dX10_product_6 fX10_92 sh172 (by decide) v2 ?_
  refine xn_icmp_ge 53 dX10_product_9 (by decide) (by omega) (by omega) (fun c1 => ?_) (fun c1 => ?_)
  · refine xe_lload_n 1 dX10_product_53 rfl rfl ?_
    exact xe_ret (r := (some (.long (x)))) dX10_product_54 trivial (k1 c1)
  · refine xe_iconst (v := nI (0)) dX10_product_12 xc0 ?_
    refine xe_istore (L2 := [(0, .ref 172), (1, .long (x)), (3, .int (nI (p))), (4, .int (nI (0)))]) dX10_product_13 (by decide) rfl ?_
    exact k2 c1

theorem gX10_product_15 (u : xU) (nn n : Nat) (p j s t z : Nat) (x : Int64) {Q : Option Value → xM → Prop} (hnn : nn ≤ 6) (hn : n ≤ 10) (hp : p < n) (hs : s ≤ 2) (hj : j ≤ s) (ht : t < 8) (v1 : u.1 191 p = nI (s)) (v2 : u.1 177 p = nI (t)) (v3 : u.1 174 t = nI (z))
    (k1 : s ≤ j → xE mX10_product 4 [(0, .ref 172), (1, .long (x)), (3, .int (nI (p + 1)))] [] (xmm u) Q)
    (k2 : ¬ s ≤ j → xE mX10_product 15 [(0, .ref 172), (1, .long (x * ((nI (z)).toInt64))), (3, .int (nI (p))), (4, .int (nI (j + 1)))] [] (xmm u) Q) : xE mX10_product 15 [(0, .ref 172), (1, .long (x)), (3, .int (nI (p))), (4, .int (nI (j)))] [] (xmm u) Q := by
  refine xe_iload 3 dX10_product_15 rfl ?_
  refine xe_aload_n 0 dX10_product_17 rfl rfl ?_
  refine xr_getR (b := 191) dX10_product_18 fX10_72 rfl sh172 (by decide) rfl ?_
  refine xe_iload_n 2 dX10_product_21 rfl rfl ?_
  refine xr_iald (k := p) (v := nI (s)) dX10_product_22 sh191 (by decide) (by omega) (by decide) v1 ?_
  refine xn_icmp_ge 47 dX10_product_23 (by decide) (by omega) (by omega) (fun c1 => ?_) (fun c1 => ?_)
  · refine xn_iinc (c := 1) (L2 := [(0, .ref 172), (1, .long (x)), (3, .int (nI (p + 1))), (4, .int (nI (j)))]) 2 dX10_product_47 rfl (by decide) rfl ?_
    refine xe_goto 4 dX10_product_50 (by decide) ?_
    refine xE.sub [0, 1, 2] rfl ?_
    exact k1 c1
  · refine xe_lload_n 1 dX10_product_26 rfl rfl ?_
    refine xe_aload_n 0 dX10_product_27 rfl rfl ?_
    refine xr_getR (b := 174) dX10_product_28 fX10_13 rfl sh172 (by decide) rfl ?_
    refine xe_aload_n 0 dX10_product_31 rfl rfl ?_
    refine xr_getR (b := 177) dX10_product_32 fX10_22 rfl sh172 (by decide) rfl ?_
    refine xe_iload_n 2 dX10_product_35 rfl rfl ?_
    refine xr_iald (k := p) (v := nI (t)) dX10_product_36 sh177 (by decide) (by omega) (by decide) v2 ?_
    refine xr_iald (k := t) (v := nI (z)) dX10_product_37 sh174 (by decide) (by omega) (by decide) v3 ?_
    refine xe_i2l dX10_product_38 ?_
    refine xe_lmul dX10_product_39 ?_
    refine xe_lstore_n (L2 := [(0, .ref 172), (1, .long (x * ((nI (z)).toInt64))), (3, .int (nI (p))), (4, .int (nI (j)))]) dX10_product_40 rfl (by decide) rfl ?_
    refine xn_iinc (c := 1) (L2 := [(0, .ref 172), (1, .long (x * ((nI (z)).toInt64))), (3, .int (nI (p))), (4, .int (nI (j + 1)))]) 3 dX10_product_41 rfl (by decide) rfl ?_
    refine xe_goto 15 dX10_product_44 (by decide) ?_
    exact k2 c1

theorem gX10_product_n (u : xU) (nn n : Nat) (p : Nat) (x : Int64) {Q : Option Value → xM → Prop} (hnn : nn ≤ 6) (hn : n ≤ 10) (hp : p < n) (v1 : u.1 191 p = nI (0))
    (k1 : xE mX10_product 4 [(0, .ref 172), (1, .long (x)), (3, .int (nI (p + 1)))] [] (xmm u) Q) : xE mX10_product 15 [(0, .ref 172), (1, .long (x)), (3, .int (nI (p))), (4, .int (nI (0)))] [] (xmm u) Q := by
  refine xe_iload 3 dX10_product_15 rfl ?_
  refine xe_aload_n 0 dX10_product_17 rfl rfl ?_
  refine xr_getR (b := 191) dX10_product_18 fX10_72 rfl sh172 (by decide) rfl ?_
  refine xe_iload_n 2 dX10_product_21 rfl rfl ?_
  refine xr_iald (k := p) (v := nI (0)) dX10_product_22 sh191 (by decide) (by omega) (by decide) v1 ?_
  refine xn_icmp_ge 47 dX10_product_23 (by decide) (by omega) (by omega) (fun _ => ?_) (fun q => absurd q (by decide))
  refine xn_iinc (c := 1) (L2 := [(0, .ref 172), (1, .long (x)), (3, .int (nI (p + 1))), (4, .int (nI (0)))]) 2 dX10_product_47 rfl (by decide) rfl ?_
  refine xe_goto 4 dX10_product_50 (by decide) ?_
  refine xE.sub [0, 1, 2] rfl ?_
  exact k1

theorem gX10_bound_0 (u : xU) (es : Bool) {Q : Option Value → xM → Prop} (hho : xC mX10_holds [.ref 172] (xmm u) (fun r μ' => r = some (.int (xb (es = true))) ∧ μ' = xmm u)) 
    (k1 : ¬ (es = true) → Q (some (.long ((-1)))) (xmm u))
    (k2 : es = true → xC mX10_least [.ref 172] (xmm u) (fun r μ1 => xE mX10_bound 11 [] (r.toList ++ []) μ1 Q)) : xE mX10_bound 0 [(0, .ref 172)] [] (xmm u) Q := by
  refine xe_aload_n 0 dX10_bound_0 rfl rfl ?_
  refine xe_callV (As := []) (rest := []) dX10_bound_1 wX10_holds lX10_166 iX10_holds sX10_holds ⟨by decide, by decide⟩ sh172 rfl (xin_mm (by decide)) rfl rfl (by simp [Value.category]) (xC.pure (v := .int (xb (es = true))) (hho) ?_)
  refine xb_if_eq 14 dX10_bound_4 (by decide) (fun c1 => ?_) (fun c1 => ?_)
  · refine xe_ldc2 dX10_bound_14 kX10_201 ?_
    exact xe_ret (r := (some (.long ((-1))))) dX10_bound_17 trivial (k1 c1)
  · refine xe_aload_n 0 dX10_bound_7 rfl rfl ?_
    refine xE.sub [] rfl ?_
    refine xe_callV (As := []) (rest := []) dX10_bound_8 wX10_least lX10_210 iX10_least sX10_least ⟨by decide, by decide⟩ sh172 rfl (xin_mm (by decide)) rfl rfl (by simp [Value.category]) ?_
    exact k2 c1

theorem gX10_bound_11 (u : xU) (x : Int64) {Q : Option Value → xM → Prop}  
    (k1 : Q (some (.long (x))) (xmm u)) : xE mX10_bound 11 [] [.long (x)] (xmm u) Q := by
  refine xe_goto 17 dX10_bound_11 (by decide) ?_
  exact xe_ret (r := (some (.long (x)))) dX10_bound_17 trivial (k1)

theorem gX10_cover_0 (u : xU) (q : Int32) {Q : Option Value → xM → Prop} (hho : xC mX10_holds [.ref 172] (xmm u) (fun r μ' => r = some (.int (xb (False))) ∧ μ' = xmm u)) 
    (k1 : ¬ False → Q (some (.int (-1))) (xmm u))
    (k2 : False → ¬ (0 ≤ q ∧ q ≤ ((u.1 172 4) - 1)) → Q (some (.int (-1))) (xmm u))
    (k3 : False → 0 ≤ q ∧ q ≤ ((u.1 172 4) - 1) → False) : xE mX10_cover 0 [(0, .ref 172), (1, .int (q))] [] (xmm u) Q := by
  refine xe_aload_n 0 dX10_cover_0 rfl rfl ?_
  refine xe_callV (As := []) (rest := []) dX10_cover_1 wX10_holds lX10_166 iX10_holds sX10_holds ⟨by decide, by decide⟩ sh172 rfl (xin_mm (by decide)) rfl rfl (by simp [Value.category]) (xC.pure (v := .int (xb (False))) (hho) ?_)
  refine xb_if_eq 38 dX10_cover_4 (by decide) (fun c1 => ?_) (fun c1 => ?_)
  · refine xe_iconst (v := -1) dX10_cover_38 xcm1 ?_
    exact xe_ret (r := (some (.int (-1)))) dX10_cover_39 trivial (k1 c1)
  · refine xe_iload_n 1 dX10_cover_7 rfl rfl ?_
    refine xe_iconst (v := nI (0)) dX10_cover_8 xc0 ?_
    refine xe_aload_n 0 dX10_cover_9 rfl rfl ?_
    refine xr_getI (v := u.1 172 4) dX10_cover_10 fX10_92 sh172 (by decide) rfl ?_
    refine xe_iconst (v := nI (1)) dX10_cover_13 xc1 ?_
    refine xe_isub dX10_cover_14 ?_
    refine xe_callS (As := [.int (q), .int (nI (0)), .int ((u.1 172 4) - 1)]) (rest := []) dX10_cover_15 wX10_lies lX10_88 tX10_lies ⟨by decide, by decide⟩ rfl rfl (by simp [Value.category]) (xC.pure (v := .int (xb (0 ≤ q ∧ q ≤ ((u.1 172 4) - 1)))) (qX10_lies u q (nI (0)) ((u.1 172 4) - 1)) ?_)
    refine xb_if_eq 38 dX10_cover_18 (by decide) (fun c2 => ?_) (fun c2 => ?_)
    · refine xe_iconst (v := -1) dX10_cover_38 xcm1 ?_
      exact xe_ret (r := (some (.int (-1)))) dX10_cover_39 trivial (k2 c1 c2)
    · refine xe_aload_n 0 dX10_cover_21 rfl rfl ?_
      refine xr_getR (b := 176) dX10_cover_22 fX10_19 rfl sh172 (by decide) rfl ?_
      refine xe_iload_n 1 dX10_cover_25 rfl rfl ?_
      exact (k3 c1 c2).elim

theorem gX10_cover_I (u : xU) (nn n : Nat) (q : Int32) (es : Bool) {Q : Option Value → xM → Prop} (hnn : nn ≤ 6) (hn : n ≤ 10) (h1 : 1 ≤ n) (hho : xC mX10_holds [.ref 172] (xmm u) (fun r μ' => r = some (.int (xb (es = true))) ∧ μ' = xmm u)) (v1 : u.1 172 3 = nI (nn)) (v2 : u.1 172 4 = nI (n))
    (k1 : ¬ (es = true) → Q (some (.int (-1))) (xmm u))
    (k2 : es = true → ¬ (0 ≤ q ∧ q ≤ (nI (n - 1))) → Q (some (.int (-1))) (xmm u))
    (k3 : es = true → 0 ≤ q ∧ q ≤ (nI (n - 1)) → False) : xE mX10_cover 0 [(0, .ref 172), (1, .int (q))] [] (xmm u) Q := by
  refine xe_aload_n 0 dX10_cover_0 rfl rfl ?_
  refine xe_callV (As := []) (rest := []) dX10_cover_1 wX10_holds lX10_166 iX10_holds sX10_holds ⟨by decide, by decide⟩ sh172 rfl (xin_mm (by decide)) rfl rfl (by simp [Value.category]) (xC.pure (v := .int (xb (es = true))) (hho) ?_)
  refine xb_if_eq 38 dX10_cover_4 (by decide) (fun c1 => ?_) (fun c1 => ?_)
  · refine xe_iconst (v := -1) dX10_cover_38 xcm1 ?_
    exact xe_ret (r := (some (.int (-1)))) dX10_cover_39 trivial (k1 c1)
  · refine xe_iload_n 1 dX10_cover_7 rfl rfl ?_
    refine xe_iconst (v := nI (0)) dX10_cover_8 xc0 ?_
    refine xe_aload_n 0 dX10_cover_9 rfl rfl ?_
    refine xr_getI (v := nI (n)) dX10_cover_10 fX10_92 sh172 (by decide) v2 ?_
    refine xe_iconst (v := nI (1)) dX10_cover_13 xc1 ?_
    refine xn_isub dX10_cover_14 (by omega) ?_
    refine xe_callS (As := [.int (q), .int (nI (0)), .int (nI (n - 1))]) (rest := []) dX10_cover_15 wX10_lies lX10_88 tX10_lies ⟨by decide, by decide⟩ rfl rfl (by simp [Value.category]) (xC.pure (v := .int (xb (0 ≤ q ∧ q ≤ (nI (n - 1))))) (qX10_lies u q (nI (0)) (nI (n - 1))) ?_)
    refine xb_if_eq 38 dX10_cover_18 (by decide) (fun c2 => ?_) (fun c2 => ?_)
    · refine xe_iconst (v := -1) dX10_cover_38 xcm1 ?_
      exact xe_ret (r := (some (.int (-1)))) dX10_cover_39 trivial (k2 c1 c2)
    · refine xe_aload_n 0 dX10_cover_21 rfl rfl ?_
      refine xr_getR (b := 176) dX10_cover_22 fX10_19 rfl sh172 (by decide) rfl ?_
      refine xe_iload_n 1 dX10_cover_25 rfl rfl ?_
      exact (k3 c1 c2).elim

theorem gX10_cover_N (u : xU) (nn n : Nat) (p kd : Nat) (es en : Bool) {Q : Option Value → xM → Prop} (hnn : nn ≤ 6) (hn : n ≤ 10) (h1 : 1 ≤ n) (hkd : kd ≤ 3) (hp : p < n) (hho : xC mX10_holds [.ref 172] (xmm u) (fun r μ' => r = some (.int (xb (es = true))) ∧ μ' = xmm u)) (hin : xC mX10_isNamed [.ref 172, .int (nI p)] (xmm u) (fun r μ' => r = some (.int (xb (en = true))) ∧ μ' = xmm u)) (v1 : u.1 172 3 = nI (nn)) (v2 : u.1 172 4 = nI (n)) (v3 : u.1 176 p = nI (kd))
    (k1 : ¬ (es = true) → Q (some (.int (-1))) (xmm u))
    (k2 : es = true → ¬ (0 ≤ p ∧ p ≤ (n - 1)) → Q (some (.int (-1))) (xmm u))
    (k3 : es = true → 0 ≤ p ∧ p ≤ (n - 1) → ¬ kd = 0 → Q (some (.int (-1))) (xmm u))
    (k4 : es = true → 0 ≤ p ∧ p ≤ (n - 1) → kd = 0 → en = true → xC mX10_least [.ref 172] (xmm u) (fun r μ1 => xE mX10_cover 44 [(0, .ref 172), (1, .int (nI (p)))] (r.toList ++ []) μ1 Q))
    (k5 : es = true → 0 ≤ p ∧ p ≤ (n - 1) → kd = 0 → ¬ (en = true) → Q (some (.int (-1))) (xmm u)) : xE mX10_cover 0 [(0, .ref 172), (1, .int (nI (p)))] [] (xmm u) Q := by
  refine xe_aload_n 0 dX10_cover_0 rfl rfl ?_
  refine xe_callV (As := []) (rest := []) dX10_cover_1 wX10_holds lX10_166 iX10_holds sX10_holds ⟨by decide, by decide⟩ sh172 rfl (xin_mm (by decide)) rfl rfl (by simp [Value.category]) (xC.pure (v := .int (xb (es = true))) (hho) ?_)
  refine xb_if_eq 38 dX10_cover_4 (by decide) (fun c1 => ?_) (fun c1 => ?_)
  · refine xe_iconst (v := -1) dX10_cover_38 xcm1 ?_
    exact xe_ret (r := (some (.int (-1)))) dX10_cover_39 trivial (k1 c1)
  · refine xe_iload_n 1 dX10_cover_7 rfl rfl ?_
    refine xe_iconst (v := nI (0)) dX10_cover_8 xc0 ?_
    refine xe_aload_n 0 dX10_cover_9 rfl rfl ?_
    refine xr_getI (v := nI (n)) dX10_cover_10 fX10_92 sh172 (by decide) v2 ?_
    refine xe_iconst (v := nI (1)) dX10_cover_13 xc1 ?_
    refine xn_isub dX10_cover_14 (by omega) ?_
    refine xe_callS (As := [.int (nI (p)), .int (nI (0)), .int (nI (n - 1))]) (rest := []) dX10_cover_15 wX10_lies lX10_88 tX10_lies ⟨by decide, by decide⟩ rfl rfl (by simp [Value.category]) (xC.pure (v := .int (xb (0 ≤ p ∧ p ≤ (n - 1)))) (qX10_liesN u p 0 (n - 1) (by omega) (by omega) (by omega)) ?_)
    refine xb_if_eq 38 dX10_cover_18 (by decide) (fun c2 => ?_) (fun c2 => ?_)
    · refine xe_iconst (v := -1) dX10_cover_38 xcm1 ?_
      exact xe_ret (r := (some (.int (-1)))) dX10_cover_39 trivial (k2 c1 c2)
    · refine xe_aload_n 0 dX10_cover_21 rfl rfl ?_
      refine xr_getR (b := 176) dX10_cover_22 fX10_19 rfl sh172 (by decide) rfl ?_
      refine xe_iload_n 1 dX10_cover_25 rfl rfl ?_
      refine xr_iald (k := p) (v := nI (kd)) dX10_cover_26 sh176 (by decide) (by omega) (by decide) v3 ?_
      refine xn_if_ne 38 dX10_cover_27 (by decide) (by omega) (fun c3 => ?_) (fun c3 => ?_)
      · refine xe_iconst (v := -1) dX10_cover_38 xcm1 ?_
        exact xe_ret (r := (some (.int (-1)))) dX10_cover_39 trivial (k3 c1 c2 c3)
      · refine xe_aload_n 0 dX10_cover_30 rfl rfl ?_
        refine xe_iload_n 1 dX10_cover_31 rfl rfl ?_
        refine xe_callV (As := [.int (nI (p))]) (rest := []) dX10_cover_32 wX10_isNamed lX10_138 iX10_isNamed sX10_isNamed ⟨by decide, by decide⟩ sh172 rfl (xin_mm (by decide)) rfl rfl (by simp [Value.category]) (xC.pure (v := .int (xb (en = true))) (hin) ?_)
        refine xb_if_ne 40 dX10_cover_35 (by decide) (fun c4 => ?_) (fun c4 => ?_)
        · refine xe_aload_n 0 dX10_cover_40 rfl rfl ?_
          refine xe_callV (As := []) (rest := []) dX10_cover_41 wX10_least lX10_210 iX10_least sX10_least ⟨by decide, by decide⟩ sh172 rfl (xin_mm (by decide)) rfl rfl (by simp [Value.category]) ?_
          exact k4 c1 c2 c3 c4
        · refine xe_iconst (v := -1) dX10_cover_38 xcm1 ?_
          exact xe_ret (r := (some (.int (-1)))) dX10_cover_39 trivial (k5 c1 c2 c3 c4)

theorem gX10_cover_44 (u : xU) (p s : Nat) (x : Int64) {Q : Option Value → xM → Prop} (hp : p < 10) (v1 : u.1 192 p = nI (s))
    (k1 : Q (some (.int (nI (s)))) (xmm u)) : xE mX10_cover 44 [(0, .ref 172), (1, .int (nI (p)))] [.long (x)] (xmm u) Q := by
  refine xe_lstore_n (L2 := [(0, .ref 172), (1, .int (nI (p))), (2, .long (x))]) dX10_cover_44 rfl (by decide) rfl ?_
  refine xe_aload_n 0 dX10_cover_45 rfl rfl ?_
  refine xr_getR (b := 192) dX10_cover_46 fX10_75 rfl sh172 (by decide) rfl ?_
  refine xe_iload_n 1 dX10_cover_49 rfl rfl ?_
  refine xr_iald (k := p) (v := nI (s)) dX10_cover_50 sh192 (by decide) (by omega) (by decide) v1 ?_
  exact xe_ret (r := (some (.int (nI (s))))) dX10_cover_51 trivial (k1)

