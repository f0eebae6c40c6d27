theorem and1 (a : Nat) : nI a &&& nI 1 = nI (a % 2) := by
  apply Int32.toBitVec_inj.mp
  apply BitVec.eq_of_toNat_eq
  have e1 : ∀ x, (nI x).toBitVec = BitVec.ofNat 32 x := fun _ => rfl
  rw [Int32.toBitVec_and, e1, e1, e1, BitVec.toNat_and, BitVec.toNat_ofNat, BitVec.toNat_ofNat, BitVec.toNat_ofNat, Nat.mod_eq_of_lt (show 1 < 2 ^ 32 by decide), Nat.mod_eq_of_lt (show a % 2 < 2 ^ 32 by omega)]
  rw [show a % 2 ^ 32 &&& 1 = a % 2 ^ 32 % 2 ^ 1 from Nat.and_two_pow_sub_one_eq_mod _ 1]
  omega
theorem xn_odd {M : xD} {pc : Nat} {L : List (Nat × Value)} {st : List Value} {u : xU} {Q : Option Value → xM → Prop} {x : Nat} (hd : decode M.2.1 pc = .ok (.iand, 1)) (h : xE M (pc + 1) L (.int (nI (x % 2)) :: st) (xmm u) Q) : xE M pc L (.int (nI 1) :: .int (nI x) :: st) (xmm u) Q := xe_iand hd (by rw [and1]; exact h)

theorem gX7_extend_0 (u : xU) (i S k : Nat) (x : Int64) {Q : Option Value → xM → Prop} (hk : k < 6) 
    (k1 : xC mX7_narrowest [.ref 74, .ref 3, .int (nI (k))] (xmm u) (fun r μ1 => xE mX7_extend 7 [(0, .ref 74), (1, .ref 3), (2, .int (nI (i))), (3, .long (x)), (5, .int (nI (S))), (6, .int (nI (k)))] (r.toList ++ []) μ1 Q)) : xE mX7_extend 0 [(0, .ref 74), (1, .ref 3), (2, .int (nI (i))), (3, .long (x)), (5, .int (nI (S))), (6, .int (nI (k)))] [] (xmm u) Q := by
  refine xe_aload_n 0 dX7_extend_0 rfl rfl ?_
  refine xe_aload_n 1 dX7_extend_1 rfl rfl ?_
  refine xe_iload 5 dX7_extend_2 rfl ?_
  refine xe_callV (As := [.ref 3, .int (nI (k))]) (rest := []) dX7_extend_4 wX7_narrowest lX7_208 iX7_narrowest sX7_narrowest ⟨by decide, by decide⟩ sh74 rfl (xin_mm (by decide)) rfl rfl (by simp [Value.category]) ?_
  exact k1

theorem gX7_extend_7 (u : xU) (i S k p c : Nat) (x y : Int64) {Q : Option Value → xM → Prop} (hk : k < 6) (hp : p < 10) (hc : c < 3) (hpi : xC mX7_pair [.int (nI p), .int (nI c)] (xmm u) (fun r μ' => r = some (.int (nI (p * 3 + c))) ∧ μ' = xmm u)) (v1 : u.1 (9 + 4 * p) k = nI (c)) (v2 : u.2.1 152 p = y)
    (k1 : ¬ (nI (p)) = (-1) → xE mX7_extend 49 [(0, .ref 74), (1, .ref 3), (2, .int (nI (i))), (3, .long (x)), (5, .int (nI (S))), (6, .int (nI (k))), (8, .int (nI (p * 3 + c))), (9, .long (y)), (11, .int (nI (0)))] [] (xmm u) Q)
    (k2 : (nI (p)) = (-1) → Q (some (.int (nI (1)))) (xmm u)) : xE mX7_extend 7 [(0, .ref 74), (1, .ref 3), (2, .int (nI (i))), (3, .long (x)), (5, .int (nI (S))), (6, .int (nI (k)))] [.int (nI (p))] (xmm u) Q := by
  refine xe_istore (L2 := [(0, .ref 74), (1, .ref 3), (2, .int (nI (i))), (3, .long (x)), (5, .int (nI (S))), (6, .int (nI (k))), (7, .int (nI (p)))]) dX7_extend_7 (by decide) rfl ?_
  refine xe_iload 6 dX7_extend_9 rfl ?_
  refine xe_iconst (v := -1) dX7_extend_11 xcm1 ?_
  refine xe_icmp_ne 17 dX7_extend_12 (by decide) (fun c1 => ?_) (fun c1 => ?_)
  · refine xe_iload 6 dX7_extend_17 rfl ?_
    refine xe_aload_n 1 dX7_extend_19 rfl rfl ?_
    refine xr_getR (b := 4) dX7_extend_20 fX7_62 rfl sh3 (by decide) rfl ?_
    refine xe_iload 6 dX7_extend_23 rfl ?_
    refine xr_aald (k := p) (b := (6 + 4 * p)) dX7_extend_25 sh4 (by decide) (by decide) (by decide) (by omega) (by decide) (rParts (by omega)) ?_
    refine xr_getR (b := (9 + 4 * p)) dX7_extend_26 fX7_182 rfl (shP _ (by omega)) (by omega) (rPO (by omega)) ?_
    refine xe_iload 5 dX7_extend_29 rfl ?_
    refine xr_iald (k := k) (v := nI (c)) dX7_extend_31 (shPO _ (by omega)) (by omega) (by omega) (by decide) v1 ?_
    refine xe_callS (As := [.int (nI (p)), .int (nI (c))]) (rest := []) dX7_extend_32 wX7_pair lX7_98 tX7_pair ⟨by decide, by decide⟩ rfl rfl (by simp [Value.category]) (xC.pure (v := .int (nI (p * 3 + c))) (hpi) ?_)
    refine xe_istore (L2 := [(0, .ref 74), (1, .ref 3), (2, .int (nI (i))), (3, .long (x)), (5, .int (nI (S))), (6, .int (nI (k))), (7, .int (nI (p))), (8, .int (nI (p * 3 + c)))]) dX7_extend_35 (by decide) rfl ?_
    refine xe_aload_n 0 dX7_extend_37 rfl rfl ?_
    refine xr_getR (b := 152) dX7_extend_38 fX7_44 rfl sh74 (by decide) rfl ?_
    refine xe_iload 6 dX7_extend_41 rfl ?_
    refine xr_lald (k := p) (v := y) dX7_extend_43 sh152 (by decide) (by omega) (by decide) v2 ?_
    refine xe_lstore (L2 := [(0, .ref 74), (1, .ref 3), (2, .int (nI (i))), (3, .long (x)), (5, .int (nI (S))), (6, .int (nI (k))), (7, .int (nI (p))), (8, .int (nI (p * 3 + c))), (9, .long (y))]) dX7_extend_44 (by decide) rfl ?_
    refine xe_iconst (v := nI (0)) dX7_extend_46 xc0 ?_
    refine xe_istore (L2 := [(0, .ref 74), (1, .ref 3), (2, .int (nI (i))), (3, .long (x)), (5, .int (nI (S))), (6, .int (nI (k))), (7, .int (nI (p))), (8, .int (nI (p * 3 + c))), (9, .long (y)), (11, .int (nI (0)))]) dX7_extend_47 (by decide) rfl ?_
    refine xE.sub [0, 1, 2, 3, 4, 5, 7, 8, 9] rfl ?_
    exact k1 c1
  · refine xe_iconst (v := nI (1)) dX7_extend_15 xc1 ?_
    exact xe_ret (r := (some (.int (nI (1))))) dX7_extend_16 (Or.inr rfl) (k2 c1)

theorem gX7_extend_z (u : xU) (i S k pr j : Nat) (x : Int64) (y : Int64) {Q : Option Value → xM → Prop} (hk : k < 6) (hpr : pr < 30) (hi : i ≤ 6) (hj : j ≤ 40) 
    (k1 : 40 ≤ j → Q (some (.int (nI (1)))) (xmm u))
    (k2 : ¬ 40 ≤ j → (lg_cmp y 0) = 0 → Q (some (.int (nI (1)))) (xmm u))
    (k3 : ¬ 40 ≤ j → ¬ (lg_cmp y 0) = 0 → xC mX9_lowestPlace [.long (y)] (xmm u) (fun r μ1 => xE mX7_extend 75 [(0, .ref 74), (1, .ref 3), (2, .int (nI (i))), (3, .long (x)), (5, .int (nI (S))), (6, .int (nI (k))), (8, .int (nI (pr))), (9, .long (y)), (11, .int (nI (j)))] (r.toList ++ [.ref (116 + pr)]) μ1 Q)) : xE mX7_extend 49 [(0, .ref 74), (1, .ref 3), (2, .int (nI (i))), (3, .long (x)), (5, .int (nI (S))), (6, .int (nI (k))), (8, .int (nI (pr))), (9, .long (y)), (11, .int (nI (j)))] [] (xmm u) Q := by
  refine xe_iload 8 dX7_extend_49 rfl ?_
  refine xe_bipush (v := nI (40)) dX7_extend_51 xcb40 ?_
  refine xn_icmp_ge 206 dX7_extend_53 (by decide) (by omega) (by omega) (fun c1 => ?_) (fun c1 => ?_)
  · refine xe_iconst (v := nI (1)) dX7_extend_206 xc1 ?_
    exact xe_ret (r := (some (.int (nI (1))))) dX7_extend_207 (Or.inr rfl) (k1 c1)
  · refine xe_lload 7 dX7_extend_56 rfl ?_
    refine xe_lconst (v := 0) dX7_extend_58 (by decide) ?_
    refine xe_lcmp dX7_extend_59 ?_
    refine xe_if_eq 206 dX7_extend_60 (by decide) (fun c2 => ?_) (fun c2 => ?_)
    · refine xe_iconst (v := nI (1)) dX7_extend_206 xc1 ?_
      exact xe_ret (r := (some (.int (nI (1))))) dX7_extend_207 (Or.inr rfl) (k2 c1 c2)
    · refine xe_aload_n 0 dX7_extend_63 rfl rfl ?_
      refine xr_getR (b := 115) dX7_extend_64 fX7_29 rfl sh74 (by decide) rfl ?_
      refine xe_iload 6 dX7_extend_67 rfl ?_
      refine xr_aald (k := pr) (b := (116 + pr)) dX7_extend_69 sh115 (by decide) (by decide) (by decide) (by omega) (by decide) (rWS (by omega)) ?_
      refine xe_lload 7 dX7_extend_70 rfl ?_
      refine xe_callSN (As := [.long (y)]) (rest := [.ref (116 + pr)]) dX7_extend_72 wX9_lowestPlace lX7_211 tX9_lowestPlace ⟨by decide, by decide⟩ rfl rfl (by simp [Value.category]) ?_
      exact k3 c1 c2

theorem gX7_extend_u (u : xU) (i S k pr j lo : Nat) (x y : Int64) {Q : Option Value → xM → Prop} (hk : k < 6) (hpr : pr < 30) (hi : i ≤ 6) (hj : j < 40) (hlo : lo < 40) (hlo2 : xC mX9_lowestPlace [.long y] (xmm u) (fun r μ' => r = some (.int (nI lo)) ∧ μ' = xmm u)) (v1 : u.1 (116 + pr) lo = (-1))
    (k1 : xE mX7_extend 49 [(0, .ref 74), (1, .ref 3), (2, .int (nI (i))), (3, .long (x)), (5, .int (nI (S))), (6, .int (nI (k))), (8, .int (nI (pr))), (9, .long (y &&& (y - 1))), (11, .int (nI (j + 1)))] [] (xmm u) Q) : xE mX7_extend 63 [(0, .ref 74), (1, .ref 3), (2, .int (nI (i))), (3, .long (x)), (5, .int (nI (S))), (6, .int (nI (k))), (8, .int (nI (pr))), (9, .long (y)), (11, .int (nI (j)))] [] (xmm u) Q := by
  refine xe_aload_n 0 dX7_extend_63 rfl rfl ?_
  refine xr_getR (b := 115) dX7_extend_64 fX7_29 rfl sh74 (by decide) rfl ?_
  refine xe_iload 6 dX7_extend_67 rfl ?_
  refine xr_aald (k := pr) (b := (116 + pr)) dX7_extend_69 sh115 (by decide) (by decide) (by decide) (by omega) (by decide) (rWS (by omega)) ?_
  refine xe_lload 7 dX7_extend_70 rfl ?_
  refine xe_callSN (As := [.long (y)]) (rest := [.ref (116 + pr)]) dX7_extend_72 wX9_lowestPlace lX7_211 tX9_lowestPlace ⟨by decide, by decide⟩ rfl rfl (by simp [Value.category]) (xC.pure (v := .int (nI (lo))) (hlo2) ?_)
  refine xr_iald (k := lo) (v := (-1)) dX7_extend_75 (shWS _ (by omega)) (by omega) (by omega) (by decide) v1 ?_
  refine xe_istore (L2 := [(0, .ref 74), (1, .ref 3), (2, .int (nI (i))), (3, .long (x)), (5, .int (nI (S))), (6, .int (nI (k))), (8, .int (nI (pr))), (9, .long (y)), (11, .int (nI (j))), (12, .int ((-1)))]) dX7_extend_76 (by decide) rfl ?_
  refine xe_lload 7 dX7_extend_78 rfl ?_
  refine xe_lload 7 dX7_extend_80 rfl ?_
  refine xe_lconst (v := 1) dX7_extend_82 (by decide) ?_
  refine xe_lsub dX7_extend_83 ?_
  refine xe_land dX7_extend_84 ?_
  refine xe_lstore (L2 := [(0, .ref 74), (1, .ref 3), (2, .int (nI (i))), (3, .long (x)), (5, .int (nI (S))), (6, .int (nI (k))), (8, .int (nI (pr))), (9, .long (y &&& (y - 1))), (11, .int (nI (j))), (12, .int ((-1)))]) dX7_extend_85 (by decide) rfl ?_
  refine xe_iload 9 dX7_extend_87 rfl ?_
  refine xe_iconst (v := -1) dX7_extend_89 xcm1 ?_
  refine xe_icmp_eq 200 dX7_extend_90 (by decide) (fun _ => ?_) (fun q => absurd rfl q)
  refine xn_iinc (c := 1) (L2 := [(0, .ref 74), (1, .ref 3), (2, .int (nI (i))), (3, .long (x)), (5, .int (nI (S))), (6, .int (nI (k))), (8, .int (nI (pr))), (9, .long (y &&& (y - 1))), (11, .int (nI (j + 1))), (12, .int ((-1)))]) 8 dX7_extend_200 rfl (by decide) rfl ?_
  refine xe_goto 49 dX7_extend_203 (by decide) ?_
  refine xE.sub [0, 1, 2, 3, 4, 5, 6, 7, 8] rfl ?_
  exact k1

theorem gX7_extend_k (u : xU) (i S k pr j lo s : Nat) (x y z : Int64) (v : Int32) {Q : Option Value → xM → Prop} (hk : k < 6) (hpr : pr < 30) (hi : i ≤ 6) (hj : j < 40) (hlo : lo < 40) (hs : s < 40) (v1 : u.1 (116 + pr) lo = nI (s)) (v2 : u.2.1 (85 + pr) s = z) (v3 : u.1 (77 + k) s = v)
    (k1 : (nI (s)) = (-1) → xE mX7_extend 49 [(0, .ref 74), (1, .ref 3), (2, .int (nI (i))), (3, .long (x)), (5, .int (nI (S))), (6, .int (nI (k))), (8, .int (nI (pr))), (9, .long (y &&& (y - 1))), (11, .int (nI (j + 1)))] [] (xmm u) Q)
    (k2 : ¬ (nI (s)) = (-1) → xC mX7_meets [.ref 74, .ref 3, .int (nI (S)), .int (nI (k))] (xmm (wi (wi u 150 k (nI (s))) 151 k (v))) (fun r μ1 => xE mX7_extend 147 [(0, .ref 74), (1, .ref 3), (2, .int (nI (i))), (3, .long (x)), (5, .int (nI (S))), (6, .int (nI (k))), (8, .int (nI (pr))), (9, .long ((y &&& (y - 1)) &&& (z ^^^ ((-1))))), (11, .int (nI (j))), (12, .int (nI (s)))] (r.toList ++ []) μ1 Q)) : xE mX7_extend 75 [(0, .ref 74), (1, .ref 3), (2, .int (nI (i))), (3, .long (x)), (5, .int (nI (S))), (6, .int (nI (k))), (8, .int (nI (pr))), (9, .long (y)), (11, .int (nI (j)))] [.int (nI (lo)), .ref (116 + pr)] (xmm u) Q := by
  refine xr_iald (k := lo) (v := nI (s)) dX7_extend_75 (shWS _ (by omega)) (by omega) (by omega) (by decide) v1 ?_
  refine xe_istore (L2 := [(0, .ref 74), (1, .ref 3), (2, .int (nI (i))), (3, .long (x)), (5, .int (nI (S))), (6, .int (nI (k))), (8, .int (nI (pr))), (9, .long (y)), (11, .int (nI (j))), (12, .int (nI (s)))]) dX7_extend_76 (by decide) rfl ?_
  refine xe_lload 7 dX7_extend_78 rfl ?_
  refine xe_lload 7 dX7_extend_80 rfl ?_
  refine xe_lconst (v := 1) dX7_extend_82 (by decide) ?_
  refine xe_lsub dX7_extend_83 ?_
  refine xe_land dX7_extend_84 ?_
  refine xe_lstore (L2 := [(0, .ref 74), (1, .ref 3), (2, .int (nI (i))), (3, .long (x)), (5, .int (nI (S))), (6, .int (nI (k))), (8, .int (nI (pr))), (9, .long (y &&& (y - 1))), (11, .int (nI (j))), (12, .int (nI (s)))]) dX7_extend_85 (by decide) rfl ?_
  refine xe_iload 9 dX7_extend_87 rfl ?_
  refine xe_iconst (v := -1) dX7_extend_89 xcm1 ?_
  refine xe_icmp_eq 200 dX7_extend_90 (by decide) (fun c1 => ?_) (fun c1 => ?_)
  · refine xn_iinc (c := 1) (L2 := [(0, .ref 74), (1, .ref 3), (2, .int (nI (i))), (3, .long (x)), (5, .int (nI (S))), (6, .int (nI (k))), (8, .int (nI (pr))), (9, .long (y &&& (y - 1))), (11, .int (nI (j + 1))), (12, .int (nI (s)))]) 8 dX7_extend_200 rfl (by decide) rfl ?_
    refine xe_goto 49 dX7_extend_203 (by decide) ?_
    refine xE.sub [0, 1, 2, 3, 4, 5, 6, 7, 8] rfl ?_
    exact k1 c1
  · refine xe_lload 7 dX7_extend_93 rfl ?_
    refine xe_aload_n 0 dX7_extend_95 rfl rfl ?_
    refine xr_getR (b := 84) dX7_extend_96 fX7_26 rfl sh74 (by decide) rfl ?_
    refine xe_iload 6 dX7_extend_99 rfl ?_
    refine xr_aald (k := pr) (b := (85 + pr)) dX7_extend_101 sh84 (by decide) (by decide) (by decide) (by omega) (by decide) (rWR (by omega)) ?_
    refine xe_iload 9 dX7_extend_102 rfl ?_
    refine xr_lald (k := s) (v := z) dX7_extend_104 (shWR _ (by omega)) (by omega) (by omega) (by decide) v2 ?_
    refine xe_ldc2 dX7_extend_105 kX7_215 ?_
    refine xe_lxor dX7_extend_108 ?_
    refine xe_land dX7_extend_109 ?_
    refine xe_lstore (L2 := [(0, .ref 74), (1, .ref 3), (2, .int (nI (i))), (3, .long (x)), (5, .int (nI (S))), (6, .int (nI (k))), (8, .int (nI (pr))), (9, .long ((y &&& (y - 1)) &&& (z ^^^ ((-1))))), (11, .int (nI (j))), (12, .int (nI (s)))]) dX7_extend_110 (by decide) rfl ?_
    refine xe_aload_n 0 dX7_extend_112 rfl rfl ?_
    refine xr_getR (b := 150) dX7_extend_113 fX7_38 rfl sh74 (by decide) rfl ?_
    refine xe_iload 5 dX7_extend_116 rfl ?_
    refine xe_iload 9 dX7_extend_118 rfl ?_
    refine xr_iast (k := k) dX7_extend_120 sh150 (by decide) (by omega) (by decide) ?_
    refine xe_aload_n 0 dX7_extend_121 rfl rfl ?_
    refine xr_getR (b := 151) dX7_extend_122 fX7_41 rfl sh74 (by decide) rfl ?_
    refine xe_iload 5 dX7_extend_125 rfl ?_
    refine xe_aload_n 0 dX7_extend_127 rfl rfl ?_
    refine xr_getR (b := 76) dX7_extend_128 fX7_17 rfl sh74 (by decide) rfl ?_
    refine xe_iload 5 dX7_extend_131 rfl ?_
    refine xr_aald (k := k) (b := (77 + k)) dX7_extend_133 sh76 (by decide) (by decide) (by decide) (by omega) (by decide) (rWD (by omega)) ?_
    refine xe_iload 9 dX7_extend_134 rfl ?_
    refine xr_iald (k := s) (v := v) dX7_extend_136 (shWD _ (by omega)) (by omega) (by omega) (by decide) ((wi_ne (by omega)).trans v3) ?_
    refine xr_iast (k := k) dX7_extend_137 sh151 (by decide) (by omega) (by decide) ?_
    refine xe_aload_n 0 dX7_extend_138 rfl rfl ?_
    refine xe_aload_n 1 dX7_extend_139 rfl rfl ?_
    refine xe_iload 4 dX7_extend_140 rfl ?_
    refine xe_iload 5 dX7_extend_142 rfl ?_
    refine xe_callV (As := [.ref 3, .int (nI (S)), .int (nI (k))]) (rest := []) dX7_extend_144 wX7_meets lX7_217 iX7_meets sX7_meets ⟨by decide, by decide⟩ sh74 rfl (xin_mm (by decide)) rfl rfl (by simp [Value.category]) ?_
    exact k2 c1

theorem gX7_extend_m (u : xU) (i S k pr j lo : Nat) (x y : Int64) {Q : Option Value → xM → Prop} (hk : k < 6) (hpr : pr < 30) (hi : i ≤ 6) (hj : j < 40) (hlo : lo < 40) (v1 : u.1 (116 + pr) lo = (-1))
    (k1 : xE mX7_extend 49 [(0, .ref 74), (1, .ref 3), (2, .int (nI (i))), (3, .long (x)), (5, .int (nI (S))), (6, .int (nI (k))), (8, .int (nI (pr))), (9, .long (y &&& (y - 1))), (11, .int (nI (j + 1)))] [] (xmm u) Q) : xE mX7_extend 75 [(0, .ref 74), (1, .ref 3), (2, .int (nI (i))), (3, .long (x)), (5, .int (nI (S))), (6, .int (nI (k))), (8, .int (nI (pr))), (9, .long (y)), (11, .int (nI (j)))] [.int (nI (lo)), .ref (116 + pr)] (xmm u) Q := by
  refine xr_iald (k := lo) (v := (-1)) dX7_extend_75 (shWS _ (by omega)) (by omega) (by omega) (by decide) v1 ?_
  refine xe_istore (L2 := [(0, .ref 74), (1, .ref 3), (2, .int (nI (i))), (3, .long (x)), (5, .int (nI (S))), (6, .int (nI (k))), (8, .int (nI (pr))), (9, .long (y)), (11, .int (nI (j))), (12, .int ((-1)))]) dX7_extend_76 (by decide) rfl ?_
  refine xe_lload 7 dX7_extend_78 rfl ?_
  refine xe_lload 7 dX7_extend_80 rfl ?_
  refine xe_lconst (v := 1) dX7_extend_82 (by decide) ?_
  refine xe_lsub dX7_extend_83 ?_
  refine xe_land dX7_extend_84 ?_
  refine xe_lstore (L2 := [(0, .ref 74), (1, .ref 3), (2, .int (nI (i))), (3, .long (x)), (5, .int (nI (S))), (6, .int (nI (k))), (8, .int (nI (pr))), (9, .long (y &&& (y - 1))), (11, .int (nI (j))), (12, .int ((-1)))]) dX7_extend_85 (by decide) rfl ?_
  refine xe_iload 9 dX7_extend_87 rfl ?_
  refine xe_iconst (v := -1) dX7_extend_89 xcm1 ?_
  refine xe_icmp_eq 200 dX7_extend_90 (by decide) (fun _ => ?_) (fun q => absurd rfl q)
  refine xn_iinc (c := 1) (L2 := [(0, .ref 74), (1, .ref 3), (2, .int (nI (i))), (3, .long (x)), (5, .int (nI (S))), (6, .int (nI (k))), (8, .int (nI (pr))), (9, .long (y &&& (y - 1))), (11, .int (nI (j + 1))), (12, .int ((-1)))]) 8 dX7_extend_200 rfl (by decide) rfl ?_
  refine xe_goto 49 dX7_extend_203 (by decide) ?_
  refine xE.sub [0, 1, 2, 3, 4, 5, 6, 7, 8] rfl ?_
  exact k1

theorem gX7_extend_147 (u : xU) (i S k pr j s t : Nat) (x y : Int64) (b : Bool) {Q : Option Value → xM → Prop} (hk : k < 6) (hpr : pr < 30) (hi : i ≤ 6) (hj : j < 40) (hs : s < 40) (ht : t ≤ 500) (hsh : xC mX9_shift [.int (nI k)] (xmm u) (fun r μ' => r = some (.int (nI ((5 - k) * 6))) ∧ μ' = xmm u)) (v1 : u.1 146 i = nI (t))
    (k1 : ¬ (b = true) → xE mX7_extend 49 [(0, .ref 74), (1, .ref 3), (2, .int (nI (i))), (3, .long (x)), (5, .int (nI (S))), (6, .int (nI (k))), (8, .int (nI (pr))), (9, .long (y)), (11, .int (nI (j + 1)))] [] (xmm u) Q)
    (k2 : b = true → t < 500 → xE mX7_extend 49 [(0, .ref 74), (1, .ref 3), (2, .int (nI (i))), (3, .long (x)), (5, .int (nI (S))), (6, .int (nI (k))), (8, .int (nI (pr))), (9, .long (y)), (11, .int (nI (j + 1)))] [] (xmm (wi (wl u (148 + (i % 2)) t (x ||| (((nI (s)).toInt64) <<< ((nI ((5 - k) * 6)).toInt64 &&& 63)))) 146 i (nI (t + 1)))) Q)
    (k3 : b = true → ¬ t < 500 → Q (some (.int (nI (0)))) (xmm u)) : xE mX7_extend 147 [(0, .ref 74), (1, .ref 3), (2, .int (nI (i))), (3, .long (x)), (5, .int (nI (S))), (6, .int (nI (k))), (8, .int (nI (pr))), (9, .long (y)), (11, .int (nI (j))), (12, .int (nI (s)))] [.int (xb (b = true))] (xmm u) Q := by
  refine xb_if_eq 200 dX7_extend_147 (by decide) (fun c1 => ?_) (fun c1 => ?_)
  · refine xn_iinc (c := 1) (L2 := [(0, .ref 74), (1, .ref 3), (2, .int (nI (i))), (3, .long (x)), (5, .int (nI (S))), (6, .int (nI (k))), (8, .int (nI (pr))), (9, .long (y)), (11, .int (nI (j + 1))), (12, .int (nI (s)))]) 8 dX7_extend_200 rfl (by decide) rfl ?_
    refine xe_goto 49 dX7_extend_203 (by decide) ?_
    refine xE.sub [0, 1, 2, 3, 4, 5, 6, 7, 8] rfl ?_
    exact k1 c1
  · refine xe_aload_n 0 dX7_extend_150 rfl rfl ?_
    refine xr_getR (b := 146) dX7_extend_151 fX7_32 rfl sh74 (by decide) rfl ?_
    refine xe_iload_n 2 dX7_extend_154 rfl rfl ?_
    refine xr_iald (k := i) (v := nI (t)) dX7_extend_155 sh146 (by decide) (by omega) (by decide) v1 ?_
    refine xe_sipush (v := nI (500)) dX7_extend_156 xcs500 ?_
    refine xn_icmp_lt 164 dX7_extend_159 (by decide) (by omega) (by omega) (fun c2 => ?_) (fun c2 => ?_)
    · refine xe_aload_n 0 dX7_extend_164 rfl rfl ?_
      refine xr_getR (b := 147) dX7_extend_165 fX7_35 rfl sh74 (by decide) rfl ?_
      refine xe_iload_n 2 dX7_extend_168 rfl rfl ?_
      refine xe_iconst (v := nI (1)) dX7_extend_169 xc1 ?_
      refine xn_odd dX7_extend_170 ?_
      refine xr_aald (k := i % 2) (b := (148 + (i % 2))) dX7_extend_171 sh147 (by decide) (by decide) (by decide) (by omega) (by decide) (rSL (by omega)) ?_
      refine xe_aload_n 0 dX7_extend_172 rfl rfl ?_
      refine xr_getR (b := 146) dX7_extend_173 fX7_32 rfl sh74 (by decide) rfl ?_
      refine xe_iload_n 2 dX7_extend_176 rfl rfl ?_
      refine xr_iald (k := i) (v := nI (t)) dX7_extend_177 sh146 (by decide) (by omega) (by decide) v1 ?_
      refine xe_lload_n 3 dX7_extend_178 rfl rfl ?_
      refine xe_iload 9 dX7_extend_179 rfl ?_
      refine xe_i2l dX7_extend_181 ?_
      refine xe_iload 5 dX7_extend_182 rfl ?_
      refine xe_callSN (As := [.int (nI (k))]) (rest := [.long ((nI (s)).toInt64), .long (x), .int (nI (t)), .ref (148 + (i % 2))]) dX7_extend_184 wX9_shift lX7_221 tX9_shift ⟨by decide, by decide⟩ rfl rfl (by simp [Value.category]) (xC.pure (v := .int (nI ((5 - k) * 6))) (hsh) ?_)
      refine xe_lshl dX7_extend_187 ?_
      refine xe_lor dX7_extend_188 ?_
      refine xr_last (k := t) dX7_extend_189 (shSL _ (by omega)) (by omega) (by omega) (by decide) ?_
      refine xe_aload_n 0 dX7_extend_190 rfl rfl ?_
      refine xr_getR (b := 146) dX7_extend_191 fX7_32 rfl sh74 (by decide) rfl ?_
      refine xe_iload_n 2 dX7_extend_194 rfl rfl ?_
      refine xe_dup2 dX7_extend_195 rfl rfl ?_
      refine xr_iald (k := i) (v := nI (t)) dX7_extend_196 sh146 (by decide) (by omega) (by decide) (wl_i.trans v1) ?_
      refine xe_iconst (v := nI (1)) dX7_extend_197 xc1 ?_
      refine xn_iadd dX7_extend_198 ?_
      refine xr_iast (k := i) dX7_extend_199 sh146 (by decide) (by omega) (by decide) ?_
      refine xn_iinc (c := 1) (L2 := [(0, .ref 74), (1, .ref 3), (2, .int (nI (i))), (3, .long (x)), (5, .int (nI (S))), (6, .int (nI (k))), (8, .int (nI (pr))), (9, .long (y)), (11, .int (nI (j + 1))), (12, .int (nI (s)))]) 8 dX7_extend_200 rfl (by decide) rfl ?_
      refine xe_goto 49 dX7_extend_203 (by decide) ?_
      refine xE.sub [0, 1, 2, 3, 4, 5, 6, 7, 8] rfl ?_
      exact k2 c1 c2
    · refine xe_iconst (v := nI (0)) dX7_extend_162 xc0 ?_
      exact xe_ret (r := (some (.int (nI (0))))) dX7_extend_163 (Or.inl rfl) (k3 c1 c2)

