/-- the orders of n names, by their codes -/
def pmL : Nat → List Nat
  | 1 => [0]
  | 2 => [16, 64]
  | 3 => [24, 36, 72, 96, 132, 144]
  | 4 => [27, 30, 39, 45, 54, 57, 75, 78, 99, 108, 114, 120, 135, 141, 147, 156, 177, 180, 198, 201, 210, 216, 225, 228]
  | _ => []
theorem gNO_1_0 (u : xU) {Q : Option Value → xM → Prop}  (v1 : u.1 172 3 = nI (1)) (v2 : u.1 181 0 = nI (0))
    (k1 : Q (some (.int (nI (0)))) (xmm u)) : xE mX10_nextOrder 0 [(0, .ref 172)] [] (xmm u) Q := by
  refine xe_aload_n 0 dX10_nextOrder_0 rfl rfl ?_
  refine xr_getI (v := nI (1)) dX10_nextOrder_1 fX10_119 sh172 (by decide) v1 ?_
  refine xe_iconst (v := nI (2)) dX10_nextOrder_4 xc2 ?_
  refine xe_isub dX10_nextOrder_5 ?_
  refine xe_istore_n (L2 := [(0, .ref 172), (1, .int ((-1)))]) dX10_nextOrder_6 rfl (by decide) rfl ?_
  refine xe_iload_n 1 dX10_nextOrder_7 rfl rfl ?_
  refine xe_if_lt 34 dX10_nextOrder_8 (by decide) (fun _ => ?_) (fun q => absurd (by decide) q)
  refine xe_iload_n 1 dX10_nextOrder_34 rfl rfl ?_
  refine xe_if_ge 40 dX10_nextOrder_35 (by decide) (fun q => absurd q (by decide)) (fun _ => ?_)
  refine xe_iconst (v := nI (0)) dX10_nextOrder_38 xc0 ?_
  exact xe_ret (r := (some (.int (nI (0))))) dX10_nextOrder_39 (Or.inl rfl) (k1)

theorem hNO_1_0 (u : xU) (v1 : u.1 172 3 = nI (1)) (v2 : u.1 181 0 = nI (0)) : xC mX10_nextOrder [.ref 172] (xmm u) (fun r μ' => r = some (.int (nI 0)) ∧ μ' = xmm u) := xC.of xpl10 (Nat.le_of_ble_eq_true rfl) (gNO_1_0 u v1 v2 ⟨rfl, rfl⟩)
theorem gNO_2_0 (u : xU) {Q : Option Value → xM → Prop}  (v1 : u.1 172 3 = nI (2)) (v2 : u.1 181 0 = nI (0)) (v3 : u.1 181 1 = nI (1))
    (k1 : Q (some (.int (nI (1)))) (xmm (wi (wi u 181 0 (nI (1))) 181 1 (nI (0))))) : xE mX10_nextOrder 0 [(0, .ref 172)] [] (xmm u) Q := by
  refine xe_aload_n 0 dX10_nextOrder_0 rfl rfl ?_
  refine xr_getI (v := nI (2)) dX10_nextOrder_1 fX10_119 sh172 (by decide) v1 ?_
  refine xe_iconst (v := nI (2)) dX10_nextOrder_4 xc2 ?_
  refine xn_isub dX10_nextOrder_5 (by decide) ?_
  refine xe_istore_n (L2 := [(0, .ref 172), (1, .int (nI (0)))]) dX10_nextOrder_6 rfl (by decide) rfl ?_
  refine xe_iload_n 1 dX10_nextOrder_7 rfl rfl ?_
  refine xn_if_lt 34 dX10_nextOrder_8 (by decide) (by omega) (fun q => absurd q (by omega)) (fun _ => ?_)
  refine xe_aload_n 0 dX10_nextOrder_11 rfl rfl ?_
  refine xr_getR (b := 181) dX10_nextOrder_12 fX10_34 rfl sh172 (by decide) rfl ?_
  refine xe_iload_n 1 dX10_nextOrder_15 rfl rfl ?_
  refine xr_iald (k := 0) (v := nI (0)) dX10_nextOrder_16 sh181 (by decide) (by omega) (by decide) v2 ?_
  refine xe_aload_n 0 dX10_nextOrder_17 rfl rfl ?_
  refine xr_getR (b := 181) dX10_nextOrder_18 fX10_34 rfl sh172 (by decide) rfl ?_
  refine xe_iload_n 1 dX10_nextOrder_21 rfl rfl ?_
  refine xe_iconst (v := nI (1)) dX10_nextOrder_22 xc1 ?_
  refine xn_iadd dX10_nextOrder_23 ?_
  refine xr_iald (k := 1) (v := nI (1)) dX10_nextOrder_24 sh181 (by decide) (by omega) (by decide) v3 ?_
  refine xn_icmp_le 34 dX10_nextOrder_25 (by decide) (by omega) (by omega) (fun _ => ?_) (fun q => absurd q (by decide))
  refine xe_iload_n 1 dX10_nextOrder_34 rfl rfl ?_
  refine xn_if_ge 40 dX10_nextOrder_35 (by decide) (by omega) (fun _ => ?_) (fun q => absurd (Nat.zero_le _) q)
  refine xe_aload_n 0 dX10_nextOrder_40 rfl rfl ?_
  refine xr_getI (v := nI (2)) dX10_nextOrder_41 fX10_119 sh172 (by decide) v1 ?_
  refine xe_iconst (v := nI (1)) dX10_nextOrder_44 xc1 ?_
  refine xn_isub dX10_nextOrder_45 (by decide) ?_
  refine xe_istore_n (L2 := [(0, .ref 172), (1, .int (nI (0))), (2, .int (nI (1)))]) dX10_nextOrder_46 rfl (by decide) rfl ?_
  refine xe_aload_n 0 dX10_nextOrder_47 rfl rfl ?_
  refine xr_getR (b := 181) dX10_nextOrder_48 fX10_34 rfl sh172 (by decide) rfl ?_
  refine xe_iload_n 2 dX10_nextOrder_51 rfl rfl ?_
  refine xr_iald (k := 1) (v := nI (1)) dX10_nextOrder_52 sh181 (by decide) (by omega) (by decide) v3 ?_
  refine xe_aload_n 0 dX10_nextOrder_53 rfl rfl ?_
  refine xr_getR (b := 181) dX10_nextOrder_54 fX10_34 rfl sh172 (by decide) rfl ?_
  refine xe_iload_n 1 dX10_nextOrder_57 rfl rfl ?_
  refine xr_iald (k := 0) (v := nI (0)) dX10_nextOrder_58 sh181 (by decide) (by omega) (by decide) v2 ?_
  refine xn_icmp_ge 68 dX10_nextOrder_59 (by decide) (by omega) (by omega) (fun _ => ?_) (fun q => absurd q (by decide))
  refine xe_aload_n 0 dX10_nextOrder_68 rfl rfl ?_
  refine xr_getR (b := 181) dX10_nextOrder_69 fX10_34 rfl sh172 (by decide) rfl ?_
  refine xe_iload_n 1 dX10_nextOrder_72 rfl rfl ?_
  refine xr_iald (k := 0) (v := nI (0)) dX10_nextOrder_73 sh181 (by decide) (by omega) (by decide) v2 ?_
  refine xe_istore_n (L2 := [(0, .ref 172), (1, .int (nI (0))), (2, .int (nI (1))), (3, .int (nI (0)))]) dX10_nextOrder_74 rfl (by decide) rfl ?_
  refine xe_aload_n 0 dX10_nextOrder_75 rfl rfl ?_
  refine xr_getR (b := 181) dX10_nextOrder_76 fX10_34 rfl sh172 (by decide) rfl ?_
  refine xe_iload_n 1 dX10_nextOrder_79 rfl rfl ?_
  refine xe_aload_n 0 dX10_nextOrder_80 rfl rfl ?_
  refine xr_getR (b := 181) dX10_nextOrder_81 fX10_34 rfl sh172 (by decide) rfl ?_
  refine xe_iload_n 2 dX10_nextOrder_84 rfl rfl ?_
  refine xr_iald (k := 1) (v := nI (1)) dX10_nextOrder_85 sh181 (by decide) (by omega) (by decide) v3 ?_
  refine xr_iast (k := 0) dX10_nextOrder_86 sh181 (by decide) (by omega) (by decide) ?_
  refine xe_aload_n 0 dX10_nextOrder_87 rfl rfl ?_
  refine xr_getR (b := 181) dX10_nextOrder_88 fX10_34 rfl sh172 (by decide) rfl ?_
  refine xe_iload_n 2 dX10_nextOrder_91 rfl rfl ?_
  refine xe_iload_n 3 dX10_nextOrder_92 rfl rfl ?_
  refine xr_iast (k := 1) dX10_nextOrder_93 sh181 (by decide) (by omega) (by decide) ?_
  refine xe_iload_n 1 dX10_nextOrder_94 rfl rfl ?_
  refine xe_iconst (v := nI (1)) dX10_nextOrder_95 xc1 ?_
  refine xn_iadd dX10_nextOrder_96 ?_
  refine xe_istore (L2 := [(0, .ref 172), (1, .int (nI (0))), (2, .int (nI (1))), (3, .int (nI (0))), (4, .int (nI (1)))]) dX10_nextOrder_97 (by decide) rfl ?_
  refine xe_aload_n 0 dX10_nextOrder_99 rfl rfl ?_
  refine xr_getI (v := nI (2)) dX10_nextOrder_100 fX10_119 sh172 (by decide) ((wi_ne (by omega)).trans ((wi_ne (by omega)).trans v1)) ?_
  refine xe_iconst (v := nI (1)) dX10_nextOrder_103 xc1 ?_
  refine xn_isub dX10_nextOrder_104 (by decide) ?_
  refine xe_istore (L2 := [(0, .ref 172), (1, .int (nI (0))), (2, .int (nI (1))), (3, .int (nI (0))), (4, .int (nI (1))), (5, .int (nI (1)))]) dX10_nextOrder_105 (by decide) rfl ?_
  refine xe_iload 4 dX10_nextOrder_107 rfl ?_
  refine xe_iload 5 dX10_nextOrder_109 rfl ?_
  refine xn_icmp_ge 153 dX10_nextOrder_111 (by decide) (by omega) (by omega) (fun _ => ?_) (fun q => absurd q (by decide))
  refine xe_iconst (v := nI (1)) dX10_nextOrder_153 xc1 ?_
  exact xe_ret (r := (some (.int (nI (1))))) dX10_nextOrder_154 (Or.inr rfl) (k1)

theorem hNO_2_0 (u : xU) (v1 : u.1 172 3 = nI (2)) (v2 : u.1 181 0 = nI (0)) (v3 : u.1 181 1 = nI (1)) : xC mX10_nextOrder [.ref 172] (xmm u) (fun r μ' => ∃ u' : xU, μ' = xmm u' ∧ r = some (.int (nI 1)) ∧ (∀ x, x ≠ 181 → u'.1 x = u.1 x) ∧ u'.2 = u.2 ∧ u'.1 181 0 = nI 1 ∧ u'.1 181 1 = nI 0) := xC.of xpl10 (Nat.le_of_ble_eq_true rfl) (gNO_2_0 u v1 v2 v3 ⟨_, rfl, rfl, fun x hx => by rw [wi_row hx, wi_row hx], rfl, by rw [wi_nek (by decide), wi_self], by rw [wi_self]⟩)
theorem gNO_2_1 (u : xU) {Q : Option Value → xM → Prop}  (v1 : u.1 172 3 = nI (2)) (v2 : u.1 181 0 = nI (1)) (v3 : u.1 181 1 = nI (0))
    (k1 : Q (some (.int (nI (0)))) (xmm u)) : xE mX10_nextOrder 0 [(0, .ref 172)] [] (xmm u) Q := by
  refine xe_aload_n 0 dX10_nextOrder_0 rfl rfl ?_
  refine xr_getI (v := nI (2)) dX10_nextOrder_1 fX10_119 sh172 (by decide) v1 ?_
  refine xe_iconst (v := nI (2)) dX10_nextOrder_4 xc2 ?_
  refine xn_isub dX10_nextOrder_5 (by decide) ?_
  refine xe_istore_n (L2 := [(0, .ref 172), (1, .int (nI (0)))]) dX10_nextOrder_6 rfl (by decide) rfl ?_
  refine xe_iload_n 1 dX10_nextOrder_7 rfl rfl ?_
  refine xn_if_lt 34 dX10_nextOrder_8 (by decide) (by omega) (fun q => absurd q (by omega)) (fun _ => ?_)
  refine xe_aload_n 0 dX10_nextOrder_11 rfl rfl ?_
  refine xr_getR (b := 181) dX10_nextOrder_12 fX10_34 rfl sh172 (by decide) rfl ?_
  refine xe_iload_n 1 dX10_nextOrder_15 rfl rfl ?_
  refine xr_iald (k := 0) (v := nI (1)) dX10_nextOrder_16 sh181 (by decide) (by omega) (by decide) v2 ?_
  refine xe_aload_n 0 dX10_nextOrder_17 rfl rfl ?_
  refine xr_getR (b := 181) dX10_nextOrder_18 fX10_34 rfl sh172 (by decide) rfl ?_
  refine xe_iload_n 1 dX10_nextOrder_21 rfl rfl ?_
  refine xe_iconst (v := nI (1)) dX10_nextOrder_22 xc1 ?_
  refine xn_iadd dX10_nextOrder_23 ?_
  refine xr_iald (k := 1) (v := nI (0)) dX10_nextOrder_24 sh181 (by decide) (by omega) (by decide) v3 ?_
  refine xn_icmp_le 34 dX10_nextOrder_25 (by decide) (by omega) (by omega) (fun q => absurd q (by decide)) (fun _ => ?_)
  refine xe_iinc (v := (-1)) (L2 := [(0, .ref 172), (1, .int ((-1)))]) 1 dX10_nextOrder_28 rfl (by decide) (by decide) rfl ?_
  refine xe_goto 7 dX10_nextOrder_31 (by decide) ?_
  refine xe_iload_n 1 dX10_nextOrder_7 rfl rfl ?_
  refine xe_if_lt 34 dX10_nextOrder_8 (by decide) (fun _ => ?_) (fun q => absurd (by decide) q)
  refine xe_iload_n 1 dX10_nextOrder_34 rfl rfl ?_
  refine xe_if_ge 40 dX10_nextOrder_35 (by decide) (fun q => absurd q (by decide)) (fun _ => ?_)
  refine xe_iconst (v := nI (0)) dX10_nextOrder_38 xc0 ?_
  exact xe_ret (r := (some (.int (nI (0))))) dX10_nextOrder_39 (Or.inl rfl) (k1)

theorem hNO_2_1 (u : xU) (v1 : u.1 172 3 = nI (2)) (v2 : u.1 181 0 = nI (1)) (v3 : u.1 181 1 = nI (0)) : xC mX10_nextOrder [.ref 172] (xmm u) (fun r μ' => r = some (.int (nI 0)) ∧ μ' = xmm u) := xC.of xpl10 (Nat.le_of_ble_eq_true rfl) (gNO_2_1 u v1 v2 v3 ⟨rfl, rfl⟩)
theorem gNO_3_0 (u : xU) {Q : Option Value → xM → Prop}  (v1 : u.1 172 3 = nI (3)) (v2 : u.1 181 0 = nI (0)) (v3 : u.1 181 1 = nI (1)) (v4 : u.1 181 2 = nI (2))
    (k1 : Q (some (.int (nI (1)))) (xmm (wi (wi u 181 1 (nI (2))) 181 2 (nI (1))))) : xE mX10_nextOrder 0 [(0, .ref 172)] [] (xmm u) Q := by
  refine xe_aload_n 0 dX10_nextOrder_0 rfl rfl ?_
  refine xr_getI (v := nI (3)) dX10_nextOrder_1 fX10_119 sh172 (by decide) v1 ?_
  refine xe_iconst (v := nI (2)) dX10_nextOrder_4 xc2 ?_
  refine xn_isub dX10_nextOrder_5 (by decide) ?_
  refine xe_istore_n (L2 := [(0, .ref 172), (1, .int (nI (1)))]) dX10_nextOrder_6 rfl (by decide) rfl ?_
  refine xe_iload_n 1 dX10_nextOrder_7 rfl rfl ?_
  refine xn_if_lt 34 dX10_nextOrder_8 (by decide) (by omega) (fun q => absurd q (by omega)) (fun _ => ?_)
  refine xe_aload_n 0 dX10_nextOrder_11 rfl rfl ?_
  refine xr_getR (b := 181) dX10_nextOrder_12 fX10_34 rfl sh172 (by decide) rfl ?_
  refine xe_iload_n 1 dX10_nextOrder_15 rfl rfl ?_
  refine xr_iald (k := 1) (v := nI (1)) dX10_nextOrder_16 sh181 (by decide) (by omega) (by decide) v3 ?_
  refine xe_aload_n 0 dX10_nextOrder_17 rfl rfl ?_
  refine xr_getR (b := 181) dX10_nextOrder_18 fX10_34 rfl sh172 (by decide) rfl ?_
  refine xe_iload_n 1 dX10_nextOrder_21 rfl rfl ?_
  refine xe_iconst (v := nI (1)) dX10_nextOrder_22 xc1 ?_
  refine xn_iadd dX10_nextOrder_23 ?_
  refine xr_iald (k := 2) (v := nI (2)) dX10_nextOrder_24 sh181 (by decide) (by omega) (by decide) v4 ?_
  refine xn_icmp_le 34 dX10_nextOrder_25 (by decide) (by omega) (by omega) (fun _ => ?_) (fun q => absurd q (by decide))
  refine xe_iload_n 1 dX10_nextOrder_34 rfl rfl ?_
  refine xn_if_ge 40 dX10_nextOrder_35 (by decide) (by omega) (fun _ => ?_) (fun q => absurd (Nat.zero_le _) q)
  refine xe_aload_n 0 dX10_nextOrder_40 rfl rfl ?_
  refine xr_getI (v := nI (3)) dX10_nextOrder_41 fX10_119 sh172 (by decide) v1 ?_
  refine xe_iconst (v := nI (1)) dX10_nextOrder_44 xc1 ?_
  refine xn_isub dX10_nextOrder_45 (by decide) ?_
  refine xe_istore_n (L2 := [(0, .ref 172), (1, .int (nI (1))), (2, .int (nI (2)))]) dX10_nextOrder_46 rfl (by decide) rfl ?_
  refine xe_aload_n 0 dX10_nextOrder_47 rfl rfl ?_
  refine xr_getR (b := 181) dX10_nextOrder_48 fX10_34 rfl sh172 (by decide) rfl ?_
  refine xe_iload_n 2 dX10_nextOrder_51 rfl rfl ?_
  refine xr_iald (k := 2) (v := nI (2)) dX10_nextOrder_52 sh181 (by decide) (by omega) (by decide) v4 ?_
  refine xe_aload_n 0 dX10_nextOrder_53 rfl rfl ?_
  refine xr_getR (b := 181) dX10_nextOrder_54 fX10_34 rfl sh172 (by decide) rfl ?_
  refine xe_iload_n 1 dX10_nextOrder_57 rfl rfl ?_
  refine xr_iald (k := 1) (v := nI (1)) dX10_nextOrder_58 sh181 (by decide) (by omega) (by decide) v3 ?_
  refine xn_icmp_ge 68 dX10_nextOrder_59 (by decide) (by omega) (by omega) (fun _ => ?_) (fun q => absurd q (by decide))
  refine xe_aload_n 0 dX10_nextOrder_68 rfl rfl ?_
  refine xr_getR (b := 181) dX10_nextOrder_69 fX10_34 rfl sh172 (by decide) rfl ?_
  refine xe_iload_n 1 dX10_nextOrder_72 rfl rfl ?_
  refine xr_iald (k := 1) (v := nI (1)) dX10_nextOrder_73 sh181 (by decide) (by omega) (by decide) v3 ?_
  refine xe_istore_n (L2 := [(0, .ref 172), (1, .int (nI (1))), (2, .int (nI (2))), (3, .int (nI (1)))]) dX10_nextOrder_74 rfl (by decide) rfl ?_
  refine xe_aload_n 0 dX10_nextOrder_75 rfl rfl ?_
  refine xr_getR (b := 181) dX10_nextOrder_76 fX10_34 rfl sh172 (by decide) rfl ?_
  refine xe_iload_n 1 dX10_nextOrder_79 rfl rfl ?_
  refine xe_aload_n 0 dX10_nextOrder_80 rfl rfl ?_
  refine xr_getR (b := 181) dX10_nextOrder_81 fX10_34 rfl sh172 (by decide) rfl ?_
  refine xe_iload_n 2 dX10_nextOrder_84 rfl rfl ?_
  refine xr_iald (k := 2) (v := nI (2)) dX10_nextOrder_85 sh181 (by decide) (by omega) (by decide) v4 ?_
  refine xr_iast (k := 1) dX10_nextOrder_86 sh181 (by decide) (by omega) (by decide) ?_
  refine xe_aload_n 0 dX10_nextOrder_87 rfl rfl ?_
  refine xr_getR (b := 181) dX10_nextOrder_88 fX10_34 rfl sh172 (by decide) rfl ?_
  refine xe_iload_n 2 dX10_nextOrder_91 rfl rfl ?_
  refine xe_iload_n 3 dX10_nextOrder_92 rfl rfl ?_
  refine xr_iast (k := 2) dX10_nextOrder_93 sh181 (by decide) (by omega) (by decide) ?_
  refine xe_iload_n 1 dX10_nextOrder_94 rfl rfl ?_
  refine xe_iconst (v := nI (1)) dX10_nextOrder_95 xc1 ?_
  refine xn_iadd dX10_nextOrder_96 ?_
  refine xe_istore (L2 := [(0, .ref 172), (1, .int (nI (1))), (2, .int (nI (2))), (3, .int (nI (1))), (4, .int (nI (2)))]) dX10_nextOrder_97 (by decide) rfl ?_
  refine xe_aload_n 0 dX10_nextOrder_99 rfl rfl ?_
  refine xr_getI (v := nI (3)) dX10_nextOrder_100 fX10_119 sh172 (by decide) ((wi_ne (by omega)).trans ((wi_ne (by omega)).trans v1)) ?_
  refine xe_iconst (v := nI (1)) dX10_nextOrder_103 xc1 ?_
  refine xn_isub dX10_nextOrder_104 (by decide) ?_
  refine xe_istore (L2 := [(0, .ref 172), (1, .int (nI (1))), (2, .int (nI (2))), (3, .int (nI (1))), (4, .int (nI (2))), (5, .int (nI (2)))]) dX10_nextOrder_105 (by decide) rfl ?_
  refine xe_iload 4 dX10_nextOrder_107 rfl ?_
  refine xe_iload 5 dX10_nextOrder_109 rfl ?_
  refine xn_icmp_ge 153 dX10_nextOrder_111 (by decide) (by omega) (by omega) (fun _ => ?_) (fun q => absurd q (by decide))
  refine xe_iconst (v := nI (1)) dX10_nextOrder_153 xc1 ?_
  exact xe_ret (r := (some (.int (nI (1))))) dX10_nextOrder_154 (Or.inr rfl) (k1)

theorem hNO_3_0 (u : xU) (v1 : u.1 172 3 = nI (3)) (v2 : u.1 181 0 = nI (0)) (v3 : u.1 181 1 = nI (1)) (v4 : u.1 181 2 = nI (2)) : xC mX10_nextOrder [.ref 172] (xmm u) (fun r μ' => ∃ u' : xU, μ' = xmm u' ∧ r = some (.int (nI 1)) ∧ (∀ x, x ≠ 181 → u'.1 x = u.1 x) ∧ u'.2 = u.2 ∧ u'.1 181 0 = nI 0 ∧ u'.1 181 1 = nI 2 ∧ u'.1 181 2 = nI 1) := xC.of xpl10 (Nat.le_of_ble_eq_true rfl) (gNO_3_0 u v1 v2 v3 v4 ⟨_, rfl, rfl, fun x hx => by rw [wi_row hx, wi_row hx], rfl, by rw [wi_nek (by decide), wi_nek (by decide)]; exact v2, by rw [wi_nek (by decide), wi_self], by rw [wi_self]⟩)
theorem gNO_3_1 (u : xU) {Q : Option Value → xM → Prop}  (v1 : u.1 172 3 = nI (3)) (v2 : u.1 181 0 = nI (0)) (v3 : u.1 181 1 = nI (2)) (v4 : u.1 181 2 = nI (1))
    (k1 : Q (some (.int (nI (1)))) (xmm (wi (wi (wi (wi u 181 0 (nI (1))) 181 2 (nI (0))) 181 1 (nI (0))) 181 2 (nI (2))))) : xE mX10_nextOrder 0 [(0, .ref 172)] [] (xmm u) Q := by
  refine xe_aload_n 0 dX10_nextOrder_0 rfl rfl ?_
  refine xr_getI (v := nI (3)) dX10_nextOrder_1 fX10_119 sh172 (by decide) v1 ?_
  refine xe_iconst (v := nI (2)) dX10_nextOrder_4 xc2 ?_
  refine xn_isub dX10_nextOrder_5 (by decide) ?_
  refine xe_istore_n (L2 := [(0, .ref 172), (1, .int (nI (1)))]) dX10_nextOrder_6 rfl (by decide) rfl ?_
  refine xe_iload_n 1 dX10_nextOrder_7 rfl rfl ?_
  refine xn_if_lt 34 dX10_nextOrder_8 (by decide) (by omega) (fun q => absurd q (by omega)) (fun _ => ?_)
  refine xe_aload_n 0 dX10_nextOrder_11 rfl rfl ?_
  refine xr_getR (b := 181) dX10_nextOrder_12 fX10_34 rfl sh172 (by decide) rfl ?_
  refine xe_iload_n 1 dX10_nextOrder_15 rfl rfl ?_
  refine xr_iald (k := 1) (v := nI (2)) dX10_nextOrder_16 sh181 (by decide) (by omega) (by decide) v3 ?_
  refine xe_aload_n 0 dX10_nextOrder_17 rfl rfl ?_
  refine xr_getR (b := 181) dX10_nextOrder_18 fX10_34 rfl sh172 (by decide) rfl ?_
  refine xe_iload_n 1 dX10_nextOrder_21 rfl rfl ?_
  refine xe_iconst (v := nI (1)) dX10_nextOrder_22 xc1 ?_
  refine xn_iadd dX10_nextOrder_23 ?_
  refine xr_iald (k := 2) (v := nI (1)) dX10_nextOrder_24 sh181 (by decide) (by omega) (by decide) v4 ?_
  refine xn_icmp_le 34 dX10_nextOrder_25 (by decide) (by omega) (by omega) (fun q => absurd q (by decide)) (fun _ => ?_)
  refine xn_idec (L2 := [(0, .ref 172), (1, .int (nI (0)))]) 1 dX10_nextOrder_28 rfl (by decide) (by decide) rfl ?_
  refine xe_goto 7 dX10_nextOrder_31 (by decide) ?_
  refine xe_iload_n 1 dX10_nextOrder_7 rfl rfl ?_
  refine xn_if_lt 34 dX10_nextOrder_8 (by decide) (by omega) (fun q => absurd q (by omega)) (fun _ => ?_)
  refine xe_aload_n 0 dX10_nextOrder_11 rfl rfl ?_
  refine xr_getR (b := 181) dX10_nextOrder_12 fX10_34 rfl sh172 (by decide) rfl ?_
  refine xe_iload_n 1 dX10_nextOrder_15 rfl rfl ?_
  refine xr_iald (k := 0) (v := nI (0)) dX10_nextOrder_16 sh181 (by decide) (by omega) (by decide) v2 ?_
  refine xe_aload_n 0 dX10_nextOrder_17 rfl rfl ?_
  refine xr_getR (b := 181) dX10_nextOrder_18 fX10_34 rfl sh172 (by decide) rfl ?_
  refine xe_iload_n 1 dX10_nextOrder_21 rfl rfl ?_
  refine xe_iconst (v := nI (1)) dX10_nextOrder_22 xc1 ?_
  refine xn_iadd dX10_nextOrder_23 ?_
  refine xr_iald (k := 1) (v := nI (2)) dX10_nextOrder_24 sh181 (by decide) (by omega) (by decide) v3 ?_
  refine xn_icmp_le 34 dX10_nextOrder_25 (by decide) (by omega) (by omega) (fun _ => ?_) (fun q => absurd q (by decide))
  refine xe_iload_n 1 dX10_nextOrder_34 rfl rfl ?_
  refine xn_if_ge 40 dX10_nextOrder_35 (by decide) (by omega) (fun _ => ?_) (fun q => absurd (Nat.zero_le _) q)
  refine xe_aload_n 0 dX10_nextOrder_40 rfl rfl ?_
  refine xr_getI (v := nI (3)) dX10_nextOrder_41 fX10_119 sh172 (by decide) v1 ?_
  refine xe_iconst (v := nI (1)) dX10_nextOrder_44 xc1 ?_
  refine xn_isub dX10_nextOrder_45 (by decide) ?_
  refine xe_istore_n (L2 := [(0, .ref 172), (1, .int (nI (0))), (2, .int (nI (2)))]) dX10_nextOrder_46 rfl (by decide) rfl ?_
  refine xe_aload_n 0 dX10_nextOrder_47 rfl rfl ?_
  refine xr_getR (b := 181) dX10_nextOrder_48 fX10_34 rfl sh172 (by decide) rfl ?_
  refine xe_iload_n 2 dX10_nextOrder_51 rfl rfl ?_
  refine xr_iald (k := 2) (v := nI (1)) dX10_nextOrder_52 sh181 (by decide) (by omega) (by decide) v4 ?_
  refine xe_aload_n 0 dX10_nextOrder_53 rfl rfl ?_
  refine xr_getR (b := 181) dX10_nextOrder_54 fX10_34 rfl sh172 (by decide) rfl ?_
  refine xe_iload_n 1 dX10_nextOrder_57 rfl rfl ?_
  refine xr_iald (k := 0) (v := nI (0)) dX10_nextOrder_58 sh181 (by decide) (by omega) (by decide) v2 ?_
  refine xn_icmp_ge 68 dX10_nextOrder_59 (by decide) (by omega) (by omega) (fun _ => ?_) (fun q => absurd q (by decide))
  refine xe_aload_n 0 dX10_nextOrder_68 rfl rfl ?_
  refine xr_getR (b := 181) dX10_nextOrder_69 fX10_34 rfl sh172 (by decide) rfl ?_
  refine xe_iload_n 1 dX10_nextOrder_72 rfl rfl ?_
  refine xr_iald (k := 0) (v := nI (0)) dX10_nextOrder_73 sh181 (by decide) (by omega) (by decide) v2 ?_
  refine xe_istore_n (L2 := [(0, .ref 172), (1, .int (nI (0))), (2, .int (nI (2))), (3, .int (nI (0)))]) dX10_nextOrder_74 rfl (by decide) rfl ?_
  refine xe_aload_n 0 dX10_nextOrder_75 rfl rfl ?_
  refine xr_getR (b := 181) dX10_nextOrder_76 fX10_34 rfl sh172 (by decide) rfl ?_
  refine xe_iload_n 1 dX10_nextOrder_79 rfl rfl ?_
  refine xe_aload_n 0 dX10_nextOrder_80 rfl rfl ?_
  refine xr_getR (b := 181) dX10_nextOrder_81 fX10_34 rfl sh172 (by decide) rfl ?_
  refine xe_iload_n 2 dX10_nextOrder_84 rfl rfl ?_
  refine xr_iald (k := 2) (v := nI (1)) dX10_nextOrder_85 sh181 (by decide) (by omega) (by decide) v4 ?_
  refine xr_iast (k := 0) dX10_nextOrder_86 sh181 (by decide) (by omega) (by decide) ?_
  refine xe_aload_n 0 dX10_nextOrder_87 rfl rfl ?_
  refine xr_getR (b := 181) dX10_nextOrder_88 fX10_34 rfl sh172 (by decide) rfl ?_
  refine xe_iload_n 2 dX10_nextOrder_91 rfl rfl ?_
  refine xe_iload_n 3 dX10_nextOrder_92 rfl rfl ?_
  refine xr_iast (k := 2) dX10_nextOrder_93 sh181 (by decide) (by omega) (by decide) ?_
  refine xe_iload_n 1 dX10_nextOrder_94 rfl rfl ?_
  refine xe_iconst (v := nI (1)) dX10_nextOrder_95 xc1 ?_
  refine xn_iadd dX10_nextOrder_96 ?_
  refine xe_istore (L2 := [(0, .ref 172), (1, .int (nI (0))), (2, .int (nI (2))), (3, .int (nI (0))), (4, .int (nI (1)))]) dX10_nextOrder_97 (by decide) rfl ?_
  refine xe_aload_n 0 dX10_nextOrder_99 rfl rfl ?_
  refine xr_getI (v := nI (3)) dX10_nextOrder_100 fX10_119 sh172 (by decide) ((wi_ne (by omega)).trans ((wi_ne (by omega)).trans v1)) ?_
  refine xe_iconst (v := nI (1)) dX10_nextOrder_103 xc1 ?_
  refine xn_isub dX10_nextOrder_104 (by decide) ?_
  refine xe_istore (L2 := [(0, .ref 172), (1, .int (nI (0))), (2, .int (nI (2))), (3, .int (nI (0))), (4, .int (nI (1))), (5, .int (nI (2)))]) dX10_nextOrder_105 (by decide) rfl ?_
  refine xe_iload 4 dX10_nextOrder_107 rfl ?_
  refine xe_iload 5 dX10_nextOrder_109 rfl ?_
  refine xn_icmp_ge 153 dX10_nextOrder_111 (by decide) (by omega) (by omega) (fun q => absurd q (by decide)) (fun _ => ?_)
  refine xe_aload_n 0 dX10_nextOrder_114 rfl rfl ?_
  refine xr_getR (b := 181) dX10_nextOrder_115 fX10_34 rfl sh172 (by decide) rfl ?_
  refine xe_iload 4 dX10_nextOrder_118 rfl ?_
  refine xr_iald (k := 1) (v := nI (2)) dX10_nextOrder_120 sh181 (by decide) (by omega) (by decide) ((wi_nek (by decide)).trans ((wi_nek (by decide)).trans v3)) ?_
  refine xe_istore_n (L2 := [(0, .ref 172), (1, .int (nI (0))), (2, .int (nI (2))), (3, .int (nI (2))), (4, .int (nI (1))), (5, .int (nI (2)))]) dX10_nextOrder_121 rfl (by decide) rfl ?_
  refine xe_aload_n 0 dX10_nextOrder_122 rfl rfl ?_
  refine xr_getR (b := 181) dX10_nextOrder_123 fX10_34 rfl sh172 (by decide) rfl ?_
  refine xe_iload 4 dX10_nextOrder_126 rfl ?_
  refine xe_aload_n 0 dX10_nextOrder_128 rfl rfl ?_
  refine xr_getR (b := 181) dX10_nextOrder_129 fX10_34 rfl sh172 (by decide) rfl ?_
  refine xe_iload 5 dX10_nextOrder_132 rfl ?_
  refine xr_iald (k := 2) (v := nI (0)) dX10_nextOrder_134 sh181 (by decide) (by omega) (by decide) wi_self ?_
  refine xr_iast (k := 1) dX10_nextOrder_135 sh181 (by decide) (by omega) (by decide) ?_
  refine xe_aload_n 0 dX10_nextOrder_136 rfl rfl ?_
  refine xr_getR (b := 181) dX10_nextOrder_137 fX10_34 rfl sh172 (by decide) rfl ?_
  refine xe_iload 5 dX10_nextOrder_140 rfl ?_
  refine xe_iload_n 3 dX10_nextOrder_142 rfl rfl ?_
  refine xr_iast (k := 2) dX10_nextOrder_143 sh181 (by decide) (by omega) (by decide) ?_
  refine xn_iinc (c := 1) (L2 := [(0, .ref 172), (1, .int (nI (0))), (2, .int (nI (2))), (3, .int (nI (2))), (4, .int (nI (2))), (5, .int (nI (2)))]) 4 dX10_nextOrder_144 rfl (by decide) rfl ?_
  refine xn_idec (L2 := [(0, .ref 172), (1, .int (nI (0))), (2, .int (nI (2))), (3, .int (nI (2))), (4, .int (nI (2))), (5, .int (nI (1)))]) 5 dX10_nextOrder_147 rfl (by decide) (by decide) rfl ?_
  refine xe_goto 107 dX10_nextOrder_150 (by decide) ?_
  refine xe_iload 4 dX10_nextOrder_107 rfl ?_
  refine xe_iload 5 dX10_nextOrder_109 rfl ?_
  refine xn_icmp_ge 153 dX10_nextOrder_111 (by decide) (by omega) (by omega) (fun _ => ?_) (fun q => absurd q (by decide))
  refine xe_iconst (v := nI (1)) dX10_nextOrder_153 xc1 ?_
  exact xe_ret (r := (some (.int (nI (1))))) dX10_nextOrder_154 (Or.inr rfl) (k1)

theorem hNO_3_1 (u : xU) (v1 : u.1 172 3 = nI (3)) (v2 : u.1 181 0 = nI (0)) (v3 : u.1 181 1 = nI (2)) (v4 : u.1 181 2 = nI (1)) : xC mX10_nextOrder [.ref 172] (xmm u) (fun r μ' => ∃ u' : xU, μ' = xmm u' ∧ r = some (.int (nI 1)) ∧ (∀ x, x ≠ 181 → u'.1 x = u.1 x) ∧ u'.2 = u.2 ∧ u'.1 181 0 = nI 1 ∧ u'.1 181 1 = nI 0 ∧ u'.1 181 2 = nI 2) := xC.of xpl10 (Nat.le_of_ble_eq_true rfl) (gNO_3_1 u v1 v2 v3 v4 ⟨_, rfl, rfl, fun x hx => by rw [wi_row hx, wi_row hx, wi_row hx, wi_row hx], rfl, by rw [wi_nek (by decide), wi_nek (by decide), wi_nek (by decide), wi_self], by rw [wi_nek (by decide), wi_self], by rw [wi_self]⟩)
theorem gNO_3_2 (u : xU) {Q : Option Value → xM → Prop}  (v1 : u.1 172 3 = nI (3)) (v2 : u.1 181 0 = nI (1)) (v3 : u.1 181 1 = nI (0)) (v4 : u.1 181 2 = nI (2))
    (k1 : Q (some (.int (nI (1)))) (xmm (wi (wi u 181 1 (nI (2))) 181 2 (nI (0))))) : xE mX10_nextOrder 0 [(0, .ref 172)] [] (xmm u) Q := by
  refine xe_aload_n 0 dX10_nextOrder_0 rfl rfl ?_
  refine xr_getI (v := nI (3)) dX10_nextOrder_1 fX10_119 sh172 (by decide) v1 ?_
  refine xe_iconst (v := nI (2)) dX10_nextOrder_4 xc2 ?_
  refine xn_isub dX10_nextOrder_5 (by decide) ?_
  refine xe_istore_n (L2 := [(0, .ref 172), (1, .int (nI (1)))]) dX10_nextOrder_6 rfl (by decide) rfl ?_
  refine xe_iload_n 1 dX10_nextOrder_7 rfl rfl ?_
  refine xn_if_lt 34 dX10_nextOrder_8 (by decide) (by omega) (fun q => absurd q (by omega)) (fun _ => ?_)
  refine xe_aload_n 0 dX10_nextOrder_11 rfl rfl ?_
  refine xr_getR (b := 181) dX10_nextOrder_12 fX10_34 rfl sh172 (by decide) rfl ?_
  refine xe_iload_n 1 dX10_nextOrder_15 rfl rfl ?_
  refine xr_iald (k := 1) (v := nI (0)) dX10_nextOrder_16 sh181 (by decide) (by omega) (by decide) v3 ?_
  refine xe_aload_n 0 dX10_nextOrder_17 rfl rfl ?_
  refine xr_getR (b := 181) dX10_nextOrder_18 fX10_34 rfl sh172 (by decide) rfl ?_
  refine xe_iload_n 1 dX10_nextOrder_21 rfl rfl ?_
  refine xe_iconst (v := nI (1)) dX10_nextOrder_22 xc1 ?_
  refine xn_iadd dX10_nextOrder_23 ?_
  refine xr_iald (k := 2) (v := nI (2)) dX10_nextOrder_24 sh181 (by decide) (by omega) (by decide) v4 ?_
  refine xn_icmp_le 34 dX10_nextOrder_25 (by decide) (by omega) (by omega) (fun _ => ?_) (fun q => absurd q (by decide))
  refine xe_iload_n 1 dX10_nextOrder_34 rfl rfl ?_
  refine xn_if_ge 40 dX10_nextOrder_35 (by decide) (by omega) (fun _ => ?_) (fun q => absurd (Nat.zero_le _) q)
  refine xe_aload_n 0 dX10_nextOrder_40 rfl rfl ?_
  refine xr_getI (v := nI (3)) dX10_nextOrder_41 fX10_119 sh172 (by decide) v1 ?_
  refine xe_iconst (v := nI (1)) dX10_nextOrder_44 xc1 ?_
  refine xn_isub dX10_nextOrder_45 (by decide) ?_
  refine xe_istore_n (L2 := [(0, .ref 172), (1, .int (nI (1))), (2, .int (nI (2)))]) dX10_nextOrder_46 rfl (by decide) rfl ?_
  refine xe_aload_n 0 dX10_nextOrder_47 rfl rfl ?_
  refine xr_getR (b := 181) dX10_nextOrder_48 fX10_34 rfl sh172 (by decide) rfl ?_
  refine xe_iload_n 2 dX10_nextOrder_51 rfl rfl ?_
  refine xr_iald (k := 2) (v := nI (2)) dX10_nextOrder_52 sh181 (by decide) (by omega) (by decide) v4 ?_
  refine xe_aload_n 0 dX10_nextOrder_53 rfl rfl ?_
  refine xr_getR (b := 181) dX10_nextOrder_54 fX10_34 rfl sh172 (by decide) rfl ?_
  refine xe_iload_n 1 dX10_nextOrder_57 rfl rfl ?_
  refine xr_iald (k := 1) (v := nI (0)) dX10_nextOrder_58 sh181 (by decide) (by omega) (by decide) v3 ?_
  refine xn_icmp_ge 68 dX10_nextOrder_59 (by decide) (by omega) (by omega) (fun _ => ?_) (fun q => absurd q (by decide))
  refine xe_aload_n 0 dX10_nextOrder_68 rfl rfl ?_
  refine xr_getR (b := 181) dX10_nextOrder_69 fX10_34 rfl sh172 (by decide) rfl ?_
  refine xe_iload_n 1 dX10_nextOrder_72 rfl rfl ?_
  refine xr_iald (k := 1) (v := nI (0)) dX10_nextOrder_73 sh181 (by decide) (by omega) (by decide) v3 ?_
  refine xe_istore_n (L2 := [(0, .ref 172), (1, .int (nI (1))), (2, .int (nI (2))), (3, .int (nI (0)))]) dX10_nextOrder_74 rfl (by decide) rfl ?_
  refine xe_aload_n 0 dX10_nextOrder_75 rfl rfl ?_
  refine xr_getR (b := 181) dX10_nextOrder_76 fX10_34 rfl sh172 (by decide) rfl ?_
  refine xe_iload_n 1 dX10_nextOrder_79 rfl rfl ?_
  refine xe_aload_n 0 dX10_nextOrder_80 rfl rfl ?_
  refine xr_getR (b := 181) dX10_nextOrder_81 fX10_34 rfl sh172 (by decide) rfl ?_
  refine xe_iload_n 2 dX10_nextOrder_84 rfl rfl ?_
  refine xr_iald (k := 2) (v := nI (2)) dX10_nextOrder_85 sh181 (by decide) (by omega) (by decide) v4 ?_
  refine xr_iast (k := 1) dX10_nextOrder_86 sh181 (by decide) (by omega) (by decide) ?_
  refine xe_aload_n 0 dX10_nextOrder_87 rfl rfl ?_
  refine xr_getR (b := 181) dX10_nextOrder_88 fX10_34 rfl sh172 (by decide) rfl ?_
  refine xe_iload_n 2 dX10_nextOrder_91 rfl rfl ?_
  refine xe_iload_n 3 dX10_nextOrder_92 rfl rfl ?_
  refine xr_iast (k := 2) dX10_nextOrder_93 sh181 (by decide) (by omega) (by decide) ?_
  refine xe_iload_n 1 dX10_nextOrder_94 rfl rfl ?_
  refine xe_iconst (v := nI (1)) dX10_nextOrder_95 xc1 ?_
  refine xn_iadd dX10_nextOrder_96 ?_
  refine xe_istore (L2 := [(0, .ref 172), (1, .int (nI (1))), (2, .int (nI (2))), (3, .int (nI (0))), (4, .int (nI (2)))]) dX10_nextOrder_97 (by decide) rfl ?_
  refine xe_aload_n 0 dX10_nextOrder_99 rfl rfl ?_
  refine xr_getI (v := nI (3)) dX10_nextOrder_100 fX10_119 sh172 (by decide) ((wi_ne (by omega)).trans ((wi_ne (by omega)).trans v1)) ?_
  refine xe_iconst (v := nI (1)) dX10_nextOrder_103 xc1 ?_
  refine xn_isub dX10_nextOrder_104 (by decide) ?_
  refine xe_istore (L2 := [(0, .ref 172), (1, .int (nI (1))), (2, .int (nI (2))), (3, .int (nI (0))), (4, .int (nI (2))), (5, .int (nI (2)))]) dX10_nextOrder_105 (by decide) rfl ?_
  refine xe_iload 4 dX10_nextOrder_107 rfl ?_
  refine xe_iload 5 dX10_nextOrder_109 rfl ?_
  refine xn_icmp_ge 153 dX10_nextOrder_111 (by decide) (by omega) (by omega) (fun _ => ?_) (fun q => absurd q (by decide))
  refine xe_iconst (v := nI (1)) dX10_nextOrder_153 xc1 ?_
  exact xe_ret (r := (some (.int (nI (1))))) dX10_nextOrder_154 (Or.inr rfl) (k1)

theorem hNO_3_2 (u : xU) (v1 : u.1 172 3 = nI (3)) (v2 : u.1 181 0 = nI (1)) (v3 : u.1 181 1 = nI (0)) (v4 : u.1 181 2 = nI (2)) : xC mX10_nextOrder [.ref 172] (xmm u) (fun r μ' => ∃ u' : xU, μ' = xmm u' ∧ r = some (.int (nI 1)) ∧ (∀ x, x ≠ 181 → u'.1 x = u.1 x) ∧ u'.2 = u.2 ∧ u'.1 181 0 = nI 1 ∧ u'.1 181 1 = nI 2 ∧ u'.1 181 2 = nI 0) := xC.of xpl10 (Nat.le_of_ble_eq_true rfl) (gNO_3_2 u v1 v2 v3 v4 ⟨_, rfl, rfl, fun x hx => by rw [wi_row hx, wi_row hx], rfl, by rw [wi_nek (by decide), wi_nek (by decide)]; exact v2, by rw [wi_nek (by decide), wi_self], by rw [wi_self]⟩)
theorem gNO_3_3 (u : xU) {Q : Option Value → xM → Prop}  (v1 : u.1 172 3 = nI (3)) (v2 : u.1 181 0 = nI (1)) (v3 : u.1 181 1 = nI (2)) (v4 : u.1 181 2 = nI (0))
    (k1 : Q (some (.int (nI (1)))) (xmm (wi (wi (wi (wi u 181 0 (nI (2))) 181 1 (nI (1))) 181 1 (nI (0))) 181 2 (nI (1))))) : xE mX10_nextOrder 0 [(0, .ref 172)] [] (xmm u) Q := by
  refine xe_aload_n 0 dX10_nextOrder_0 rfl rfl ?_
  refine xr_getI (v := nI (3)) dX10_nextOrder_1 fX10_119 sh172 (by decide) v1 ?_
  refine xe_iconst (v := nI (2)) dX10_nextOrder_4 xc2 ?_
  refine xn_isub dX10_nextOrder_5 (by decide) ?_
  refine xe_istore_n (L2 := [(0, .ref 172), (1, .int (nI (1)))]) dX10_nextOrder_6 rfl (by decide) rfl ?_
  refine xe_iload_n 1 dX10_nextOrder_7 rfl rfl ?_
  refine xn_if_lt 34 dX10_nextOrder_8 (by decide) (by omega) (fun q => absurd q (by omega)) (fun _ => ?_)
  refine xe_aload_n 0 dX10_nextOrder_11 rfl rfl ?_
  refine xr_getR (b := 181) dX10_nextOrder_12 fX10_34 rfl sh172 (by decide) rfl ?_
  refine xe_iload_n 1 dX10_nextOrder_15 rfl rfl ?_
  refine xr_iald (k := 1) (v := nI (2)) dX10_nextOrder_16 sh181 (by decide) (by omega) (by decide) v3 ?_
  refine xe_aload_n 0 dX10_nextOrder_17 rfl rfl ?_
  refine xr_getR (b := 181) dX10_nextOrder_18 fX10_34 rfl sh172 (by decide) rfl ?_
  refine xe_iload_n 1 dX10_nextOrder_21 rfl rfl ?_
  refine xe_iconst (v := nI (1)) dX10_nextOrder_22 xc1 ?_
  refine xn_iadd dX10_nextOrder_23 ?_
  refine xr_iald (k := 2) (v := nI (0)) dX10_nextOrder_24 sh181 (by decide) (by omega) (by decide) v4 ?_
  refine xn_icmp_le 34 dX10_nextOrder_25 (by decide) (by omega) (by omega) (fun q => absurd q (by decide)) (fun _ => ?_)
  refine xn_idec (L2 := [(0, .ref 172), (1, .int (nI (0)))]) 1 dX10_nextOrder_28 rfl (by decide) (by decide) rfl ?_
  refine xe_goto 7 dX10_nextOrder_31 (by decide) ?_
  refine xe_iload_n 1 dX10_nextOrder_7 rfl rfl ?_
  refine xn_if_lt 34 dX10_nextOrder_8 (by decide) (by omega) (fun q => absurd q (by omega)) (fun _ => ?_)
  refine xe_aload_n 0 dX10_nextOrder_11 rfl rfl ?_
  refine xr_getR (b := 181) dX10_nextOrder_12 fX10_34 rfl sh172 (by decide) rfl ?_
  refine xe_iload_n 1 dX10_nextOrder_15 rfl rfl ?_
  refine xr_iald (k := 0) (v := nI (1)) dX10_nextOrder_16 sh181 (by decide) (by omega) (by decide) v2 ?_
  refine xe_aload_n 0 dX10_nextOrder_17 rfl rfl ?_
  refine xr_getR (b := 181) dX10_nextOrder_18 fX10_34 rfl sh172 (by decide) rfl ?_
  refine xe_iload_n 1 dX10_nextOrder_21 rfl rfl ?_
  refine xe_iconst (v := nI (1)) dX10_nextOrder_22 xc1 ?_
  refine xn_iadd dX10_nextOrder_23 ?_
  refine xr_iald (k := 1) (v := nI (2)) dX10_nextOrder_24 sh181 (by decide) (by omega) (by decide) v3 ?_
  refine xn_icmp_le 34 dX10_nextOrder_25 (by decide) (by omega) (by omega) (fun _ => ?_) (fun q => absurd q (by decide))
  refine xe_iload_n 1 dX10_nextOrder_34 rfl rfl ?_
  refine xn_if_ge 40 dX10_nextOrder_35 (by decide) (by omega) (fun _ => ?_) (fun q => absurd (Nat.zero_le _) q)
  refine xe_aload_n 0 dX10_nextOrder_40 rfl rfl ?_
  refine xr_getI (v := nI (3)) dX10_nextOrder_41 fX10_119 sh172 (by decide) v1 ?_
  refine xe_iconst (v := nI (1)) dX10_nextOrder_44 xc1 ?_
  refine xn_isub dX10_nextOrder_45 (by decide) ?_
  refine xe_istore_n (L2 := [(0, .ref 172), (1, .int (nI (0))), (2, .int (nI (2)))]) dX10_nextOrder_46 rfl (by decide) rfl ?_
  refine xe_aload_n 0 dX10_nextOrder_47 rfl rfl ?_
  refine xr_getR (b := 181) dX10_nextOrder_48 fX10_34 rfl sh172 (by decide) rfl ?_
  refine xe_iload_n 2 dX10_nextOrder_51 rfl rfl ?_
  refine xr_iald (k := 2) (v := nI (0)) dX10_nextOrder_52 sh181 (by decide) (by omega) (by decide) v4 ?_
  refine xe_aload_n 0 dX10_nextOrder_53 rfl rfl ?_
  refine xr_getR (b := 181) dX10_nextOrder_54 fX10_34 rfl sh172 (by decide) rfl ?_
  refine xe_iload_n 1 dX10_nextOrder_57 rfl rfl ?_
  refine xr_iald (k := 0) (v := nI (1)) dX10_nextOrder_58 sh181 (by decide) (by omega) (by decide) v2 ?_
  refine xn_icmp_ge 68 dX10_nextOrder_59 (by decide) (by omega) (by omega) (fun q => absurd q (by decide)) (fun _ => ?_)
  refine xn_idec (L2 := [(0, .ref 172), (1, .int (nI (0))), (2, .int (nI (1)))]) 2 dX10_nextOrder_62 rfl (by decide) (by decide) rfl ?_
  refine xe_goto 47 dX10_nextOrder_65 (by decide) ?_
  refine xe_aload_n 0 dX10_nextOrder_47 rfl rfl ?_
  refine xr_getR (b := 181) dX10_nextOrder_48 fX10_34 rfl sh172 (by decide) rfl ?_
  refine xe_iload_n 2 dX10_nextOrder_51 rfl rfl ?_
  refine xr_iald (k := 1) (v := nI (2)) dX10_nextOrder_52 sh181 (by decide) (by omega) (by decide) v3 ?_
  refine xe_aload_n 0 dX10_nextOrder_53 rfl rfl ?_
  refine xr_getR (b := 181) dX10_nextOrder_54 fX10_34 rfl sh172 (by decide) rfl ?_
  refine xe_iload_n 1 dX10_nextOrder_57 rfl rfl ?_
  refine xr_iald (k := 0) (v := nI (1)) dX10_nextOrder_58 sh181 (by decide) (by omega) (by decide) v2 ?_
  refine xn_icmp_ge 68 dX10_nextOrder_59 (by decide) (by omega) (by omega) (fun _ => ?_) (fun q => absurd q (by decide))
  refine xe_aload_n 0 dX10_nextOrder_68 rfl rfl ?_
  refine xr_getR (b := 181) dX10_nextOrder_69 fX10_34 rfl sh172 (by decide) rfl ?_
  refine xe_iload_n 1 dX10_nextOrder_72 rfl rfl ?_
  refine xr_iald (k := 0) (v := nI (1)) dX10_nextOrder_73 sh181 (by decide) (by omega) (by decide) v2 ?_
  refine xe_istore_n (L2 := [(0, .ref 172), (1, .int (nI (0))), (2, .int (nI (1))), (3, .int (nI (1)))]) dX10_nextOrder_74 rfl (by decide) rfl ?_
  refine xe_aload_n 0 dX10_nextOrder_75 rfl rfl ?_
  refine xr_getR (b := 181) dX10_nextOrder_76 fX10_34 rfl sh172 (by decide) rfl ?_
  refine xe_iload_n 1 dX10_nextOrder_79 rfl rfl ?_
  refine xe_aload_n 0 dX10_nextOrder_80 rfl rfl ?_
  refine xr_getR (b := 181) dX10_nextOrder_81 fX10_34 rfl sh172 (by decide) rfl ?_
  refine xe_iload_n 2 dX10_nextOrder_84 rfl rfl ?_
  refine xr_iald (k := 1) (v := nI (2)) dX10_nextOrder_85 sh181 (by decide) (by omega) (by decide) v3 ?_
  refine xr_iast (k := 0) dX10_nextOrder_86 sh181 (by decide) (by omega) (by decide) ?_
  refine xe_aload_n 0 dX10_nextOrder_87 rfl rfl ?_
  refine xr_getR (b := 181) dX10_nextOrder_88 fX10_34 rfl sh172 (by decide) rfl ?_
  refine xe_iload_n 2 dX10_nextOrder_91 rfl rfl ?_
  refine xe_iload_n 3 dX10_nextOrder_92 rfl rfl ?_
  refine xr_iast (k := 1) dX10_nextOrder_93 sh181 (by decide) (by omega) (by decide) ?_
  refine xe_iload_n 1 dX10_nextOrder_94 rfl rfl ?_
  refine xe_iconst (v := nI (1)) dX10_nextOrder_95 xc1 ?_
  refine xn_iadd dX10_nextOrder_96 ?_
  refine xe_istore (L2 := [(0, .ref 172), (1, .int (nI (0))), (2, .int (nI (1))), (3, .int (nI (1))), (4, .int (nI (1)))]) dX10_nextOrder_97 (by decide) rfl ?_
  refine xe_aload_n 0 dX10_nextOrder_99 rfl rfl ?_
  refine xr_getI (v := nI (3)) dX10_nextOrder_100 fX10_119 sh172 (by decide) ((wi_ne (by omega)).trans ((wi_ne (by omega)).trans v1)) ?_
  refine xe_iconst (v := nI (1)) dX10_nextOrder_103 xc1 ?_
  refine xn_isub dX10_nextOrder_104 (by decide) ?_
  refine xe_istore (L2 := [(0, .ref 172), (1, .int (nI (0))), (2, .int (nI (1))), (3, .int (nI (1))), (4, .int (nI (1))), (5, .int (nI (2)))]) dX10_nextOrder_105 (by decide) rfl ?_
  refine xe_iload 4 dX10_nextOrder_107 rfl ?_
  refine xe_iload 5 dX10_nextOrder_109 rfl ?_
  refine xn_icmp_ge 153 dX10_nextOrder_111 (by decide) (by omega) (by omega) (fun q => absurd q (by decide)) (fun _ => ?_)
  refine xe_aload_n 0 dX10_nextOrder_114 rfl rfl ?_
  refine xr_getR (b := 181) dX10_nextOrder_115 fX10_34 rfl sh172 (by decide) rfl ?_
  refine xe_iload 4 dX10_nextOrder_118 rfl ?_
  refine xr_iald (k := 1) (v := nI (1)) dX10_nextOrder_120 sh181 (by decide) (by omega) (by decide) wi_self ?_
  refine xe_istore_n (L2 := [(0, .ref 172), (1, .int (nI (0))), (2, .int (nI (1))), (3, .int (nI (1))), (4, .int (nI (1))), (5, .int (nI (2)))]) dX10_nextOrder_121 rfl (by decide) rfl ?_
  refine xe_aload_n 0 dX10_nextOrder_122 rfl rfl ?_
  refine xr_getR (b := 181) dX10_nextOrder_123 fX10_34 rfl sh172 (by decide) rfl ?_
  refine xe_iload 4 dX10_nextOrder_126 rfl ?_
  refine xe_aload_n 0 dX10_nextOrder_128 rfl rfl ?_
  refine xr_getR (b := 181) dX10_nextOrder_129 fX10_34 rfl sh172 (by decide) rfl ?_
  refine xe_iload 5 dX10_nextOrder_132 rfl ?_
  refine xr_iald (k := 2) (v := nI (0)) dX10_nextOrder_134 sh181 (by decide) (by omega) (by decide) ((wi_nek (by decide)).trans ((wi_nek (by decide)).trans v4)) ?_
  refine xr_iast (k := 1) dX10_nextOrder_135 sh181 (by decide) (by omega) (by decide) ?_
  refine xe_aload_n 0 dX10_nextOrder_136 rfl rfl ?_
  refine xr_getR (b := 181) dX10_nextOrder_137 fX10_34 rfl sh172 (by decide) rfl ?_
  refine xe_iload 5 dX10_nextOrder_140 rfl ?_
  refine xe_iload_n 3 dX10_nextOrder_142 rfl rfl ?_
  refine xr_iast (k := 2) dX10_nextOrder_143 sh181 (by decide) (by omega) (by decide) ?_
  refine xn_iinc (c := 1) (L2 := [(0, .ref 172), (1, .int (nI (0))), (2, .int (nI (1))), (3, .int (nI (1))), (4, .int (nI (2))), (5, .int (nI (2)))]) 4 dX10_nextOrder_144 rfl (by decide) rfl ?_
  refine xn_idec (L2 := [(0, .ref 172), (1, .int (nI (0))), (2, .int (nI (1))), (3, .int (nI (1))), (4, .int (nI (2))), (5, .int (nI (1)))]) 5 dX10_nextOrder_147 rfl (by decide) (by decide) rfl ?_
  refine xe_goto 107 dX10_nextOrder_150 (by decide) ?_
  refine xe_iload 4 dX10_nextOrder_107 rfl ?_
  refine xe_iload 5 dX10_nextOrder_109 rfl ?_
  refine xn_icmp_ge 153 dX10_nextOrder_111 (by decide) (by omega) (by omega) (fun _ => ?_) (fun q => absurd q (by decide))
  refine xe_iconst (v := nI (1)) dX10_nextOrder_153 xc1 ?_
  exact xe_ret (r := (some (.int (nI (1))))) dX10_nextOrder_154 (Or.inr rfl) (k1)

theorem hNO_3_3 (u : xU) (v1 : u.1 172 3 = nI (3)) (v2 : u.1 181 0 = nI (1)) (v3 : u.1 181 1 = nI (2)) (v4 : u.1 181 2 = nI (0)) : xC mX10_nextOrder [.ref 172] (xmm u) (fun r μ' => ∃ u' : xU, μ' = xmm u' ∧ r = some (.int (nI 1)) ∧ (∀ x, x ≠ 181 → u'.1 x = u.1 x) ∧ u'.2 = u.2 ∧ u'.1 181 0 = nI 2 ∧ u'.1 181 1 = nI 0 ∧ u'.1 181 2 = nI 1) := xC.of xpl10 (Nat.le_of_ble_eq_true rfl) (gNO_3_3 u v1 v2 v3 v4 ⟨_, rfl, rfl, fun x hx => by rw [wi_row hx, wi_row hx, wi_row hx, wi_row hx], rfl, by rw [wi_nek (by decide), wi_nek (by decide), wi_nek (by decide), wi_self], by rw [wi_nek (by decide), wi_self], by rw [wi_self]⟩)
theorem gNO_3_4 (u : xU) {Q : Option Value → xM → Prop}  (v1 : u.1 172 3 = nI (3)) (v2 : u.1 181 0 = nI (2)) (v3 : u.1 181 1 = nI (0)) (v4 : u.1 181 2 = nI (1))
    (k1 : Q (some (.int (nI (1)))) (xmm (wi (wi u 181 1 (nI (1))) 181 2 (nI (0))))) : xE mX10_nextOrder 0 [(0, .ref 172)] [] (xmm u) Q := by
  refine xe_aload_n 0 dX10_nextOrder_0 rfl rfl ?_
  refine xr_getI (v := nI (3)) dX10_nextOrder_1 fX10_119 sh172 (by decide) v1 ?_
  refine xe_iconst (v := nI (2)) dX10_nextOrder_4 xc2 ?_
  refine xn_isub dX10_nextOrder_5 (by decide) ?_
  refine xe_istore_n (L2 := [(0, .ref 172), (1, .int (nI (1)))]) dX10_nextOrder_6 rfl (by decide) rfl ?_
  refine xe_iload_n 1 dX10_nextOrder_7 rfl rfl ?_
  refine xn_if_lt 34 dX10_nextOrder_8 (by decide) (by omega) (fun q => absurd q (by omega)) (fun _ => ?_)
  refine xe_aload_n 0 dX10_nextOrder_11 rfl rfl ?_
  refine xr_getR (b := 181) dX10_nextOrder_12 fX10_34 rfl sh172 (by decide) rfl ?_
  refine xe_iload_n 1 dX10_nextOrder_15 rfl rfl ?_
  refine xr_iald (k := 1) (v := nI (0)) dX10_nextOrder_16 sh181 (by decide) (by omega) (by decide) v3 ?_
  refine xe_aload_n 0 dX10_nextOrder_17 rfl rfl ?_
  refine xr_getR (b := 181) dX10_nextOrder_18 fX10_34 rfl sh172 (by decide) rfl ?_
  refine xe_iload_n 1 dX10_nextOrder_21 rfl rfl ?_
  refine xe_iconst (v := nI (1)) dX10_nextOrder_22 xc1 ?_
  refine xn_iadd dX10_nextOrder_23 ?_
  refine xr_iald (k := 2) (v := nI (1)) dX10_nextOrder_24 sh181 (by decide) (by omega) (by decide) v4 ?_
  refine xn_icmp_le 34 dX10_nextOrder_25 (by decide) (by omega) (by omega) (fun _ => ?_) (fun q => absurd q (by decide))
  refine xe_iload_n 1 dX10_nextOrder_34 rfl rfl ?_
  refine xn_if_ge 40 dX10_nextOrder_35 (by decide) (by omega) (fun _ => ?_) (fun q => absurd (Nat.zero_le _) q)
  refine xe_aload_n 0 dX10_nextOrder_40 rfl rfl ?_
  refine xr_getI (v := nI (3)) dX10_nextOrder_41 fX10_119 sh172 (by decide) v1 ?_
  refine xe_iconst (v := nI (1)) dX10_nextOrder_44 xc1 ?_
  refine xn_isub dX10_nextOrder_45 (by decide) ?_
  refine xe_istore_n (L2 := [(0, .ref 172), (1, .int (nI (1))), (2, .int (nI (2)))]) dX10_nextOrder_46 rfl (by decide) rfl ?_
  refine xe_aload_n 0 dX10_nextOrder_47 rfl rfl ?_
  refine xr_getR (b := 181) dX10_nextOrder_48 fX10_34 rfl sh172 (by decide) rfl ?_
  refine xe_iload_n 2 dX10_nextOrder_51 rfl rfl ?_
  refine xr_iald (k := 2) (v := nI (1)) dX10_nextOrder_52 sh181 (by decide) (by omega) (by decide) v4 ?_
  refine xe_aload_n 0 dX10_nextOrder_53 rfl rfl ?_
  refine xr_getR (b := 181) dX10_nextOrder_54 fX10_34 rfl sh172 (by decide) rfl ?_
  refine xe_iload_n 1 dX10_nextOrder_57 rfl rfl ?_
  refine xr_iald (k := 1) (v := nI (0)) dX10_nextOrder_58 sh181 (by decide) (by omega) (by decide) v3 ?_
  refine xn_icmp_ge 68 dX10_nextOrder_59 (by decide) (by omega) (by omega) (fun _ => ?_) (fun q => absurd q (by decide))
  refine xe_aload_n 0 dX10_nextOrder_68 rfl rfl ?_
  refine xr_getR (b := 181) dX10_nextOrder_69 fX10_34 rfl sh172 (by decide) rfl ?_
  refine xe_iload_n 1 dX10_nextOrder_72 rfl rfl ?_
  refine xr_iald (k := 1) (v := nI (0)) dX10_nextOrder_73 sh181 (by decide) (by omega) (by decide) v3 ?_
  refine xe_istore_n (L2 := [(0, .ref 172), (1, .int (nI (1))), (2, .int (nI (2))), (3, .int (nI (0)))]) dX10_nextOrder_74 rfl (by decide) rfl ?_
  refine xe_aload_n 0 dX10_nextOrder_75 rfl rfl ?_
  refine xr_getR (b := 181) dX10_nextOrder_76 fX10_34 rfl sh172 (by decide) rfl ?_
  refine xe_iload_n 1 dX10_nextOrder_79 rfl rfl ?_
  refine xe_aload_n 0 dX10_nextOrder_80 rfl rfl ?_
  refine xr_getR (b := 181) dX10_nextOrder_81 fX10_34 rfl sh172 (by decide) rfl ?_
  refine xe_iload_n 2 dX10_nextOrder_84 rfl rfl ?_
  refine xr_iald (k := 2) (v := nI (1)) dX10_nextOrder_85 sh181 (by decide) (by omega) (by decide) v4 ?_
  refine xr_iast (k := 1) dX10_nextOrder_86 sh181 (by decide) (by omega) (by decide) ?_
  refine xe_aload_n 0 dX10_nextOrder_87 rfl rfl ?_
  refine xr_getR (b := 181) dX10_nextOrder_88 fX10_34 rfl sh172 (by decide) rfl ?_
  refine xe_iload_n 2 dX10_nextOrder_91 rfl rfl ?_
  refine xe_iload_n 3 dX10_nextOrder_92 rfl rfl ?_
  refine xr_iast (k := 2) dX10_nextOrder_93 sh181 (by decide) (by omega) (by decide) ?_
  refine xe_iload_n 1 dX10_nextOrder_94 rfl rfl ?_
  refine xe_iconst (v := nI (1)) dX10_nextOrder_95 xc1 ?_
  refine xn_iadd dX10_nextOrder_96 ?_
  refine xe_istore (L2 := [(0, .ref 172), (1, .int (nI (1))), (2, .int (nI (2))), (3, .int (nI (0))), (4, .int (nI (2)))]) dX10_nextOrder_97 (by decide) rfl ?_
  refine xe_aload_n 0 dX10_nextOrder_99 rfl rfl ?_
  refine xr_getI (v := nI (3)) dX10_nextOrder_100 fX10_119 sh172 (by decide) ((wi_ne (by omega)).trans ((wi_ne (by omega)).trans v1)) ?_
  refine xe_iconst (v := nI (1)) dX10_nextOrder_103 xc1 ?_
  refine xn_isub dX10_nextOrder_104 (by decide) ?_
  refine xe_istore (L2 := [(0, .ref 172), (1, .int (nI (1))), (2, .int (nI (2))), (3, .int (nI (0))), (4, .int (nI (2))), (5, .int (nI (2)))]) dX10_nextOrder_105 (by decide) rfl ?_
  refine xe_iload 4 dX10_nextOrder_107 rfl ?_
  refine xe_iload 5 dX10_nextOrder_109 rfl ?_
  refine xn_icmp_ge 153 dX10_nextOrder_111 (by decide) (by omega) (by omega) (fun _ => ?_) (fun q => absurd q (by decide))
  refine xe_iconst (v := nI (1)) dX10_nextOrder_153 xc1 ?_
  exact xe_ret (r := (some (.int (nI (1))))) dX10_nextOrder_154 (Or.inr rfl) (k1)

theorem hNO_3_4 (u : xU) (v1 : u.1 172 3 = nI (3)) (v2 : u.1 181 0 = nI (2)) (v3 : u.1 181 1 = nI (0)) (v4 : u.1 181 2 = nI (1)) : xC mX10_nextOrder [.ref 172] (xmm u) (fun r μ' => ∃ u' : xU, μ' = xmm u' ∧ r = some (.int (nI 1)) ∧ (∀ x, x ≠ 181 → u'.1 x = u.1 x) ∧ u'.2 = u.2 ∧ u'.1 181 0 = nI 2 ∧ u'.1 181 1 = nI 1 ∧ u'.1 181 2 = nI 0) := xC.of xpl10 (Nat.le_of_ble_eq_true rfl) (gNO_3_4 u v1 v2 v3 v4 ⟨_, rfl, rfl, fun x hx => by rw [wi_row hx, wi_row hx], rfl, by rw [wi_nek (by decide), wi_nek (by decide)]; exact v2, by rw [wi_nek (by decide), wi_self], by rw [wi_self]⟩)
theorem gNO_3_5 (u : xU) {Q : Option Value → xM → Prop}  (v1 : u.1 172 3 = nI (3)) (v2 : u.1 181 0 = nI (2)) (v3 : u.1 181 1 = nI (1)) (v4 : u.1 181 2 = nI (0))
    (k1 : Q (some (.int (nI (0)))) (xmm u)) : xE mX10_nextOrder 0 [(0, .ref 172)] [] (xmm u) Q := by
  refine xe_aload_n 0 dX10_nextOrder_0 rfl rfl ?_
  refine xr_getI (v := nI (3)) dX10_nextOrder_1 fX10_119 sh172 (by decide) v1 ?_
  refine xe_iconst (v := nI (2)) dX10_nextOrder_4 xc2 ?_
  refine xn_isub dX10_nextOrder_5 (by decide) ?_
  refine xe_istore_n (L2 := [(0, .ref 172), (1, .int (nI (1)))]) dX10_nextOrder_6 rfl (by decide) rfl ?_
  refine xe_iload_n 1 dX10_nextOrder_7 rfl rfl ?_
  refine xn_if_lt 34 dX10_nextOrder_8 (by decide) (by omega) (fun q => absurd q (by omega)) (fun _ => ?_)
  refine xe_aload_n 0 dX10_nextOrder_11 rfl rfl ?_
  refine xr_getR (b := 181) dX10_nextOrder_12 fX10_34 rfl sh172 (by decide) rfl ?_
  refine xe_iload_n 1 dX10_nextOrder_15 rfl rfl ?_
  refine xr_iald (k := 1) (v := nI (1)) dX10_nextOrder_16 sh181 (by decide) (by omega) (by decide) v3 ?_
  refine xe_aload_n 0 dX10_nextOrder_17 rfl rfl ?_
  refine xr_getR (b := 181) dX10_nextOrder_18 fX10_34 rfl sh172 (by decide) rfl ?_
  refine xe_iload_n 1 dX10_nextOrder_21 rfl rfl ?_
  refine xe_iconst (v := nI (1)) dX10_nextOrder_22 xc1 ?_
  refine xn_iadd dX10_nextOrder_23 ?_
  refine xr_iald (k := 2) (v := nI (0)) dX10_nextOrder_24 sh181 (by decide) (by omega) (by decide) v4 ?_
  refine xn_icmp_le 34 dX10_nextOrder_25 (by decide) (by omega) (by omega) (fun q => absurd q (by decide)) (fun _ => ?_)
  refine xn_idec (L2 := [(0, .ref 172), (1, .int (nI (0)))]) 1 dX10_nextOrder_28 rfl (by decide) (by decide) rfl ?_
  refine xe_goto 7 dX10_nextOrder_31 (by decide) ?_
  refine xe_iload_n 1 dX10_nextOrder_7 rfl rfl ?_
  refine xn_if_lt 34 dX10_nextOrder_8 (by decide) (by omega) (fun q => absurd q (by omega)) (fun _ => ?_)
  refine xe_aload_n 0 dX10_nextOrder_11 rfl rfl ?_
  refine xr_getR (b := 181) dX10_nextOrder_12 fX10_34 rfl sh172 (by decide) rfl ?_
  refine xe_iload_n 1 dX10_nextOrder_15 rfl rfl ?_
  refine xr_iald (k := 0) (v := nI (2)) dX10_nextOrder_16 sh181 (by decide) (by omega) (by decide) v2 ?_
  refine xe_aload_n 0 dX10_nextOrder_17 rfl rfl ?_
  refine xr_getR (b := 181) dX10_nextOrder_18 fX10_34 rfl sh172 (by decide) rfl ?_
  refine xe_iload_n 1 dX10_nextOrder_21 rfl rfl ?_
  refine xe_iconst (v := nI (1)) dX10_nextOrder_22 xc1 ?_
  refine xn_iadd dX10_nextOrder_23 ?_
  refine xr_iald (k := 1) (v := nI (1)) dX10_nextOrder_24 sh181 (by decide) (by omega) (by decide) v3 ?_
  refine xn_icmp_le 34 dX10_nextOrder_25 (by decide) (by omega) (by omega) (fun q => absurd q (by decide)) (fun _ => ?_)
  refine xe_iinc (v := (-1)) (L2 := [(0, .ref 172), (1, .int ((-1)))]) 1 dX10_nextOrder_28 rfl (by decide) (by decide) rfl ?_
  refine xe_goto 7 dX10_nextOrder_31 (by decide) ?_
  refine xe_iload_n 1 dX10_nextOrder_7 rfl rfl ?_
  refine xe_if_lt 34 dX10_nextOrder_8 (by decide) (fun _ => ?_) (fun q => absurd (by decide) q)
  refine xe_iload_n 1 dX10_nextOrder_34 rfl rfl ?_
  refine xe_if_ge 40 dX10_nextOrder_35 (by decide) (fun q => absurd q (by decide)) (fun _ => ?_)
  refine xe_iconst (v := nI (0)) dX10_nextOrder_38 xc0 ?_
  exact xe_ret (r := (some (.int (nI (0))))) dX10_nextOrder_39 (Or.inl rfl) (k1)

theorem hNO_3_5 (u : xU) (v1 : u.1 172 3 = nI (3)) (v2 : u.1 181 0 = nI (2)) (v3 : u.1 181 1 = nI (1)) (v4 : u.1 181 2 = nI (0)) : xC mX10_nextOrder [.ref 172] (xmm u) (fun r μ' => r = some (.int (nI 0)) ∧ μ' = xmm u) := xC.of xpl10 (Nat.le_of_ble_eq_true rfl) (gNO_3_5 u v1 v2 v3 v4 ⟨rfl, rfl⟩)
theorem gNO_4_0 (u : xU) {Q : Option Value → xM → Prop}  (v1 : u.1 172 3 = nI (4)) (v2 : u.1 181 0 = nI (0)) (v3 : u.1 181 1 = nI (1)) (v4 : u.1 181 2 = nI (2)) (v5 : u.1 181 3 = nI (3))
    (k1 : Q (some (.int (nI (1)))) (xmm (wi (wi u 181 2 (nI (3))) 181 3 (nI (2))))) : xE mX10_nextOrder 0 [(0, .ref 172)] [] (xmm u) Q := by
  refine xe_aload_n 0 dX10_nextOrder_0 rfl rfl ?_
  refine xr_getI (v := nI (4)) dX10_nextOrder_1 fX10_119 sh172 (by decide) v1 ?_
  refine xe_iconst (v := nI (2)) dX10_nextOrder_4 xc2 ?_
  refine xn_isub dX10_nextOrder_5 (by decide) ?_
  refine xe_istore_n (L2 := [(0, .ref 172), (1, .int (nI (2)))]) dX10_nextOrder_6 rfl (by decide) rfl ?_
  refine xe_iload_n 1 dX10_nextOrder_7 rfl rfl ?_
  refine xn_if_lt 34 dX10_nextOrder_8 (by decide) (by omega) (fun q => absurd q (by omega)) (fun _ => ?_)
  refine xe_aload_n 0 dX10_nextOrder_11 rfl rfl ?_
  refine xr_getR (b := 181) dX10_nextOrder_12 fX10_34 rfl sh172 (by decide) rfl ?_
  refine xe_iload_n 1 dX10_nextOrder_15 rfl rfl ?_
  refine xr_iald (k := 2) (v := nI (2)) dX10_nextOrder_16 sh181 (by decide) (by omega) (by decide) v4 ?_
  refine xe_aload_n 0 dX10_nextOrder_17 rfl rfl ?_
  refine xr_getR (b := 181) dX10_nextOrder_18 fX10_34 rfl sh172 (by decide) rfl ?_
  refine xe_iload_n 1 dX10_nextOrder_21 rfl rfl ?_
  refine xe_iconst (v := nI (1)) dX10_nextOrder_22 xc1 ?_
  refine xn_iadd dX10_nextOrder_23 ?_
  refine xr_iald (k := 3) (v := nI (3)) dX10_nextOrder_24 sh181 (by decide) (by omega) (by decide) v5 ?_
  refine xn_icmp_le 34 dX10_nextOrder_25 (by decide) (by omega) (by omega) (fun _ => ?_) (fun q => absurd q (by decide))
  refine xe_iload_n 1 dX10_nextOrder_34 rfl rfl ?_
  refine xn_if_ge 40 dX10_nextOrder_35 (by decide) (by omega) (fun _ => ?_) (fun q => absurd (Nat.zero_le _) q)
  refine xe_aload_n 0 dX10_nextOrder_40 rfl rfl ?_
  refine xr_getI (v := nI (4)) dX10_nextOrder_41 fX10_119 sh172 (by decide) v1 ?_
  refine xe_iconst (v := nI (1)) dX10_nextOrder_44 xc1 ?_
  refine xn_isub dX10_nextOrder_45 (by decide) ?_
  refine xe_istore_n (L2 := [(0, .ref 172), (1, .int (nI (2))), (2, .int (nI (3)))]) dX10_nextOrder_46 rfl (by decide) rfl ?_
  refine xe_aload_n 0 dX10_nextOrder_47 rfl rfl ?_
  refine xr_getR (b := 181) dX10_nextOrder_48 fX10_34 rfl sh172 (by decide) rfl ?_
  refine xe_iload_n 2 dX10_nextOrder_51 rfl rfl ?_
  refine xr_iald (k := 3) (v := nI (3)) dX10_nextOrder_52 sh181 (by decide) (by omega) (by decide) v5 ?_
  refine xe_aload_n 0 dX10_nextOrder_53 rfl rfl ?_
  refine xr_getR (b := 181) dX10_nextOrder_54 fX10_34 rfl sh172 (by decide) rfl ?_
  refine xe_iload_n 1 dX10_nextOrder_57 rfl rfl ?_
  refine xr_iald (k := 2) (v := nI (2)) dX10_nextOrder_58 sh181 (by decide) (by omega) (by decide) v4 ?_
  refine xn_icmp_ge 68 dX10_nextOrder_59 (by decide) (by omega) (by omega) (fun _ => ?_) (fun q => absurd q (by decide))
  refine xe_aload_n 0 dX10_nextOrder_68 rfl rfl ?_
  refine xr_getR (b := 181) dX10_nextOrder_69 fX10_34 rfl sh172 (by decide) rfl ?_
  refine xe_iload_n 1 dX10_nextOrder_72 rfl rfl ?_
  refine xr_iald (k := 2) (v := nI (2)) dX10_nextOrder_73 sh181 (by decide) (by omega) (by decide) v4 ?_
  refine xe_istore_n (L2 := [(0, .ref 172), (1, .int (nI (2))), (2, .int (nI (3))), (3, .int (nI (2)))]) dX10_nextOrder_74 rfl (by decide) rfl ?_
  refine xe_aload_n 0 dX10_nextOrder_75 rfl rfl ?_
  refine xr_getR (b := 181) dX10_nextOrder_76 fX10_34 rfl sh172 (by decide) rfl ?_
  refine xe_iload_n 1 dX10_nextOrder_79 rfl rfl ?_
  refine xe_aload_n 0 dX10_nextOrder_80 rfl rfl ?_
  refine xr_getR (b := 181) dX10_nextOrder_81 fX10_34 rfl sh172 (by decide) rfl ?_
  refine xe_iload_n 2 dX10_nextOrder_84 rfl rfl ?_
  refine xr_iald (k := 3) (v := nI (3)) dX10_nextOrder_85 sh181 (by decide) (by omega) (by decide) v5 ?_
  refine xr_iast (k := 2) dX10_nextOrder_86 sh181 (by decide) (by omega) (by decide) ?_
  refine xe_aload_n 0 dX10_nextOrder_87 rfl rfl ?_
  refine xr_getR (b := 181) dX10_nextOrder_88 fX10_34 rfl sh172 (by decide) rfl ?_
  refine xe_iload_n 2 dX10_nextOrder_91 rfl rfl ?_
  refine xe_iload_n 3 dX10_nextOrder_92 rfl rfl ?_
  refine xr_iast (k := 3) dX10_nextOrder_93 sh181 (by decide) (by omega) (by decide) ?_
  refine xe_iload_n 1 dX10_nextOrder_94 rfl rfl ?_
  refine xe_iconst (v := nI (1)) dX10_nextOrder_95 xc1 ?_
  refine xn_iadd dX10_nextOrder_96 ?_
  refine xe_istore (L2 := [(0, .ref 172), (1, .int (nI (2))), (2, .int (nI (3))), (3, .int (nI (2))), (4, .int (nI (3)))]) dX10_nextOrder_97 (by decide) rfl ?_
  refine xe_aload_n 0 dX10_nextOrder_99 rfl rfl ?_
  refine xr_getI (v := nI (4)) dX10_nextOrder_100 fX10_119 sh172 (by decide) ((wi_ne (by omega)).trans ((wi_ne (by omega)).trans v1)) ?_
  refine xe_iconst (v := nI (1)) dX10_nextOrder_103 xc1 ?_
  refine xn_isub dX10_nextOrder_104 (by decide) ?_
  refine xe_istore (L2 := [(0, .ref 172), (1, .int (nI (2))), (2, .int (nI (3))), (3, .int (nI (2))), (4, .int (nI (3))), (5, .int (nI (3)))]) dX10_nextOrder_105 (by decide) rfl ?_
  refine xe_iload 4 dX10_nextOrder_107 rfl ?_
  refine xe_iload 5 dX10_nextOrder_109 rfl ?_
  refine xn_icmp_ge 153 dX10_nextOrder_111 (by decide) (by omega) (by omega) (fun _ => ?_) (fun q => absurd q (by decide))
  refine xe_iconst (v := nI (1)) dX10_nextOrder_153 xc1 ?_
  exact xe_ret (r := (some (.int (nI (1))))) dX10_nextOrder_154 (Or.inr rfl) (k1)

theorem hNO_4_0 (u : xU) (v1 : u.1 172 3 = nI (4)) (v2 : u.1 181 0 = nI (0)) (v3 : u.1 181 1 = nI (1)) (v4 : u.1 181 2 = nI (2)) (v5 : u.1 181 3 = nI (3)) : xC mX10_nextOrder [.ref 172] (xmm u) (fun r μ' => ∃ u' : xU, μ' = xmm u' ∧ r = some (.int (nI 1)) ∧ (∀ x, x ≠ 181 → u'.1 x = u.1 x) ∧ u'.2 = u.2 ∧ u'.1 181 0 = nI 0 ∧ u'.1 181 1 = nI 1 ∧ u'.1 181 2 = nI 3 ∧ u'.1 181 3 = nI 2) := xC.of xpl10 (Nat.le_of_ble_eq_true rfl) (gNO_4_0 u v1 v2 v3 v4 v5 ⟨_, rfl, rfl, fun x hx => by rw [wi_row hx, wi_row hx], rfl, by rw [wi_nek (by decide), wi_nek (by decide)]; exact v2, by rw [wi_nek (by decide), wi_nek (by decide)]; exact v3, by rw [wi_nek (by decide), wi_self], by rw [wi_self]⟩)
theorem gNO_4_1 (u : xU) {Q : Option Value → xM → Prop}  (v1 : u.1 172 3 = nI (4)) (v2 : u.1 181 0 = nI (0)) (v3 : u.1 181 1 = nI (1)) (v4 : u.1 181 2 = nI (3)) (v5 : u.1 181 3 = nI (2))
    (k1 : Q (some (.int (nI (1)))) (xmm (wi (wi (wi (wi u 181 1 (nI (2))) 181 3 (nI (1))) 181 2 (nI (1))) 181 3 (nI (3))))) : xE mX10_nextOrder 0 [(0, .ref 172)] [] (xmm u) Q := by
  refine xe_aload_n 0 dX10_nextOrder_0 rfl rfl ?_
  refine xr_getI (v := nI (4)) dX10_nextOrder_1 fX10_119 sh172 (by decide) v1 ?_
  refine xe_iconst (v := nI (2)) dX10_nextOrder_4 xc2 ?_
  refine xn_isub dX10_nextOrder_5 (by decide) ?_
  refine xe_istore_n (L2 := [(0, .ref 172), (1, .int (nI (2)))]) dX10_nextOrder_6 rfl (by decide) rfl ?_
  refine xe_iload_n 1 dX10_nextOrder_7 rfl rfl ?_
  refine xn_if_lt 34 dX10_nextOrder_8 (by decide) (by omega) (fun q => absurd q (by omega)) (fun _ => ?_)
  refine xe_aload_n 0 dX10_nextOrder_11 rfl rfl ?_
  refine xr_getR (b := 181) dX10_nextOrder_12 fX10_34 rfl sh172 (by decide) rfl ?_
  refine xe_iload_n 1 dX10_nextOrder_15 rfl rfl ?_
  refine xr_iald (k := 2) (v := nI (3)) dX10_nextOrder_16 sh181 (by decide) (by omega) (by decide) v4 ?_
  refine xe_aload_n 0 dX10_nextOrder_17 rfl rfl ?_
  refine xr_getR (b := 181) dX10_nextOrder_18 fX10_34 rfl sh172 (by decide) rfl ?_
  refine xe_iload_n 1 dX10_nextOrder_21 rfl rfl ?_
  refine xe_iconst (v := nI (1)) dX10_nextOrder_22 xc1 ?_
  refine xn_iadd dX10_nextOrder_23 ?_
  refine xr_iald (k := 3) (v := nI (2)) dX10_nextOrder_24 sh181 (by decide) (by omega) (by decide) v5 ?_
  refine xn_icmp_le 34 dX10_nextOrder_25 (by decide) (by omega) (by omega) (fun q => absurd q (by decide)) (fun _ => ?_)
  refine xn_idec (L2 := [(0, .ref 172), (1, .int (nI (1)))]) 1 dX10_nextOrder_28 rfl (by decide) (by decide) rfl ?_
  refine xe_goto 7 dX10_nextOrder_31 (by decide) ?_
  refine xe_iload_n 1 dX10_nextOrder_7 rfl rfl ?_
  refine xn_if_lt 34 dX10_nextOrder_8 (by decide) (by omega) (fun q => absurd q (by omega)) (fun _ => ?_)
  refine xe_aload_n 0 dX10_nextOrder_11 rfl rfl ?_
  refine xr_getR (b := 181) dX10_nextOrder_12 fX10_34 rfl sh172 (by decide) rfl ?_
  refine xe_iload_n 1 dX10_nextOrder_15 rfl rfl ?_
  refine xr_iald (k := 1) (v := nI (1)) dX10_nextOrder_16 sh181 (by decide) (by omega) (by decide) v3 ?_
  refine xe_aload_n 0 dX10_nextOrder_17 rfl rfl ?_
  refine xr_getR (b := 181) dX10_nextOrder_18 fX10_34 rfl sh172 (by decide) rfl ?_
  refine xe_iload_n 1 dX10_nextOrder_21 rfl rfl ?_
  refine xe_iconst (v := nI (1)) dX10_nextOrder_22 xc1 ?_
  refine xn_iadd dX10_nextOrder_23 ?_
  refine xr_iald (k := 2) (v := nI (3)) dX10_nextOrder_24 sh181 (by decide) (by omega) (by decide) v4 ?_
  refine xn_icmp_le 34 dX10_nextOrder_25 (by decide) (by omega) (by omega) (fun _ => ?_) (fun q => absurd q (by decide))
  refine xe_iload_n 1 dX10_nextOrder_34 rfl rfl ?_
  refine xn_if_ge 40 dX10_nextOrder_35 (by decide) (by omega) (fun _ => ?_) (fun q => absurd (Nat.zero_le _) q)
  refine xe_aload_n 0 dX10_nextOrder_40 rfl rfl ?_
  refine xr_getI (v := nI (4)) dX10_nextOrder_41 fX10_119 sh172 (by decide) v1 ?_
  refine xe_iconst (v := nI (1)) dX10_nextOrder_44 xc1 ?_
  refine xn_isub dX10_nextOrder_45 (by decide) ?_
  refine xe_istore_n (L2 := [(0, .ref 172), (1, .int (nI (1))), (2, .int (nI (3)))]) dX10_nextOrder_46 rfl (by decide) rfl ?_
  refine xe_aload_n 0 dX10_nextOrder_47 rfl rfl ?_
  refine xr_getR (b := 181) dX10_nextOrder_48 fX10_34 rfl sh172 (by decide) rfl ?_
  refine xe_iload_n 2 dX10_nextOrder_51 rfl rfl ?_
  refine xr_iald (k := 3) (v := nI (2)) dX10_nextOrder_52 sh181 (by decide) (by omega) (by decide) v5 ?_
  refine xe_aload_n 0 dX10_nextOrder_53 rfl rfl ?_
  refine xr_getR (b := 181) dX10_nextOrder_54 fX10_34 rfl sh172 (by decide) rfl ?_
  refine xe_iload_n 1 dX10_nextOrder_57 rfl rfl ?_
  refine xr_iald (k := 1) (v := nI (1)) dX10_nextOrder_58 sh181 (by decide) (by omega) (by decide) v3 ?_
  refine xn_icmp_ge 68 dX10_nextOrder_59 (by decide) (by omega) (by omega) (fun _ => ?_) (fun q => absurd q (by decide))
  refine xe_aload_n 0 dX10_nextOrder_68 rfl rfl ?_
  refine xr_getR (b := 181) dX10_nextOrder_69 fX10_34 rfl sh172 (by decide) rfl ?_
  refine xe_iload_n 1 dX10_nextOrder_72 rfl rfl ?_
  refine xr_iald (k := 1) (v := nI (1)) dX10_nextOrder_73 sh181 (by decide) (by omega) (by decide) v3 ?_
  refine xe_istore_n (L2 := [(0, .ref 172), (1, .int (nI (1))), (2, .int (nI (3))), (3, .int (nI (1)))]) dX10_nextOrder_74 rfl (by decide) rfl ?_
  refine xe_aload_n 0 dX10_nextOrder_75 rfl rfl ?_
  refine xr_getR (b := 181) dX10_nextOrder_76 fX10_34 rfl sh172 (by decide) rfl ?_
  refine xe_iload_n 1 dX10_nextOrder_79 rfl rfl ?_
  refine xe_aload_n 0 dX10_nextOrder_80 rfl rfl ?_
  refine xr_getR (b := 181) dX10_nextOrder_81 fX10_34 rfl sh172 (by decide) rfl ?_
  refine xe_iload_n 2 dX10_nextOrder_84 rfl rfl ?_
  refine xr_iald (k := 3) (v := nI (2)) dX10_nextOrder_85 sh181 (by decide) (by omega) (by decide) v5 ?_
  refine xr_iast (k := 1) dX10_nextOrder_86 sh181 (by decide) (by omega) (by decide) ?_
  refine xe_aload_n 0 dX10_nextOrder_87 rfl rfl ?_
  refine xr_getR (b := 181) dX10_nextOrder_88 fX10_34 rfl sh172 (by decide) rfl ?_
  refine xe_iload_n 2 dX10_nextOrder_91 rfl rfl ?_
  refine xe_iload_n 3 dX10_nextOrder_92 rfl rfl ?_
  refine xr_iast (k := 3) dX10_nextOrder_93 sh181 (by decide) (by omega) (by decide) ?_
  refine xe_iload_n 1 dX10_nextOrder_94 rfl rfl ?_
  refine xe_iconst (v := nI (1)) dX10_nextOrder_95 xc1 ?_
  refine xn_iadd dX10_nextOrder_96 ?_
  refine xe_istore (L2 := [(0, .ref 172), (1, .int (nI (1))), (2, .int (nI (3))), (3, .int (nI (1))), (4, .int (nI (2)))]) dX10_nextOrder_97 (by decide) rfl ?_
  refine xe_aload_n 0 dX10_nextOrder_99 rfl rfl ?_
  refine xr_getI (v := nI (4)) dX10_nextOrder_100 fX10_119 sh172 (by decide) ((wi_ne (by omega)).trans ((wi_ne (by omega)).trans v1)) ?_
  refine xe_iconst (v := nI (1)) dX10_nextOrder_103 xc1 ?_
  refine xn_isub dX10_nextOrder_104 (by decide) ?_
  refine xe_istore (L2 := [(0, .ref 172), (1, .int (nI (1))), (2, .int (nI (3))), (3, .int (nI (1))), (4, .int (nI (2))), (5, .int (nI (3)))]) dX10_nextOrder_105 (by decide) rfl ?_
  refine xe_iload 4 dX10_nextOrder_107 rfl ?_
  refine xe_iload 5 dX10_nextOrder_109 rfl ?_
  refine xn_icmp_ge 153 dX10_nextOrder_111 (by decide) (by omega) (by omega) (fun q => absurd q (by decide)) (fun _ => ?_)
  refine xe_aload_n 0 dX10_nextOrder_114 rfl rfl ?_
  refine xr_getR (b := 181) dX10_nextOrder_115 fX10_34 rfl sh172 (by decide) rfl ?_
  refine xe_iload 4 dX10_nextOrder_118 rfl ?_
  refine xr_iald (k := 2) (v := nI (3)) dX10_nextOrder_120 sh181 (by decide) (by omega) (by decide) ((wi_nek (by decide)).trans ((wi_nek (by decide)).trans v4)) ?_
  refine xe_istore_n (L2 := [(0, .ref 172), (1, .int (nI (1))), (2, .int (nI (3))), (3, .int (nI (3))), (4, .int (nI (2))), (5, .int (nI (3)))]) dX10_nextOrder_121 rfl (by decide) rfl ?_
  refine xe_aload_n 0 dX10_nextOrder_122 rfl rfl ?_
  refine xr_getR (b := 181) dX10_nextOrder_123 fX10_34 rfl sh172 (by decide) rfl ?_
  refine xe_iload 4 dX10_nextOrder_126 rfl ?_
  refine xe_aload_n 0 dX10_nextOrder_128 rfl rfl ?_
  refine xr_getR (b := 181) dX10_nextOrder_129 fX10_34 rfl sh172 (by decide) rfl ?_
  refine xe_iload 5 dX10_nextOrder_132 rfl ?_
  refine xr_iald (k := 3) (v := nI (1)) dX10_nextOrder_134 sh181 (by decide) (by omega) (by decide) wi_self ?_
  refine xr_iast (k := 2) dX10_nextOrder_135 sh181 (by decide) (by omega) (by decide) ?_
  refine xe_aload_n 0 dX10_nextOrder_136 rfl rfl ?_
  refine xr_getR (b := 181) dX10_nextOrder_137 fX10_34 rfl sh172 (by decide) rfl ?_
  refine xe_iload 5 dX10_nextOrder_140 rfl ?_
  refine xe_iload_n 3 dX10_nextOrder_142 rfl rfl ?_
  refine xr_iast (k := 3) dX10_nextOrder_143 sh181 (by decide) (by omega) (by decide) ?_
  refine xn_iinc (c := 1) (L2 := [(0, .ref 172), (1, .int (nI (1))), (2, .int (nI (3))), (3, .int (nI (3))), (4, .int (nI (3))), (5, .int (nI (3)))]) 4 dX10_nextOrder_144 rfl (by decide) rfl ?_
  refine xn_idec (L2 := [(0, .ref 172), (1, .int (nI (1))), (2, .int (nI (3))), (3, .int (nI (3))), (4, .int (nI (3))), (5, .int (nI (2)))]) 5 dX10_nextOrder_147 rfl (by decide) (by decide) rfl ?_
  refine xe_goto 107 dX10_nextOrder_150 (by decide) ?_
  refine xe_iload 4 dX10_nextOrder_107 rfl ?_
  refine xe_iload 5 dX10_nextOrder_109 rfl ?_
  refine xn_icmp_ge 153 dX10_nextOrder_111 (by decide) (by omega) (by omega) (fun _ => ?_) (fun q => absurd q (by decide))
  refine xe_iconst (v := nI (1)) dX10_nextOrder_153 xc1 ?_
  exact xe_ret (r := (some (.int (nI (1))))) dX10_nextOrder_154 (Or.inr rfl) (k1)

theorem hNO_4_1 (u : xU) (v1 : u.1 172 3 = nI (4)) (v2 : u.1 181 0 = nI (0)) (v3 : u.1 181 1 = nI (1)) (v4 : u.1 181 2 = nI (3)) (v5 : u.1 181 3 = nI (2)) : xC mX10_nextOrder [.ref 172] (xmm u) (fun r μ' => ∃ u' : xU, μ' = xmm u' ∧ r = some (.int (nI 1)) ∧ (∀ x, x ≠ 181 → u'.1 x = u.1 x) ∧ u'.2 = u.2 ∧ u'.1 181 0 = nI 0 ∧ u'.1 181 1 = nI 2 ∧ u'.1 181 2 = nI 1 ∧ u'.1 181 3 = nI 3) := xC.of xpl10 (Nat.le_of_ble_eq_true rfl) (gNO_4_1 u v1 v2 v3 v4 v5 ⟨_, rfl, rfl, fun x hx => by rw [wi_row hx, wi_row hx, wi_row hx, wi_row hx], rfl, by rw [wi_nek (by decide), wi_nek (by decide), wi_nek (by decide), wi_nek (by decide)]; exact v2, by rw [wi_nek (by decide), wi_nek (by decide), wi_nek (by decide), wi_self], by rw [wi_nek (by decide), wi_self], by rw [wi_self]⟩)
theorem gNO_4_2 (u : xU) {Q : Option Value → xM → Prop}  (v1 : u.1 172 3 = nI (4)) (v2 : u.1 181 0 = nI (0)) (v3 : u.1 181 1 = nI (2)) (v4 : u.1 181 2 = nI (1)) (v5 : u.1 181 3 = nI (3))
    (k1 : Q (some (.int (nI (1)))) (xmm (wi (wi u 181 2 (nI (3))) 181 3 (nI (1))))) : xE mX10_nextOrder 0 [(0, .ref 172)] [] (xmm u) Q := by
  refine xe_aload_n 0 dX10_nextOrder_0 rfl rfl ?_
  refine xr_getI (v := nI (4)) dX10_nextOrder_1 fX10_119 sh172 (by decide) v1 ?_
  refine xe_iconst (v := nI (2)) dX10_nextOrder_4 xc2 ?_
  refine xn_isub dX10_nextOrder_5 (by decide) ?_
  refine xe_istore_n (L2 := [(0, .ref 172), (1, .int (nI (2)))]) dX10_nextOrder_6 rfl (by decide) rfl ?_
  refine xe_iload_n 1 dX10_nextOrder_7 rfl rfl ?_
  refine xn_if_lt 34 dX10_nextOrder_8 (by decide) (by omega) (fun q => absurd q (by omega)) (fun _ => ?_)
  refine xe_aload_n 0 dX10_nextOrder_11 rfl rfl ?_
  refine xr_getR (b := 181) dX10_nextOrder_12 fX10_34 rfl sh172 (by decide) rfl ?_
  refine xe_iload_n 1 dX10_nextOrder_15 rfl rfl ?_
  refine xr_iald (k := 2) (v := nI (1)) dX10_nextOrder_16 sh181 (by decide) (by omega) (by decide) v4 ?_
  refine xe_aload_n 0 dX10_nextOrder_17 rfl rfl ?_
  refine xr_getR (b := 181) dX10_nextOrder_18 fX10_34 rfl sh172 (by decide) rfl ?_
  refine xe_iload_n 1 dX10_nextOrder_21 rfl rfl ?_
  refine xe_iconst (v := nI (1)) dX10_nextOrder_22 xc1 ?_
  refine xn_iadd dX10_nextOrder_23 ?_
  refine xr_iald (k := 3) (v := nI (3)) dX10_nextOrder_24 sh181 (by decide) (by omega) (by decide) v5 ?_
  refine xn_icmp_le 34 dX10_nextOrder_25 (by decide) (by omega) (by omega) (fun _ => ?_) (fun q => absurd q (by decide))
  refine xe_iload_n 1 dX10_nextOrder_34 rfl rfl ?_
  refine xn_if_ge 40 dX10_nextOrder_35 (by decide) (by omega) (fun _ => ?_) (fun q => absurd (Nat.zero_le _) q)
  refine xe_aload_n 0 dX10_nextOrder_40 rfl rfl ?_
  refine xr_getI (v := nI (4)) dX10_nextOrder_41 fX10_119 sh172 (by decide) v1 ?_
  refine xe_iconst (v := nI (1)) dX10_nextOrder_44 xc1 ?_
  refine xn_isub dX10_nextOrder_45 (by decide) ?_
  refine xe_istore_n (L2 := [(0, .ref 172), (1, .int (nI (2))), (2, .int (nI (3)))]) dX10_nextOrder_46 rfl (by decide) rfl ?_
  refine xe_aload_n 0 dX10_nextOrder_47 rfl rfl ?_
  refine xr_getR (b := 181) dX10_nextOrder_48 fX10_34 rfl sh172 (by decide) rfl ?_
  refine xe_iload_n 2 dX10_nextOrder_51 rfl rfl ?_
  refine xr_iald (k := 3) (v := nI (3)) dX10_nextOrder_52 sh181 (by decide) (by omega) (by decide) v5 ?_
  refine xe_aload_n 0 dX10_nextOrder_53 rfl rfl ?_
  refine xr_getR (b := 181) dX10_nextOrder_54 fX10_34 rfl sh172 (by decide) rfl ?_
  refine xe_iload_n 1 dX10_nextOrder_57 rfl rfl ?_
  refine xr_iald (k := 2) (v := nI (1)) dX10_nextOrder_58 sh181 (by decide) (by omega) (by decide) v4 ?_
  refine xn_icmp_ge 68 dX10_nextOrder_59 (by decide) (by omega) (by omega) (fun _ => ?_) (fun q => absurd q (by decide))
  refine xe_aload_n 0 dX10_nextOrder_68 rfl rfl ?_
  refine xr_getR (b := 181) dX10_nextOrder_69 fX10_34 rfl sh172 (by decide) rfl ?_
  refine xe_iload_n 1 dX10_nextOrder_72 rfl rfl ?_
  refine xr_iald (k := 2) (v := nI (1)) dX10_nextOrder_73 sh181 (by decide) (by omega) (by decide) v4 ?_
  refine xe_istore_n (L2 := [(0, .ref 172), (1, .int (nI (2))), (2, .int (nI (3))), (3, .int (nI (1)))]) dX10_nextOrder_74 rfl (by decide) rfl ?_
  refine xe_aload_n 0 dX10_nextOrder_75 rfl rfl ?_
  refine xr_getR (b := 181) dX10_nextOrder_76 fX10_34 rfl sh172 (by decide) rfl ?_
  refine xe_iload_n 1 dX10_nextOrder_79 rfl rfl ?_
  refine xe_aload_n 0 dX10_nextOrder_80 rfl rfl ?_
  refine xr_getR (b := 181) dX10_nextOrder_81 fX10_34 rfl sh172 (by decide) rfl ?_
  refine xe_iload_n 2 dX10_nextOrder_84 rfl rfl ?_
  refine xr_iald (k := 3) (v := nI (3)) dX10_nextOrder_85 sh181 (by decide) (by omega) (by decide) v5 ?_
  refine xr_iast (k := 2) dX10_nextOrder_86 sh181 (by decide) (by omega) (by decide) ?_
  refine xe_aload_n 0 dX10_nextOrder_87 rfl rfl ?_
  refine xr_getR (b := 181) dX10_nextOrder_88 fX10_34 rfl sh172 (by decide) rfl ?_
  refine xe_iload_n 2 dX10_nextOrder_91 rfl rfl ?_
  refine xe_iload_n 3 dX10_nextOrder_92 rfl rfl ?_
  refine xr_iast (k := 3) dX10_nextOrder_93 sh181 (by decide) (by omega) (by decide) ?_
  refine xe_iload_n 1 dX10_nextOrder_94 rfl rfl ?_
  refine xe_iconst (v := nI (1)) dX10_nextOrder_95 xc1 ?_
  refine xn_iadd dX10_nextOrder_96 ?_
  refine xe_istore (L2 := [(0, .ref 172), (1, .int (nI (2))), (2, .int (nI (3))), (3, .int (nI (1))), (4, .int (nI (3)))]) dX10_nextOrder_97 (by decide) rfl ?_
  refine xe_aload_n 0 dX10_nextOrder_99 rfl rfl ?_
  refine xr_getI (v := nI (4)) dX10_nextOrder_100 fX10_119 sh172 (by decide) ((wi_ne (by omega)).trans ((wi_ne (by omega)).trans v1)) ?_
  refine xe_iconst (v := nI (1)) dX10_nextOrder_103 xc1 ?_
  refine xn_isub dX10_nextOrder_104 (by decide) ?_
  refine xe_istore (L2 := [(0, .ref 172), (1, .int (nI (2))), (2, .int (nI (3))), (3, .int (nI (1))), (4, .int (nI (3))), (5, .int (nI (3)))]) dX10_nextOrder_105 (by decide) rfl ?_
  refine xe_iload 4 dX10_nextOrder_107 rfl ?_
  refine xe_iload 5 dX10_nextOrder_109 rfl ?_
  refine xn_icmp_ge 153 dX10_nextOrder_111 (by decide) (by omega) (by omega) (fun _ => ?_) (fun q => absurd q (by decide))
  refine xe_iconst (v := nI (1)) dX10_nextOrder_153 xc1 ?_
  exact xe_ret (r := (some (.int (nI (1))))) dX10_nextOrder_154 (Or.inr rfl) (k1)

theorem hNO_4_2 (u : xU) (v1 : u.1 172 3 = nI (4)) (v2 : u.1 181 0 = nI (0)) (v3 : u.1 181 1 = nI (2)) (v4 : u.1 181 2 = nI (1)) (v5 : u.1 181 3 = nI (3)) : xC mX10_nextOrder [.ref 172] (xmm u) (fun r μ' => ∃ u' : xU, μ' = xmm u' ∧ r = some (.int (nI 1)) ∧ (∀ x, x ≠ 181 → u'.1 x = u.1 x) ∧ u'.2 = u.2 ∧ u'.1 181 0 = nI 0 ∧ u'.1 181 1 = nI 2 ∧ u'.1 181 2 = nI 3 ∧ u'.1 181 3 = nI 1) := xC.of xpl10 (Nat.le_of_ble_eq_true rfl) (gNO_4_2 u v1 v2 v3 v4 v5 ⟨_, rfl, rfl, fun x hx => by rw [wi_row hx, wi_row hx], rfl, by rw [wi_nek (by decide), wi_nek (by decide)]; exact v2, by rw [wi_nek (by decide), wi_nek (by decide)]; exact v3, by rw [wi_nek (by decide), wi_self], by rw [wi_self]⟩)
theorem gNO_4_3 (u : xU) {Q : Option Value → xM → Prop}  (v1 : u.1 172 3 = nI (4)) (v2 : u.1 181 0 = nI (0)) (v3 : u.1 181 1 = nI (2)) (v4 : u.1 181 2 = nI (3)) (v5 : u.1 181 3 = nI (1))
    (k1 : Q (some (.int (nI (1)))) (xmm (wi (wi (wi (wi u 181 1 (nI (3))) 181 2 (nI (2))) 181 2 (nI (1))) 181 3 (nI (2))))) : xE mX10_nextOrder 0 [(0, .ref 172)] [] (xmm u) Q := by
  refine xe_aload_n 0 dX10_nextOrder_0 rfl rfl ?_
  refine xr_getI (v := nI (4)) dX10_nextOrder_1 fX10_119 sh172 (by decide) v1 ?_
  refine xe_iconst (v := nI (2)) dX10_nextOrder_4 xc2 ?_
  refine xn_isub dX10_nextOrder_5 (by decide) ?_
  refine xe_istore_n (L2 := [(0, .ref 172), (1, .int (nI (2)))]) dX10_nextOrder_6 rfl (by decide) rfl ?_
  refine xe_iload_n 1 dX10_nextOrder_7 rfl rfl ?_
  refine xn_if_lt 34 dX10_nextOrder_8 (by decide) (by omega) (fun q => absurd q (by omega)) (fun _ => ?_)
  refine xe_aload_n 0 dX10_nextOrder_11 rfl rfl ?_
  refine xr_getR (b := 181) dX10_nextOrder_12 fX10_34 rfl sh172 (by decide) rfl ?_
  refine xe_iload_n 1 dX10_nextOrder_15 rfl rfl ?_
  refine xr_iald (k := 2) (v := nI (3)) dX10_nextOrder_16 sh181 (by decide) (by omega) (by decide) v4 ?_
  refine xe_aload_n 0 dX10_nextOrder_17 rfl rfl ?_
  refine xr_getR (b := 181) dX10_nextOrder_18 fX10_34 rfl sh172 (by decide) rfl ?_
  refine xe_iload_n 1 dX10_nextOrder_21 rfl rfl ?_
  refine xe_iconst (v := nI (1)) dX10_nextOrder_22 xc1 ?_
  refine xn_iadd dX10_nextOrder_23 ?_
  refine xr_iald (k := 3) (v := nI (1)) dX10_nextOrder_24 sh181 (by decide) (by omega) (by decide) v5 ?_
  refine xn_icmp_le 34 dX10_nextOrder_25 (by decide) (by omega) (by omega) (fun q => absurd q (by decide)) (fun _ => ?_)
  refine xn_idec (L2 := [(0, .ref 172), (1, .int (nI (1)))]) 1 dX10_nextOrder_28 rfl (by decide) (by decide) rfl ?_
  refine xe_goto 7 dX10_nextOrder_31 (by decide) ?_
  refine xe_iload_n 1 dX10_nextOrder_7 rfl rfl ?_
  refine xn_if_lt 34 dX10_nextOrder_8 (by decide) (by omega) (fun q => absurd q (by omega)) (fun _ => ?_)
  refine xe_aload_n 0 dX10_nextOrder_11 rfl rfl ?_
  refine xr_getR (b := 181) dX10_nextOrder_12 fX10_34 rfl sh172 (by decide) rfl ?_
  refine xe_iload_n 1 dX10_nextOrder_15 rfl rfl ?_
  refine xr_iald (k := 1) (v := nI (2)) dX10_nextOrder_16 sh181 (by decide) (by omega) (by decide) v3 ?_
  refine xe_aload_n 0 dX10_nextOrder_17 rfl rfl ?_
  refine xr_getR (b := 181) dX10_nextOrder_18 fX10_34 rfl sh172 (by decide) rfl ?_
  refine xe_iload_n 1 dX10_nextOrder_21 rfl rfl ?_
  refine xe_iconst (v := nI (1)) dX10_nextOrder_22 xc1 ?_
  refine xn_iadd dX10_nextOrder_23 ?_
  refine xr_iald (k := 2) (v := nI (3)) dX10_nextOrder_24 sh181 (by decide) (by omega) (by decide) v4 ?_
  refine xn_icmp_le 34 dX10_nextOrder_25 (by decide) (by omega) (by omega) (fun _ => ?_) (fun q => absurd q (by decide))
  refine xe_iload_n 1 dX10_nextOrder_34 rfl rfl ?_
  refine xn_if_ge 40 dX10_nextOrder_35 (by decide) (by omega) (fun _ => ?_) (fun q => absurd (Nat.zero_le _) q)
  refine xe_aload_n 0 dX10_nextOrder_40 rfl rfl ?_
  refine xr_getI (v := nI (4)) dX10_nextOrder_41 fX10_119 sh172 (by decide) v1 ?_
  refine xe_iconst (v := nI (1)) dX10_nextOrder_44 xc1 ?_
  refine xn_isub dX10_nextOrder_45 (by decide) ?_
  refine xe_istore_n (L2 := [(0, .ref 172), (1, .int (nI (1))), (2, .int (nI (3)))]) dX10_nextOrder_46 rfl (by decide) rfl ?_
  refine xe_aload_n 0 dX10_nextOrder_47 rfl rfl ?_
  refine xr_getR (b := 181) dX10_nextOrder_48 fX10_34 rfl sh172 (by decide) rfl ?_
  refine xe_iload_n 2 dX10_nextOrder_51 rfl rfl ?_
  refine xr_iald (k := 3) (v := nI (1)) dX10_nextOrder_52 sh181 (by decide) (by omega) (by decide) v5 ?_
  refine xe_aload_n 0 dX10_nextOrder_53 rfl rfl ?_
  refine xr_getR (b := 181) dX10_nextOrder_54 fX10_34 rfl sh172 (by decide) rfl ?_
  refine xe_iload_n 1 dX10_nextOrder_57 rfl rfl ?_
  refine xr_iald (k := 1) (v := nI (2)) dX10_nextOrder_58 sh181 (by decide) (by omega) (by decide) v3 ?_
  refine xn_icmp_ge 68 dX10_nextOrder_59 (by decide) (by omega) (by omega) (fun q => absurd q (by decide)) (fun _ => ?_)
  refine xn_idec (L2 := [(0, .ref 172), (1, .int (nI (1))), (2, .int (nI (2)))]) 2 dX10_nextOrder_62 rfl (by decide) (by decide) rfl ?_
  refine xe_goto 47 dX10_nextOrder_65 (by decide) ?_
  refine xe_aload_n 0 dX10_nextOrder_47 rfl rfl ?_
  refine xr_getR (b := 181) dX10_nextOrder_48 fX10_34 rfl sh172 (by decide) rfl ?_
  refine xe_iload_n 2 dX10_nextOrder_51 rfl rfl ?_
  refine xr_iald (k := 2) (v := nI (3)) dX10_nextOrder_52 sh181 (by decide) (by omega) (by decide) v4 ?_
  refine xe_aload_n 0 dX10_nextOrder_53 rfl rfl ?_
  refine xr_getR (b := 181) dX10_nextOrder_54 fX10_34 rfl sh172 (by decide) rfl ?_
  refine xe_iload_n 1 dX10_nextOrder_57 rfl rfl ?_
  refine xr_iald (k := 1) (v := nI (2)) dX10_nextOrder_58 sh181 (by decide) (by omega) (by decide) v3 ?_
  refine xn_icmp_ge 68 dX10_nextOrder_59 (by decide) (by omega) (by omega) (fun _ => ?_) (fun q => absurd q (by decide))
  refine xe_aload_n 0 dX10_nextOrder_68 rfl rfl ?_
  refine xr_getR (b := 181) dX10_nextOrder_69 fX10_34 rfl sh172 (by decide) rfl ?_
  refine xe_iload_n 1 dX10_nextOrder_72 rfl rfl ?_
  refine xr_iald (k := 1) (v := nI (2)) dX10_nextOrder_73 sh181 (by decide) (by omega) (by decide) v3 ?_
  refine xe_istore_n (L2 := [(0, .ref 172), (1, .int (nI (1))), (2, .int (nI (2))), (3, .int (nI (2)))]) dX10_nextOrder_74 rfl (by decide) rfl ?_
  refine xe_aload_n 0 dX10_nextOrder_75 rfl rfl ?_
  refine xr_getR (b := 181) dX10_nextOrder_76 fX10_34 rfl sh172 (by decide) rfl ?_
  refine xe_iload_n 1 dX10_nextOrder_79 rfl rfl ?_
  refine xe_aload_n 0 dX10_nextOrder_80 rfl rfl ?_
  refine xr_getR (b := 181) dX10_nextOrder_81 fX10_34 rfl sh172 (by decide) rfl ?_
  refine xe_iload_n 2 dX10_nextOrder_84 rfl rfl ?_
  refine xr_iald (k := 2) (v := nI (3)) dX10_nextOrder_85 sh181 (by decide) (by omega) (by decide) v4 ?_
  refine xr_iast (k := 1) dX10_nextOrder_86 sh181 (by decide) (by omega) (by decide) ?_
  refine xe_aload_n 0 dX10_nextOrder_87 rfl rfl ?_
  refine xr_getR (b := 181) dX10_nextOrder_88 fX10_34 rfl sh172 (by decide) rfl ?_
  refine xe_iload_n 2 dX10_nextOrder_91 rfl rfl ?_
  refine xe_iload_n 3 dX10_nextOrder_92 rfl rfl ?_
  refine xr_iast (k := 2) dX10_nextOrder_93 sh181 (by decide) (by omega) (by decide) ?_
  refine xe_iload_n 1 dX10_nextOrder_94 rfl rfl ?_
  refine xe_iconst (v := nI (1)) dX10_nextOrder_95 xc1 ?_
  refine xn_iadd dX10_nextOrder_96 ?_
  refine xe_istore (L2 := [(0, .ref 172), (1, .int (nI (1))), (2, .int (nI (2))), (3, .int (nI (2))), (4, .int (nI (2)))]) dX10_nextOrder_97 (by decide) rfl ?_
  refine xe_aload_n 0 dX10_nextOrder_99 rfl rfl ?_
  refine xr_getI (v := nI (4)) dX10_nextOrder_100 fX10_119 sh172 (by decide) ((wi_ne (by omega)).trans ((wi_ne (by omega)).trans v1)) ?_
  refine xe_iconst (v := nI (1)) dX10_nextOrder_103 xc1 ?_
  refine xn_isub dX10_nextOrder_104 (by decide) ?_
  refine xe_istore (L2 := [(0, .ref 172), (1, .int (nI (1))), (2, .int (nI (2))), (3, .int (nI (2))), (4, .int (nI (2))), (5, .int (nI (3)))]) dX10_nextOrder_105 (by decide) rfl ?_
  refine xe_iload 4 dX10_nextOrder_107 rfl ?_
  refine xe_iload 5 dX10_nextOrder_109 rfl ?_
  refine xn_icmp_ge 153 dX10_nextOrder_111 (by decide) (by omega) (by omega) (fun q => absurd q (by decide)) (fun _ => ?_)
  refine xe_aload_n 0 dX10_nextOrder_114 rfl rfl ?_
  refine xr_getR (b := 181) dX10_nextOrder_115 fX10_34 rfl sh172 (by decide) rfl ?_
  refine xe_iload 4 dX10_nextOrder_118 rfl ?_
  refine xr_iald (k := 2) (v := nI (2)) dX10_nextOrder_120 sh181 (by decide) (by omega) (by decide) wi_self ?_
  refine xe_istore_n (L2 := [(0, .ref 172), (1, .int (nI (1))), (2, .int (nI (2))), (3, .int (nI (2))), (4, .int (nI (2))), (5, .int (nI (3)))]) dX10_nextOrder_121 rfl (by decide) rfl ?_
  refine xe_aload_n 0 dX10_nextOrder_122 rfl rfl ?_
  refine xr_getR (b := 181) dX10_nextOrder_123 fX10_34 rfl sh172 (by decide) rfl ?_
  refine xe_iload 4 dX10_nextOrder_126 rfl ?_
  refine xe_aload_n 0 dX10_nextOrder_128 rfl rfl ?_
  refine xr_getR (b := 181) dX10_nextOrder_129 fX10_34 rfl sh172 (by decide) rfl ?_
  refine xe_iload 5 dX10_nextOrder_132 rfl ?_
  refine xr_iald (k := 3) (v := nI (1)) dX10_nextOrder_134 sh181 (by decide) (by omega) (by decide) ((wi_nek (by decide)).trans ((wi_nek (by decide)).trans v5)) ?_
  refine xr_iast (k := 2) dX10_nextOrder_135 sh181 (by decide) (by omega) (by decide) ?_
  refine xe_aload_n 0 dX10_nextOrder_136 rfl rfl ?_
  refine xr_getR (b := 181) dX10_nextOrder_137 fX10_34 rfl sh172 (by decide) rfl ?_
  refine xe_iload 5 dX10_nextOrder_140 rfl ?_
  refine xe_iload_n 3 dX10_nextOrder_142 rfl rfl ?_
  refine xr_iast (k := 3) dX10_nextOrder_143 sh181 (by decide) (by omega) (by decide) ?_
  refine xn_iinc (c := 1) (L2 := [(0, .ref 172), (1, .int (nI (1))), (2, .int (nI (2))), (3, .int (nI (2))), (4, .int (nI (3))), (5, .int (nI (3)))]) 4 dX10_nextOrder_144 rfl (by decide) rfl ?_
  refine xn_idec (L2 := [(0, .ref 172), (1, .int (nI (1))), (2, .int (nI (2))), (3, .int (nI (2))), (4, .int (nI (3))), (5, .int (nI (2)))]) 5 dX10_nextOrder_147 rfl (by decide) (by decide) rfl ?_
  refine xe_goto 107 dX10_nextOrder_150 (by decide) ?_
  refine xe_iload 4 dX10_nextOrder_107 rfl ?_
  refine xe_iload 5 dX10_nextOrder_109 rfl ?_
  refine xn_icmp_ge 153 dX10_nextOrder_111 (by decide) (by omega) (by omega) (fun _ => ?_) (fun q => absurd q (by decide))
  refine xe_iconst (v := nI (1)) dX10_nextOrder_153 xc1 ?_
  exact xe_ret (r := (some (.int (nI (1))))) dX10_nextOrder_154 (Or.inr rfl) (k1)

theorem hNO_4_3 (u : xU) (v1 : u.1 172 3 = nI (4)) (v2 : u.1 181 0 = nI (0)) (v3 : u.1 181 1 = nI (2)) (v4 : u.1 181 2 = nI (3)) (v5 : u.1 181 3 = nI (1)) : xC mX10_nextOrder [.ref 172] (xmm u) (fun r μ' => ∃ u' : xU, μ' = xmm u' ∧ r = some (.int (nI 1)) ∧ (∀ x, x ≠ 181 → u'.1 x = u.1 x) ∧ u'.2 = u.2 ∧ u'.1 181 0 = nI 0 ∧ u'.1 181 1 = nI 3 ∧ u'.1 181 2 = nI 1 ∧ u'.1 181 3 = nI 2) := xC.of xpl10 (Nat.le_of_ble_eq_true rfl) (gNO_4_3 u v1 v2 v3 v4 v5 ⟨_, rfl, rfl, fun x hx => by rw [wi_row hx, wi_row hx, wi_row hx, wi_row hx], rfl, by rw [wi_nek (by decide), wi_nek (by decide), wi_nek (by decide), wi_nek (by decide)]; exact v2, by rw [wi_nek (by decide), wi_nek (by decide), wi_nek (by decide), wi_self], by rw [wi_nek (by decide), wi_self], by rw [wi_self]⟩)
theorem gNO_4_4 (u : xU) {Q : Option Value → xM → Prop}  (v1 : u.1 172 3 = nI (4)) (v2 : u.1 181 0 = nI (0)) (v3 : u.1 181 1 = nI (3)) (v4 : u.1 181 2 = nI (1)) (v5 : u.1 181 3 = nI (2))
    (k1 : Q (some (.int (nI (1)))) (xmm (wi (wi u 181 2 (nI (2))) 181 3 (nI (1))))) : xE mX10_nextOrder 0 [(0, .ref 172)] [] (xmm u) Q := by
  refine xe_aload_n 0 dX10_nextOrder_0 rfl rfl ?_
  refine xr_getI (v := nI (4)) dX10_nextOrder_1 fX10_119 sh172 (by decide) v1 ?_
  refine xe_iconst (v := nI (2)) dX10_nextOrder_4 xc2 ?_
  refine xn_isub dX10_nextOrder_5 (by decide) ?_
  refine xe_istore_n (L2 := [(0, .ref 172), (1, .int (nI (2)))]) dX10_nextOrder_6 rfl (by decide) rfl ?_
  refine xe_iload_n 1 dX10_nextOrder_7 rfl rfl ?_
  refine xn_if_lt 34 dX10_nextOrder_8 (by decide) (by omega) (fun q => absurd q (by omega)) (fun _ => ?_)
  refine xe_aload_n 0 dX10_nextOrder_11 rfl rfl ?_
  refine xr_getR (b := 181) dX10_nextOrder_12 fX10_34 rfl sh172 (by decide) rfl ?_
  refine xe_iload_n 1 dX10_nextOrder_15 rfl rfl ?_
  refine xr_iald (k := 2) (v := nI (1)) dX10_nextOrder_16 sh181 (by decide) (by omega) (by decide) v4 ?_
  refine xe_aload_n 0 dX10_nextOrder_17 rfl rfl ?_
  refine xr_getR (b := 181) dX10_nextOrder_18 fX10_34 rfl sh172 (by decide) rfl ?_
  refine xe_iload_n 1 dX10_nextOrder_21 rfl rfl ?_
  refine xe_iconst (v := nI (1)) dX10_nextOrder_22 xc1 ?_
  refine xn_iadd dX10_nextOrder_23 ?_
  refine xr_iald (k := 3) (v := nI (2)) dX10_nextOrder_24 sh181 (by decide) (by omega) (by decide) v5 ?_
  refine xn_icmp_le 34 dX10_nextOrder_25 (by decide) (by omega) (by omega) (fun _ => ?_) (fun q => absurd q (by decide))
  refine xe_iload_n 1 dX10_nextOrder_34 rfl rfl ?_
  refine xn_if_ge 40 dX10_nextOrder_35 (by decide) (by omega) (fun _ => ?_) (fun q => absurd (Nat.zero_le _) q)
  refine xe_aload_n 0 dX10_nextOrder_40 rfl rfl ?_
  refine xr_getI (v := nI (4)) dX10_nextOrder_41 fX10_119 sh172 (by decide) v1 ?_
  refine xe_iconst (v := nI (1)) dX10_nextOrder_44 xc1 ?_
  refine xn_isub dX10_nextOrder_45 (by decide) ?_
  refine xe_istore_n (L2 := [(0, .ref 172), (1, .int (nI (2))), (2, .int (nI (3)))]) dX10_nextOrder_46 rfl (by decide) rfl ?_
  refine xe_aload_n 0 dX10_nextOrder_47 rfl rfl ?_
  refine xr_getR (b := 181) dX10_nextOrder_48 fX10_34 rfl sh172 (by decide) rfl ?_
  refine xe_iload_n 2 dX10_nextOrder_51 rfl rfl ?_
  refine xr_iald (k := 3) (v := nI (2)) dX10_nextOrder_52 sh181 (by decide) (by omega) (by decide) v5 ?_
  refine xe_aload_n 0 dX10_nextOrder_53 rfl rfl ?_
  refine xr_getR (b := 181) dX10_nextOrder_54 fX10_34 rfl sh172 (by decide) rfl ?_
  refine xe_iload_n 1 dX10_nextOrder_57 rfl rfl ?_
  refine xr_iald (k := 2) (v := nI (1)) dX10_nextOrder_58 sh181 (by decide) (by omega) (by decide) v4 ?_
  refine xn_icmp_ge 68 dX10_nextOrder_59 (by decide) (by omega) (by omega) (fun _ => ?_) (fun q => absurd q (by decide))
  refine xe_aload_n 0 dX10_nextOrder_68 rfl rfl ?_
  refine xr_getR (b := 181) dX10_nextOrder_69 fX10_34 rfl sh172 (by decide) rfl ?_
  refine xe_iload_n 1 dX10_nextOrder_72 rfl rfl ?_
  refine xr_iald (k := 2) (v := nI (1)) dX10_nextOrder_73 sh181 (by decide) (by omega) (by decide) v4 ?_
  refine xe_istore_n (L2 := [(0, .ref 172), (1, .int (nI (2))), (2, .int (nI (3))), (3, .int (nI (1)))]) dX10_nextOrder_74 rfl (by decide) rfl ?_
  refine xe_aload_n 0 dX10_nextOrder_75 rfl rfl ?_
  refine xr_getR (b := 181) dX10_nextOrder_76 fX10_34 rfl sh172 (by decide) rfl ?_
  refine xe_iload_n 1 dX10_nextOrder_79 rfl rfl ?_
  refine xe_aload_n 0 dX10_nextOrder_80 rfl rfl ?_
  refine xr_getR (b := 181) dX10_nextOrder_81 fX10_34 rfl sh172 (by decide) rfl ?_
  refine xe_iload_n 2 dX10_nextOrder_84 rfl rfl ?_
  refine xr_iald (k := 3) (v := nI (2)) dX10_nextOrder_85 sh181 (by decide) (by omega) (by decide) v5 ?_
  refine xr_iast (k := 2) dX10_nextOrder_86 sh181 (by decide) (by omega) (by decide) ?_
  refine xe_aload_n 0 dX10_nextOrder_87 rfl rfl ?_
  refine xr_getR (b := 181) dX10_nextOrder_88 fX10_34 rfl sh172 (by decide) rfl ?_
  refine xe_iload_n 2 dX10_nextOrder_91 rfl rfl ?_
  refine xe_iload_n 3 dX10_nextOrder_92 rfl rfl ?_
  refine xr_iast (k := 3) dX10_nextOrder_93 sh181 (by decide) (by omega) (by decide) ?_
  refine xe_iload_n 1 dX10_nextOrder_94 rfl rfl ?_
  refine xe_iconst (v := nI (1)) dX10_nextOrder_95 xc1 ?_
  refine xn_iadd dX10_nextOrder_96 ?_
  refine xe_istore (L2 := [(0, .ref 172), (1, .int (nI (2))), (2, .int (nI (3))), (3, .int (nI (1))), (4, .int (nI (3)))]) dX10_nextOrder_97 (by decide) rfl ?_
  refine xe_aload_n 0 dX10_nextOrder_99 rfl rfl ?_
  refine xr_getI (v := nI (4)) dX10_nextOrder_100 fX10_119 sh172 (by decide) ((wi_ne (by omega)).trans ((wi_ne (by omega)).trans v1)) ?_
  refine xe_iconst (v := nI (1)) dX10_nextOrder_103 xc1 ?_
  refine xn_isub dX10_nextOrder_104 (by decide) ?_
  refine xe_istore (L2 := [(0, .ref 172), (1, .int (nI (2))), (2, .int (nI (3))), (3, .int (nI (1))), (4, .int (nI (3))), (5, .int (nI (3)))]) dX10_nextOrder_105 (by decide) rfl ?_
  refine xe_iload 4 dX10_nextOrder_107 rfl ?_
  refine xe_iload 5 dX10_nextOrder_109 rfl ?_
  refine xn_icmp_ge 153 dX10_nextOrder_111 (by decide) (by omega) (by omega) (fun _ => ?_) (fun q => absurd q (by decide))
  refine xe_iconst (v := nI (1)) dX10_nextOrder_153 xc1 ?_
  exact xe_ret (r := (some (.int (nI (1))))) dX10_nextOrder_154 (Or.inr rfl) (k1)

theorem hNO_4_4 (u : xU) (v1 : u.1 172 3 = nI (4)) (v2 : u.1 181 0 = nI (0)) (v3 : u.1 181 1 = nI (3)) (v4 : u.1 181 2 = nI (1)) (v5 : u.1 181 3 = nI (2)) : xC mX10_nextOrder [.ref 172] (xmm u) (fun r μ' => ∃ u' : xU, μ' = xmm u' ∧ r = some (.int (nI 1)) ∧ (∀ x, x ≠ 181 → u'.1 x = u.1 x) ∧ u'.2 = u.2 ∧ u'.1 181 0 = nI 0 ∧ u'.1 181 1 = nI 3 ∧ u'.1 181 2 = nI 2 ∧ u'.1 181 3 = nI 1) := xC.of xpl10 (Nat.le_of_ble_eq_true rfl) (gNO_4_4 u v1 v2 v3 v4 v5 ⟨_, rfl, rfl, fun x hx => by rw [wi_row hx, wi_row hx], rfl, by rw [wi_nek (by decide), wi_nek (by decide)]; exact v2, by rw [wi_nek (by decide), wi_nek (by decide)]; exact v3, by rw [wi_nek (by decide), wi_self], by rw [wi_self]⟩)
theorem gNO_4_5 (u : xU) {Q : Option Value → xM → Prop}  (v1 : u.1 172 3 = nI (4)) (v2 : u.1 181 0 = nI (0)) (v3 : u.1 181 1 = nI (3)) (v4 : u.1 181 2 = nI (2)) (v5 : u.1 181 3 = nI (1))
    (k1 : Q (some (.int (nI (1)))) (xmm (wi (wi (wi (wi u 181 0 (nI (1))) 181 3 (nI (0))) 181 1 (nI (0))) 181 3 (nI (3))))) : xE mX10_nextOrder 0 [(0, .ref 172)] [] (xmm u) Q := by
  refine xe_aload_n 0 dX10_nextOrder_0 rfl rfl ?_
  refine xr_getI (v := nI (4)) dX10_nextOrder_1 fX10_119 sh172 (by decide) v1 ?_
  refine xe_iconst (v := nI (2)) dX10_nextOrder_4 xc2 ?_
  refine xn_isub dX10_nextOrder_5 (by decide) ?_
  refine xe_istore_n (L2 := [(0, .ref 172), (1, .int (nI (2)))]) dX10_nextOrder_6 rfl (by decide) rfl ?_
  refine xe_iload_n 1 dX10_nextOrder_7 rfl rfl ?_
  refine xn_if_lt 34 dX10_nextOrder_8 (by decide) (by omega) (fun q => absurd q (by omega)) (fun _ => ?_)
  refine xe_aload_n 0 dX10_nextOrder_11 rfl rfl ?_
  refine xr_getR (b := 181) dX10_nextOrder_12 fX10_34 rfl sh172 (by decide) rfl ?_
  refine xe_iload_n 1 dX10_nextOrder_15 rfl rfl ?_
  refine xr_iald (k := 2) (v := nI (2)) dX10_nextOrder_16 sh181 (by decide) (by omega) (by decide) v4 ?_
  refine xe_aload_n 0 dX10_nextOrder_17 rfl rfl ?_
  refine xr_getR (b := 181) dX10_nextOrder_18 fX10_34 rfl sh172 (by decide) rfl ?_
  refine xe_iload_n 1 dX10_nextOrder_21 rfl rfl ?_
  refine xe_iconst (v := nI (1)) dX10_nextOrder_22 xc1 ?_
  refine xn_iadd dX10_nextOrder_23 ?_
  refine xr_iald (k := 3) (v := nI (1)) dX10_nextOrder_24 sh181 (by decide) (by omega) (by decide) v5 ?_
  refine xn_icmp_le 34 dX10_nextOrder_25 (by decide) (by omega) (by omega) (fun q => absurd q (by decide)) (fun _ => ?_)
  refine xn_idec (L2 := [(0, .ref 172), (1, .int (nI (1)))]) 1 dX10_nextOrder_28 rfl (by decide) (by decide) rfl ?_
  refine xe_goto 7 dX10_nextOrder_31 (by decide) ?_
  refine xe_iload_n 1 dX10_nextOrder_7 rfl rfl ?_
  refine xn_if_lt 34 dX10_nextOrder_8 (by decide) (by omega) (fun q => absurd q (by omega)) (fun _ => ?_)
  refine xe_aload_n 0 dX10_nextOrder_11 rfl rfl ?_
  refine xr_getR (b := 181) dX10_nextOrder_12 fX10_34 rfl sh172 (by decide) rfl ?_
  refine xe_iload_n 1 dX10_nextOrder_15 rfl rfl ?_
  refine xr_iald (k := 1) (v := nI (3)) dX10_nextOrder_16 sh181 (by decide) (by omega) (by decide) v3 ?_
  refine xe_aload_n 0 dX10_nextOrder_17 rfl rfl ?_
  refine xr_getR (b := 181) dX10_nextOrder_18 fX10_34 rfl sh172 (by decide) rfl ?_
  refine xe_iload_n 1 dX10_nextOrder_21 rfl rfl ?_
  refine xe_iconst (v := nI (1)) dX10_nextOrder_22 xc1 ?_
  refine xn_iadd dX10_nextOrder_23 ?_
  refine xr_iald (k := 2) (v := nI (2)) dX10_nextOrder_24 sh181 (by decide) (by omega) (by decide) v4 ?_
  refine xn_icmp_le 34 dX10_nextOrder_25 (by decide) (by omega) (by omega) (fun q => absurd q (by decide)) (fun _ => ?_)
  refine xn_idec (L2 := [(0, .ref 172), (1, .int (nI (0)))]) 1 dX10_nextOrder_28 rfl (by decide) (by decide) rfl ?_
  refine xe_goto 7 dX10_nextOrder_31 (by decide) ?_
  refine xe_iload_n 1 dX10_nextOrder_7 rfl rfl ?_
  refine xn_if_lt 34 dX10_nextOrder_8 (by decide) (by omega) (fun q => absurd q (by omega)) (fun _ => ?_)
  refine xe_aload_n 0 dX10_nextOrder_11 rfl rfl ?_
  refine xr_getR (b := 181) dX10_nextOrder_12 fX10_34 rfl sh172 (by decide) rfl ?_
  refine xe_iload_n 1 dX10_nextOrder_15 rfl rfl ?_
  refine xr_iald (k := 0) (v := nI (0)) dX10_nextOrder_16 sh181 (by decide) (by omega) (by decide) v2 ?_
  refine xe_aload_n 0 dX10_nextOrder_17 rfl rfl ?_
  refine xr_getR (b := 181) dX10_nextOrder_18 fX10_34 rfl sh172 (by decide) rfl ?_
  refine xe_iload_n 1 dX10_nextOrder_21 rfl rfl ?_
  refine xe_iconst (v := nI (1)) dX10_nextOrder_22 xc1 ?_
  refine xn_iadd dX10_nextOrder_23 ?_
  refine xr_iald (k := 1) (v := nI (3)) dX10_nextOrder_24 sh181 (by decide) (by omega) (by decide) v3 ?_
  refine xn_icmp_le 34 dX10_nextOrder_25 (by decide) (by omega) (by omega) (fun _ => ?_) (fun q => absurd q (by decide))
  refine xe_iload_n 1 dX10_nextOrder_34 rfl rfl ?_
  refine xn_if_ge 40 dX10_nextOrder_35 (by decide) (by omega) (fun _ => ?_) (fun q => absurd (Nat.zero_le _) q)
  refine xe_aload_n 0 dX10_nextOrder_40 rfl rfl ?_
  refine xr_getI (v := nI (4)) dX10_nextOrder_41 fX10_119 sh172 (by decide) v1 ?_
  refine xe_iconst (v := nI (1)) dX10_nextOrder_44 xc1 ?_
  refine xn_isub dX10_nextOrder_45 (by decide) ?_
  refine xe_istore_n (L2 := [(0, .ref 172), (1, .int (nI (0))), (2, .int (nI (3)))]) dX10_nextOrder_46 rfl (by decide) rfl ?_
  refine xe_aload_n 0 dX10_nextOrder_47 rfl rfl ?_
  refine xr_getR (b := 181) dX10_nextOrder_48 fX10_34 rfl sh172 (by decide) rfl ?_
  refine xe_iload_n 2 dX10_nextOrder_51 rfl rfl ?_
  refine xr_iald (k := 3) (v := nI (1)) dX10_nextOrder_52 sh181 (by decide) (by omega) (by decide) v5 ?_
  refine xe_aload_n 0 dX10_nextOrder_53 rfl rfl ?_
  refine xr_getR (b := 181) dX10_nextOrder_54 fX10_34 rfl sh172 (by decide) rfl ?_
  refine xe_iload_n 1 dX10_nextOrder_57 rfl rfl ?_
  refine xr_iald (k := 0) (v := nI (0)) dX10_nextOrder_58 sh181 (by decide) (by omega) (by decide) v2 ?_
  refine xn_icmp_ge 68 dX10_nextOrder_59 (by decide) (by omega) (by omega) (fun _ => ?_) (fun q => absurd q (by decide))
  refine xe_aload_n 0 dX10_nextOrder_68 rfl rfl ?_
  refine xr_getR (b := 181) dX10_nextOrder_69 fX10_34 rfl sh172 (by decide) rfl ?_
  refine xe_iload_n 1 dX10_nextOrder_72 rfl rfl ?_
  refine xr_iald (k := 0) (v := nI (0)) dX10_nextOrder_73 sh181 (by decide) (by omega) (by decide) v2 ?_
  refine xe_istore_n (L2 := [(0, .ref 172), (1, .int (nI (0))), (2, .int (nI (3))), (3, .int (nI (0)))]) dX10_nextOrder_74 rfl (by decide) rfl ?_
  refine xe_aload_n 0 dX10_nextOrder_75 rfl rfl ?_
  refine xr_getR (b := 181) dX10_nextOrder_76 fX10_34 rfl sh172 (by decide) rfl ?_
  refine xe_iload_n 1 dX10_nextOrder_79 rfl rfl ?_
  refine xe_aload_n 0 dX10_nextOrder_80 rfl rfl ?_
  refine xr_getR (b := 181) dX10_nextOrder_81 fX10_34 rfl sh172 (by decide) rfl ?_
  refine xe_iload_n 2 dX10_nextOrder_84 rfl rfl ?_
  refine xr_iald (k := 3) (v := nI (1)) dX10_nextOrder_85 sh181 (by decide) (by omega) (by decide) v5 ?_
  refine xr_iast (k := 0) dX10_nextOrder_86 sh181 (by decide) (by omega) (by decide) ?_
  refine xe_aload_n 0 dX10_nextOrder_87 rfl rfl ?_
  refine xr_getR (b := 181) dX10_nextOrder_88 fX10_34 rfl sh172 (by decide) rfl ?_
  refine xe_iload_n 2 dX10_nextOrder_91 rfl rfl ?_
  refine xe_iload_n 3 dX10_nextOrder_92 rfl rfl ?_
  refine xr_iast (k := 3) dX10_nextOrder_93 sh181 (by decide) (by omega) (by decide) ?_
  refine xe_iload_n 1 dX10_nextOrder_94 rfl rfl ?_
  refine xe_iconst (v := nI (1)) dX10_nextOrder_95 xc1 ?_
  refine xn_iadd dX10_nextOrder_96 ?_
  refine xe_istore (L2 := [(0, .ref 172), (1, .int (nI (0))), (2, .int (nI (3))), (3, .int (nI (0))), (4, .int (nI (1)))]) dX10_nextOrder_97 (by decide) rfl ?_
  refine xe_aload_n 0 dX10_nextOrder_99 rfl rfl ?_
  refine xr_getI (v := nI (4)) dX10_nextOrder_100 fX10_119 sh172 (by decide) ((wi_ne (by omega)).trans ((wi_ne (by omega)).trans v1)) ?_
  refine xe_iconst (v := nI (1)) dX10_nextOrder_103 xc1 ?_
  refine xn_isub dX10_nextOrder_104 (by decide) ?_
  refine xe_istore (L2 := [(0, .ref 172), (1, .int (nI (0))), (2, .int (nI (3))), (3, .int (nI (0))), (4, .int (nI (1))), (5, .int (nI (3)))]) dX10_nextOrder_105 (by decide) rfl ?_
  refine xe_iload 4 dX10_nextOrder_107 rfl ?_
  refine xe_iload 5 dX10_nextOrder_109 rfl ?_
  refine xn_icmp_ge 153 dX10_nextOrder_111 (by decide) (by omega) (by omega) (fun q => absurd q (by decide)) (fun _ => ?_)
  refine xe_aload_n 0 dX10_nextOrder_114 rfl rfl ?_
  refine xr_getR (b := 181) dX10_nextOrder_115 fX10_34 rfl sh172 (by decide) rfl ?_
  refine xe_iload 4 dX10_nextOrder_118 rfl ?_
  refine xr_iald (k := 1) (v := nI (3)) dX10_nextOrder_120 sh181 (by decide) (by omega) (by decide) ((wi_nek (by decide)).trans ((wi_nek (by decide)).trans v3)) ?_
  refine xe_istore_n (L2 := [(0, .ref 172), (1, .int (nI (0))), (2, .int (nI (3))), (3, .int (nI (3))), (4, .int (nI (1))), (5, .int (nI (3)))]) dX10_nextOrder_121 rfl (by decide) rfl ?_
  refine xe_aload_n 0 dX10_nextOrder_122 rfl rfl ?_
  refine xr_getR (b := 181) dX10_nextOrder_123 fX10_34 rfl sh172 (by decide) rfl ?_
  refine xe_iload 4 dX10_nextOrder_126 rfl ?_
  refine xe_aload_n 0 dX10_nextOrder_128 rfl rfl ?_
  refine xr_getR (b := 181) dX10_nextOrder_129 fX10_34 rfl sh172 (by decide) rfl ?_
  refine xe_iload 5 dX10_nextOrder_132 rfl ?_
  refine xr_iald (k := 3) (v := nI (0)) dX10_nextOrder_134 sh181 (by decide) (by omega) (by decide) wi_self ?_
  refine xr_iast (k := 1) dX10_nextOrder_135 sh181 (by decide) (by omega) (by decide) ?_
  refine xe_aload_n 0 dX10_nextOrder_136 rfl rfl ?_
  refine xr_getR (b := 181) dX10_nextOrder_137 fX10_34 rfl sh172 (by decide) rfl ?_
  refine xe_iload 5 dX10_nextOrder_140 rfl ?_
  refine xe_iload_n 3 dX10_nextOrder_142 rfl rfl ?_
  refine xr_iast (k := 3) dX10_nextOrder_143 sh181 (by decide) (by omega) (by decide) ?_
  refine xn_iinc (c := 1) (L2 := [(0, .ref 172), (1, .int (nI (0))), (2, .int (nI (3))), (3, .int (nI (3))), (4, .int (nI (2))), (5, .int (nI (3)))]) 4 dX10_nextOrder_144 rfl (by decide) rfl ?_
  refine xn_idec (L2 := [(0, .ref 172), (1, .int (nI (0))), (2, .int (nI (3))), (3, .int (nI (3))), (4, .int (nI (2))), (5, .int (nI (2)))]) 5 dX10_nextOrder_147 rfl (by decide) (by decide) rfl ?_
  refine xe_goto 107 dX10_nextOrder_150 (by decide) ?_
  refine xe_iload 4 dX10_nextOrder_107 rfl ?_
  refine xe_iload 5 dX10_nextOrder_109 rfl ?_
  refine xn_icmp_ge 153 dX10_nextOrder_111 (by decide) (by omega) (by omega) (fun _ => ?_) (fun q => absurd q (by decide))
  refine xe_iconst (v := nI (1)) dX10_nextOrder_153 xc1 ?_
  exact xe_ret (r := (some (.int (nI (1))))) dX10_nextOrder_154 (Or.inr rfl) (k1)

theorem hNO_4_5 (u : xU) (v1 : u.1 172 3 = nI (4)) (v2 : u.1 181 0 = nI (0)) (v3 : u.1 181 1 = nI (3)) (v4 : u.1 181 2 = nI (2)) (v5 : u.1 181 3 = nI (1)) : xC mX10_nextOrder [.ref 172] (xmm u) (fun r μ' => ∃ u' : xU, μ' = xmm u' ∧ r = some (.int (nI 1)) ∧ (∀ x, x ≠ 181 → u'.1 x = u.1 x) ∧ u'.2 = u.2 ∧ u'.1 181 0 = nI 1 ∧ u'.1 181 1 = nI 0 ∧ u'.1 181 2 = nI 2 ∧ u'.1 181 3 = nI 3) := xC.of xpl10 (Nat.le_of_ble_eq_true rfl) (gNO_4_5 u v1 v2 v3 v4 v5 ⟨_, rfl, rfl, fun x hx => by rw [wi_row hx, wi_row hx, wi_row hx, wi_row hx], rfl, by rw [wi_nek (by decide), wi_nek (by decide), wi_nek (by decide), wi_self], by rw [wi_nek (by decide), wi_self], by rw [wi_nek (by decide), wi_nek (by decide), wi_nek (by decide), wi_nek (by decide)]; exact v4, by rw [wi_self]⟩)
theorem gNO_4_6 (u : xU) {Q : Option Value → xM → Prop}  (v1 : u.1 172 3 = nI (4)) (v2 : u.1 181 0 = nI (1)) (v3 : u.1 181 1 = nI (0)) (v4 : u.1 181 2 = nI (2)) (v5 : u.1 181 3 = nI (3))
    (k1 : Q (some (.int (nI (1)))) (xmm (wi (wi u 181 2 (nI (3))) 181 3 (nI (2))))) : xE mX10_nextOrder 0 [(0, .ref 172)] [] (xmm u) Q := by
  refine xe_aload_n 0 dX10_nextOrder_0 rfl rfl ?_
  refine xr_getI (v := nI (4)) dX10_nextOrder_1 fX10_119 sh172 (by decide) v1 ?_
  refine xe_iconst (v := nI (2)) dX10_nextOrder_4 xc2 ?_
  refine xn_isub dX10_nextOrder_5 (by decide) ?_
  refine xe_istore_n (L2 := [(0, .ref 172), (1, .int (nI (2)))]) dX10_nextOrder_6 rfl (by decide) rfl ?_
  refine xe_iload_n 1 dX10_nextOrder_7 rfl rfl ?_
  refine xn_if_lt 34 dX10_nextOrder_8 (by decide) (by omega) (fun q => absurd q (by omega)) (fun _ => ?_)
  refine xe_aload_n 0 dX10_nextOrder_11 rfl rfl ?_
  refine xr_getR (b := 181) dX10_nextOrder_12 fX10_34 rfl sh172 (by decide) rfl ?_
  refine xe_iload_n 1 dX10_nextOrder_15 rfl rfl ?_
  refine xr_iald (k := 2) (v := nI (2)) dX10_nextOrder_16 sh181 (by decide) (by omega) (by decide) v4 ?_
  refine xe_aload_n 0 dX10_nextOrder_17 rfl rfl ?_
  refine xr_getR (b := 181) dX10_nextOrder_18 fX10_34 rfl sh172 (by decide) rfl ?_
  refine xe_iload_n 1 dX10_nextOrder_21 rfl rfl ?_
  refine xe_iconst (v := nI (1)) dX10_nextOrder_22 xc1 ?_
  refine xn_iadd dX10_nextOrder_23 ?_
  refine xr_iald (k := 3) (v := nI (3)) dX10_nextOrder_24 sh181 (by decide) (by omega) (by decide) v5 ?_
  refine xn_icmp_le 34 dX10_nextOrder_25 (by decide) (by omega) (by omega) (fun _ => ?_) (fun q => absurd q (by decide))
  refine xe_iload_n 1 dX10_nextOrder_34 rfl rfl ?_
  refine xn_if_ge 40 dX10_nextOrder_35 (by decide) (by omega) (fun _ => ?_) (fun q => absurd (Nat.zero_le _) q)
  refine xe_aload_n 0 dX10_nextOrder_40 rfl rfl ?_
  refine xr_getI (v := nI (4)) dX10_nextOrder_41 fX10_119 sh172 (by decide) v1 ?_
  refine xe_iconst (v := nI (1)) dX10_nextOrder_44 xc1 ?_
  refine xn_isub dX10_nextOrder_45 (by decide) ?_
  refine xe_istore_n (L2 := [(0, .ref 172), (1, .int (nI (2))), (2, .int (nI (3)))]) dX10_nextOrder_46 rfl (by decide) rfl ?_
  refine xe_aload_n 0 dX10_nextOrder_47 rfl rfl ?_
  refine xr_getR (b := 181) dX10_nextOrder_48 fX10_34 rfl sh172 (by decide) rfl ?_
  refine xe_iload_n 2 dX10_nextOrder_51 rfl rfl ?_
  refine xr_iald (k := 3) (v := nI (3)) dX10_nextOrder_52 sh181 (by decide) (by omega) (by decide) v5 ?_
  refine xe_aload_n 0 dX10_nextOrder_53 rfl rfl ?_
  refine xr_getR (b := 181) dX10_nextOrder_54 fX10_34 rfl sh172 (by decide) rfl ?_
  refine xe_iload_n 1 dX10_nextOrder_57 rfl rfl ?_
  refine xr_iald (k := 2) (v := nI (2)) dX10_nextOrder_58 sh181 (by decide) (by omega) (by decide) v4 ?_
  refine xn_icmp_ge 68 dX10_nextOrder_59 (by decide) (by omega) (by omega) (fun _ => ?_) (fun q => absurd q (by decide))
  refine xe_aload_n 0 dX10_nextOrder_68 rfl rfl ?_
  refine xr_getR (b := 181) dX10_nextOrder_69 fX10_34 rfl sh172 (by decide) rfl ?_
  refine xe_iload_n 1 dX10_nextOrder_72 rfl rfl ?_
  refine xr_iald (k := 2) (v := nI (2)) dX10_nextOrder_73 sh181 (by decide) (by omega) (by decide) v4 ?_
  refine xe_istore_n (L2 := [(0, .ref 172), (1, .int (nI (2))), (2, .int (nI (3))), (3, .int (nI (2)))]) dX10_nextOrder_74 rfl (by decide) rfl ?_
  refine xe_aload_n 0 dX10_nextOrder_75 rfl rfl ?_
  refine xr_getR (b := 181) dX10_nextOrder_76 fX10_34 rfl sh172 (by decide) rfl ?_
  refine xe_iload_n 1 dX10_nextOrder_79 rfl rfl ?_
  refine xe_aload_n 0 dX10_nextOrder_80 rfl rfl ?_
  refine xr_getR (b := 181) dX10_nextOrder_81 fX10_34 rfl sh172 (by decide) rfl ?_
  refine xe_iload_n 2 dX10_nextOrder_84 rfl rfl ?_
  refine xr_iald (k := 3) (v := nI (3)) dX10_nextOrder_85 sh181 (by decide) (by omega) (by decide) v5 ?_
  refine xr_iast (k := 2) dX10_nextOrder_86 sh181 (by decide) (by omega) (by decide) ?_
  refine xe_aload_n 0 dX10_nextOrder_87 rfl rfl ?_
  refine xr_getR (b := 181) dX10_nextOrder_88 fX10_34 rfl sh172 (by decide) rfl ?_
  refine xe_iload_n 2 dX10_nextOrder_91 rfl rfl ?_
  refine xe_iload_n 3 dX10_nextOrder_92 rfl rfl ?_
  refine xr_iast (k := 3) dX10_nextOrder_93 sh181 (by decide) (by omega) (by decide) ?_
  refine xe_iload_n 1 dX10_nextOrder_94 rfl rfl ?_
  refine xe_iconst (v := nI (1)) dX10_nextOrder_95 xc1 ?_
  refine xn_iadd dX10_nextOrder_96 ?_
  refine xe_istore (L2 := [(0, .ref 172), (1, .int (nI (2))), (2, .int (nI (3))), (3, .int (nI (2))), (4, .int (nI (3)))]) dX10_nextOrder_97 (by decide) rfl ?_
  refine xe_aload_n 0 dX10_nextOrder_99 rfl rfl ?_
  refine xr_getI (v := nI (4)) dX10_nextOrder_100 fX10_119 sh172 (by decide) ((wi_ne (by omega)).trans ((wi_ne (by omega)).trans v1)) ?_
  refine xe_iconst (v := nI (1)) dX10_nextOrder_103 xc1 ?_
  refine xn_isub dX10_nextOrder_104 (by decide) ?_
  refine xe_istore (L2 := [(0, .ref 172), (1, .int (nI (2))), (2, .int (nI (3))), (3, .int (nI (2))), (4, .int (nI (3))), (5, .int (nI (3)))]) dX10_nextOrder_105 (by decide) rfl ?_
  refine xe_iload 4 dX10_nextOrder_107 rfl ?_
  refine xe_iload 5 dX10_nextOrder_109 rfl ?_
  refine xn_icmp_ge 153 dX10_nextOrder_111 (by decide) (by omega) (by omega) (fun _ => ?_) (fun q => absurd q (by decide))
  refine xe_iconst (v := nI (1)) dX10_nextOrder_153 xc1 ?_
  exact xe_ret (r := (some (.int (nI (1))))) dX10_nextOrder_154 (Or.inr rfl) (k1)

theorem hNO_4_6 (u : xU) (v1 : u.1 172 3 = nI (4)) (v2 : u.1 181 0 = nI (1)) (v3 : u.1 181 1 = nI (0)) (v4 : u.1 181 2 = nI (2)) (v5 : u.1 181 3 = nI (3)) : xC mX10_nextOrder [.ref 172] (xmm u) (fun r μ' => ∃ u' : xU, μ' = xmm u' ∧ r = some (.int (nI 1)) ∧ (∀ x, x ≠ 181 → u'.1 x = u.1 x) ∧ u'.2 = u.2 ∧ u'.1 181 0 = nI 1 ∧ u'.1 181 1 = nI 0 ∧ u'.1 181 2 = nI 3 ∧ u'.1 181 3 = nI 2) := xC.of xpl10 (Nat.le_of_ble_eq_true rfl) (gNO_4_6 u v1 v2 v3 v4 v5 ⟨_, rfl, rfl, fun x hx => by rw [wi_row hx, wi_row hx], rfl, by rw [wi_nek (by decide), wi_nek (by decide)]; exact v2, by rw [wi_nek (by decide), wi_nek (by decide)]; exact v3, by rw [wi_nek (by decide), wi_self], by rw [wi_self]⟩)
theorem gNO_4_7 (u : xU) {Q : Option Value → xM → Prop}  (v1 : u.1 172 3 = nI (4)) (v2 : u.1 181 0 = nI (1)) (v3 : u.1 181 1 = nI (0)) (v4 : u.1 181 2 = nI (3)) (v5 : u.1 181 3 = nI (2))
    (k1 : Q (some (.int (nI (1)))) (xmm (wi (wi (wi (wi u 181 1 (nI (2))) 181 3 (nI (0))) 181 2 (nI (0))) 181 3 (nI (3))))) : xE mX10_nextOrder 0 [(0, .ref 172)] [] (xmm u) Q := by
  refine xe_aload_n 0 dX10_nextOrder_0 rfl rfl ?_
  refine xr_getI (v := nI (4)) dX10_nextOrder_1 fX10_119 sh172 (by decide) v1 ?_
  refine xe_iconst (v := nI (2)) dX10_nextOrder_4 xc2 ?_
  refine xn_isub dX10_nextOrder_5 (by decide) ?_
  refine xe_istore_n (L2 := [(0, .ref 172), (1, .int (nI (2)))]) dX10_nextOrder_6 rfl (by decide) rfl ?_
  refine xe_iload_n 1 dX10_nextOrder_7 rfl rfl ?_
  refine xn_if_lt 34 dX10_nextOrder_8 (by decide) (by omega) (fun q => absurd q (by omega)) (fun _ => ?_)
  refine xe_aload_n 0 dX10_nextOrder_11 rfl rfl ?_
  refine xr_getR (b := 181) dX10_nextOrder_12 fX10_34 rfl sh172 (by decide) rfl ?_
  refine xe_iload_n 1 dX10_nextOrder_15 rfl rfl ?_
  refine xr_iald (k := 2) (v := nI (3)) dX10_nextOrder_16 sh181 (by decide) (by omega) (by decide) v4 ?_
  refine xe_aload_n 0 dX10_nextOrder_17 rfl rfl ?_
  refine xr_getR (b := 181) dX10_nextOrder_18 fX10_34 rfl sh172 (by decide) rfl ?_
  refine xe_iload_n 1 dX10_nextOrder_21 rfl rfl ?_
  refine xe_iconst (v := nI (1)) dX10_nextOrder_22 xc1 ?_
  refine xn_iadd dX10_nextOrder_23 ?_
  refine xr_iald (k := 3) (v := nI (2)) dX10_nextOrder_24 sh181 (by decide) (by omega) (by decide) v5 ?_
  refine xn_icmp_le 34 dX10_nextOrder_25 (by decide) (by omega) (by omega) (fun q => absurd q (by decide)) (fun _ => ?_)
  refine xn_idec (L2 := [(0, .ref 172), (1, .int (nI (1)))]) 1 dX10_nextOrder_28 rfl (by decide) (by decide) rfl ?_
  refine xe_goto 7 dX10_nextOrder_31 (by decide) ?_
  refine xe_iload_n 1 dX10_nextOrder_7 rfl rfl ?_
  refine xn_if_lt 34 dX10_nextOrder_8 (by decide) (by omega) (fun q => absurd q (by omega)) (fun _ => ?_)
  refine xe_aload_n 0 dX10_nextOrder_11 rfl rfl ?_
  refine xr_getR (b := 181) dX10_nextOrder_12 fX10_34 rfl sh172 (by decide) rfl ?_
  refine xe_iload_n 1 dX10_nextOrder_15 rfl rfl ?_
  refine xr_iald (k := 1) (v := nI (0)) dX10_nextOrder_16 sh181 (by decide) (by omega) (by decide) v3 ?_
  refine xe_aload_n 0 dX10_nextOrder_17 rfl rfl ?_
  refine xr_getR (b := 181) dX10_nextOrder_18 fX10_34 rfl sh172 (by decide) rfl ?_
  refine xe_iload_n 1 dX10_nextOrder_21 rfl rfl ?_
  refine xe_iconst (v := nI (1)) dX10_nextOrder_22 xc1 ?_
  refine xn_iadd dX10_nextOrder_23 ?_
  refine xr_iald (k := 2) (v := nI (3)) dX10_nextOrder_24 sh181 (by decide) (by omega) (by decide) v4 ?_
  refine xn_icmp_le 34 dX10_nextOrder_25 (by decide) (by omega) (by omega) (fun _ => ?_) (fun q => absurd q (by decide))
  refine xe_iload_n 1 dX10_nextOrder_34 rfl rfl ?_
  refine xn_if_ge 40 dX10_nextOrder_35 (by decide) (by omega) (fun _ => ?_) (fun q => absurd (Nat.zero_le _) q)
  refine xe_aload_n 0 dX10_nextOrder_40 rfl rfl ?_
  refine xr_getI (v := nI (4)) dX10_nextOrder_41 fX10_119 sh172 (by decide) v1 ?_
  refine xe_iconst (v := nI (1)) dX10_nextOrder_44 xc1 ?_
  refine xn_isub dX10_nextOrder_45 (by decide) ?_
  refine xe_istore_n (L2 := [(0, .ref 172), (1, .int (nI (1))), (2, .int (nI (3)))]) dX10_nextOrder_46 rfl (by decide) rfl ?_
  refine xe_aload_n 0 dX10_nextOrder_47 rfl rfl ?_
  refine xr_getR (b := 181) dX10_nextOrder_48 fX10_34 rfl sh172 (by decide) rfl ?_
  refine xe_iload_n 2 dX10_nextOrder_51 rfl rfl ?_
  refine xr_iald (k := 3) (v := nI (2)) dX10_nextOrder_52 sh181 (by decide) (by omega) (by decide) v5 ?_
  refine xe_aload_n 0 dX10_nextOrder_53 rfl rfl ?_
  refine xr_getR (b := 181) dX10_nextOrder_54 fX10_34 rfl sh172 (by decide) rfl ?_
  refine xe_iload_n 1 dX10_nextOrder_57 rfl rfl ?_
  refine xr_iald (k := 1) (v := nI (0)) dX10_nextOrder_58 sh181 (by decide) (by omega) (by decide) v3 ?_
  refine xn_icmp_ge 68 dX10_nextOrder_59 (by decide) (by omega) (by omega) (fun _ => ?_) (fun q => absurd q (by decide))
  refine xe_aload_n 0 dX10_nextOrder_68 rfl rfl ?_
  refine xr_getR (b := 181) dX10_nextOrder_69 fX10_34 rfl sh172 (by decide) rfl ?_
  refine xe_iload_n 1 dX10_nextOrder_72 rfl rfl ?_
  refine xr_iald (k := 1) (v := nI (0)) dX10_nextOrder_73 sh181 (by decide) (by omega) (by decide) v3 ?_
  refine xe_istore_n (L2 := [(0, .ref 172), (1, .int (nI (1))), (2, .int (nI (3))), (3, .int (nI (0)))]) dX10_nextOrder_74 rfl (by decide) rfl ?_
  refine xe_aload_n 0 dX10_nextOrder_75 rfl rfl ?_
  refine xr_getR (b := 181) dX10_nextOrder_76 fX10_34 rfl sh172 (by decide) rfl ?_
  refine xe_iload_n 1 dX10_nextOrder_79 rfl rfl ?_
  refine xe_aload_n 0 dX10_nextOrder_80 rfl rfl ?_
  refine xr_getR (b := 181) dX10_nextOrder_81 fX10_34 rfl sh172 (by decide) rfl ?_
  refine xe_iload_n 2 dX10_nextOrder_84 rfl rfl ?_
  refine xr_iald (k := 3) (v := nI (2)) dX10_nextOrder_85 sh181 (by decide) (by omega) (by decide) v5 ?_
  refine xr_iast (k := 1) dX10_nextOrder_86 sh181 (by decide) (by omega) (by decide) ?_
  refine xe_aload_n 0 dX10_nextOrder_87 rfl rfl ?_
  refine xr_getR (b := 181) dX10_nextOrder_88 fX10_34 rfl sh172 (by decide) rfl ?_
  refine xe_iload_n 2 dX10_nextOrder_91 rfl rfl ?_
  refine xe_iload_n 3 dX10_nextOrder_92 rfl rfl ?_
  refine xr_iast (k := 3) dX10_nextOrder_93 sh181 (by decide) (by omega) (by decide) ?_
  refine xe_iload_n 1 dX10_nextOrder_94 rfl rfl ?_
  refine xe_iconst (v := nI (1)) dX10_nextOrder_95 xc1 ?_
  refine xn_iadd dX10_nextOrder_96 ?_
  refine xe_istore (L2 := [(0, .ref 172), (1, .int (nI (1))), (2, .int (nI (3))), (3, .int (nI (0))), (4, .int (nI (2)))]) dX10_nextOrder_97 (by decide) rfl ?_
  refine xe_aload_n 0 dX10_nextOrder_99 rfl rfl ?_
  refine xr_getI (v := nI (4)) dX10_nextOrder_100 fX10_119 sh172 (by decide) ((wi_ne (by omega)).trans ((wi_ne (by omega)).trans v1)) ?_
  refine xe_iconst (v := nI (1)) dX10_nextOrder_103 xc1 ?_
  refine xn_isub dX10_nextOrder_104 (by decide) ?_
  refine xe_istore (L2 := [(0, .ref 172), (1, .int (nI (1))), (2, .int (nI (3))), (3, .int (nI (0))), (4, .int (nI (2))), (5, .int (nI (3)))]) dX10_nextOrder_105 (by decide) rfl ?_
  refine xe_iload 4 dX10_nextOrder_107 rfl ?_
  refine xe_iload 5 dX10_nextOrder_109 rfl ?_
  refine xn_icmp_ge 153 dX10_nextOrder_111 (by decide) (by omega) (by omega) (fun q => absurd q (by decide)) (fun _ => ?_)
  refine xe_aload_n 0 dX10_nextOrder_114 rfl rfl ?_
  refine xr_getR (b := 181) dX10_nextOrder_115 fX10_34 rfl sh172 (by decide) rfl ?_
  refine xe_iload 4 dX10_nextOrder_118 rfl ?_
  refine xr_iald (k := 2) (v := nI (3)) dX10_nextOrder_120 sh181 (by decide) (by omega) (by decide) ((wi_nek (by decide)).trans ((wi_nek (by decide)).trans v4)) ?_
  refine xe_istore_n (L2 := [(0, .ref 172), (1, .int (nI (1))), (2, .int (nI (3))), (3, .int (nI (3))), (4, .int (nI (2))), (5, .int (nI (3)))]) dX10_nextOrder_121 rfl (by decide) rfl ?_
  refine xe_aload_n 0 dX10_nextOrder_122 rfl rfl ?_
  refine xr_getR (b := 181) dX10_nextOrder_123 fX10_34 rfl sh172 (by decide) rfl ?_
  refine xe_iload 4 dX10_nextOrder_126 rfl ?_
  refine xe_aload_n 0 dX10_nextOrder_128 rfl rfl ?_
  refine xr_getR (b := 181) dX10_nextOrder_129 fX10_34 rfl sh172 (by decide) rfl ?_
  refine xe_iload 5 dX10_nextOrder_132 rfl ?_
  refine xr_iald (k := 3) (v := nI (0)) dX10_nextOrder_134 sh181 (by decide) (by omega) (by decide) wi_self ?_
  refine xr_iast (k := 2) dX10_nextOrder_135 sh181 (by decide) (by omega) (by decide) ?_
  refine xe_aload_n 0 dX10_nextOrder_136 rfl rfl ?_
  refine xr_getR (b := 181) dX10_nextOrder_137 fX10_34 rfl sh172 (by decide) rfl ?_
  refine xe_iload 5 dX10_nextOrder_140 rfl ?_
  refine xe_iload_n 3 dX10_nextOrder_142 rfl rfl ?_
  refine xr_iast (k := 3) dX10_nextOrder_143 sh181 (by decide) (by omega) (by decide) ?_
  refine xn_iinc (c := 1) (L2 := [(0, .ref 172), (1, .int (nI (1))), (2, .int (nI (3))), (3, .int (nI (3))), (4, .int (nI (3))), (5, .int (nI (3)))]) 4 dX10_nextOrder_144 rfl (by decide) rfl ?_
  refine xn_idec (L2 := [(0, .ref 172), (1, .int (nI (1))), (2, .int (nI (3))), (3, .int (nI (3))), (4, .int (nI (3))), (5, .int (nI (2)))]) 5 dX10_nextOrder_147 rfl (by decide) (by decide) rfl ?_
  refine xe_goto 107 dX10_nextOrder_150 (by decide) ?_
  refine xe_iload 4 dX10_nextOrder_107 rfl ?_
  refine xe_iload 5 dX10_nextOrder_109 rfl ?_
  refine xn_icmp_ge 153 dX10_nextOrder_111 (by decide) (by omega) (by omega) (fun _ => ?_) (fun q => absurd q (by decide))
  refine xe_iconst (v := nI (1)) dX10_nextOrder_153 xc1 ?_
  exact xe_ret (r := (some (.int (nI (1))))) dX10_nextOrder_154 (Or.inr rfl) (k1)

theorem hNO_4_7 (u : xU) (v1 : u.1 172 3 = nI (4)) (v2 : u.1 181 0 = nI (1)) (v3 : u.1 181 1 = nI (0)) (v4 : u.1 181 2 = nI (3)) (v5 : u.1 181 3 = nI (2)) : xC mX10_nextOrder [.ref 172] (xmm u) (fun r μ' => ∃ u' : xU, μ' = xmm u' ∧ r = some (.int (nI 1)) ∧ (∀ x, x ≠ 181 → u'.1 x = u.1 x) ∧ u'.2 = u.2 ∧ u'.1 181 0 = nI 1 ∧ u'.1 181 1 = nI 2 ∧ u'.1 181 2 = nI 0 ∧ u'.1 181 3 = nI 3) := xC.of xpl10 (Nat.le_of_ble_eq_true rfl) (gNO_4_7 u v1 v2 v3 v4 v5 ⟨_, rfl, rfl, fun x hx => by rw [wi_row hx, wi_row hx, wi_row hx, wi_row hx], rfl, by rw [wi_nek (by decide), wi_nek (by decide), wi_nek (by decide), wi_nek (by decide)]; exact v2, by rw [wi_nek (by decide), wi_nek (by decide), wi_nek (by decide), wi_self], by rw [wi_nek (by decide), wi_self], by rw [wi_self]⟩)
theorem gNO_4_8 (u : xU) {Q : Option Value → xM → Prop}  (v1 : u.1 172 3 = nI (4)) (v2 : u.1 181 0 = nI (1)) (v3 : u.1 181 1 = nI (2)) (v4 : u.1 181 2 = nI (0)) (v5 : u.1 181 3 = nI (3))
    (k1 : Q (some (.int (nI (1)))) (xmm (wi (wi u 181 2 (nI (3))) 181 3 (nI (0))))) : xE mX10_nextOrder 0 [(0, .ref 172)] [] (xmm u) Q := by
  refine xe_aload_n 0 dX10_nextOrder_0 rfl rfl ?_
  refine xr_getI (v := nI (4)) dX10_nextOrder_1 fX10_119 sh172 (by decide) v1 ?_
  refine xe_iconst (v := nI (2)) dX10_nextOrder_4 xc2 ?_
  refine xn_isub dX10_nextOrder_5 (by decide) ?_
  refine xe_istore_n (L2 := [(0, .ref 172), (1, .int (nI (2)))]) dX10_nextOrder_6 rfl (by decide) rfl ?_
  refine xe_iload_n 1 dX10_nextOrder_7 rfl rfl ?_
  refine xn_if_lt 34 dX10_nextOrder_8 (by decide) (by omega) (fun q => absurd q (by omega)) (fun _ => ?_)
  refine xe_aload_n 0 dX10_nextOrder_11 rfl rfl ?_
  refine xr_getR (b := 181) dX10_nextOrder_12 fX10_34 rfl sh172 (by decide) rfl ?_
  refine xe_iload_n 1 dX10_nextOrder_15 rfl rfl ?_
  refine xr_iald (k := 2) (v := nI (0)) dX10_nextOrder_16 sh181 (by decide) (by omega) (by decide) v4 ?_
  refine xe_aload_n 0 dX10_nextOrder_17 rfl rfl ?_
  refine xr_getR (b := 181) dX10_nextOrder_18 fX10_34 rfl sh172 (by decide) rfl ?_
  refine xe_iload_n 1 dX10_nextOrder_21 rfl rfl ?_
  refine xe_iconst (v := nI (1)) dX10_nextOrder_22 xc1 ?_
  refine xn_iadd dX10_nextOrder_23 ?_
  refine xr_iald (k := 3) (v := nI (3)) dX10_nextOrder_24 sh181 (by decide) (by omega) (by decide) v5 ?_
  refine xn_icmp_le 34 dX10_nextOrder_25 (by decide) (by omega) (by omega) (fun _ => ?_) (fun q => absurd q (by decide))
  refine xe_iload_n 1 dX10_nextOrder_34 rfl rfl ?_
  refine xn_if_ge 40 dX10_nextOrder_35 (by decide) (by omega) (fun _ => ?_) (fun q => absurd (Nat.zero_le _) q)
  refine xe_aload_n 0 dX10_nextOrder_40 rfl rfl ?_
  refine xr_getI (v := nI (4)) dX10_nextOrder_41 fX10_119 sh172 (by decide) v1 ?_
  refine xe_iconst (v := nI (1)) dX10_nextOrder_44 xc1 ?_
  refine xn_isub dX10_nextOrder_45 (by decide) ?_
  refine xe_istore_n (L2 := [(0, .ref 172), (1, .int (nI (2))), (2, .int (nI (3)))]) dX10_nextOrder_46 rfl (by decide) rfl ?_
  refine xe_aload_n 0 dX10_nextOrder_47 rfl rfl ?_
  refine xr_getR (b := 181) dX10_nextOrder_48 fX10_34 rfl sh172 (by decide) rfl ?_
  refine xe_iload_n 2 dX10_nextOrder_51 rfl rfl ?_
  refine xr_iald (k := 3) (v := nI (3)) dX10_nextOrder_52 sh181 (by decide) (by omega) (by decide) v5 ?_
  refine xe_aload_n 0 dX10_nextOrder_53 rfl rfl ?_
  refine xr_getR (b := 181) dX10_nextOrder_54 fX10_34 rfl sh172 (by decide) rfl ?_
  refine xe_iload_n 1 dX10_nextOrder_57 rfl rfl ?_
  refine xr_iald (k := 2) (v := nI (0)) dX10_nextOrder_58 sh181 (by decide) (by omega) (by decide) v4 ?_
  refine xn_icmp_ge 68 dX10_nextOrder_59 (by decide) (by omega) (by omega) (fun _ => ?_) (fun q => absurd q (by decide))
  refine xe_aload_n 0 dX10_nextOrder_68 rfl rfl ?_
  refine xr_getR (b := 181) dX10_nextOrder_69 fX10_34 rfl sh172 (by decide) rfl ?_
  refine xe_iload_n 1 dX10_nextOrder_72 rfl rfl ?_
  refine xr_iald (k := 2) (v := nI (0)) dX10_nextOrder_73 sh181 (by decide) (by omega) (by decide) v4 ?_
  refine xe_istore_n (L2 := [(0, .ref 172), (1, .int (nI (2))), (2, .int (nI (3))), (3, .int (nI (0)))]) dX10_nextOrder_74 rfl (by decide) rfl ?_
  refine xe_aload_n 0 dX10_nextOrder_75 rfl rfl ?_
  refine xr_getR (b := 181) dX10_nextOrder_76 fX10_34 rfl sh172 (by decide) rfl ?_
  refine xe_iload_n 1 dX10_nextOrder_79 rfl rfl ?_
  refine xe_aload_n 0 dX10_nextOrder_80 rfl rfl ?_
  refine xr_getR (b := 181) dX10_nextOrder_81 fX10_34 rfl sh172 (by decide) rfl ?_
  refine xe_iload_n 2 dX10_nextOrder_84 rfl rfl ?_
  refine xr_iald (k := 3) (v := nI (3)) dX10_nextOrder_85 sh181 (by decide) (by omega) (by decide) v5 ?_
  refine xr_iast (k := 2) dX10_nextOrder_86 sh181 (by decide) (by omega) (by decide) ?_
  refine xe_aload_n 0 dX10_nextOrder_87 rfl rfl ?_
  refine xr_getR (b := 181) dX10_nextOrder_88 fX10_34 rfl sh172 (by decide) rfl ?_
  refine xe_iload_n 2 dX10_nextOrder_91 rfl rfl ?_
  refine xe_iload_n 3 dX10_nextOrder_92 rfl rfl ?_
  refine xr_iast (k := 3) dX10_nextOrder_93 sh181 (by decide) (by omega) (by decide) ?_
  refine xe_iload_n 1 dX10_nextOrder_94 rfl rfl ?_
  refine xe_iconst (v := nI (1)) dX10_nextOrder_95 xc1 ?_
  refine xn_iadd dX10_nextOrder_96 ?_
  refine xe_istore (L2 := [(0, .ref 172), (1, .int (nI (2))), (2, .int (nI (3))), (3, .int (nI (0))), (4, .int (nI (3)))]) dX10_nextOrder_97 (by decide) rfl ?_
  refine xe_aload_n 0 dX10_nextOrder_99 rfl rfl ?_
  refine xr_getI (v := nI (4)) dX10_nextOrder_100 fX10_119 sh172 (by decide) ((wi_ne (by omega)).trans ((wi_ne (by omega)).trans v1)) ?_
  refine xe_iconst (v := nI (1)) dX10_nextOrder_103 xc1 ?_
  refine xn_isub dX10_nextOrder_104 (by decide) ?_
  refine xe_istore (L2 := [(0, .ref 172), (1, .int (nI (2))), (2, .int (nI (3))), (3, .int (nI (0))), (4, .int (nI (3))), (5, .int (nI (3)))]) dX10_nextOrder_105 (by decide) rfl ?_
  refine xe_iload 4 dX10_nextOrder_107 rfl ?_
  refine xe_iload 5 dX10_nextOrder_109 rfl ?_
  refine xn_icmp_ge 153 dX10_nextOrder_111 (by decide) (by omega) (by omega) (fun _ => ?_) (fun q => absurd q (by decide))
  refine xe_iconst (v := nI (1)) dX10_nextOrder_153 xc1 ?_
  exact xe_ret (r := (some (.int (nI (1))))) dX10_nextOrder_154 (Or.inr rfl) (k1)

theorem hNO_4_8 (u : xU) (v1 : u.1 172 3 = nI (4)) (v2 : u.1 181 0 = nI (1)) (v3 : u.1 181 1 = nI (2)) (v4 : u.1 181 2 = nI (0)) (v5 : u.1 181 3 = nI (3)) : xC mX10_nextOrder [.ref 172] (xmm u) (fun r μ' => ∃ u' : xU, μ' = xmm u' ∧ r = some (.int (nI 1)) ∧ (∀ x, x ≠ 181 → u'.1 x = u.1 x) ∧ u'.2 = u.2 ∧ u'.1 181 0 = nI 1 ∧ u'.1 181 1 = nI 2 ∧ u'.1 181 2 = nI 3 ∧ u'.1 181 3 = nI 0) := xC.of xpl10 (Nat.le_of_ble_eq_true rfl) (gNO_4_8 u v1 v2 v3 v4 v5 ⟨_, rfl, rfl, fun x hx => by rw [wi_row hx, wi_row hx], rfl, by rw [wi_nek (by decide), wi_nek (by decide)]; exact v2, by rw [wi_nek (by decide), wi_nek (by decide)]; exact v3, by rw [wi_nek (by decide), wi_self], by rw [wi_self]⟩)
theorem gNO_4_9 (u : xU) {Q : Option Value → xM → Prop}  (v1 : u.1 172 3 = nI (4)) (v2 : u.1 181 0 = nI (1)) (v3 : u.1 181 1 = nI (2)) (v4 : u.1 181 2 = nI (3)) (v5 : u.1 181 3 = nI (0))
    (k1 : Q (some (.int (nI (1)))) (xmm (wi (wi (wi (wi u 181 1 (nI (3))) 181 2 (nI (2))) 181 2 (nI (0))) 181 3 (nI (2))))) : xE mX10_nextOrder 0 [(0, .ref 172)] [] (xmm u) Q := by
  refine xe_aload_n 0 dX10_nextOrder_0 rfl rfl ?_
  refine xr_getI (v := nI (4)) dX10_nextOrder_1 fX10_119 sh172 (by decide) v1 ?_
  refine xe_iconst (v := nI (2)) dX10_nextOrder_4 xc2 ?_
  refine xn_isub dX10_nextOrder_5 (by decide) ?_
  refine xe_istore_n (L2 := [(0, .ref 172), (1, .int (nI (2)))]) dX10_nextOrder_6 rfl (by decide) rfl ?_
  refine xe_iload_n 1 dX10_nextOrder_7 rfl rfl ?_
  refine xn_if_lt 34 dX10_nextOrder_8 (by decide) (by omega) (fun q => absurd q (by omega)) (fun _ => ?_)
  refine xe_aload_n 0 dX10_nextOrder_11 rfl rfl ?_
  refine xr_getR (b := 181) dX10_nextOrder_12 fX10_34 rfl sh172 (by decide) rfl ?_
  refine xe_iload_n 1 dX10_nextOrder_15 rfl rfl ?_
  refine xr_iald (k := 2) (v := nI (3)) dX10_nextOrder_16 sh181 (by decide) (by omega) (by decide) v4 ?_
  refine xe_aload_n 0 dX10_nextOrder_17 rfl rfl ?_
  refine xr_getR (b := 181) dX10_nextOrder_18 fX10_34 rfl sh172 (by decide) rfl ?_
  refine xe_iload_n 1 dX10_nextOrder_21 rfl rfl ?_
  refine xe_iconst (v := nI (1)) dX10_nextOrder_22 xc1 ?_
  refine xn_iadd dX10_nextOrder_23 ?_
  refine xr_iald (k := 3) (v := nI (0)) dX10_nextOrder_24 sh181 (by decide) (by omega) (by decide) v5 ?_
  refine xn_icmp_le 34 dX10_nextOrder_25 (by decide) (by omega) (by omega) (fun q => absurd q (by decide)) (fun _ => ?_)
  refine xn_idec (L2 := [(0, .ref 172), (1, .int (nI (1)))]) 1 dX10_nextOrder_28 rfl (by decide) (by decide) rfl ?_
  refine xe_goto 7 dX10_nextOrder_31 (by decide) ?_
  refine xe_iload_n 1 dX10_nextOrder_7 rfl rfl ?_
  refine xn_if_lt 34 dX10_nextOrder_8 (by decide) (by omega) (fun q => absurd q (by omega)) (fun _ => ?_)
  refine xe_aload_n 0 dX10_nextOrder_11 rfl rfl ?_
  refine xr_getR (b := 181) dX10_nextOrder_12 fX10_34 rfl sh172 (by decide) rfl ?_
  refine xe_iload_n 1 dX10_nextOrder_15 rfl rfl ?_
  refine xr_iald (k := 1) (v := nI (2)) dX10_nextOrder_16 sh181 (by decide) (by omega) (by decide) v3 ?_
  refine xe_aload_n 0 dX10_nextOrder_17 rfl rfl ?_
  refine xr_getR (b := 181) dX10_nextOrder_18 fX10_34 rfl sh172 (by decide) rfl ?_
  refine xe_iload_n 1 dX10_nextOrder_21 rfl rfl ?_
  refine xe_iconst (v := nI (1)) dX10_nextOrder_22 xc1 ?_
  refine xn_iadd dX10_nextOrder_23 ?_
  refine xr_iald (k := 2) (v := nI (3)) dX10_nextOrder_24 sh181 (by decide) (by omega) (by decide) v4 ?_
  refine xn_icmp_le 34 dX10_nextOrder_25 (by decide) (by omega) (by omega) (fun _ => ?_) (fun q => absurd q (by decide))
  refine xe_iload_n 1 dX10_nextOrder_34 rfl rfl ?_
  refine xn_if_ge 40 dX10_nextOrder_35 (by decide) (by omega) (fun _ => ?_) (fun q => absurd (Nat.zero_le _) q)
  refine xe_aload_n 0 dX10_nextOrder_40 rfl rfl ?_
  refine xr_getI (v := nI (4)) dX10_nextOrder_41 fX10_119 sh172 (by decide) v1 ?_
  refine xe_iconst (v := nI (1)) dX10_nextOrder_44 xc1 ?_
  refine xn_isub dX10_nextOrder_45 (by decide) ?_
  refine xe_istore_n (L2 := [(0, .ref 172), (1, .int (nI (1))), (2, .int (nI (3)))]) dX10_nextOrder_46 rfl (by decide) rfl ?_
  refine xe_aload_n 0 dX10_nextOrder_47 rfl rfl ?_
  refine xr_getR (b := 181) dX10_nextOrder_48 fX10_34 rfl sh172 (by decide) rfl ?_
  refine xe_iload_n 2 dX10_nextOrder_51 rfl rfl ?_
  refine xr_iald (k := 3) (v := nI (0)) dX10_nextOrder_52 sh181 (by decide) (by omega) (by decide) v5 ?_
  refine xe_aload_n 0 dX10_nextOrder_53 rfl rfl ?_
  refine xr_getR (b := 181) dX10_nextOrder_54 fX10_34 rfl sh172 (by decide) rfl ?_
  refine xe_iload_n 1 dX10_nextOrder_57 rfl rfl ?_
  refine xr_iald (k := 1) (v := nI (2)) dX10_nextOrder_58 sh181 (by decide) (by omega) (by decide) v3 ?_
  refine xn_icmp_ge 68 dX10_nextOrder_59 (by decide) (by omega) (by omega) (fun q => absurd q (by decide)) (fun _ => ?_)
  refine xn_idec (L2 := [(0, .ref 172), (1, .int (nI (1))), (2, .int (nI (2)))]) 2 dX10_nextOrder_62 rfl (by decide) (by decide) rfl ?_
  refine xe_goto 47 dX10_nextOrder_65 (by decide) ?_
  refine xe_aload_n 0 dX10_nextOrder_47 rfl rfl ?_
  refine xr_getR (b := 181) dX10_nextOrder_48 fX10_34 rfl sh172 (by decide) rfl ?_
  refine xe_iload_n 2 dX10_nextOrder_51 rfl rfl ?_
  refine xr_iald (k := 2) (v := nI (3)) dX10_nextOrder_52 sh181 (by decide) (by omega) (by decide) v4 ?_
  refine xe_aload_n 0 dX10_nextOrder_53 rfl rfl ?_
  refine xr_getR (b := 181) dX10_nextOrder_54 fX10_34 rfl sh172 (by decide) rfl ?_
  refine xe_iload_n 1 dX10_nextOrder_57 rfl rfl ?_
  refine xr_iald (k := 1) (v := nI (2)) dX10_nextOrder_58 sh181 (by decide) (by omega) (by decide) v3 ?_
  refine xn_icmp_ge 68 dX10_nextOrder_59 (by decide) (by omega) (by omega) (fun _ => ?_) (fun q => absurd q (by decide))
  refine xe_aload_n 0 dX10_nextOrder_68 rfl rfl ?_
  refine xr_getR (b := 181) dX10_nextOrder_69 fX10_34 rfl sh172 (by decide) rfl ?_
  refine xe_iload_n 1 dX10_nextOrder_72 rfl rfl ?_
  refine xr_iald (k := 1) (v := nI (2)) dX10_nextOrder_73 sh181 (by decide) (by omega) (by decide) v3 ?_
  refine xe_istore_n (L2 := [(0, .ref 172), (1, .int (nI (1))), (2, .int (nI (2))), (3, .int (nI (2)))]) dX10_nextOrder_74 rfl (by decide) rfl ?_
  refine xe_aload_n 0 dX10_nextOrder_75 rfl rfl ?_
  refine xr_getR (b := 181) dX10_nextOrder_76 fX10_34 rfl sh172 (by decide) rfl ?_
  refine xe_iload_n 1 dX10_nextOrder_79 rfl rfl ?_
  refine xe_aload_n 0 dX10_nextOrder_80 rfl rfl ?_
  refine xr_getR (b := 181) dX10_nextOrder_81 fX10_34 rfl sh172 (by decide) rfl ?_
  refine xe_iload_n 2 dX10_nextOrder_84 rfl rfl ?_
  refine xr_iald (k := 2) (v := nI (3)) dX10_nextOrder_85 sh181 (by decide) (by omega) (by decide) v4 ?_
  refine xr_iast (k := 1) dX10_nextOrder_86 sh181 (by decide) (by omega) (by decide) ?_
  refine xe_aload_n 0 dX10_nextOrder_87 rfl rfl ?_
  refine xr_getR (b := 181) dX10_nextOrder_88 fX10_34 rfl sh172 (by decide) rfl ?_
  refine xe_iload_n 2 dX10_nextOrder_91 rfl rfl ?_
  refine xe_iload_n 3 dX10_nextOrder_92 rfl rfl ?_
  refine xr_iast (k := 2) dX10_nextOrder_93 sh181 (by decide) (by omega) (by decide) ?_
  refine xe_iload_n 1 dX10_nextOrder_94 rfl rfl ?_
  refine xe_iconst (v := nI (1)) dX10_nextOrder_95 xc1 ?_
  refine xn_iadd dX10_nextOrder_96 ?_
  refine xe_istore (L2 := [(0, .ref 172), (1, .int (nI (1))), (2, .int (nI (2))), (3, .int (nI (2))), (4, .int (nI (2)))]) dX10_nextOrder_97 (by decide) rfl ?_
  refine xe_aload_n 0 dX10_nextOrder_99 rfl rfl ?_
  refine xr_getI (v := nI (4)) dX10_nextOrder_100 fX10_119 sh172 (by decide) ((wi_ne (by omega)).trans ((wi_ne (by omega)).trans v1)) ?_
  refine xe_iconst (v := nI (1)) dX10_nextOrder_103 xc1 ?_
  refine xn_isub dX10_nextOrder_104 (by decide) ?_
  refine xe_istore (L2 := [(0, .ref 172), (1, .int (nI (1))), (2, .int (nI (2))), (3, .int (nI (2))), (4, .int (nI (2))), (5, .int (nI (3)))]) dX10_nextOrder_105 (by decide) rfl ?_
  refine xe_iload 4 dX10_nextOrder_107 rfl ?_
  refine xe_iload 5 dX10_nextOrder_109 rfl ?_
  refine xn_icmp_ge 153 dX10_nextOrder_111 (by decide) (by omega) (by omega) (fun q => absurd q (by decide)) (fun _ => ?_)
  refine xe_aload_n 0 dX10_nextOrder_114 rfl rfl ?_
  refine xr_getR (b := 181) dX10_nextOrder_115 fX10_34 rfl sh172 (by decide) rfl ?_
  refine xe_iload 4 dX10_nextOrder_118 rfl ?_
  refine xr_iald (k := 2) (v := nI (2)) dX10_nextOrder_120 sh181 (by decide) (by omega) (by decide) wi_self ?_
  refine xe_istore_n (L2 := [(0, .ref 172), (1, .int (nI (1))), (2, .int (nI (2))), (3, .int (nI (2))), (4, .int (nI (2))), (5, .int (nI (3)))]) dX10_nextOrder_121 rfl (by decide) rfl ?_
  refine xe_aload_n 0 dX10_nextOrder_122 rfl rfl ?_
  refine xr_getR (b := 181) dX10_nextOrder_123 fX10_34 rfl sh172 (by decide) rfl ?_
  refine xe_iload 4 dX10_nextOrder_126 rfl ?_
  refine xe_aload_n 0 dX10_nextOrder_128 rfl rfl ?_
  refine xr_getR (b := 181) dX10_nextOrder_129 fX10_34 rfl sh172 (by decide) rfl ?_
  refine xe_iload 5 dX10_nextOrder_132 rfl ?_
  refine xr_iald (k := 3) (v := nI (0)) dX10_nextOrder_134 sh181 (by decide) (by omega) (by decide) ((wi_nek (by decide)).trans ((wi_nek (by decide)).trans v5)) ?_
  refine xr_iast (k := 2) dX10_nextOrder_135 sh181 (by decide) (by omega) (by decide) ?_
  refine xe_aload_n 0 dX10_nextOrder_136 rfl rfl ?_
  refine xr_getR (b := 181) dX10_nextOrder_137 fX10_34 rfl sh172 (by decide) rfl ?_
  refine xe_iload 5 dX10_nextOrder_140 rfl ?_
  refine xe_iload_n 3 dX10_nextOrder_142 rfl rfl ?_
  refine xr_iast (k := 3) dX10_nextOrder_143 sh181 (by decide) (by omega) (by decide) ?_
  refine xn_iinc (c := 1) (L2 := [(0, .ref 172), (1, .int (nI (1))), (2, .int (nI (2))), (3, .int (nI (2))), (4, .int (nI (3))), (5, .int (nI (3)))]) 4 dX10_nextOrder_144 rfl (by decide) rfl ?_
  refine xn_idec (L2 := [(0, .ref 172), (1, .int (nI (1))), (2, .int (nI (2))), (3, .int (nI (2))), (4, .int (nI (3))), (5, .int (nI (2)))]) 5 dX10_nextOrder_147 rfl (by decide) (by decide) rfl ?_
  refine xe_goto 107 dX10_nextOrder_150 (by decide) ?_
  refine xe_iload 4 dX10_nextOrder_107 rfl ?_
  refine xe_iload 5 dX10_nextOrder_109 rfl ?_
  refine xn_icmp_ge 153 dX10_nextOrder_111 (by decide) (by omega) (by omega) (fun _ => ?_) (fun q => absurd q (by decide))
  refine xe_iconst (v := nI (1)) dX10_nextOrder_153 xc1 ?_
  exact xe_ret (r := (some (.int (nI (1))))) dX10_nextOrder_154 (Or.inr rfl) (k1)

theorem hNO_4_9 (u : xU) (v1 : u.1 172 3 = nI (4)) (v2 : u.1 181 0 = nI (1)) (v3 : u.1 181 1 = nI (2)) (v4 : u.1 181 2 = nI (3)) (v5 : u.1 181 3 = nI (0)) : xC mX10_nextOrder [.ref 172] (xmm u) (fun r μ' => ∃ u' : xU, μ' = xmm u' ∧ r = some (.int (nI 1)) ∧ (∀ x, x ≠ 181 → u'.1 x = u.1 x) ∧ u'.2 = u.2 ∧ u'.1 181 0 = nI 1 ∧ u'.1 181 1 = nI 3 ∧ u'.1 181 2 = nI 0 ∧ u'.1 181 3 = nI 2) := xC.of xpl10 (Nat.le_of_ble_eq_true rfl) (gNO_4_9 u v1 v2 v3 v4 v5 ⟨_, rfl, rfl, fun x hx => by rw [wi_row hx, wi_row hx, wi_row hx, wi_row hx], rfl, by rw [wi_nek (by decide), wi_nek (by decide), wi_nek (by decide), wi_nek (by decide)]; exact v2, by rw [wi_nek (by decide), wi_nek (by decide), wi_nek (by decide), wi_self], by rw [wi_nek (by decide), wi_self], by rw [wi_self]⟩)
theorem gNO_4_10 (u : xU) {Q : Option Value → xM → Prop}  (v1 : u.1 172 3 = nI (4)) (v2 : u.1 181 0 = nI (1)) (v3 : u.1 181 1 = nI (3)) (v4 : u.1 181 2 = nI (0)) (v5 : u.1 181 3 = nI (2))
    (k1 : Q (some (.int (nI (1)))) (xmm (wi (wi u 181 2 (nI (2))) 181 3 (nI (0))))) : xE mX10_nextOrder 0 [(0, .ref 172)] [] (xmm u) Q := by
  refine xe_aload_n 0 dX10_nextOrder_0 rfl rfl ?_
  refine xr_getI (v := nI (4)) dX10_nextOrder_1 fX10_119 sh172 (by decide) v1 ?_
  refine xe_iconst (v := nI (2)) dX10_nextOrder_4 xc2 ?_
  refine xn_isub dX10_nextOrder_5 (by decide) ?_
  refine xe_istore_n (L2 := [(0, .ref 172), (1, .int (nI (2)))]) dX10_nextOrder_6 rfl (by decide) rfl ?_
  refine xe_iload_n 1 dX10_nextOrder_7 rfl rfl ?_
  refine xn_if_lt 34 dX10_nextOrder_8 (by decide) (by omega) (fun q => absurd q (by omega)) (fun _ => ?_)
  refine xe_aload_n 0 dX10_nextOrder_11 rfl rfl ?_
  refine xr_getR (b := 181) dX10_nextOrder_12 fX10_34 rfl sh172 (by decide) rfl ?_
  refine xe_iload_n 1 dX10_nextOrder_15 rfl rfl ?_
  refine xr_iald (k := 2) (v := nI (0)) dX10_nextOrder_16 sh181 (by decide) (by omega) (by decide) v4 ?_
  refine xe_aload_n 0 dX10_nextOrder_17 rfl rfl ?_
  refine xr_getR (b := 181) dX10_nextOrder_18 fX10_34 rfl sh172 (by decide) rfl ?_
  refine xe_iload_n 1 dX10_nextOrder_21 rfl rfl ?_
  refine xe_iconst (v := nI (1)) dX10_nextOrder_22 xc1 ?_
  refine xn_iadd dX10_nextOrder_23 ?_
  refine xr_iald (k := 3) (v := nI (2)) dX10_nextOrder_24 sh181 (by decide) (by omega) (by decide) v5 ?_
  refine xn_icmp_le 34 dX10_nextOrder_25 (by decide) (by omega) (by omega) (fun _ => ?_) (fun q => absurd q (by decide))
  refine xe_iload_n 1 dX10_nextOrder_34 rfl rfl ?_
  refine xn_if_ge 40 dX10_nextOrder_35 (by decide) (by omega) (fun _ => ?_) (fun q => absurd (Nat.zero_le _) q)
  refine xe_aload_n 0 dX10_nextOrder_40 rfl rfl ?_
  refine xr_getI (v := nI (4)) dX10_nextOrder_41 fX10_119 sh172 (by decide) v1 ?_
  refine xe_iconst (v := nI (1)) dX10_nextOrder_44 xc1 ?_
  refine xn_isub dX10_nextOrder_45 (by decide) ?_
  refine xe_istore_n (L2 := [(0, .ref 172), (1, .int (nI (2))), (2, .int (nI (3)))]) dX10_nextOrder_46 rfl (by decide) rfl ?_
  refine xe_aload_n 0 dX10_nextOrder_47 rfl rfl ?_
  refine xr_getR (b := 181) dX10_nextOrder_48 fX10_34 rfl sh172 (by decide) rfl ?_
  refine xe_iload_n 2 dX10_nextOrder_51 rfl rfl ?_
  refine xr_iald (k := 3) (v := nI (2)) dX10_nextOrder_52 sh181 (by decide) (by omega) (by decide) v5 ?_
  refine xe_aload_n 0 dX10_nextOrder_53 rfl rfl ?_
  refine xr_getR (b := 181) dX10_nextOrder_54 fX10_34 rfl sh172 (by decide) rfl ?_
  refine xe_iload_n 1 dX10_nextOrder_57 rfl rfl ?_
  refine xr_iald (k := 2) (v := nI (0)) dX10_nextOrder_58 sh181 (by decide) (by omega) (by decide) v4 ?_
  refine xn_icmp_ge 68 dX10_nextOrder_59 (by decide) (by omega) (by omega) (fun _ => ?_) (fun q => absurd q (by decide))
  refine xe_aload_n 0 dX10_nextOrder_68 rfl rfl ?_
  refine xr_getR (b := 181) dX10_nextOrder_69 fX10_34 rfl sh172 (by decide) rfl ?_
  refine xe_iload_n 1 dX10_nextOrder_72 rfl rfl ?_
  refine xr_iald (k := 2) (v := nI (0)) dX10_nextOrder_73 sh181 (by decide) (by omega) (by decide) v4 ?_
  refine xe_istore_n (L2 := [(0, .ref 172), (1, .int (nI (2))), (2, .int (nI (3))), (3, .int (nI (0)))]) dX10_nextOrder_74 rfl (by decide) rfl ?_
  refine xe_aload_n 0 dX10_nextOrder_75 rfl rfl ?_
  refine xr_getR (b := 181) dX10_nextOrder_76 fX10_34 rfl sh172 (by decide) rfl ?_
  refine xe_iload_n 1 dX10_nextOrder_79 rfl rfl ?_
  refine xe_aload_n 0 dX10_nextOrder_80 rfl rfl ?_
  refine xr_getR (b := 181) dX10_nextOrder_81 fX10_34 rfl sh172 (by decide) rfl ?_
  refine xe_iload_n 2 dX10_nextOrder_84 rfl rfl ?_
  refine xr_iald (k := 3) (v := nI (2)) dX10_nextOrder_85 sh181 (by decide) (by omega) (by decide) v5 ?_
  refine xr_iast (k := 2) dX10_nextOrder_86 sh181 (by decide) (by omega) (by decide) ?_
  refine xe_aload_n 0 dX10_nextOrder_87 rfl rfl ?_
  refine xr_getR (b := 181) dX10_nextOrder_88 fX10_34 rfl sh172 (by decide) rfl ?_
  refine xe_iload_n 2 dX10_nextOrder_91 rfl rfl ?_
  refine xe_iload_n 3 dX10_nextOrder_92 rfl rfl ?_
  refine xr_iast (k := 3) dX10_nextOrder_93 sh181 (by decide) (by omega) (by decide) ?_
  refine xe_iload_n 1 dX10_nextOrder_94 rfl rfl ?_
  refine xe_iconst (v := nI (1)) dX10_nextOrder_95 xc1 ?_
  refine xn_iadd dX10_nextOrder_96 ?_
  refine xe_istore (L2 := [(0, .ref 172), (1, .int (nI (2))), (2, .int (nI (3))), (3, .int (nI (0))), (4, .int (nI (3)))]) dX10_nextOrder_97 (by decide) rfl ?_
  refine xe_aload_n 0 dX10_nextOrder_99 rfl rfl ?_
  refine xr_getI (v := nI (4)) dX10_nextOrder_100 fX10_119 sh172 (by decide) ((wi_ne (by omega)).trans ((wi_ne (by omega)).trans v1)) ?_
  refine xe_iconst (v := nI (1)) dX10_nextOrder_103 xc1 ?_
  refine xn_isub dX10_nextOrder_104 (by decide) ?_
  refine xe_istore (L2 := [(0, .ref 172), (1, .int (nI (2))), (2, .int (nI (3))), (3, .int (nI (0))), (4, .int (nI (3))), (5, .int (nI (3)))]) dX10_nextOrder_105 (by decide) rfl ?_
  refine xe_iload 4 dX10_nextOrder_107 rfl ?_
  refine xe_iload 5 dX10_nextOrder_109 rfl ?_
  refine xn_icmp_ge 153 dX10_nextOrder_111 (by decide) (by omega) (by omega) (fun _ => ?_) (fun q => absurd q (by decide))
  refine xe_iconst (v := nI (1)) dX10_nextOrder_153 xc1 ?_
  exact xe_ret (r := (some (.int (nI (1))))) dX10_nextOrder_154 (Or.inr rfl) (k1)

theorem hNO_4_10 (u : xU) (v1 : u.1 172 3 = nI (4)) (v2 : u.1 181 0 = nI (1)) (v3 : u.1 181 1 = nI (3)) (v4 : u.1 181 2 = nI (0)) (v5 : u.1 181 3 = nI (2)) : xC mX10_nextOrder [.ref 172] (xmm u) (fun r μ' => ∃ u' : xU, μ' = xmm u' ∧ r = some (.int (nI 1)) ∧ (∀ x, x ≠ 181 → u'.1 x = u.1 x) ∧ u'.2 = u.2 ∧ u'.1 181 0 = nI 1 ∧ u'.1 181 1 = nI 3 ∧ u'.1 181 2 = nI 2 ∧ u'.1 181 3 = nI 0) := xC.of xpl10 (Nat.le_of_ble_eq_true rfl) (gNO_4_10 u v1 v2 v3 v4 v5 ⟨_, rfl, rfl, fun x hx => by rw [wi_row hx, wi_row hx], rfl, by rw [wi_nek (by decide), wi_nek (by decide)]; exact v2, by rw [wi_nek (by decide), wi_nek (by decide)]; exact v3, by rw [wi_nek (by decide), wi_self], by rw [wi_self]⟩)
theorem gNO_4_11 (u : xU) {Q : Option Value → xM → Prop}  (v1 : u.1 172 3 = nI (4)) (v2 : u.1 181 0 = nI (1)) (v3 : u.1 181 1 = nI (3)) (v4 : u.1 181 2 = nI (2)) (v5 : u.1 181 3 = nI (0))
    (k1 : Q (some (.int (nI (1)))) (xmm (wi (wi (wi (wi u 181 0 (nI (2))) 181 2 (nI (1))) 181 1 (nI (0))) 181 3 (nI (3))))) : xE mX10_nextOrder 0 [(0, .ref 172)] [] (xmm u) Q := by
  refine xe_aload_n 0 dX10_nextOrder_0 rfl rfl ?_
  refine xr_getI (v := nI (4)) dX10_nextOrder_1 fX10_119 sh172 (by decide) v1 ?_
  refine xe_iconst (v := nI (2)) dX10_nextOrder_4 xc2 ?_
  refine xn_isub dX10_nextOrder_5 (by decide) ?_
  refine xe_istore_n (L2 := [(0, .ref 172), (1, .int (nI (2)))]) dX10_nextOrder_6 rfl (by decide) rfl ?_
  refine xe_iload_n 1 dX10_nextOrder_7 rfl rfl ?_
  refine xn_if_lt 34 dX10_nextOrder_8 (by decide) (by omega) (fun q => absurd q (by omega)) (fun _ => ?_)
  refine xe_aload_n 0 dX10_nextOrder_11 rfl rfl ?_
  refine xr_getR (b := 181) dX10_nextOrder_12 fX10_34 rfl sh172 (by decide) rfl ?_
  refine xe_iload_n 1 dX10_nextOrder_15 rfl rfl ?_
  refine xr_iald (k := 2) (v := nI (2)) dX10_nextOrder_16 sh181 (by decide) (by omega) (by decide) v4 ?_
  refine xe_aload_n 0 dX10_nextOrder_17 rfl rfl ?_
  refine xr_getR (b := 181) dX10_nextOrder_18 fX10_34 rfl sh172 (by decide) rfl ?_
  refine xe_iload_n 1 dX10_nextOrder_21 rfl rfl ?_
  refine xe_iconst (v := nI (1)) dX10_nextOrder_22 xc1 ?_
  refine xn_iadd dX10_nextOrder_23 ?_
  refine xr_iald (k := 3) (v := nI (0)) dX10_nextOrder_24 sh181 (by decide) (by omega) (by decide) v5 ?_
  refine xn_icmp_le 34 dX10_nextOrder_25 (by decide) (by omega) (by omega) (fun q => absurd q (by decide)) (fun _ => ?_)
  refine xn_idec (L2 := [(0, .ref 172), (1, .int (nI (1)))]) 1 dX10_nextOrder_28 rfl (by decide) (by decide) rfl ?_
  refine xe_goto 7 dX10_nextOrder_31 (by decide) ?_
  refine xe_iload_n 1 dX10_nextOrder_7 rfl rfl ?_
  refine xn_if_lt 34 dX10_nextOrder_8 (by decide) (by omega) (fun q => absurd q (by omega)) (fun _ => ?_)
  refine xe_aload_n 0 dX10_nextOrder_11 rfl rfl ?_
  refine xr_getR (b := 181) dX10_nextOrder_12 fX10_34 rfl sh172 (by decide) rfl ?_
  refine xe_iload_n 1 dX10_nextOrder_15 rfl rfl ?_
  refine xr_iald (k := 1) (v := nI (3)) dX10_nextOrder_16 sh181 (by decide) (by omega) (by decide) v3 ?_
  refine xe_aload_n 0 dX10_nextOrder_17 rfl rfl ?_
  refine xr_getR (b := 181) dX10_nextOrder_18 fX10_34 rfl sh172 (by decide) rfl ?_
  refine xe_iload_n 1 dX10_nextOrder_21 rfl rfl ?_
  refine xe_iconst (v := nI (1)) dX10_nextOrder_22 xc1 ?_
  refine xn_iadd dX10_nextOrder_23 ?_
  refine xr_iald (k := 2) (v := nI (2)) dX10_nextOrder_24 sh181 (by decide) (by omega) (by decide) v4 ?_
  refine xn_icmp_le 34 dX10_nextOrder_25 (by decide) (by omega) (by omega) (fun q => absurd q (by decide)) (fun _ => ?_)
  refine xn_idec (L2 := [(0, .ref 172), (1, .int (nI (0)))]) 1 dX10_nextOrder_28 rfl (by decide) (by decide) rfl ?_
  refine xe_goto 7 dX10_nextOrder_31 (by decide) ?_
  refine xe_iload_n 1 dX10_nextOrder_7 rfl rfl ?_
  refine xn_if_lt 34 dX10_nextOrder_8 (by decide) (by omega) (fun q => absurd q (by omega)) (fun _ => ?_)
  refine xe_aload_n 0 dX10_nextOrder_11 rfl rfl ?_
  refine xr_getR (b := 181) dX10_nextOrder_12 fX10_34 rfl sh172 (by decide) rfl ?_
  refine xe_iload_n 1 dX10_nextOrder_15 rfl rfl ?_
  refine xr_iald (k := 0) (v := nI (1)) dX10_nextOrder_16 sh181 (by decide) (by omega) (by decide) v2 ?_
  refine xe_aload_n 0 dX10_nextOrder_17 rfl rfl ?_
  refine xr_getR (b := 181) dX10_nextOrder_18 fX10_34 rfl sh172 (by decide) rfl ?_
  refine xe_iload_n 1 dX10_nextOrder_21 rfl rfl ?_
  refine xe_iconst (v := nI (1)) dX10_nextOrder_22 xc1 ?_
  refine xn_iadd dX10_nextOrder_23 ?_
  refine xr_iald (k := 1) (v := nI (3)) dX10_nextOrder_24 sh181 (by decide) (by omega) (by decide) v3 ?_
  refine xn_icmp_le 34 dX10_nextOrder_25 (by decide) (by omega) (by omega) (fun _ => ?_) (fun q => absurd q (by decide))
  refine xe_iload_n 1 dX10_nextOrder_34 rfl rfl ?_
  refine xn_if_ge 40 dX10_nextOrder_35 (by decide) (by omega) (fun _ => ?_) (fun q => absurd (Nat.zero_le _) q)
  refine xe_aload_n 0 dX10_nextOrder_40 rfl rfl ?_
  refine xr_getI (v := nI (4)) dX10_nextOrder_41 fX10_119 sh172 (by decide) v1 ?_
  refine xe_iconst (v := nI (1)) dX10_nextOrder_44 xc1 ?_
  refine xn_isub dX10_nextOrder_45 (by decide) ?_
  refine xe_istore_n (L2 := [(0, .ref 172), (1, .int (nI (0))), (2, .int (nI (3)))]) dX10_nextOrder_46 rfl (by decide) rfl ?_
  refine xe_aload_n 0 dX10_nextOrder_47 rfl rfl ?_
  refine xr_getR (b := 181) dX10_nextOrder_48 fX10_34 rfl sh172 (by decide) rfl ?_
  refine xe_iload_n 2 dX10_nextOrder_51 rfl rfl ?_
  refine xr_iald (k := 3) (v := nI (0)) dX10_nextOrder_52 sh181 (by decide) (by omega) (by decide) v5 ?_
  refine xe_aload_n 0 dX10_nextOrder_53 rfl rfl ?_
  refine xr_getR (b := 181) dX10_nextOrder_54 fX10_34 rfl sh172 (by decide) rfl ?_
  refine xe_iload_n 1 dX10_nextOrder_57 rfl rfl ?_
  refine xr_iald (k := 0) (v := nI (1)) dX10_nextOrder_58 sh181 (by decide) (by omega) (by decide) v2 ?_
  refine xn_icmp_ge 68 dX10_nextOrder_59 (by decide) (by omega) (by omega) (fun q => absurd q (by decide)) (fun _ => ?_)
  refine xn_idec (L2 := [(0, .ref 172), (1, .int (nI (0))), (2, .int (nI (2)))]) 2 dX10_nextOrder_62 rfl (by decide) (by decide) rfl ?_
  refine xe_goto 47 dX10_nextOrder_65 (by decide) ?_
  refine xe_aload_n 0 dX10_nextOrder_47 rfl rfl ?_
  refine xr_getR (b := 181) dX10_nextOrder_48 fX10_34 rfl sh172 (by decide) rfl ?_
  refine xe_iload_n 2 dX10_nextOrder_51 rfl rfl ?_
  refine xr_iald (k := 2) (v := nI (2)) dX10_nextOrder_52 sh181 (by decide) (by omega) (by decide) v4 ?_
  refine xe_aload_n 0 dX10_nextOrder_53 rfl rfl ?_
  refine xr_getR (b := 181) dX10_nextOrder_54 fX10_34 rfl sh172 (by decide) rfl ?_
  refine xe_iload_n 1 dX10_nextOrder_57 rfl rfl ?_
  refine xr_iald (k := 0) (v := nI (1)) dX10_nextOrder_58 sh181 (by decide) (by omega) (by decide) v2 ?_
  refine xn_icmp_ge 68 dX10_nextOrder_59 (by decide) (by omega) (by omega) (fun _ => ?_) (fun q => absurd q (by decide))
  refine xe_aload_n 0 dX10_nextOrder_68 rfl rfl ?_
  refine xr_getR (b := 181) dX10_nextOrder_69 fX10_34 rfl sh172 (by decide) rfl ?_
  refine xe_iload_n 1 dX10_nextOrder_72 rfl rfl ?_
  refine xr_iald (k := 0) (v := nI (1)) dX10_nextOrder_73 sh181 (by decide) (by omega) (by decide) v2 ?_
  refine xe_istore_n (L2 := [(0, .ref 172), (1, .int (nI (0))), (2, .int (nI (2))), (3, .int (nI (1)))]) dX10_nextOrder_74 rfl (by decide) rfl ?_
  refine xe_aload_n 0 dX10_nextOrder_75 rfl rfl ?_
  refine xr_getR (b := 181) dX10_nextOrder_76 fX10_34 rfl sh172 (by decide) rfl ?_
  refine xe_iload_n 1 dX10_nextOrder_79 rfl rfl ?_
  refine xe_aload_n 0 dX10_nextOrder_80 rfl rfl ?_
  refine xr_getR (b := 181) dX10_nextOrder_81 fX10_34 rfl sh172 (by decide) rfl ?_
  refine xe_iload_n 2 dX10_nextOrder_84 rfl rfl ?_
  refine xr_iald (k := 2) (v := nI (2)) dX10_nextOrder_85 sh181 (by decide) (by omega) (by decide) v4 ?_
  refine xr_iast (k := 0) dX10_nextOrder_86 sh181 (by decide) (by omega) (by decide) ?_
  refine xe_aload_n 0 dX10_nextOrder_87 rfl rfl ?_
  refine xr_getR (b := 181) dX10_nextOrder_88 fX10_34 rfl sh172 (by decide) rfl ?_
  refine xe_iload_n 2 dX10_nextOrder_91 rfl rfl ?_
  refine xe_iload_n 3 dX10_nextOrder_92 rfl rfl ?_
  refine xr_iast (k := 2) dX10_nextOrder_93 sh181 (by decide) (by omega) (by decide) ?_
  refine xe_iload_n 1 dX10_nextOrder_94 rfl rfl ?_
  refine xe_iconst (v := nI (1)) dX10_nextOrder_95 xc1 ?_
  refine xn_iadd dX10_nextOrder_96 ?_
  refine xe_istore (L2 := [(0, .ref 172), (1, .int (nI (0))), (2, .int (nI (2))), (3, .int (nI (1))), (4, .int (nI (1)))]) dX10_nextOrder_97 (by decide) rfl ?_
  refine xe_aload_n 0 dX10_nextOrder_99 rfl rfl ?_
  refine xr_getI (v := nI (4)) dX10_nextOrder_100 fX10_119 sh172 (by decide) ((wi_ne (by omega)).trans ((wi_ne (by omega)).trans v1)) ?_
  refine xe_iconst (v := nI (1)) dX10_nextOrder_103 xc1 ?_
  refine xn_isub dX10_nextOrder_104 (by decide) ?_
  refine xe_istore (L2 := [(0, .ref 172), (1, .int (nI (0))), (2, .int (nI (2))), (3, .int (nI (1))), (4, .int (nI (1))), (5, .int (nI (3)))]) dX10_nextOrder_105 (by decide) rfl ?_
  refine xe_iload 4 dX10_nextOrder_107 rfl ?_
  refine xe_iload 5 dX10_nextOrder_109 rfl ?_
  refine xn_icmp_ge 153 dX10_nextOrder_111 (by decide) (by omega) (by omega) (fun q => absurd q (by decide)) (fun _ => ?_)
  refine xe_aload_n 0 dX10_nextOrder_114 rfl rfl ?_
  refine xr_getR (b := 181) dX10_nextOrder_115 fX10_34 rfl sh172 (by decide) rfl ?_
  refine xe_iload 4 dX10_nextOrder_118 rfl ?_
  refine xr_iald (k := 1) (v := nI (3)) dX10_nextOrder_120 sh181 (by decide) (by omega) (by decide) ((wi_nek (by decide)).trans ((wi_nek (by decide)).trans v3)) ?_
  refine xe_istore_n (L2 := [(0, .ref 172), (1, .int (nI (0))), (2, .int (nI (2))), (3, .int (nI (3))), (4, .int (nI (1))), (5, .int (nI (3)))]) dX10_nextOrder_121 rfl (by decide) rfl ?_
  refine xe_aload_n 0 dX10_nextOrder_122 rfl rfl ?_
  refine xr_getR (b := 181) dX10_nextOrder_123 fX10_34 rfl sh172 (by decide) rfl ?_
  refine xe_iload 4 dX10_nextOrder_126 rfl ?_
  refine xe_aload_n 0 dX10_nextOrder_128 rfl rfl ?_
  refine xr_getR (b := 181) dX10_nextOrder_129 fX10_34 rfl sh172 (by decide) rfl ?_
  refine xe_iload 5 dX10_nextOrder_132 rfl ?_
  refine xr_iald (k := 3) (v := nI (0)) dX10_nextOrder_134 sh181 (by decide) (by omega) (by decide) ((wi_nek (by decide)).trans ((wi_nek (by decide)).trans v5)) ?_
  refine xr_iast (k := 1) dX10_nextOrder_135 sh181 (by decide) (by omega) (by decide) ?_
  refine xe_aload_n 0 dX10_nextOrder_136 rfl rfl ?_
  refine xr_getR (b := 181) dX10_nextOrder_137 fX10_34 rfl sh172 (by decide) rfl ?_
  refine xe_iload 5 dX10_nextOrder_140 rfl ?_
  refine xe_iload_n 3 dX10_nextOrder_142 rfl rfl ?_
  refine xr_iast (k := 3) dX10_nextOrder_143 sh181 (by decide) (by omega) (by decide) ?_
  refine xn_iinc (c := 1) (L2 := [(0, .ref 172), (1, .int (nI (0))), (2, .int (nI (2))), (3, .int (nI (3))), (4, .int (nI (2))), (5, .int (nI (3)))]) 4 dX10_nextOrder_144 rfl (by decide) rfl ?_
  refine xn_idec (L2 := [(0, .ref 172), (1, .int (nI (0))), (2, .int (nI (2))), (3, .int (nI (3))), (4, .int (nI (2))), (5, .int (nI (2)))]) 5 dX10_nextOrder_147 rfl (by decide) (by decide) rfl ?_
  refine xe_goto 107 dX10_nextOrder_150 (by decide) ?_
  refine xe_iload 4 dX10_nextOrder_107 rfl ?_
  refine xe_iload 5 dX10_nextOrder_109 rfl ?_
  refine xn_icmp_ge 153 dX10_nextOrder_111 (by decide) (by omega) (by omega) (fun _ => ?_) (fun q => absurd q (by decide))
  refine xe_iconst (v := nI (1)) dX10_nextOrder_153 xc1 ?_
  exact xe_ret (r := (some (.int (nI (1))))) dX10_nextOrder_154 (Or.inr rfl) (k1)

theorem hNO_4_11 (u : xU) (v1 : u.1 172 3 = nI (4)) (v2 : u.1 181 0 = nI (1)) (v3 : u.1 181 1 = nI (3)) (v4 : u.1 181 2 = nI (2)) (v5 : u.1 181 3 = nI (0)) : xC mX10_nextOrder [.ref 172] (xmm u) (fun r μ' => ∃ u' : xU, μ' = xmm u' ∧ r = some (.int (nI 1)) ∧ (∀ x, x ≠ 181 → u'.1 x = u.1 x) ∧ u'.2 = u.2 ∧ u'.1 181 0 = nI 2 ∧ u'.1 181 1 = nI 0 ∧ u'.1 181 2 = nI 1 ∧ u'.1 181 3 = nI 3) := xC.of xpl10 (Nat.le_of_ble_eq_true rfl) (gNO_4_11 u v1 v2 v3 v4 v5 ⟨_, rfl, rfl, fun x hx => by rw [wi_row hx, wi_row hx, wi_row hx, wi_row hx], rfl, by rw [wi_nek (by decide), wi_nek (by decide), wi_nek (by decide), wi_self], by rw [wi_nek (by decide), wi_self], by rw [wi_nek (by decide), wi_nek (by decide), wi_self], by rw [wi_self]⟩)
theorem gNO_4_12 (u : xU) {Q : Option Value → xM → Prop}  (v1 : u.1 172 3 = nI (4)) (v2 : u.1 181 0 = nI (2)) (v3 : u.1 181 1 = nI (0)) (v4 : u.1 181 2 = nI (1)) (v5 : u.1 181 3 = nI (3))
    (k1 : Q (some (.int (nI (1)))) (xmm (wi (wi u 181 2 (nI (3))) 181 3 (nI (1))))) : xE mX10_nextOrder 0 [(0, .ref 172)] [] (xmm u) Q := by
  refine xe_aload_n 0 dX10_nextOrder_0 rfl rfl ?_
  refine xr_getI (v := nI (4)) dX10_nextOrder_1 fX10_119 sh172 (by decide) v1 ?_
  refine xe_iconst (v := nI (2)) dX10_nextOrder_4 xc2 ?_
  refine xn_isub dX10_nextOrder_5 (by decide) ?_
  refine xe_istore_n (L2 := [(0, .ref 172), (1, .int (nI (2)))]) dX10_nextOrder_6 rfl (by decide) rfl ?_
  refine xe_iload_n 1 dX10_nextOrder_7 rfl rfl ?_
  refine xn_if_lt 34 dX10_nextOrder_8 (by decide) (by omega) (fun q => absurd q (by omega)) (fun _ => ?_)
  refine xe_aload_n 0 dX10_nextOrder_11 rfl rfl ?_
  refine xr_getR (b := 181) dX10_nextOrder_12 fX10_34 rfl sh172 (by decide) rfl ?_
  refine xe_iload_n 1 dX10_nextOrder_15 rfl rfl ?_
  refine xr_iald (k := 2) (v := nI (1)) dX10_nextOrder_16 sh181 (by decide) (by omega) (by decide) v4 ?_
  refine xe_aload_n 0 dX10_nextOrder_17 rfl rfl ?_
  refine xr_getR (b := 181) dX10_nextOrder_18 fX10_34 rfl sh172 (by decide) rfl ?_
  refine xe_iload_n 1 dX10_nextOrder_21 rfl rfl ?_
  refine xe_iconst (v := nI (1)) dX10_nextOrder_22 xc1 ?_
  refine xn_iadd dX10_nextOrder_23 ?_
  refine xr_iald (k := 3) (v := nI (3)) dX10_nextOrder_24 sh181 (by decide) (by omega) (by decide) v5 ?_
  refine xn_icmp_le 34 dX10_nextOrder_25 (by decide) (by omega) (by omega) (fun _ => ?_) (fun q => absurd q (by decide))
  refine xe_iload_n 1 dX10_nextOrder_34 rfl rfl ?_
  refine xn_if_ge 40 dX10_nextOrder_35 (by decide) (by omega) (fun _ => ?_) (fun q => absurd (Nat.zero_le _) q)
  refine xe_aload_n 0 dX10_nextOrder_40 rfl rfl ?_
  refine xr_getI (v := nI (4)) dX10_nextOrder_41 fX10_119 sh172 (by decide) v1 ?_
  refine xe_iconst (v := nI (1)) dX10_nextOrder_44 xc1 ?_
  refine xn_isub dX10_nextOrder_45 (by decide) ?_
  refine xe_istore_n (L2 := [(0, .ref 172), (1, .int (nI (2))), (2, .int (nI (3)))]) dX10_nextOrder_46 rfl (by decide) rfl ?_
  refine xe_aload_n 0 dX10_nextOrder_47 rfl rfl ?_
  refine xr_getR (b := 181) dX10_nextOrder_48 fX10_34 rfl sh172 (by decide) rfl ?_
  refine xe_iload_n 2 dX10_nextOrder_51 rfl rfl ?_
  refine xr_iald (k := 3) (v := nI (3)) dX10_nextOrder_52 sh181 (by decide) (by omega) (by decide) v5 ?_
  refine xe_aload_n 0 dX10_nextOrder_53 rfl rfl ?_
  refine xr_getR (b := 181) dX10_nextOrder_54 fX10_34 rfl sh172 (by decide) rfl ?_
  refine xe_iload_n 1 dX10_nextOrder_57 rfl rfl ?_
  refine xr_iald (k := 2) (v := nI (1)) dX10_nextOrder_58 sh181 (by decide) (by omega) (by decide) v4 ?_
  refine xn_icmp_ge 68 dX10_nextOrder_59 (by decide) (by omega) (by omega) (fun _ => ?_) (fun q => absurd q (by decide))
  refine xe_aload_n 0 dX10_nextOrder_68 rfl rfl ?_
  refine xr_getR (b := 181) dX10_nextOrder_69 fX10_34 rfl sh172 (by decide) rfl ?_
  refine xe_iload_n 1 dX10_nextOrder_72 rfl rfl ?_
  refine xr_iald (k := 2) (v := nI (1)) dX10_nextOrder_73 sh181 (by decide) (by omega) (by decide) v4 ?_
  refine xe_istore_n (L2 := [(0, .ref 172), (1, .int (nI (2))), (2, .int (nI (3))), (3, .int (nI (1)))]) dX10_nextOrder_74 rfl (by decide) rfl ?_
  refine xe_aload_n 0 dX10_nextOrder_75 rfl rfl ?_
  refine xr_getR (b := 181) dX10_nextOrder_76 fX10_34 rfl sh172 (by decide) rfl ?_
  refine xe_iload_n 1 dX10_nextOrder_79 rfl rfl ?_
  refine xe_aload_n 0 dX10_nextOrder_80 rfl rfl ?_
  refine xr_getR (b := 181) dX10_nextOrder_81 fX10_34 rfl sh172 (by decide) rfl ?_
  refine xe_iload_n 2 dX10_nextOrder_84 rfl rfl ?_
  refine xr_iald (k := 3) (v := nI (3)) dX10_nextOrder_85 sh181 (by decide) (by omega) (by decide) v5 ?_
  refine xr_iast (k := 2) dX10_nextOrder_86 sh181 (by decide) (by omega) (by decide) ?_
  refine xe_aload_n 0 dX10_nextOrder_87 rfl rfl ?_
  refine xr_getR (b := 181) dX10_nextOrder_88 fX10_34 rfl sh172 (by decide) rfl ?_
  refine xe_iload_n 2 dX10_nextOrder_91 rfl rfl ?_
  refine xe_iload_n 3 dX10_nextOrder_92 rfl rfl ?_
  refine xr_iast (k := 3) dX10_nextOrder_93 sh181 (by decide) (by omega) (by decide) ?_
  refine xe_iload_n 1 dX10_nextOrder_94 rfl rfl ?_
  refine xe_iconst (v := nI (1)) dX10_nextOrder_95 xc1 ?_
  refine xn_iadd dX10_nextOrder_96 ?_
  refine xe_istore (L2 := [(0, .ref 172), (1, .int (nI (2))), (2, .int (nI (3))), (3, .int (nI (1))), (4, .int (nI (3)))]) dX10_nextOrder_97 (by decide) rfl ?_
  refine xe_aload_n 0 dX10_nextOrder_99 rfl rfl ?_
  refine xr_getI (v := nI (4)) dX10_nextOrder_100 fX10_119 sh172 (by decide) ((wi_ne (by omega)).trans ((wi_ne (by omega)).trans v1)) ?_
  refine xe_iconst (v := nI (1)) dX10_nextOrder_103 xc1 ?_
  refine xn_isub dX10_nextOrder_104 (by decide) ?_
  refine xe_istore (L2 := [(0, .ref 172), (1, .int (nI (2))), (2, .int (nI (3))), (3, .int (nI (1))), (4, .int (nI (3))), (5, .int (nI (3)))]) dX10_nextOrder_105 (by decide) rfl ?_
  refine xe_iload 4 dX10_nextOrder_107 rfl ?_
  refine xe_iload 5 dX10_nextOrder_109 rfl ?_
  refine xn_icmp_ge 153 dX10_nextOrder_111 (by decide) (by omega) (by omega) (fun _ => ?_) (fun q => absurd q (by decide))
  refine xe_iconst (v := nI (1)) dX10_nextOrder_153 xc1 ?_
  exact xe_ret (r := (some (.int (nI (1))))) dX10_nextOrder_154 (Or.inr rfl) (k1)

theorem hNO_4_12 (u : xU) (v1 : u.1 172 3 = nI (4)) (v2 : u.1 181 0 = nI (2)) (v3 : u.1 181 1 = nI (0)) (v4 : u.1 181 2 = nI (1)) (v5 : u.1 181 3 = nI (3)) : xC mX10_nextOrder [.ref 172] (xmm u) (fun r μ' => ∃ u' : xU, μ' = xmm u' ∧ r = some (.int (nI 1)) ∧ (∀ x, x ≠ 181 → u'.1 x = u.1 x) ∧ u'.2 = u.2 ∧ u'.1 181 0 = nI 2 ∧ u'.1 181 1 = nI 0 ∧ u'.1 181 2 = nI 3 ∧ u'.1 181 3 = nI 1) := xC.of xpl10 (Nat.le_of_ble_eq_true rfl) (gNO_4_12 u v1 v2 v3 v4 v5 ⟨_, rfl, rfl, fun x hx => by rw [wi_row hx, wi_row hx], rfl, by rw [wi_nek (by decide), wi_nek (by decide)]; exact v2, by rw [wi_nek (by decide), wi_nek (by decide)]; exact v3, by rw [wi_nek (by decide), wi_self], by rw [wi_self]⟩)
theorem gNO_4_13 (u : xU) {Q : Option Value → xM → Prop}  (v1 : u.1 172 3 = nI (4)) (v2 : u.1 181 0 = nI (2)) (v3 : u.1 181 1 = nI (0)) (v4 : u.1 181 2 = nI (3)) (v5 : u.1 181 3 = nI (1))
    (k1 : Q (some (.int (nI (1)))) (xmm (wi (wi (wi (wi u 181 1 (nI (1))) 181 3 (nI (0))) 181 2 (nI (0))) 181 3 (nI (3))))) : xE mX10_nextOrder 0 [(0, .ref 172)] [] (xmm u) Q := by
  refine xe_aload_n 0 dX10_nextOrder_0 rfl rfl ?_
  refine xr_getI (v := nI (4)) dX10_nextOrder_1 fX10_119 sh172 (by decide) v1 ?_
  refine xe_iconst (v := nI (2)) dX10_nextOrder_4 xc2 ?_
  refine xn_isub dX10_nextOrder_5 (by decide) ?_
  refine xe_istore_n (L2 := [(0, .ref 172), (1, .int (nI (2)))]) dX10_nextOrder_6 rfl (by decide) rfl ?_
  refine xe_iload_n 1 dX10_nextOrder_7 rfl rfl ?_
  refine xn_if_lt 34 dX10_nextOrder_8 (by decide) (by omega) (fun q => absurd q (by omega)) (fun _ => ?_)
  refine xe_aload_n 0 dX10_nextOrder_11 rfl rfl ?_
  refine xr_getR (b := 181) dX10_nextOrder_12 fX10_34 rfl sh172 (by decide) rfl ?_
  refine xe_iload_n 1 dX10_nextOrder_15 rfl rfl ?_
  refine xr_iald (k := 2) (v := nI (3)) dX10_nextOrder_16 sh181 (by decide) (by omega) (by decide) v4 ?_
  refine xe_aload_n 0 dX10_nextOrder_17 rfl rfl ?_
  refine xr_getR (b := 181) dX10_nextOrder_18 fX10_34 rfl sh172 (by decide) rfl ?_
  refine xe_iload_n 1 dX10_nextOrder_21 rfl rfl ?_
  refine xe_iconst (v := nI (1)) dX10_nextOrder_22 xc1 ?_
  refine xn_iadd dX10_nextOrder_23 ?_
  refine xr_iald (k := 3) (v := nI (1)) dX10_nextOrder_24 sh181 (by decide) (by omega) (by decide) v5 ?_
  refine xn_icmp_le 34 dX10_nextOrder_25 (by decide) (by omega) (by omega) (fun q => absurd q (by decide)) (fun _ => ?_)
  refine xn_idec (L2 := [(0, .ref 172), (1, .int (nI (1)))]) 1 dX10_nextOrder_28 rfl (by decide) (by decide) rfl ?_
  refine xe_goto 7 dX10_nextOrder_31 (by decide) ?_
  refine xe_iload_n 1 dX10_nextOrder_7 rfl rfl ?_
  refine xn_if_lt 34 dX10_nextOrder_8 (by decide) (by omega) (fun q => absurd q (by omega)) (fun _ => ?_)
  refine xe_aload_n 0 dX10_nextOrder_11 rfl rfl ?_
  refine xr_getR (b := 181) dX10_nextOrder_12 fX10_34 rfl sh172 (by decide) rfl ?_
  refine xe_iload_n 1 dX10_nextOrder_15 rfl rfl ?_
  refine xr_iald (k := 1) (v := nI (0)) dX10_nextOrder_16 sh181 (by decide) (by omega) (by decide) v3 ?_
  refine xe_aload_n 0 dX10_nextOrder_17 rfl rfl ?_
  refine xr_getR (b := 181) dX10_nextOrder_18 fX10_34 rfl sh172 (by decide) rfl ?_
  refine xe_iload_n 1 dX10_nextOrder_21 rfl rfl ?_
  refine xe_iconst (v := nI (1)) dX10_nextOrder_22 xc1 ?_
  refine xn_iadd dX10_nextOrder_23 ?_
  refine xr_iald (k := 2) (v := nI (3)) dX10_nextOrder_24 sh181 (by decide) (by omega) (by decide) v4 ?_
  refine xn_icmp_le 34 dX10_nextOrder_25 (by decide) (by omega) (by omega) (fun _ => ?_) (fun q => absurd q (by decide))
  refine xe_iload_n 1 dX10_nextOrder_34 rfl rfl ?_
  refine xn_if_ge 40 dX10_nextOrder_35 (by decide) (by omega) (fun _ => ?_) (fun q => absurd (Nat.zero_le _) q)
  refine xe_aload_n 0 dX10_nextOrder_40 rfl rfl ?_
  refine xr_getI (v := nI (4)) dX10_nextOrder_41 fX10_119 sh172 (by decide) v1 ?_
  refine xe_iconst (v := nI (1)) dX10_nextOrder_44 xc1 ?_
  refine xn_isub dX10_nextOrder_45 (by decide) ?_
  refine xe_istore_n (L2 := [(0, .ref 172), (1, .int (nI (1))), (2, .int (nI (3)))]) dX10_nextOrder_46 rfl (by decide) rfl ?_
  refine xe_aload_n 0 dX10_nextOrder_47 rfl rfl ?_
  refine xr_getR (b := 181) dX10_nextOrder_48 fX10_34 rfl sh172 (by decide) rfl ?_
  refine xe_iload_n 2 dX10_nextOrder_51 rfl rfl ?_
  refine xr_iald (k := 3) (v := nI (1)) dX10_nextOrder_52 sh181 (by decide) (by omega) (by decide) v5 ?_
  refine xe_aload_n 0 dX10_nextOrder_53 rfl rfl ?_
  refine xr_getR (b := 181) dX10_nextOrder_54 fX10_34 rfl sh172 (by decide) rfl ?_
  refine xe_iload_n 1 dX10_nextOrder_57 rfl rfl ?_
  refine xr_iald (k := 1) (v := nI (0)) dX10_nextOrder_58 sh181 (by decide) (by omega) (by decide) v3 ?_
  refine xn_icmp_ge 68 dX10_nextOrder_59 (by decide) (by omega) (by omega) (fun _ => ?_) (fun q => absurd q (by decide))
  refine xe_aload_n 0 dX10_nextOrder_68 rfl rfl ?_
  refine xr_getR (b := 181) dX10_nextOrder_69 fX10_34 rfl sh172 (by decide) rfl ?_
  refine xe_iload_n 1 dX10_nextOrder_72 rfl rfl ?_
  refine xr_iald (k := 1) (v := nI (0)) dX10_nextOrder_73 sh181 (by decide) (by omega) (by decide) v3 ?_
  refine xe_istore_n (L2 := [(0, .ref 172), (1, .int (nI (1))), (2, .int (nI (3))), (3, .int (nI (0)))]) dX10_nextOrder_74 rfl (by decide) rfl ?_
  refine xe_aload_n 0 dX10_nextOrder_75 rfl rfl ?_
  refine xr_getR (b := 181) dX10_nextOrder_76 fX10_34 rfl sh172 (by decide) rfl ?_
  refine xe_iload_n 1 dX10_nextOrder_79 rfl rfl ?_
  refine xe_aload_n 0 dX10_nextOrder_80 rfl rfl ?_
  refine xr_getR (b := 181) dX10_nextOrder_81 fX10_34 rfl sh172 (by decide) rfl ?_
  refine xe_iload_n 2 dX10_nextOrder_84 rfl rfl ?_
  refine xr_iald (k := 3) (v := nI (1)) dX10_nextOrder_85 sh181 (by decide) (by omega) (by decide) v5 ?_
  refine xr_iast (k := 1) dX10_nextOrder_86 sh181 (by decide) (by omega) (by decide) ?_
  refine xe_aload_n 0 dX10_nextOrder_87 rfl rfl ?_
  refine xr_getR (b := 181) dX10_nextOrder_88 fX10_34 rfl sh172 (by decide) rfl ?_
  refine xe_iload_n 2 dX10_nextOrder_91 rfl rfl ?_
  refine xe_iload_n 3 dX10_nextOrder_92 rfl rfl ?_
  refine xr_iast (k := 3) dX10_nextOrder_93 sh181 (by decide) (by omega) (by decide) ?_
  refine xe_iload_n 1 dX10_nextOrder_94 rfl rfl ?_
  refine xe_iconst (v := nI (1)) dX10_nextOrder_95 xc1 ?_
  refine xn_iadd dX10_nextOrder_96 ?_
  refine xe_istore (L2 := [(0, .ref 172), (1, .int (nI (1))), (2, .int (nI (3))), (3, .int (nI (0))), (4, .int (nI (2)))]) dX10_nextOrder_97 (by decide) rfl ?_
  refine xe_aload_n 0 dX10_nextOrder_99 rfl rfl ?_
  refine xr_getI (v := nI (4)) dX10_nextOrder_100 fX10_119 sh172 (by decide) ((wi_ne (by omega)).trans ((wi_ne (by omega)).trans v1)) ?_
  refine xe_iconst (v := nI (1)) dX10_nextOrder_103 xc1 ?_
  refine xn_isub dX10_nextOrder_104 (by decide) ?_
  refine xe_istore (L2 := [(0, .ref 172), (1, .int (nI (1))), (2, .int (nI (3))), (3, .int (nI (0))), (4, .int (nI (2))), (5, .int (nI (3)))]) dX10_nextOrder_105 (by decide) rfl ?_
  refine xe_iload 4 dX10_nextOrder_107 rfl ?_
  refine xe_iload 5 dX10_nextOrder_109 rfl ?_
  refine xn_icmp_ge 153 dX10_nextOrder_111 (by decide) (by omega) (by omega) (fun q => absurd q (by decide)) (fun _ => ?_)
  refine xe_aload_n 0 dX10_nextOrder_114 rfl rfl ?_
  refine xr_getR (b := 181) dX10_nextOrder_115 fX10_34 rfl sh172 (by decide) rfl ?_
  refine xe_iload 4 dX10_nextOrder_118 rfl ?_
  refine xr_iald (k := 2) (v := nI (3)) dX10_nextOrder_120 sh181 (by decide) (by omega) (by decide) ((wi_nek (by decide)).trans ((wi_nek (by decide)).trans v4)) ?_
  refine xe_istore_n (L2 := [(0, .ref 172), (1, .int (nI (1))), (2, .int (nI (3))), (3, .int (nI (3))), (4, .int (nI (2))), (5, .int (nI (3)))]) dX10_nextOrder_121 rfl (by decide) rfl ?_
  refine xe_aload_n 0 dX10_nextOrder_122 rfl rfl ?_
  refine xr_getR (b := 181) dX10_nextOrder_123 fX10_34 rfl sh172 (by decide) rfl ?_
  refine xe_iload 4 dX10_nextOrder_126 rfl ?_
  refine xe_aload_n 0 dX10_nextOrder_128 rfl rfl ?_
  refine xr_getR (b := 181) dX10_nextOrder_129 fX10_34 rfl sh172 (by decide) rfl ?_
  refine xe_iload 5 dX10_nextOrder_132 rfl ?_
  refine xr_iald (k := 3) (v := nI (0)) dX10_nextOrder_134 sh181 (by decide) (by omega) (by decide) wi_self ?_
  refine xr_iast (k := 2) dX10_nextOrder_135 sh181 (by decide) (by omega) (by decide) ?_
  refine xe_aload_n 0 dX10_nextOrder_136 rfl rfl ?_
  refine xr_getR (b := 181) dX10_nextOrder_137 fX10_34 rfl sh172 (by decide) rfl ?_
  refine xe_iload 5 dX10_nextOrder_140 rfl ?_
  refine xe_iload_n 3 dX10_nextOrder_142 rfl rfl ?_
  refine xr_iast (k := 3) dX10_nextOrder_143 sh181 (by decide) (by omega) (by decide) ?_
  refine xn_iinc (c := 1) (L2 := [(0, .ref 172), (1, .int (nI (1))), (2, .int (nI (3))), (3, .int (nI (3))), (4, .int (nI (3))), (5, .int (nI (3)))]) 4 dX10_nextOrder_144 rfl (by decide) rfl ?_
  refine xn_idec (L2 := [(0, .ref 172), (1, .int (nI (1))), (2, .int (nI (3))), (3, .int (nI (3))), (4, .int (nI (3))), (5, .int (nI (2)))]) 5 dX10_nextOrder_147 rfl (by decide) (by decide) rfl ?_
  refine xe_goto 107 dX10_nextOrder_150 (by decide) ?_
  refine xe_iload 4 dX10_nextOrder_107 rfl ?_
  refine xe_iload 5 dX10_nextOrder_109 rfl ?_
  refine xn_icmp_ge 153 dX10_nextOrder_111 (by decide) (by omega) (by omega) (fun _ => ?_) (fun q => absurd q (by decide))
  refine xe_iconst (v := nI (1)) dX10_nextOrder_153 xc1 ?_
  exact xe_ret (r := (some (.int (nI (1))))) dX10_nextOrder_154 (Or.inr rfl) (k1)

theorem hNO_4_13 (u : xU) (v1 : u.1 172 3 = nI (4)) (v2 : u.1 181 0 = nI (2)) (v3 : u.1 181 1 = nI (0)) (v4 : u.1 181 2 = nI (3)) (v5 : u.1 181 3 = nI (1)) : xC mX10_nextOrder [.ref 172] (xmm u) (fun r μ' => ∃ u' : xU, μ' = xmm u' ∧ r = some (.int (nI 1)) ∧ (∀ x, x ≠ 181 → u'.1 x = u.1 x) ∧ u'.2 = u.2 ∧ u'.1 181 0 = nI 2 ∧ u'.1 181 1 = nI 1 ∧ u'.1 181 2 = nI 0 ∧ u'.1 181 3 = nI 3) := xC.of xpl10 (Nat.le_of_ble_eq_true rfl) (gNO_4_13 u v1 v2 v3 v4 v5 ⟨_, rfl, rfl, fun x hx => by rw [wi_row hx, wi_row hx, wi_row hx, wi_row hx], rfl, by rw [wi_nek (by decide), wi_nek (by decide), wi_nek (by decide), wi_nek (by decide)]; exact v2, by rw [wi_nek (by decide), wi_nek (by decide), wi_nek (by decide), wi_self], by rw [wi_nek (by decide), wi_self], by rw [wi_self]⟩)
theorem gNO_4_14 (u : xU) {Q : Option Value → xM → Prop}  (v1 : u.1 172 3 = nI (4)) (v2 : u.1 181 0 = nI (2)) (v3 : u.1 181 1 = nI (1)) (v4 : u.1 181 2 = nI (0)) (v5 : u.1 181 3 = nI (3))
    (k1 : Q (some (.int (nI (1)))) (xmm (wi (wi u 181 2 (nI (3))) 181 3 (nI (0))))) : xE mX10_nextOrder 0 [(0, .ref 172)] [] (xmm u) Q := by
  refine xe_aload_n 0 dX10_nextOrder_0 rfl rfl ?_
  refine xr_getI (v := nI (4)) dX10_nextOrder_1 fX10_119 sh172 (by decide) v1 ?_
  refine xe_iconst (v := nI (2)) dX10_nextOrder_4 xc2 ?_
  refine xn_isub dX10_nextOrder_5 (by decide) ?_
  refine xe_istore_n (L2 := [(0, .ref 172), (1, .int (nI (2)))]) dX10_nextOrder_6 rfl (by decide) rfl ?_
  refine xe_iload_n 1 dX10_nextOrder_7 rfl rfl ?_
  refine xn_if_lt 34 dX10_nextOrder_8 (by decide) (by omega) (fun q => absurd q (by omega)) (fun _ => ?_)
  refine xe_aload_n 0 dX10_nextOrder_11 rfl rfl ?_
  refine xr_getR (b := 181) dX10_nextOrder_12 fX10_34 rfl sh172 (by decide) rfl ?_
  refine xe_iload_n 1 dX10_nextOrder_15 rfl rfl ?_
  refine xr_iald (k := 2) (v := nI (0)) dX10_nextOrder_16 sh181 (by decide) (by omega) (by decide) v4 ?_
  refine xe_aload_n 0 dX10_nextOrder_17 rfl rfl ?_
  refine xr_getR (b := 181) dX10_nextOrder_18 fX10_34 rfl sh172 (by decide) rfl ?_
  refine xe_iload_n 1 dX10_nextOrder_21 rfl rfl ?_
  refine xe_iconst (v := nI (1)) dX10_nextOrder_22 xc1 ?_
  refine xn_iadd dX10_nextOrder_23 ?_
  refine xr_iald (k := 3) (v := nI (3)) dX10_nextOrder_24 sh181 (by decide) (by omega) (by decide) v5 ?_
  refine xn_icmp_le 34 dX10_nextOrder_25 (by decide) (by omega) (by omega) (fun _ => ?_) (fun q => absurd q (by decide))
  refine xe_iload_n 1 dX10_nextOrder_34 rfl rfl ?_
  refine xn_if_ge 40 dX10_nextOrder_35 (by decide) (by omega) (fun _ => ?_) (fun q => absurd (Nat.zero_le _) q)
  refine xe_aload_n 0 dX10_nextOrder_40 rfl rfl ?_
  refine xr_getI (v := nI (4)) dX10_nextOrder_41 fX10_119 sh172 (by decide) v1 ?_
  refine xe_iconst (v := nI (1)) dX10_nextOrder_44 xc1 ?_
  refine xn_isub dX10_nextOrder_45 (by decide) ?_
  refine xe_istore_n (L2 := [(0, .ref 172), (1, .int (nI (2))), (2, .int (nI (3)))]) dX10_nextOrder_46 rfl (by decide) rfl ?_
  refine xe_aload_n 0 dX10_nextOrder_47 rfl rfl ?_
  refine xr_getR (b := 181) dX10_nextOrder_48 fX10_34 rfl sh172 (by decide) rfl ?_
  refine xe_iload_n 2 dX10_nextOrder_51 rfl rfl ?_
  refine xr_iald (k := 3) (v := nI (3)) dX10_nextOrder_52 sh181 (by decide) (by omega) (by decide) v5 ?_
  refine xe_aload_n 0 dX10_nextOrder_53 rfl rfl ?_
  refine xr_getR (b := 181) dX10_nextOrder_54 fX10_34 rfl sh172 (by decide) rfl ?_
  refine xe_iload_n 1 dX10_nextOrder_57 rfl rfl ?_
  refine xr_iald (k := 2) (v := nI (0)) dX10_nextOrder_58 sh181 (by decide) (by omega) (by decide) v4 ?_
  refine xn_icmp_ge 68 dX10_nextOrder_59 (by decide) (by omega) (by omega) (fun _ => ?_) (fun q => absurd q (by decide))
  refine xe_aload_n 0 dX10_nextOrder_68 rfl rfl ?_
  refine xr_getR (b := 181) dX10_nextOrder_69 fX10_34 rfl sh172 (by decide) rfl ?_
  refine xe_iload_n 1 dX10_nextOrder_72 rfl rfl ?_
  refine xr_iald (k := 2) (v := nI (0)) dX10_nextOrder_73 sh181 (by decide) (by omega) (by decide) v4 ?_
  refine xe_istore_n (L2 := [(0, .ref 172), (1, .int (nI (2))), (2, .int (nI (3))), (3, .int (nI (0)))]) dX10_nextOrder_74 rfl (by decide) rfl ?_
  refine xe_aload_n 0 dX10_nextOrder_75 rfl rfl ?_
  refine xr_getR (b := 181) dX10_nextOrder_76 fX10_34 rfl sh172 (by decide) rfl ?_
  refine xe_iload_n 1 dX10_nextOrder_79 rfl rfl ?_
  refine xe_aload_n 0 dX10_nextOrder_80 rfl rfl ?_
  refine xr_getR (b := 181) dX10_nextOrder_81 fX10_34 rfl sh172 (by decide) rfl ?_
  refine xe_iload_n 2 dX10_nextOrder_84 rfl rfl ?_
  refine xr_iald (k := 3) (v := nI (3)) dX10_nextOrder_85 sh181 (by decide) (by omega) (by decide) v5 ?_
  refine xr_iast (k := 2) dX10_nextOrder_86 sh181 (by decide) (by omega) (by decide) ?_
  refine xe_aload_n 0 dX10_nextOrder_87 rfl rfl ?_
  refine xr_getR (b := 181) dX10_nextOrder_88 fX10_34 rfl sh172 (by decide) rfl ?_
  refine xe_iload_n 2 dX10_nextOrder_91 rfl rfl ?_
  refine xe_iload_n 3 dX10_nextOrder_92 rfl rfl ?_
  refine xr_iast (k := 3) dX10_nextOrder_93 sh181 (by decide) (by omega) (by decide) ?_
  refine xe_iload_n 1 dX10_nextOrder_94 rfl rfl ?_
  refine xe_iconst (v := nI (1)) dX10_nextOrder_95 xc1 ?_
  refine xn_iadd dX10_nextOrder_96 ?_
  refine xe_istore (L2 := [(0, .ref 172), (1, .int (nI (2))), (2, .int (nI (3))), (3, .int (nI (0))), (4, .int (nI (3)))]) dX10_nextOrder_97 (by decide) rfl ?_
  refine xe_aload_n 0 dX10_nextOrder_99 rfl rfl ?_
  refine xr_getI (v := nI (4)) dX10_nextOrder_100 fX10_119 sh172 (by decide) ((wi_ne (by omega)).trans ((wi_ne (by omega)).trans v1)) ?_
  refine xe_iconst (v := nI (1)) dX10_nextOrder_103 xc1 ?_
  refine xn_isub dX10_nextOrder_104 (by decide) ?_
  refine xe_istore (L2 := [(0, .ref 172), (1, .int (nI (2))), (2, .int (nI (3))), (3, .int (nI (0))), (4, .int (nI (3))), (5, .int (nI (3)))]) dX10_nextOrder_105 (by decide) rfl ?_
  refine xe_iload 4 dX10_nextOrder_107 rfl ?_
  refine xe_iload 5 dX10_nextOrder_109 rfl ?_
  refine xn_icmp_ge 153 dX10_nextOrder_111 (by decide) (by omega) (by omega) (fun _ => ?_) (fun q => absurd q (by decide))
  refine xe_iconst (v := nI (1)) dX10_nextOrder_153 xc1 ?_
  exact xe_ret (r := (some (.int (nI (1))))) dX10_nextOrder_154 (Or.inr rfl) (k1)

theorem hNO_4_14 (u : xU) (v1 : u.1 172 3 = nI (4)) (v2 : u.1 181 0 = nI (2)) (v3 : u.1 181 1 = nI (1)) (v4 : u.1 181 2 = nI (0)) (v5 : u.1 181 3 = nI (3)) : xC mX10_nextOrder [.ref 172] (xmm u) (fun r μ' => ∃ u' : xU, μ' = xmm u' ∧ r = some (.int (nI 1)) ∧ (∀ x, x ≠ 181 → u'.1 x = u.1 x) ∧ u'.2 = u.2 ∧ u'.1 181 0 = nI 2 ∧ u'.1 181 1 = nI 1 ∧ u'.1 181 2 = nI 3 ∧ u'.1 181 3 = nI 0) := xC.of xpl10 (Nat.le_of_ble_eq_true rfl) (gNO_4_14 u v1 v2 v3 v4 v5 ⟨_, rfl, rfl, fun x hx => by rw [wi_row hx, wi_row hx], rfl, by rw [wi_nek (by decide), wi_nek (by decide)]; exact v2, by rw [wi_nek (by decide), wi_nek (by decide)]; exact v3, by rw [wi_nek (by decide), wi_self], by rw [wi_self]⟩)
theorem gNO_4_15 (u : xU) {Q : Option Value → xM → Prop}  (v1 : u.1 172 3 = nI (4)) (v2 : u.1 181 0 = nI (2)) (v3 : u.1 181 1 = nI (1)) (v4 : u.1 181 2 = nI (3)) (v5 : u.1 181 3 = nI (0))
    (k1 : Q (some (.int (nI (1)))) (xmm (wi (wi (wi (wi u 181 1 (nI (3))) 181 2 (nI (1))) 181 2 (nI (0))) 181 3 (nI (1))))) : xE mX10_nextOrder 0 [(0, .ref 172)] [] (xmm u) Q := by
  refine xe_aload_n 0 dX10_nextOrder_0 rfl rfl ?_
  refine xr_getI (v := nI (4)) dX10_nextOrder_1 fX10_119 sh172 (by decide) v1 ?_
  refine xe_iconst (v := nI (2)) dX10_nextOrder_4 xc2 ?_
  refine xn_isub dX10_nextOrder_5 (by decide) ?_
  refine xe_istore_n (L2 := [(0, .ref 172), (1, .int (nI (2)))]) dX10_nextOrder_6 rfl (by decide) rfl ?_
  refine xe_iload_n 1 dX10_nextOrder_7 rfl rfl ?_
  refine xn_if_lt 34 dX10_nextOrder_8 (by decide) (by omega) (fun q => absurd q (by omega)) (fun _ => ?_)
  refine xe_aload_n 0 dX10_nextOrder_11 rfl rfl ?_
  refine xr_getR (b := 181) dX10_nextOrder_12 fX10_34 rfl sh172 (by decide) rfl ?_
  refine xe_iload_n 1 dX10_nextOrder_15 rfl rfl ?_
  refine xr_iald (k := 2) (v := nI (3)) dX10_nextOrder_16 sh181 (by decide) (by omega) (by decide) v4 ?_
  refine xe_aload_n 0 dX10_nextOrder_17 rfl rfl ?_
  refine xr_getR (b := 181) dX10_nextOrder_18 fX10_34 rfl sh172 (by decide) rfl ?_
  refine xe_iload_n 1 dX10_nextOrder_21 rfl rfl ?_
  refine xe_iconst (v := nI (1)) dX10_nextOrder_22 xc1 ?_
  refine xn_iadd dX10_nextOrder_23 ?_
  refine xr_iald (k := 3) (v := nI (0)) dX10_nextOrder_24 sh181 (by decide) (by omega) (by decide) v5 ?_
  refine xn_icmp_le 34 dX10_nextOrder_25 (by decide) (by omega) (by omega) (fun q => absurd q (by decide)) (fun _ => ?_)
  refine xn_idec (L2 := [(0, .ref 172), (1, .int (nI (1)))]) 1 dX10_nextOrder_28 rfl (by decide) (by decide) rfl ?_
  refine xe_goto 7 dX10_nextOrder_31 (by decide) ?_
  refine xe_iload_n 1 dX10_nextOrder_7 rfl rfl ?_
  refine xn_if_lt 34 dX10_nextOrder_8 (by decide) (by omega) (fun q => absurd q (by omega)) (fun _ => ?_)
  refine xe_aload_n 0 dX10_nextOrder_11 rfl rfl ?_
  refine xr_getR (b := 181) dX10_nextOrder_12 fX10_34 rfl sh172 (by decide) rfl ?_
  refine xe_iload_n 1 dX10_nextOrder_15 rfl rfl ?_
  refine xr_iald (k := 1) (v := nI (1)) dX10_nextOrder_16 sh181 (by decide) (by omega) (by decide) v3 ?_
  refine xe_aload_n 0 dX10_nextOrder_17 rfl rfl ?_
  refine xr_getR (b := 181) dX10_nextOrder_18 fX10_34 rfl sh172 (by decide) rfl ?_
  refine xe_iload_n 1 dX10_nextOrder_21 rfl rfl ?_
  refine xe_iconst (v := nI (1)) dX10_nextOrder_22 xc1 ?_
  refine xn_iadd dX10_nextOrder_23 ?_
  refine xr_iald (k := 2) (v := nI (3)) dX10_nextOrder_24 sh181 (by decide) (by omega) (by decide) v4 ?_
  refine xn_icmp_le 34 dX10_nextOrder_25 (by decide) (by omega) (by omega) (fun _ => ?_) (fun q => absurd q (by decide))
  refine xe_iload_n 1 dX10_nextOrder_34 rfl rfl ?_
  refine xn_if_ge 40 dX10_nextOrder_35 (by decide) (by omega) (fun _ => ?_) (fun q => absurd (Nat.zero_le _) q)
  refine xe_aload_n 0 dX10_nextOrder_40 rfl rfl ?_
  refine xr_getI (v := nI (4)) dX10_nextOrder_41 fX10_119 sh172 (by decide) v1 ?_
  refine xe_iconst (v := nI (1)) dX10_nextOrder_44 xc1 ?_
  refine xn_isub dX10_nextOrder_45 (by decide) ?_
  refine xe_istore_n (L2 := [(0, .ref 172), (1, .int (nI (1))), (2, .int (nI (3)))]) dX10_nextOrder_46 rfl (by decide) rfl ?_
  refine xe_aload_n 0 dX10_nextOrder_47 rfl rfl ?_
  refine xr_getR (b := 181) dX10_nextOrder_48 fX10_34 rfl sh172 (by decide) rfl ?_
  refine xe_iload_n 2 dX10_nextOrder_51 rfl rfl ?_
  refine xr_iald (k := 3) (v := nI (0)) dX10_nextOrder_52 sh181 (by decide) (by omega) (by decide) v5 ?_
  refine xe_aload_n 0 dX10_nextOrder_53 rfl rfl ?_
  refine xr_getR (b := 181) dX10_nextOrder_54 fX10_34 rfl sh172 (by decide) rfl ?_
  refine xe_iload_n 1 dX10_nextOrder_57 rfl rfl ?_
  refine xr_iald (k := 1) (v := nI (1)) dX10_nextOrder_58 sh181 (by decide) (by omega) (by decide) v3 ?_
  refine xn_icmp_ge 68 dX10_nextOrder_59 (by decide) (by omega) (by omega) (fun q => absurd q (by decide)) (fun _ => ?_)
  refine xn_idec (L2 := [(0, .ref 172), (1, .int (nI (1))), (2, .int (nI (2)))]) 2 dX10_nextOrder_62 rfl (by decide) (by decide) rfl ?_
  refine xe_goto 47 dX10_nextOrder_65 (by decide) ?_
  refine xe_aload_n 0 dX10_nextOrder_47 rfl rfl ?_
  refine xr_getR (b := 181) dX10_nextOrder_48 fX10_34 rfl sh172 (by decide) rfl ?_
  refine xe_iload_n 2 dX10_nextOrder_51 rfl rfl ?_
  refine xr_iald (k := 2) (v := nI (3)) dX10_nextOrder_52 sh181 (by decide) (by omega) (by decide) v4 ?_
  refine xe_aload_n 0 dX10_nextOrder_53 rfl rfl ?_
  refine xr_getR (b := 181) dX10_nextOrder_54 fX10_34 rfl sh172 (by decide) rfl ?_
  refine xe_iload_n 1 dX10_nextOrder_57 rfl rfl ?_
  refine xr_iald (k := 1) (v := nI (1)) dX10_nextOrder_58 sh181 (by decide) (by omega) (by decide) v3 ?_
  refine xn_icmp_ge 68 dX10_nextOrder_59 (by decide) (by omega) (by omega) (fun _ => ?_) (fun q => absurd q (by decide))
  refine xe_aload_n 0 dX10_nextOrder_68 rfl rfl ?_
  refine xr_getR (b := 181) dX10_nextOrder_69 fX10_34 rfl sh172 (by decide) rfl ?_
  refine xe_iload_n 1 dX10_nextOrder_72 rfl rfl ?_
  refine xr_iald (k := 1) (v := nI (1)) dX10_nextOrder_73 sh181 (by decide) (by omega) (by decide) v3 ?_
  refine xe_istore_n (L2 := [(0, .ref 172), (1, .int (nI (1))), (2, .int (nI (2))), (3, .int (nI (1)))]) dX10_nextOrder_74 rfl (by decide) rfl ?_
  refine xe_aload_n 0 dX10_nextOrder_75 rfl rfl ?_
  refine xr_getR (b := 181) dX10_nextOrder_76 fX10_34 rfl sh172 (by decide) rfl ?_
  refine xe_iload_n 1 dX10_nextOrder_79 rfl rfl ?_
  refine xe_aload_n 0 dX10_nextOrder_80 rfl rfl ?_
  refine xr_getR (b := 181) dX10_nextOrder_81 fX10_34 rfl sh172 (by decide) rfl ?_
  refine xe_iload_n 2 dX10_nextOrder_84 rfl rfl ?_
  refine xr_iald (k := 2) (v := nI (3)) dX10_nextOrder_85 sh181 (by decide) (by omega) (by decide) v4 ?_
  refine xr_iast (k := 1) dX10_nextOrder_86 sh181 (by decide) (by omega) (by decide) ?_
  refine xe_aload_n 0 dX10_nextOrder_87 rfl rfl ?_
  refine xr_getR (b := 181) dX10_nextOrder_88 fX10_34 rfl sh172 (by decide) rfl ?_
  refine xe_iload_n 2 dX10_nextOrder_91 rfl rfl ?_
  refine xe_iload_n 3 dX10_nextOrder_92 rfl rfl ?_
  refine xr_iast (k := 2) dX10_nextOrder_93 sh181 (by decide) (by omega) (by decide) ?_
  refine xe_iload_n 1 dX10_nextOrder_94 rfl rfl ?_
  refine xe_iconst (v := nI (1)) dX10_nextOrder_95 xc1 ?_
  refine xn_iadd dX10_nextOrder_96 ?_
  refine xe_istore (L2 := [(0, .ref 172), (1, .int (nI (1))), (2, .int (nI (2))), (3, .int (nI (1))), (4, .int (nI (2)))]) dX10_nextOrder_97 (by decide) rfl ?_
  refine xe_aload_n 0 dX10_nextOrder_99 rfl rfl ?_
  refine xr_getI (v := nI (4)) dX10_nextOrder_100 fX10_119 sh172 (by decide) ((wi_ne (by omega)).trans ((wi_ne (by omega)).trans v1)) ?_
  refine xe_iconst (v := nI (1)) dX10_nextOrder_103 xc1 ?_
  refine xn_isub dX10_nextOrder_104 (by decide) ?_
  refine xe_istore (L2 := [(0, .ref 172), (1, .int (nI (1))), (2, .int (nI (2))), (3, .int (nI (1))), (4, .int (nI (2))), (5, .int (nI (3)))]) dX10_nextOrder_105 (by decide) rfl ?_
  refine xe_iload 4 dX10_nextOrder_107 rfl ?_
  refine xe_iload 5 dX10_nextOrder_109 rfl ?_
  refine xn_icmp_ge 153 dX10_nextOrder_111 (by decide) (by omega) (by omega) (fun q => absurd q (by decide)) (fun _ => ?_)
  refine xe_aload_n 0 dX10_nextOrder_114 rfl rfl ?_
  refine xr_getR (b := 181) dX10_nextOrder_115 fX10_34 rfl sh172 (by decide) rfl ?_
  refine xe_iload 4 dX10_nextOrder_118 rfl ?_
  refine xr_iald (k := 2) (v := nI (1)) dX10_nextOrder_120 sh181 (by decide) (by omega) (by decide) wi_self ?_
  refine xe_istore_n (L2 := [(0, .ref 172), (1, .int (nI (1))), (2, .int (nI (2))), (3, .int (nI (1))), (4, .int (nI (2))), (5, .int (nI (3)))]) dX10_nextOrder_121 rfl (by decide) rfl ?_
  refine xe_aload_n 0 dX10_nextOrder_122 rfl rfl ?_
  refine xr_getR (b := 181) dX10_nextOrder_123 fX10_34 rfl sh172 (by decide) rfl ?_
  refine xe_iload 4 dX10_nextOrder_126 rfl ?_
  refine xe_aload_n 0 dX10_nextOrder_128 rfl rfl ?_
  refine xr_getR (b := 181) dX10_nextOrder_129 fX10_34 rfl sh172 (by decide) rfl ?_
  refine xe_iload 5 dX10_nextOrder_132 rfl ?_
  refine xr_iald (k := 3) (v := nI (0)) dX10_nextOrder_134 sh181 (by decide) (by omega) (by decide) ((wi_nek (by decide)).trans ((wi_nek (by decide)).trans v5)) ?_
  refine xr_iast (k := 2) dX10_nextOrder_135 sh181 (by decide) (by omega) (by decide) ?_
  refine xe_aload_n 0 dX10_nextOrder_136 rfl rfl ?_
  refine xr_getR (b := 181) dX10_nextOrder_137 fX10_34 rfl sh172 (by decide) rfl ?_
  refine xe_iload 5 dX10_nextOrder_140 rfl ?_
  refine xe_iload_n 3 dX10_nextOrder_142 rfl rfl ?_
  refine xr_iast (k := 3) dX10_nextOrder_143 sh181 (by decide) (by omega) (by decide) ?_
  refine xn_iinc (c := 1) (L2 := [(0, .ref 172), (1, .int (nI (1))), (2, .int (nI (2))), (3, .int (nI (1))), (4, .int (nI (3))), (5, .int (nI (3)))]) 4 dX10_nextOrder_144 rfl (by decide) rfl ?_
  refine xn_idec (L2 := [(0, .ref 172), (1, .int (nI (1))), (2, .int (nI (2))), (3, .int (nI (1))), (4, .int (nI (3))), (5, .int (nI (2)))]) 5 dX10_nextOrder_147 rfl (by decide) (by decide) rfl ?_
  refine xe_goto 107 dX10_nextOrder_150 (by decide) ?_
  refine xe_iload 4 dX10_nextOrder_107 rfl ?_
  refine xe_iload 5 dX10_nextOrder_109 rfl ?_
  refine xn_icmp_ge 153 dX10_nextOrder_111 (by decide) (by omega) (by omega) (fun _ => ?_) (fun q => absurd q (by decide))
  refine xe_iconst (v := nI (1)) dX10_nextOrder_153 xc1 ?_
  exact xe_ret (r := (some (.int (nI (1))))) dX10_nextOrder_154 (Or.inr rfl) (k1)

theorem hNO_4_15 (u : xU) (v1 : u.1 172 3 = nI (4)) (v2 : u.1 181 0 = nI (2)) (v3 : u.1 181 1 = nI (1)) (v4 : u.1 181 2 = nI (3)) (v5 : u.1 181 3 = nI (0)) : xC mX10_nextOrder [.ref 172] (xmm u) (fun r μ' => ∃ u' : xU, μ' = xmm u' ∧ r = some (.int (nI 1)) ∧ (∀ x, x ≠ 181 → u'.1 x = u.1 x) ∧ u'.2 = u.2 ∧ u'.1 181 0 = nI 2 ∧ u'.1 181 1 = nI 3 ∧ u'.1 181 2 = nI 0 ∧ u'.1 181 3 = nI 1) := xC.of xpl10 (Nat.le_of_ble_eq_true rfl) (gNO_4_15 u v1 v2 v3 v4 v5 ⟨_, rfl, rfl, fun x hx => by rw [wi_row hx, wi_row hx, wi_row hx, wi_row hx], rfl, by rw [wi_nek (by decide), wi_nek (by decide), wi_nek (by decide), wi_nek (by decide)]; exact v2, by rw [wi_nek (by decide), wi_nek (by decide), wi_nek (by decide), wi_self], by rw [wi_nek (by decide), wi_self], by rw [wi_self]⟩)
theorem gNO_4_16 (u : xU) {Q : Option Value → xM → Prop}  (v1 : u.1 172 3 = nI (4)) (v2 : u.1 181 0 = nI (2)) (v3 : u.1 181 1 = nI (3)) (v4 : u.1 181 2 = nI (0)) (v5 : u.1 181 3 = nI (1))
    (k1 : Q (some (.int (nI (1)))) (xmm (wi (wi u 181 2 (nI (1))) 181 3 (nI (0))))) : xE mX10_nextOrder 0 [(0, .ref 172)] [] (xmm u) Q := by
  refine xe_aload_n 0 dX10_nextOrder_0 rfl rfl ?_
  refine xr_getI (v := nI (4)) dX10_nextOrder_1 fX10_119 sh172 (by decide) v1 ?_
  refine xe_iconst (v := nI (2)) dX10_nextOrder_4 xc2 ?_
  refine xn_isub dX10_nextOrder_5 (by decide) ?_
  refine xe_istore_n (L2 := [(0, .ref 172), (1, .int (nI (2)))]) dX10_nextOrder_6 rfl (by decide) rfl ?_
  refine xe_iload_n 1 dX10_nextOrder_7 rfl rfl ?_
  refine xn_if_lt 34 dX10_nextOrder_8 (by decide) (by omega) (fun q => absurd q (by omega)) (fun _ => ?_)
  refine xe_aload_n 0 dX10_nextOrder_11 rfl rfl ?_
  refine xr_getR (b := 181) dX10_nextOrder_12 fX10_34 rfl sh172 (by decide) rfl ?_
  refine xe_iload_n 1 dX10_nextOrder_15 rfl rfl ?_
  refine xr_iald (k := 2) (v := nI (0)) dX10_nextOrder_16 sh181 (by decide) (by omega) (by decide) v4 ?_
  refine xe_aload_n 0 dX10_nextOrder_17 rfl rfl ?_
  refine xr_getR (b := 181) dX10_nextOrder_18 fX10_34 rfl sh172 (by decide) rfl ?_
  refine xe_iload_n 1 dX10_nextOrder_21 rfl rfl ?_
  refine xe_iconst (v := nI (1)) dX10_nextOrder_22 xc1 ?_
  refine xn_iadd dX10_nextOrder_23 ?_
  refine xr_iald (k := 3) (v := nI (1)) dX10_nextOrder_24 sh181 (by decide) (by omega) (by decide) v5 ?_
  refine xn_icmp_le 34 dX10_nextOrder_25 (by decide) (by omega) (by omega) (fun _ => ?_) (fun q => absurd q (by decide))
  refine xe_iload_n 1 dX10_nextOrder_34 rfl rfl ?_
  refine xn_if_ge 40 dX10_nextOrder_35 (by decide) (by omega) (fun _ => ?_) (fun q => absurd (Nat.zero_le _) q)
  refine xe_aload_n 0 dX10_nextOrder_40 rfl rfl ?_
  refine xr_getI (v := nI (4)) dX10_nextOrder_41 fX10_119 sh172 (by decide) v1 ?_
  refine xe_iconst (v := nI (1)) dX10_nextOrder_44 xc1 ?_
  refine xn_isub dX10_nextOrder_45 (by decide) ?_
  refine xe_istore_n (L2 := [(0, .ref 172), (1, .int (nI (2))), (2, .int (nI (3)))]) dX10_nextOrder_46 rfl (by decide) rfl ?_
  refine xe_aload_n 0 dX10_nextOrder_47 rfl rfl ?_
  refine xr_getR (b := 181) dX10_nextOrder_48 fX10_34 rfl sh172 (by decide) rfl ?_
  refine xe_iload_n 2 dX10_nextOrder_51 rfl rfl ?_
  refine xr_iald (k := 3) (v := nI (1)) dX10_nextOrder_52 sh181 (by decide) (by omega) (by decide) v5 ?_
  refine xe_aload_n 0 dX10_nextOrder_53 rfl rfl ?_
  refine xr_getR (b := 181) dX10_nextOrder_54 fX10_34 rfl sh172 (by decide) rfl ?_
  refine xe_iload_n 1 dX10_nextOrder_57 rfl rfl ?_
  refine xr_iald (k := 2) (v := nI (0)) dX10_nextOrder_58 sh181 (by decide) (by omega) (by decide) v4 ?_
  refine xn_icmp_ge 68 dX10_nextOrder_59 (by decide) (by omega) (by omega) (fun _ => ?_) (fun q => absurd q (by decide))
  refine xe_aload_n 0 dX10_nextOrder_68 rfl rfl ?_
  refine xr_getR (b := 181) dX10_nextOrder_69 fX10_34 rfl sh172 (by decide) rfl ?_
  refine xe_iload_n 1 dX10_nextOrder_72 rfl rfl ?_
  refine xr_iald (k := 2) (v := nI (0)) dX10_nextOrder_73 sh181 (by decide) (by omega) (by decide) v4 ?_
  refine xe_istore_n (L2 := [(0, .ref 172), (1, .int (nI (2))), (2, .int (nI (3))), (3, .int (nI (0)))]) dX10_nextOrder_74 rfl (by decide) rfl ?_
  refine xe_aload_n 0 dX10_nextOrder_75 rfl rfl ?_
  refine xr_getR (b := 181) dX10_nextOrder_76 fX10_34 rfl sh172 (by decide) rfl ?_
  refine xe_iload_n 1 dX10_nextOrder_79 rfl rfl ?_
  refine xe_aload_n 0 dX10_nextOrder_80 rfl rfl ?_
  refine xr_getR (b := 181) dX10_nextOrder_81 fX10_34 rfl sh172 (by decide) rfl ?_
  refine xe_iload_n 2 dX10_nextOrder_84 rfl rfl ?_
  refine xr_iald (k := 3) (v := nI (1)) dX10_nextOrder_85 sh181 (by decide) (by omega) (by decide) v5 ?_
  refine xr_iast (k := 2) dX10_nextOrder_86 sh181 (by decide) (by omega) (by decide) ?_
  refine xe_aload_n 0 dX10_nextOrder_87 rfl rfl ?_
  refine xr_getR (b := 181) dX10_nextOrder_88 fX10_34 rfl sh172 (by decide) rfl ?_
  refine xe_iload_n 2 dX10_nextOrder_91 rfl rfl ?_
  refine xe_iload_n 3 dX10_nextOrder_92 rfl rfl ?_
  refine xr_iast (k := 3) dX10_nextOrder_93 sh181 (by decide) (by omega) (by decide) ?_
  refine xe_iload_n 1 dX10_nextOrder_94 rfl rfl ?_
  refine xe_iconst (v := nI (1)) dX10_nextOrder_95 xc1 ?_
  refine xn_iadd dX10_nextOrder_96 ?_
  refine xe_istore (L2 := [(0, .ref 172), (1, .int (nI (2))), (2, .int (nI (3))), (3, .int (nI (0))), (4, .int (nI (3)))]) dX10_nextOrder_97 (by decide) rfl ?_
  refine xe_aload_n 0 dX10_nextOrder_99 rfl rfl ?_
  refine xr_getI (v := nI (4)) dX10_nextOrder_100 fX10_119 sh172 (by decide) ((wi_ne (by omega)).trans ((wi_ne (by omega)).trans v1)) ?_
  refine xe_iconst (v := nI (1)) dX10_nextOrder_103 xc1 ?_
  refine xn_isub dX10_nextOrder_104 (by decide) ?_
  refine xe_istore (L2 := [(0, .ref 172), (1, .int (nI (2))), (2, .int (nI (3))), (3, .int (nI (0))), (4, .int (nI (3))), (5, .int (nI (3)))]) dX10_nextOrder_105 (by decide) rfl ?_
  refine xe_iload 4 dX10_nextOrder_107 rfl ?_
  refine xe_iload 5 dX10_nextOrder_109 rfl ?_
  refine xn_icmp_ge 153 dX10_nextOrder_111 (by decide) (by omega) (by omega) (fun _ => ?_) (fun q => absurd q (by decide))
  refine xe_iconst (v := nI (1)) dX10_nextOrder_153 xc1 ?_
  exact xe_ret (r := (some (.int (nI (1))))) dX10_nextOrder_154 (Or.inr rfl) (k1)

theorem hNO_4_16 (u : xU) (v1 : u.1 172 3 = nI (4)) (v2 : u.1 181 0 = nI (2)) (v3 : u.1 181 1 = nI (3)) (v4 : u.1 181 2 = nI (0)) (v5 : u.1 181 3 = nI (1)) : xC mX10_nextOrder [.ref 172] (xmm u) (fun r μ' => ∃ u' : xU, μ' = xmm u' ∧ r = some (.int (nI 1)) ∧ (∀ x, x ≠ 181 → u'.1 x = u.1 x) ∧ u'.2 = u.2 ∧ u'.1 181 0 = nI 2 ∧ u'.1 181 1 = nI 3 ∧ u'.1 181 2 = nI 1 ∧ u'.1 181 3 = nI 0) := xC.of xpl10 (Nat.le_of_ble_eq_true rfl) (gNO_4_16 u v1 v2 v3 v4 v5 ⟨_, rfl, rfl, fun x hx => by rw [wi_row hx, wi_row hx], rfl, by rw [wi_nek (by decide), wi_nek (by decide)]; exact v2, by rw [wi_nek (by decide), wi_nek (by decide)]; exact v3, by rw [wi_nek (by decide), wi_self], by rw [wi_self]⟩)
theorem gNO_4_17 (u : xU) {Q : Option Value → xM → Prop}  (v1 : u.1 172 3 = nI (4)) (v2 : u.1 181 0 = nI (2)) (v3 : u.1 181 1 = nI (3)) (v4 : u.1 181 2 = nI (1)) (v5 : u.1 181 3 = nI (0))
    (k1 : Q (some (.int (nI (1)))) (xmm (wi (wi (wi (wi u 181 0 (nI (3))) 181 1 (nI (2))) 181 1 (nI (0))) 181 3 (nI (2))))) : xE mX10_nextOrder 0 [(0, .ref 172)] [] (xmm u) Q := by
  refine xe_aload_n 0 dX10_nextOrder_0 rfl rfl ?_
  refine xr_getI (v := nI (4)) dX10_nextOrder_1 fX10_119 sh172 (by decide) v1 ?_
  refine xe_iconst (v := nI (2)) dX10_nextOrder_4 xc2 ?_
  refine xn_isub dX10_nextOrder_5 (by decide) ?_
  refine xe_istore_n (L2 := [(0, .ref 172), (1, .int (nI (2)))]) dX10_nextOrder_6 rfl (by decide) rfl ?_
  refine xe_iload_n 1 dX10_nextOrder_7 rfl rfl ?_
  refine xn_if_lt 34 dX10_nextOrder_8 (by decide) (by omega) (fun q => absurd q (by omega)) (fun _ => ?_)
  refine xe_aload_n 0 dX10_nextOrder_11 rfl rfl ?_
  refine xr_getR (b := 181) dX10_nextOrder_12 fX10_34 rfl sh172 (by decide) rfl ?_
  refine xe_iload_n 1 dX10_nextOrder_15 rfl rfl ?_
  refine xr_iald (k := 2) (v := nI (1)) dX10_nextOrder_16 sh181 (by decide) (by omega) (by decide) v4 ?_
  refine xe_aload_n 0 dX10_nextOrder_17 rfl rfl ?_
  refine xr_getR (b := 181) dX10_nextOrder_18 fX10_34 rfl sh172 (by decide) rfl ?_
  refine xe_iload_n 1 dX10_nextOrder_21 rfl rfl ?_
  refine xe_iconst (v := nI (1)) dX10_nextOrder_22 xc1 ?_
  refine xn_iadd dX10_nextOrder_23 ?_
  refine xr_iald (k := 3) (v := nI (0)) dX10_nextOrder_24 sh181 (by decide) (by omega) (by decide) v5 ?_
  refine xn_icmp_le 34 dX10_nextOrder_25 (by decide) (by omega) (by omega) (fun q => absurd q (by decide)) (fun _ => ?_)
  refine xn_idec (L2 := [(0, .ref 172), (1, .int (nI (1)))]) 1 dX10_nextOrder_28 rfl (by decide) (by decide) rfl ?_
  refine xe_goto 7 dX10_nextOrder_31 (by decide) ?_
  refine xe_iload_n 1 dX10_nextOrder_7 rfl rfl ?_
  refine xn_if_lt 34 dX10_nextOrder_8 (by decide) (by omega) (fun q => absurd q (by omega)) (fun _ => ?_)
  refine xe_aload_n 0 dX10_nextOrder_11 rfl rfl ?_
  refine xr_getR (b := 181) dX10_nextOrder_12 fX10_34 rfl sh172 (by decide) rfl ?_
  refine xe_iload_n 1 dX10_nextOrder_15 rfl rfl ?_
  refine xr_iald (k := 1) (v := nI (3)) dX10_nextOrder_16 sh181 (by decide) (by omega) (by decide) v3 ?_
  refine xe_aload_n 0 dX10_nextOrder_17 rfl rfl ?_
  refine xr_getR (b := 181) dX10_nextOrder_18 fX10_34 rfl sh172 (by decide) rfl ?_
  refine xe_iload_n 1 dX10_nextOrder_21 rfl rfl ?_
  refine xe_iconst (v := nI (1)) dX10_nextOrder_22 xc1 ?_
  refine xn_iadd dX10_nextOrder_23 ?_
  refine xr_iald (k := 2) (v := nI (1)) dX10_nextOrder_24 sh181 (by decide) (by omega) (by decide) v4 ?_
  refine xn_icmp_le 34 dX10_nextOrder_25 (by decide) (by omega) (by omega) (fun q => absurd q (by decide)) (fun _ => ?_)
  refine xn_idec (L2 := [(0, .ref 172), (1, .int (nI (0)))]) 1 dX10_nextOrder_28 rfl (by decide) (by decide) rfl ?_
  refine xe_goto 7 dX10_nextOrder_31 (by decide) ?_
  refine xe_iload_n 1 dX10_nextOrder_7 rfl rfl ?_
  refine xn_if_lt 34 dX10_nextOrder_8 (by decide) (by omega) (fun q => absurd q (by omega)) (fun _ => ?_)
  refine xe_aload_n 0 dX10_nextOrder_11 rfl rfl ?_
  refine xr_getR (b := 181) dX10_nextOrder_12 fX10_34 rfl sh172 (by decide) rfl ?_
  refine xe_iload_n 1 dX10_nextOrder_15 rfl rfl ?_
  refine xr_iald (k := 0) (v := nI (2)) dX10_nextOrder_16 sh181 (by decide) (by omega) (by decide) v2 ?_
  refine xe_aload_n 0 dX10_nextOrder_17 rfl rfl ?_
  refine xr_getR (b := 181) dX10_nextOrder_18 fX10_34 rfl sh172 (by decide) rfl ?_
  refine xe_iload_n 1 dX10_nextOrder_21 rfl rfl ?_
  refine xe_iconst (v := nI (1)) dX10_nextOrder_22 xc1 ?_
  refine xn_iadd dX10_nextOrder_23 ?_
  refine xr_iald (k := 1) (v := nI (3)) dX10_nextOrder_24 sh181 (by decide) (by omega) (by decide) v3 ?_
  refine xn_icmp_le 34 dX10_nextOrder_25 (by decide) (by omega) (by omega) (fun _ => ?_) (fun q => absurd q (by decide))
  refine xe_iload_n 1 dX10_nextOrder_34 rfl rfl ?_
  refine xn_if_ge 40 dX10_nextOrder_35 (by decide) (by omega) (fun _ => ?_) (fun q => absurd (Nat.zero_le _) q)
  refine xe_aload_n 0 dX10_nextOrder_40 rfl rfl ?_
  refine xr_getI (v := nI (4)) dX10_nextOrder_41 fX10_119 sh172 (by decide) v1 ?_
  refine xe_iconst (v := nI (1)) dX10_nextOrder_44 xc1 ?_
  refine xn_isub dX10_nextOrder_45 (by decide) ?_
  refine xe_istore_n (L2 := [(0, .ref 172), (1, .int (nI (0))), (2, .int (nI (3)))]) dX10_nextOrder_46 rfl (by decide) rfl ?_
  refine xe_aload_n 0 dX10_nextOrder_47 rfl rfl ?_
  refine xr_getR (b := 181) dX10_nextOrder_48 fX10_34 rfl sh172 (by decide) rfl ?_
  refine xe_iload_n 2 dX10_nextOrder_51 rfl rfl ?_
  refine xr_iald (k := 3) (v := nI (0)) dX10_nextOrder_52 sh181 (by decide) (by omega) (by decide) v5 ?_
  refine xe_aload_n 0 dX10_nextOrder_53 rfl rfl ?_
  refine xr_getR (b := 181) dX10_nextOrder_54 fX10_34 rfl sh172 (by decide) rfl ?_
  refine xe_iload_n 1 dX10_nextOrder_57 rfl rfl ?_
  refine xr_iald (k := 0) (v := nI (2)) dX10_nextOrder_58 sh181 (by decide) (by omega) (by decide) v2 ?_
  refine xn_icmp_ge 68 dX10_nextOrder_59 (by decide) (by omega) (by omega) (fun q => absurd q (by decide)) (fun _ => ?_)
  refine xn_idec (L2 := [(0, .ref 172), (1, .int (nI (0))), (2, .int (nI (2)))]) 2 dX10_nextOrder_62 rfl (by decide) (by decide) rfl ?_
  refine xe_goto 47 dX10_nextOrder_65 (by decide) ?_
  refine xe_aload_n 0 dX10_nextOrder_47 rfl rfl ?_
  refine xr_getR (b := 181) dX10_nextOrder_48 fX10_34 rfl sh172 (by decide) rfl ?_
  refine xe_iload_n 2 dX10_nextOrder_51 rfl rfl ?_
  refine xr_iald (k := 2) (v := nI (1)) dX10_nextOrder_52 sh181 (by decide) (by omega) (by decide) v4 ?_
  refine xe_aload_n 0 dX10_nextOrder_53 rfl rfl ?_
  refine xr_getR (b := 181) dX10_nextOrder_54 fX10_34 rfl sh172 (by decide) rfl ?_
  refine xe_iload_n 1 dX10_nextOrder_57 rfl rfl ?_
  refine xr_iald (k := 0) (v := nI (2)) dX10_nextOrder_58 sh181 (by decide) (by omega) (by decide) v2 ?_
  refine xn_icmp_ge 68 dX10_nextOrder_59 (by decide) (by omega) (by omega) (fun q => absurd q (by decide)) (fun _ => ?_)
  refine xn_idec (L2 := [(0, .ref 172), (1, .int (nI (0))), (2, .int (nI (1)))]) 2 dX10_nextOrder_62 rfl (by decide) (by decide) rfl ?_
  refine xe_goto 47 dX10_nextOrder_65 (by decide) ?_
  refine xe_aload_n 0 dX10_nextOrder_47 rfl rfl ?_
  refine xr_getR (b := 181) dX10_nextOrder_48 fX10_34 rfl sh172 (by decide) rfl ?_
  refine xe_iload_n 2 dX10_nextOrder_51 rfl rfl ?_
  refine xr_iald (k := 1) (v := nI (3)) dX10_nextOrder_52 sh181 (by decide) (by omega) (by decide) v3 ?_
  refine xe_aload_n 0 dX10_nextOrder_53 rfl rfl ?_
  refine xr_getR (b := 181) dX10_nextOrder_54 fX10_34 rfl sh172 (by decide) rfl ?_
  refine xe_iload_n 1 dX10_nextOrder_57 rfl rfl ?_
  refine xr_iald (k := 0) (v := nI (2)) dX10_nextOrder_58 sh181 (by decide) (by omega) (by decide) v2 ?_
  refine xn_icmp_ge 68 dX10_nextOrder_59 (by decide) (by omega) (by omega) (fun _ => ?_) (fun q => absurd q (by decide))
  refine xe_aload_n 0 dX10_nextOrder_68 rfl rfl ?_
  refine xr_getR (b := 181) dX10_nextOrder_69 fX10_34 rfl sh172 (by decide) rfl ?_
  refine xe_iload_n 1 dX10_nextOrder_72 rfl rfl ?_
  refine xr_iald (k := 0) (v := nI (2)) dX10_nextOrder_73 sh181 (by decide) (by omega) (by decide) v2 ?_
  refine xe_istore_n (L2 := [(0, .ref 172), (1, .int (nI (0))), (2, .int (nI (1))), (3, .int (nI (2)))]) dX10_nextOrder_74 rfl (by decide) rfl ?_
  refine xe_aload_n 0 dX10_nextOrder_75 rfl rfl ?_
  refine xr_getR (b := 181) dX10_nextOrder_76 fX10_34 rfl sh172 (by decide) rfl ?_
  refine xe_iload_n 1 dX10_nextOrder_79 rfl rfl ?_
  refine xe_aload_n 0 dX10_nextOrder_80 rfl rfl ?_
  refine xr_getR (b := 181) dX10_nextOrder_81 fX10_34 rfl sh172 (by decide) rfl ?_
  refine xe_iload_n 2 dX10_nextOrder_84 rfl rfl ?_
  refine xr_iald (k := 1) (v := nI (3)) dX10_nextOrder_85 sh181 (by decide) (by omega) (by decide) v3 ?_
  refine xr_iast (k := 0) dX10_nextOrder_86 sh181 (by decide) (by omega) (by decide) ?_
  refine xe_aload_n 0 dX10_nextOrder_87 rfl rfl ?_
  refine xr_getR (b := 181) dX10_nextOrder_88 fX10_34 rfl sh172 (by decide) rfl ?_
  refine xe_iload_n 2 dX10_nextOrder_91 rfl rfl ?_
  refine xe_iload_n 3 dX10_nextOrder_92 rfl rfl ?_
  refine xr_iast (k := 1) dX10_nextOrder_93 sh181 (by decide) (by omega) (by decide) ?_
  refine xe_iload_n 1 dX10_nextOrder_94 rfl rfl ?_
  refine xe_iconst (v := nI (1)) dX10_nextOrder_95 xc1 ?_
  refine xn_iadd dX10_nextOrder_96 ?_
  refine xe_istore (L2 := [(0, .ref 172), (1, .int (nI (0))), (2, .int (nI (1))), (3, .int (nI (2))), (4, .int (nI (1)))]) dX10_nextOrder_97 (by decide) rfl ?_
  refine xe_aload_n 0 dX10_nextOrder_99 rfl rfl ?_
  refine xr_getI (v := nI (4)) dX10_nextOrder_100 fX10_119 sh172 (by decide) ((wi_ne (by omega)).trans ((wi_ne (by omega)).trans v1)) ?_
  refine xe_iconst (v := nI (1)) dX10_nextOrder_103 xc1 ?_
  refine xn_isub dX10_nextOrder_104 (by decide) ?_
  refine xe_istore (L2 := [(0, .ref 172), (1, .int (nI (0))), (2, .int (nI (1))), (3, .int (nI (2))), (4, .int (nI (1))), (5, .int (nI (3)))]) dX10_nextOrder_105 (by decide) rfl ?_
  refine xe_iload 4 dX10_nextOrder_107 rfl ?_
  refine xe_iload 5 dX10_nextOrder_109 rfl ?_
  refine xn_icmp_ge 153 dX10_nextOrder_111 (by decide) (by omega) (by omega) (fun q => absurd q (by decide)) (fun _ => ?_)
  refine xe_aload_n 0 dX10_nextOrder_114 rfl rfl ?_
  refine xr_getR (b := 181) dX10_nextOrder_115 fX10_34 rfl sh172 (by decide) rfl ?_
  refine xe_iload 4 dX10_nextOrder_118 rfl ?_
  refine xr_iald (k := 1) (v := nI (2)) dX10_nextOrder_120 sh181 (by decide) (by omega) (by decide) wi_self ?_
  refine xe_istore_n (L2 := [(0, .ref 172), (1, .int (nI (0))), (2, .int (nI (1))), (3, .int (nI (2))), (4, .int (nI (1))), (5, .int (nI (3)))]) dX10_nextOrder_121 rfl (by decide) rfl ?_
  refine xe_aload_n 0 dX10_nextOrder_122 rfl rfl ?_
  refine xr_getR (b := 181) dX10_nextOrder_123 fX10_34 rfl sh172 (by decide) rfl ?_
  refine xe_iload 4 dX10_nextOrder_126 rfl ?_
  refine xe_aload_n 0 dX10_nextOrder_128 rfl rfl ?_
  refine xr_getR (b := 181) dX10_nextOrder_129 fX10_34 rfl sh172 (by decide) rfl ?_
  refine xe_iload 5 dX10_nextOrder_132 rfl ?_
  refine xr_iald (k := 3) (v := nI (0)) dX10_nextOrder_134 sh181 (by decide) (by omega) (by decide) ((wi_nek (by decide)).trans ((wi_nek (by decide)).trans v5)) ?_
  refine xr_iast (k := 1) dX10_nextOrder_135 sh181 (by decide) (by omega) (by decide) ?_
  refine xe_aload_n 0 dX10_nextOrder_136 rfl rfl ?_
  refine xr_getR (b := 181) dX10_nextOrder_137 fX10_34 rfl sh172 (by decide) rfl ?_
  refine xe_iload 5 dX10_nextOrder_140 rfl ?_
  refine xe_iload_n 3 dX10_nextOrder_142 rfl rfl ?_
  refine xr_iast (k := 3) dX10_nextOrder_143 sh181 (by decide) (by omega) (by decide) ?_
  refine xn_iinc (c := 1) (L2 := [(0, .ref 172), (1, .int (nI (0))), (2, .int (nI (1))), (3, .int (nI (2))), (4, .int (nI (2))), (5, .int (nI (3)))]) 4 dX10_nextOrder_144 rfl (by decide) rfl ?_
  refine xn_idec (L2 := [(0, .ref 172), (1, .int (nI (0))), (2, .int (nI (1))), (3, .int (nI (2))), (4, .int (nI (2))), (5, .int (nI (2)))]) 5 dX10_nextOrder_147 rfl (by decide) (by decide) rfl ?_
  refine xe_goto 107 dX10_nextOrder_150 (by decide) ?_
  refine xe_iload 4 dX10_nextOrder_107 rfl ?_
  refine xe_iload 5 dX10_nextOrder_109 rfl ?_
  refine xn_icmp_ge 153 dX10_nextOrder_111 (by decide) (by omega) (by omega) (fun _ => ?_) (fun q => absurd q (by decide))
  refine xe_iconst (v := nI (1)) dX10_nextOrder_153 xc1 ?_
  exact xe_ret (r := (some (.int (nI (1))))) dX10_nextOrder_154 (Or.inr rfl) (k1)

theorem hNO_4_17 (u : xU) (v1 : u.1 172 3 = nI (4)) (v2 : u.1 181 0 = nI (2)) (v3 : u.1 181 1 = nI (3)) (v4 : u.1 181 2 = nI (1)) (v5 : u.1 181 3 = nI (0)) : xC mX10_nextOrder [.ref 172] (xmm u) (fun r μ' => ∃ u' : xU, μ' = xmm u' ∧ r = some (.int (nI 1)) ∧ (∀ x, x ≠ 181 → u'.1 x = u.1 x) ∧ u'.2 = u.2 ∧ u'.1 181 0 = nI 3 ∧ u'.1 181 1 = nI 0 ∧ u'.1 181 2 = nI 1 ∧ u'.1 181 3 = nI 2) := xC.of xpl10 (Nat.le_of_ble_eq_true rfl) (gNO_4_17 u v1 v2 v3 v4 v5 ⟨_, rfl, rfl, fun x hx => by rw [wi_row hx, wi_row hx, wi_row hx, wi_row hx], rfl, by rw [wi_nek (by decide), wi_nek (by decide), wi_nek (by decide), wi_self], by rw [wi_nek (by decide), wi_self], by rw [wi_nek (by decide), wi_nek (by decide), wi_nek (by decide), wi_nek (by decide)]; exact v4, by rw [wi_self]⟩)
theorem gNO_4_18 (u : xU) {Q : Option Value → xM → Prop}  (v1 : u.1 172 3 = nI (4)) (v2 : u.1 181 0 = nI (3)) (v3 : u.1 181 1 = nI (0)) (v4 : u.1 181 2 = nI (1)) (v5 : u.1 181 3 = nI (2))
    (k1 : Q (some (.int (nI (1)))) (xmm (wi (wi u 181 2 (nI (2))) 181 3 (nI (1))))) : xE mX10_nextOrder 0 [(0, .ref 172)] [] (xmm u) Q := by
  refine xe_aload_n 0 dX10_nextOrder_0 rfl rfl ?_
  refine xr_getI (v := nI (4)) dX10_nextOrder_1 fX10_119 sh172 (by decide) v1 ?_
  refine xe_iconst (v := nI (2)) dX10_nextOrder_4 xc2 ?_
  refine xn_isub dX10_nextOrder_5 (by decide) ?_
  refine xe_istore_n (L2 := [(0, .ref 172), (1, .int (nI (2)))]) dX10_nextOrder_6 rfl (by decide) rfl ?_
  refine xe_iload_n 1 dX10_nextOrder_7 rfl rfl ?_
  refine xn_if_lt 34 dX10_nextOrder_8 (by decide) (by omega) (fun q => absurd q (by omega)) (fun _ => ?_)
  refine xe_aload_n 0 dX10_nextOrder_11 rfl rfl ?_
  refine xr_getR (b := 181) dX10_nextOrder_12 fX10_34 rfl sh172 (by decide) rfl ?_
  refine xe_iload_n 1 dX10_nextOrder_15 rfl rfl ?_
  refine xr_iald (k := 2) (v := nI (1)) dX10_nextOrder_16 sh181 (by decide) (by omega) (by decide) v4 ?_
  refine xe_aload_n 0 dX10_nextOrder_17 rfl rfl ?_
  refine xr_getR (b := 181) dX10_nextOrder_18 fX10_34 rfl sh172 (by decide) rfl ?_
  refine xe_iload_n 1 dX10_nextOrder_21 rfl rfl ?_
  refine xe_iconst (v := nI (1)) dX10_nextOrder_22 xc1 ?_
  refine xn_iadd dX10_nextOrder_23 ?_
  refine xr_iald (k := 3) (v := nI (2)) dX10_nextOrder_24 sh181 (by decide) (by omega) (by decide) v5 ?_
  refine xn_icmp_le 34 dX10_nextOrder_25 (by decide) (by omega) (by omega) (fun _ => ?_) (fun q => absurd q (by decide))
  refine xe_iload_n 1 dX10_nextOrder_34 rfl rfl ?_
  refine xn_if_ge 40 dX10_nextOrder_35 (by decide) (by omega) (fun _ => ?_) (fun q => absurd (Nat.zero_le _) q)
  refine xe_aload_n 0 dX10_nextOrder_40 rfl rfl ?_
  refine xr_getI (v := nI (4)) dX10_nextOrder_41 fX10_119 sh172 (by decide) v1 ?_
  refine xe_iconst (v := nI (1)) dX10_nextOrder_44 xc1 ?_
  refine xn_isub dX10_nextOrder_45 (by decide) ?_
  refine xe_istore_n (L2 := [(0, .ref 172), (1, .int (nI (2))), (2, .int (nI (3)))]) dX10_nextOrder_46 rfl (by decide) rfl ?_
  refine xe_aload_n 0 dX10_nextOrder_47 rfl rfl ?_
  refine xr_getR (b := 181) dX10_nextOrder_48 fX10_34 rfl sh172 (by decide) rfl ?_
  refine xe_iload_n 2 dX10_nextOrder_51 rfl rfl ?_
  refine xr_iald (k := 3) (v := nI (2)) dX10_nextOrder_52 sh181 (by decide) (by omega) (by decide) v5 ?_
  refine xe_aload_n 0 dX10_nextOrder_53 rfl rfl ?_
  refine xr_getR (b := 181) dX10_nextOrder_54 fX10_34 rfl sh172 (by decide) rfl ?_
  refine xe_iload_n 1 dX10_nextOrder_57 rfl rfl ?_
  refine xr_iald (k := 2) (v := nI (1)) dX10_nextOrder_58 sh181 (by decide) (by omega) (by decide) v4 ?_
  refine xn_icmp_ge 68 dX10_nextOrder_59 (by decide) (by omega) (by omega) (fun _ => ?_) (fun q => absurd q (by decide))
  refine xe_aload_n 0 dX10_nextOrder_68 rfl rfl ?_
  refine xr_getR (b := 181) dX10_nextOrder_69 fX10_34 rfl sh172 (by decide) rfl ?_
  refine xe_iload_n 1 dX10_nextOrder_72 rfl rfl ?_
  refine xr_iald (k := 2) (v := nI (1)) dX10_nextOrder_73 sh181 (by decide) (by omega) (by decide) v4 ?_
  refine xe_istore_n (L2 := [(0, .ref 172), (1, .int (nI (2))), (2, .int (nI (3))), (3, .int (nI (1)))]) dX10_nextOrder_74 rfl (by decide) rfl ?_
  refine xe_aload_n 0 dX10_nextOrder_75 rfl rfl ?_
  refine xr_getR (b := 181) dX10_nextOrder_76 fX10_34 rfl sh172 (by decide) rfl ?_
  refine xe_iload_n 1 dX10_nextOrder_79 rfl rfl ?_
  refine xe_aload_n 0 dX10_nextOrder_80 rfl rfl ?_
  refine xr_getR (b := 181) dX10_nextOrder_81 fX10_34 rfl sh172 (by decide) rfl ?_
  refine xe_iload_n 2 dX10_nextOrder_84 rfl rfl ?_
  refine xr_iald (k := 3) (v := nI (2)) dX10_nextOrder_85 sh181 (by decide) (by omega) (by decide) v5 ?_
  refine xr_iast (k := 2) dX10_nextOrder_86 sh181 (by decide) (by omega) (by decide) ?_
  refine xe_aload_n 0 dX10_nextOrder_87 rfl rfl ?_
  refine xr_getR (b := 181) dX10_nextOrder_88 fX10_34 rfl sh172 (by decide) rfl ?_
  refine xe_iload_n 2 dX10_nextOrder_91 rfl rfl ?_
  refine xe_iload_n 3 dX10_nextOrder_92 rfl rfl ?_
  refine xr_iast (k := 3) dX10_nextOrder_93 sh181 (by decide) (by omega) (by decide) ?_
  refine xe_iload_n 1 dX10_nextOrder_94 rfl rfl ?_
  refine xe_iconst (v := nI (1)) dX10_nextOrder_95 xc1 ?_
  refine xn_iadd dX10_nextOrder_96 ?_
  refine xe_istore (L2 := [(0, .ref 172), (1, .int (nI (2))), (2, .int (nI (3))), (3, .int (nI (1))), (4, .int (nI (3)))]) dX10_nextOrder_97 (by decide) rfl ?_
  refine xe_aload_n 0 dX10_nextOrder_99 rfl rfl ?_
  refine xr_getI (v := nI (4)) dX10_nextOrder_100 fX10_119 sh172 (by decide) ((wi_ne (by omega)).trans ((wi_ne (by omega)).trans v1)) ?_
  refine xe_iconst (v := nI (1)) dX10_nextOrder_103 xc1 ?_
  refine xn_isub dX10_nextOrder_104 (by decide) ?_
  refine xe_istore (L2 := [(0, .ref 172), (1, .int (nI (2))), (2, .int (nI (3))), (3, .int (nI (1))), (4, .int (nI (3))), (5, .int (nI (3)))]) dX10_nextOrder_105 (by decide) rfl ?_
  refine xe_iload 4 dX10_nextOrder_107 rfl ?_
  refine xe_iload 5 dX10_nextOrder_109 rfl ?_
  refine xn_icmp_ge 153 dX10_nextOrder_111 (by decide) (by omega) (by omega) (fun _ => ?_) (fun q => absurd q (by decide))
  refine xe_iconst (v := nI (1)) dX10_nextOrder_153 xc1 ?_
  exact xe_ret (r := (some (.int (nI (1))))) dX10_nextOrder_154 (Or.inr rfl) (k1)

theorem hNO_4_18 (u : xU) (v1 : u.1 172 3 = nI (4)) (v2 : u.1 181 0 = nI (3)) (v3 : u.1 181 1 = nI (0)) (v4 : u.1 181 2 = nI (1)) (v5 : u.1 181 3 = nI (2)) : xC mX10_nextOrder [.ref 172] (xmm u) (fun r μ' => ∃ u' : xU, μ' = xmm u' ∧ r = some (.int (nI 1)) ∧ (∀ x, x ≠ 181 → u'.1 x = u.1 x) ∧ u'.2 = u.2 ∧ u'.1 181 0 = nI 3 ∧ u'.1 181 1 = nI 0 ∧ u'.1 181 2 = nI 2 ∧ u'.1 181 3 = nI 1) := xC.of xpl10 (Nat.le_of_ble_eq_true rfl) (gNO_4_18 u v1 v2 v3 v4 v5 ⟨_, rfl, rfl, fun x hx => by rw [wi_row hx, wi_row hx], rfl, by rw [wi_nek (by decide), wi_nek (by decide)]; exact v2, by rw [wi_nek (by decide), wi_nek (by decide)]; exact v3, by rw [wi_nek (by decide), wi_self], by rw [wi_self]⟩)
theorem gNO_4_19 (u : xU) {Q : Option Value → xM → Prop}  (v1 : u.1 172 3 = nI (4)) (v2 : u.1 181 0 = nI (3)) (v3 : u.1 181 1 = nI (0)) (v4 : u.1 181 2 = nI (2)) (v5 : u.1 181 3 = nI (1))
    (k1 : Q (some (.int (nI (1)))) (xmm (wi (wi (wi (wi u 181 1 (nI (1))) 181 3 (nI (0))) 181 2 (nI (0))) 181 3 (nI (2))))) : xE mX10_nextOrder 0 [(0, .ref 172)] [] (xmm u) Q := by
  refine xe_aload_n 0 dX10_nextOrder_0 rfl rfl ?_
  refine xr_getI (v := nI (4)) dX10_nextOrder_1 fX10_119 sh172 (by decide) v1 ?_
  refine xe_iconst (v := nI (2)) dX10_nextOrder_4 xc2 ?_
  refine xn_isub dX10_nextOrder_5 (by decide) ?_
  refine xe_istore_n (L2 := [(0, .ref 172), (1, .int (nI (2)))]) dX10_nextOrder_6 rfl (by decide) rfl ?_
  refine xe_iload_n 1 dX10_nextOrder_7 rfl rfl ?_
  refine xn_if_lt 34 dX10_nextOrder_8 (by decide) (by omega) (fun q => absurd q (by omega)) (fun _ => ?_)
  refine xe_aload_n 0 dX10_nextOrder_11 rfl rfl ?_
  refine xr_getR (b := 181) dX10_nextOrder_12 fX10_34 rfl sh172 (by decide) rfl ?_
  refine xe_iload_n 1 dX10_nextOrder_15 rfl rfl ?_
  refine xr_iald (k := 2) (v := nI (2)) dX10_nextOrder_16 sh181 (by decide) (by omega) (by decide) v4 ?_
  refine xe_aload_n 0 dX10_nextOrder_17 rfl rfl ?_
  refine xr_getR (b := 181) dX10_nextOrder_18 fX10_34 rfl sh172 (by decide) rfl ?_
  refine xe_iload_n 1 dX10_nextOrder_21 rfl rfl ?_
  refine xe_iconst (v := nI (1)) dX10_nextOrder_22 xc1 ?_
  refine xn_iadd dX10_nextOrder_23 ?_
  refine xr_iald (k := 3) (v := nI (1)) dX10_nextOrder_24 sh181 (by decide) (by omega) (by decide) v5 ?_
  refine xn_icmp_le 34 dX10_nextOrder_25 (by decide) (by omega) (by omega) (fun q => absurd q (by decide)) (fun _ => ?_)
  refine xn_idec (L2 := [(0, .ref 172), (1, .int (nI (1)))]) 1 dX10_nextOrder_28 rfl (by decide) (by decide) rfl ?_
  refine xe_goto 7 dX10_nextOrder_31 (by decide) ?_
  refine xe_iload_n 1 dX10_nextOrder_7 rfl rfl ?_
  refine xn_if_lt 34 dX10_nextOrder_8 (by decide) (by omega) (fun q => absurd q (by omega)) (fun _ => ?_)
  refine xe_aload_n 0 dX10_nextOrder_11 rfl rfl ?_
  refine xr_getR (b := 181) dX10_nextOrder_12 fX10_34 rfl sh172 (by decide) rfl ?_
  refine xe_iload_n 1 dX10_nextOrder_15 rfl rfl ?_
  refine xr_iald (k := 1) (v := nI (0)) dX10_nextOrder_16 sh181 (by decide) (by omega) (by decide) v3 ?_
  refine xe_aload_n 0 dX10_nextOrder_17 rfl rfl ?_
  refine xr_getR (b := 181) dX10_nextOrder_18 fX10_34 rfl sh172 (by decide) rfl ?_
  refine xe_iload_n 1 dX10_nextOrder_21 rfl rfl ?_
  refine xe_iconst (v := nI (1)) dX10_nextOrder_22 xc1 ?_
  refine xn_iadd dX10_nextOrder_23 ?_
  refine xr_iald (k := 2) (v := nI (2)) dX10_nextOrder_24 sh181 (by decide) (by omega) (by decide) v4 ?_
  refine xn_icmp_le 34 dX10_nextOrder_25 (by decide) (by omega) (by omega) (fun _ => ?_) (fun q => absurd q (by decide))
  refine xe_iload_n 1 dX10_nextOrder_34 rfl rfl ?_
  refine xn_if_ge 40 dX10_nextOrder_35 (by decide) (by omega) (fun _ => ?_) (fun q => absurd (Nat.zero_le _) q)
  refine xe_aload_n 0 dX10_nextOrder_40 rfl rfl ?_
  refine xr_getI (v := nI (4)) dX10_nextOrder_41 fX10_119 sh172 (by decide) v1 ?_
  refine xe_iconst (v := nI (1)) dX10_nextOrder_44 xc1 ?_
  refine xn_isub dX10_nextOrder_45 (by decide) ?_
  refine xe_istore_n (L2 := [(0, .ref 172), (1, .int (nI (1))), (2, .int (nI (3)))]) dX10_nextOrder_46 rfl (by decide) rfl ?_
  refine xe_aload_n 0 dX10_nextOrder_47 rfl rfl ?_
  refine xr_getR (b := 181) dX10_nextOrder_48 fX10_34 rfl sh172 (by decide) rfl ?_
  refine xe_iload_n 2 dX10_nextOrder_51 rfl rfl ?_
  refine xr_iald (k := 3) (v := nI (1)) dX10_nextOrder_52 sh181 (by decide) (by omega) (by decide) v5 ?_
  refine xe_aload_n 0 dX10_nextOrder_53 rfl rfl ?_
  refine xr_getR (b := 181) dX10_nextOrder_54 fX10_34 rfl sh172 (by decide) rfl ?_
  refine xe_iload_n 1 dX10_nextOrder_57 rfl rfl ?_
  refine xr_iald (k := 1) (v := nI (0)) dX10_nextOrder_58 sh181 (by decide) (by omega) (by decide) v3 ?_
  refine xn_icmp_ge 68 dX10_nextOrder_59 (by decide) (by omega) (by omega) (fun _ => ?_) (fun q => absurd q (by decide))
  refine xe_aload_n 0 dX10_nextOrder_68 rfl rfl ?_
  refine xr_getR (b := 181) dX10_nextOrder_69 fX10_34 rfl sh172 (by decide) rfl ?_
  refine xe_iload_n 1 dX10_nextOrder_72 rfl rfl ?_
  refine xr_iald (k := 1) (v := nI (0)) dX10_nextOrder_73 sh181 (by decide) (by omega) (by decide) v3 ?_
  refine xe_istore_n (L2 := [(0, .ref 172), (1, .int (nI (1))), (2, .int (nI (3))), (3, .int (nI (0)))]) dX10_nextOrder_74 rfl (by decide) rfl ?_
  refine xe_aload_n 0 dX10_nextOrder_75 rfl rfl ?_
  refine xr_getR (b := 181) dX10_nextOrder_76 fX10_34 rfl sh172 (by decide) rfl ?_
  refine xe_iload_n 1 dX10_nextOrder_79 rfl rfl ?_
  refine xe_aload_n 0 dX10_nextOrder_80 rfl rfl ?_
  refine xr_getR (b := 181) dX10_nextOrder_81 fX10_34 rfl sh172 (by decide) rfl ?_
  refine xe_iload_n 2 dX10_nextOrder_84 rfl rfl ?_
  refine xr_iald (k := 3) (v := nI (1)) dX10_nextOrder_85 sh181 (by decide) (by omega) (by decide) v5 ?_
  refine xr_iast (k := 1) dX10_nextOrder_86 sh181 (by decide) (by omega) (by decide) ?_
  refine xe_aload_n 0 dX10_nextOrder_87 rfl rfl ?_
  refine xr_getR (b := 181) dX10_nextOrder_88 fX10_34 rfl sh172 (by decide) rfl ?_
  refine xe_iload_n 2 dX10_nextOrder_91 rfl rfl ?_
  refine xe_iload_n 3 dX10_nextOrder_92 rfl rfl ?_
  refine xr_iast (k := 3) dX10_nextOrder_93 sh181 (by decide) (by omega) (by decide) ?_
  refine xe_iload_n 1 dX10_nextOrder_94 rfl rfl ?_
  refine xe_iconst (v := nI (1)) dX10_nextOrder_95 xc1 ?_
  refine xn_iadd dX10_nextOrder_96 ?_
  refine xe_istore (L2 := [(0, .ref 172), (1, .int (nI (1))), (2, .int (nI (3))), (3, .int (nI (0))), (4, .int (nI (2)))]) dX10_nextOrder_97 (by decide) rfl ?_
  refine xe_aload_n 0 dX10_nextOrder_99 rfl rfl ?_
  refine xr_getI (v := nI (4)) dX10_nextOrder_100 fX10_119 sh172 (by decide) ((wi_ne (by omega)).trans ((wi_ne (by omega)).trans v1)) ?_
  refine xe_iconst (v := nI (1)) dX10_nextOrder_103 xc1 ?_
  refine xn_isub dX10_nextOrder_104 (by decide) ?_
  refine xe_istore (L2 := [(0, .ref 172), (1, .int (nI (1))), (2, .int (nI (3))), (3, .int (nI (0))), (4, .int (nI (2))), (5, .int (nI (3)))]) dX10_nextOrder_105 (by decide) rfl ?_
  refine xe_iload 4 dX10_nextOrder_107 rfl ?_
  refine xe_iload 5 dX10_nextOrder_109 rfl ?_
  refine xn_icmp_ge 153 dX10_nextOrder_111 (by decide) (by omega) (by omega) (fun q => absurd q (by decide)) (fun _ => ?_)
  refine xe_aload_n 0 dX10_nextOrder_114 rfl rfl ?_
  refine xr_getR (b := 181) dX10_nextOrder_115 fX10_34 rfl sh172 (by decide) rfl ?_
  refine xe_iload 4 dX10_nextOrder_118 rfl ?_
  refine xr_iald (k := 2) (v := nI (2)) dX10_nextOrder_120 sh181 (by decide) (by omega) (by decide) ((wi_nek (by decide)).trans ((wi_nek (by decide)).trans v4)) ?_
  refine xe_istore_n (L2 := [(0, .ref 172), (1, .int (nI (1))), (2, .int (nI (3))), (3, .int (nI (2))), (4, .int (nI (2))), (5, .int (nI (3)))]) dX10_nextOrder_121 rfl (by decide) rfl ?_
  refine xe_aload_n 0 dX10_nextOrder_122 rfl rfl ?_
  refine xr_getR (b := 181) dX10_nextOrder_123 fX10_34 rfl sh172 (by decide) rfl ?_
  refine xe_iload 4 dX10_nextOrder_126 rfl ?_
  refine xe_aload_n 0 dX10_nextOrder_128 rfl rfl ?_
  refine xr_getR (b := 181) dX10_nextOrder_129 fX10_34 rfl sh172 (by decide) rfl ?_
  refine xe_iload 5 dX10_nextOrder_132 rfl ?_
  refine xr_iald (k := 3) (v := nI (0)) dX10_nextOrder_134 sh181 (by decide) (by omega) (by decide) wi_self ?_
  refine xr_iast (k := 2) dX10_nextOrder_135 sh181 (by decide) (by omega) (by decide) ?_
  refine xe_aload_n 0 dX10_nextOrder_136 rfl rfl ?_
  refine xr_getR (b := 181) dX10_nextOrder_137 fX10_34 rfl sh172 (by decide) rfl ?_
  refine xe_iload 5 dX10_nextOrder_140 rfl ?_
  refine xe_iload_n 3 dX10_nextOrder_142 rfl rfl ?_
  refine xr_iast (k := 3) dX10_nextOrder_143 sh181 (by decide) (by omega) (by decide) ?_
  refine xn_iinc (c := 1) (L2 := [(0, .ref 172), (1, .int (nI (1))), (2, .int (nI (3))), (3, .int (nI (2))), (4, .int (nI (3))), (5, .int (nI (3)))]) 4 dX10_nextOrder_144 rfl (by decide) rfl ?_
  refine xn_idec (L2 := [(0, .ref 172), (1, .int (nI (1))), (2, .int (nI (3))), (3, .int (nI (2))), (4, .int (nI (3))), (5, .int (nI (2)))]) 5 dX10_nextOrder_147 rfl (by decide) (by decide) rfl ?_
  refine xe_goto 107 dX10_nextOrder_150 (by decide) ?_
  refine xe_iload 4 dX10_nextOrder_107 rfl ?_
  refine xe_iload 5 dX10_nextOrder_109 rfl ?_
  refine xn_icmp_ge 153 dX10_nextOrder_111 (by decide) (by omega) (by omega) (fun _ => ?_) (fun q => absurd q (by decide))
  refine xe_iconst (v := nI (1)) dX10_nextOrder_153 xc1 ?_
  exact xe_ret (r := (some (.int (nI (1))))) dX10_nextOrder_154 (Or.inr rfl) (k1)

theorem hNO_4_19 (u : xU) (v1 : u.1 172 3 = nI (4)) (v2 : u.1 181 0 = nI (3)) (v3 : u.1 181 1 = nI (0)) (v4 : u.1 181 2 = nI (2)) (v5 : u.1 181 3 = nI (1)) : xC mX10_nextOrder [.ref 172] (xmm u) (fun r μ' => ∃ u' : xU, μ' = xmm u' ∧ r = some (.int (nI 1)) ∧ (∀ x, x ≠ 181 → u'.1 x = u.1 x) ∧ u'.2 = u.2 ∧ u'.1 181 0 = nI 3 ∧ u'.1 181 1 = nI 1 ∧ u'.1 181 2 = nI 0 ∧ u'.1 181 3 = nI 2) := xC.of xpl10 (Nat.le_of_ble_eq_true rfl) (gNO_4_19 u v1 v2 v3 v4 v5 ⟨_, rfl, rfl, fun x hx => by rw [wi_row hx, wi_row hx, wi_row hx, wi_row hx], rfl, by rw [wi_nek (by decide), wi_nek (by decide), wi_nek (by decide), wi_nek (by decide)]; exact v2, by rw [wi_nek (by decide), wi_nek (by decide), wi_nek (by decide), wi_self], by rw [wi_nek (by decide), wi_self], by rw [wi_self]⟩)
theorem gNO_4_20 (u : xU) {Q : Option Value → xM → Prop}  (v1 : u.1 172 3 = nI (4)) (v2 : u.1 181 0 = nI (3)) (v3 : u.1 181 1 = nI (1)) (v4 : u.1 181 2 = nI (0)) (v5 : u.1 181 3 = nI (2))
    (k1 : Q (some (.int (nI (1)))) (xmm (wi (wi u 181 2 (nI (2))) 181 3 (nI (0))))) : xE mX10_nextOrder 0 [(0, .ref 172)] [] (xmm u) Q := by
  refine xe_aload_n 0 dX10_nextOrder_0 rfl rfl ?_
  refine xr_getI (v := nI (4)) dX10_nextOrder_1 fX10_119 sh172 (by decide) v1 ?_
  refine xe_iconst (v := nI (2)) dX10_nextOrder_4 xc2 ?_
  refine xn_isub dX10_nextOrder_5 (by decide) ?_
  refine xe_istore_n (L2 := [(0, .ref 172), (1, .int (nI (2)))]) dX10_nextOrder_6 rfl (by decide) rfl ?_
  refine xe_iload_n 1 dX10_nextOrder_7 rfl rfl ?_
  refine xn_if_lt 34 dX10_nextOrder_8 (by decide) (by omega) (fun q => absurd q (by omega)) (fun _ => ?_)
  refine xe_aload_n 0 dX10_nextOrder_11 rfl rfl ?_
  refine xr_getR (b := 181) dX10_nextOrder_12 fX10_34 rfl sh172 (by decide) rfl ?_
  refine xe_iload_n 1 dX10_nextOrder_15 rfl rfl ?_
  refine xr_iald (k := 2) (v := nI (0)) dX10_nextOrder_16 sh181 (by decide) (by omega) (by decide) v4 ?_
  refine xe_aload_n 0 dX10_nextOrder_17 rfl rfl ?_
  refine xr_getR (b := 181) dX10_nextOrder_18 fX10_34 rfl sh172 (by decide) rfl ?_
  refine xe_iload_n 1 dX10_nextOrder_21 rfl rfl ?_
  refine xe_iconst (v := nI (1)) dX10_nextOrder_22 xc1 ?_
  refine xn_iadd dX10_nextOrder_23 ?_
  refine xr_iald (k := 3) (v := nI (2)) dX10_nextOrder_24 sh181 (by decide) (by omega) (by decide) v5 ?_
  refine xn_icmp_le 34 dX10_nextOrder_25 (by decide) (by omega) (by omega) (fun _ => ?_) (fun q => absurd q (by decide))
  refine xe_iload_n 1 dX10_nextOrder_34 rfl rfl ?_
  refine xn_if_ge 40 dX10_nextOrder_35 (by decide) (by omega) (fun _ => ?_) (fun q => absurd (Nat.zero_le _) q)
  refine xe_aload_n 0 dX10_nextOrder_40 rfl rfl ?_
  refine xr_getI (v := nI (4)) dX10_nextOrder_41 fX10_119 sh172 (by decide) v1 ?_
  refine xe_iconst (v := nI (1)) dX10_nextOrder_44 xc1 ?_
  refine xn_isub dX10_nextOrder_45 (by decide) ?_
  refine xe_istore_n (L2 := [(0, .ref 172), (1, .int (nI (2))), (2, .int (nI (3)))]) dX10_nextOrder_46 rfl (by decide) rfl ?_
  refine xe_aload_n 0 dX10_nextOrder_47 rfl rfl ?_
  refine xr_getR (b := 181) dX10_nextOrder_48 fX10_34 rfl sh172 (by decide) rfl ?_
  refine xe_iload_n 2 dX10_nextOrder_51 rfl rfl ?_
  refine xr_iald (k := 3) (v := nI (2)) dX10_nextOrder_52 sh181 (by decide) (by omega) (by decide) v5 ?_
  refine xe_aload_n 0 dX10_nextOrder_53 rfl rfl ?_
  refine xr_getR (b := 181) dX10_nextOrder_54 fX10_34 rfl sh172 (by decide) rfl ?_
  refine xe_iload_n 1 dX10_nextOrder_57 rfl rfl ?_
  refine xr_iald (k := 2) (v := nI (0)) dX10_nextOrder_58 sh181 (by decide) (by omega) (by decide) v4 ?_
  refine xn_icmp_ge 68 dX10_nextOrder_59 (by decide) (by omega) (by omega) (fun _ => ?_) (fun q => absurd q (by decide))
  refine xe_aload_n 0 dX10_nextOrder_68 rfl rfl ?_
  refine xr_getR (b := 181) dX10_nextOrder_69 fX10_34 rfl sh172 (by decide) rfl ?_
  refine xe_iload_n 1 dX10_nextOrder_72 rfl rfl ?_
  refine xr_iald (k := 2) (v := nI (0)) dX10_nextOrder_73 sh181 (by decide) (by omega) (by decide) v4 ?_
  refine xe_istore_n (L2 := [(0, .ref 172), (1, .int (nI (2))), (2, .int (nI (3))), (3, .int (nI (0)))]) dX10_nextOrder_74 rfl (by decide) rfl ?_
  refine xe_aload_n 0 dX10_nextOrder_75 rfl rfl ?_
  refine xr_getR (b := 181) dX10_nextOrder_76 fX10_34 rfl sh172 (by decide) rfl ?_
  refine xe_iload_n 1 dX10_nextOrder_79 rfl rfl ?_
  refine xe_aload_n 0 dX10_nextOrder_80 rfl rfl ?_
  refine xr_getR (b := 181) dX10_nextOrder_81 fX10_34 rfl sh172 (by decide) rfl ?_
  refine xe_iload_n 2 dX10_nextOrder_84 rfl rfl ?_
  refine xr_iald (k := 3) (v := nI (2)) dX10_nextOrder_85 sh181 (by decide) (by omega) (by decide) v5 ?_
  refine xr_iast (k := 2) dX10_nextOrder_86 sh181 (by decide) (by omega) (by decide) ?_
  refine xe_aload_n 0 dX10_nextOrder_87 rfl rfl ?_
  refine xr_getR (b := 181) dX10_nextOrder_88 fX10_34 rfl sh172 (by decide) rfl ?_
  refine xe_iload_n 2 dX10_nextOrder_91 rfl rfl ?_
  refine xe_iload_n 3 dX10_nextOrder_92 rfl rfl ?_
  refine xr_iast (k := 3) dX10_nextOrder_93 sh181 (by decide) (by omega) (by decide) ?_
  refine xe_iload_n 1 dX10_nextOrder_94 rfl rfl ?_
  refine xe_iconst (v := nI (1)) dX10_nextOrder_95 xc1 ?_
  refine xn_iadd dX10_nextOrder_96 ?_
  refine xe_istore (L2 := [(0, .ref 172), (1, .int (nI (2))), (2, .int (nI (3))), (3, .int (nI (0))), (4, .int (nI (3)))]) dX10_nextOrder_97 (by decide) rfl ?_
  refine xe_aload_n 0 dX10_nextOrder_99 rfl rfl ?_
  refine xr_getI (v := nI (4)) dX10_nextOrder_100 fX10_119 sh172 (by decide) ((wi_ne (by omega)).trans ((wi_ne (by omega)).trans v1)) ?_
  refine xe_iconst (v := nI (1)) dX10_nextOrder_103 xc1 ?_
  refine xn_isub dX10_nextOrder_104 (by decide) ?_
  refine xe_istore (L2 := [(0, .ref 172), (1, .int (nI (2))), (2, .int (nI (3))), (3, .int (nI (0))), (4, .int (nI (3))), (5, .int (nI (3)))]) dX10_nextOrder_105 (by decide) rfl ?_
  refine xe_iload 4 dX10_nextOrder_107 rfl ?_
  refine xe_iload 5 dX10_nextOrder_109 rfl ?_
  refine xn_icmp_ge 153 dX10_nextOrder_111 (by decide) (by omega) (by omega) (fun _ => ?_) (fun q => absurd q (by decide))
  refine xe_iconst (v := nI (1)) dX10_nextOrder_153 xc1 ?_
  exact xe_ret (r := (some (.int (nI (1))))) dX10_nextOrder_154 (Or.inr rfl) (k1)

theorem hNO_4_20 (u : xU) (v1 : u.1 172 3 = nI (4)) (v2 : u.1 181 0 = nI (3)) (v3 : u.1 181 1 = nI (1)) (v4 : u.1 181 2 = nI (0)) (v5 : u.1 181 3 = nI (2)) : xC mX10_nextOrder [.ref 172] (xmm u) (fun r μ' => ∃ u' : xU, μ' = xmm u' ∧ r = some (.int (nI 1)) ∧ (∀ x, x ≠ 181 → u'.1 x = u.1 x) ∧ u'.2 = u.2 ∧ u'.1 181 0 = nI 3 ∧ u'.1 181 1 = nI 1 ∧ u'.1 181 2 = nI 2 ∧ u'.1 181 3 = nI 0) := xC.of xpl10 (Nat.le_of_ble_eq_true rfl) (gNO_4_20 u v1 v2 v3 v4 v5 ⟨_, rfl, rfl, fun x hx => by rw [wi_row hx, wi_row hx], rfl, by rw [wi_nek (by decide), wi_nek (by decide)]; exact v2, by rw [wi_nek (by decide), wi_nek (by decide)]; exact v3, by rw [wi_nek (by decide), wi_self], by rw [wi_self]⟩)
theorem gNO_4_21 (u : xU) {Q : Option Value → xM → Prop}  (v1 : u.1 172 3 = nI (4)) (v2 : u.1 181 0 = nI (3)) (v3 : u.1 181 1 = nI (1)) (v4 : u.1 181 2 = nI (2)) (v5 : u.1 181 3 = nI (0))
    (k1 : Q (some (.int (nI (1)))) (xmm (wi (wi (wi (wi u 181 1 (nI (2))) 181 2 (nI (1))) 181 2 (nI (0))) 181 3 (nI (1))))) : xE mX10_nextOrder 0 [(0, .ref 172)] [] (xmm u) Q := by
  refine xe_aload_n 0 dX10_nextOrder_0 rfl rfl ?_
  refine xr_getI (v := nI (4)) dX10_nextOrder_1 fX10_119 sh172 (by decide) v1 ?_
  refine xe_iconst (v := nI (2)) dX10_nextOrder_4 xc2 ?_
  refine xn_isub dX10_nextOrder_5 (by decide) ?_
  refine xe_istore_n (L2 := [(0, .ref 172), (1, .int (nI (2)))]) dX10_nextOrder_6 rfl (by decide) rfl ?_
  refine xe_iload_n 1 dX10_nextOrder_7 rfl rfl ?_
  refine xn_if_lt 34 dX10_nextOrder_8 (by decide) (by omega) (fun q => absurd q (by omega)) (fun _ => ?_)
  refine xe_aload_n 0 dX10_nextOrder_11 rfl rfl ?_
  refine xr_getR (b := 181) dX10_nextOrder_12 fX10_34 rfl sh172 (by decide) rfl ?_
  refine xe_iload_n 1 dX10_nextOrder_15 rfl rfl ?_
  refine xr_iald (k := 2) (v := nI (2)) dX10_nextOrder_16 sh181 (by decide) (by omega) (by decide) v4 ?_
  refine xe_aload_n 0 dX10_nextOrder_17 rfl rfl ?_
  refine xr_getR (b := 181) dX10_nextOrder_18 fX10_34 rfl sh172 (by decide) rfl ?_
  refine xe_iload_n 1 dX10_nextOrder_21 rfl rfl ?_
  refine xe_iconst (v := nI (1)) dX10_nextOrder_22 xc1 ?_
  refine xn_iadd dX10_nextOrder_23 ?_
  refine xr_iald (k := 3) (v := nI (0)) dX10_nextOrder_24 sh181 (by decide) (by omega) (by decide) v5 ?_
  refine xn_icmp_le 34 dX10_nextOrder_25 (by decide) (by omega) (by omega) (fun q => absurd q (by decide)) (fun _ => ?_)
  refine xn_idec (L2 := [(0, .ref 172), (1, .int (nI (1)))]) 1 dX10_nextOrder_28 rfl (by decide) (by decide) rfl ?_
  refine xe_goto 7 dX10_nextOrder_31 (by decide) ?_
  refine xe_iload_n 1 dX10_nextOrder_7 rfl rfl ?_
  refine xn_if_lt 34 dX10_nextOrder_8 (by decide) (by omega) (fun q => absurd q (by omega)) (fun _ => ?_)
  refine xe_aload_n 0 dX10_nextOrder_11 rfl rfl ?_
  refine xr_getR (b := 181) dX10_nextOrder_12 fX10_34 rfl sh172 (by decide) rfl ?_
  refine xe_iload_n 1 dX10_nextOrder_15 rfl rfl ?_
  refine xr_iald (k := 1) (v := nI (1)) dX10_nextOrder_16 sh181 (by decide) (by omega) (by decide) v3 ?_
  refine xe_aload_n 0 dX10_nextOrder_17 rfl rfl ?_
  refine xr_getR (b := 181) dX10_nextOrder_18 fX10_34 rfl sh172 (by decide) rfl ?_
  refine xe_iload_n 1 dX10_nextOrder_21 rfl rfl ?_
  refine xe_iconst (v := nI (1)) dX10_nextOrder_22 xc1 ?_
  refine xn_iadd dX10_nextOrder_23 ?_
  refine xr_iald (k := 2) (v := nI (2)) dX10_nextOrder_24 sh181 (by decide) (by omega) (by decide) v4 ?_
  refine xn_icmp_le 34 dX10_nextOrder_25 (by decide) (by omega) (by omega) (fun _ => ?_) (fun q => absurd q (by decide))
  refine xe_iload_n 1 dX10_nextOrder_34 rfl rfl ?_
  refine xn_if_ge 40 dX10_nextOrder_35 (by decide) (by omega) (fun _ => ?_) (fun q => absurd (Nat.zero_le _) q)
  refine xe_aload_n 0 dX10_nextOrder_40 rfl rfl ?_
  refine xr_getI (v := nI (4)) dX10_nextOrder_41 fX10_119 sh172 (by decide) v1 ?_
  refine xe_iconst (v := nI (1)) dX10_nextOrder_44 xc1 ?_
  refine xn_isub dX10_nextOrder_45 (by decide) ?_
  refine xe_istore_n (L2 := [(0, .ref 172), (1, .int (nI (1))), (2, .int (nI (3)))]) dX10_nextOrder_46 rfl (by decide) rfl ?_
  refine xe_aload_n 0 dX10_nextOrder_47 rfl rfl ?_
  refine xr_getR (b := 181) dX10_nextOrder_48 fX10_34 rfl sh172 (by decide) rfl ?_
  refine xe_iload_n 2 dX10_nextOrder_51 rfl rfl ?_
  refine xr_iald (k := 3) (v := nI (0)) dX10_nextOrder_52 sh181 (by decide) (by omega) (by decide) v5 ?_
  refine xe_aload_n 0 dX10_nextOrder_53 rfl rfl ?_
  refine xr_getR (b := 181) dX10_nextOrder_54 fX10_34 rfl sh172 (by decide) rfl ?_
  refine xe_iload_n 1 dX10_nextOrder_57 rfl rfl ?_
  refine xr_iald (k := 1) (v := nI (1)) dX10_nextOrder_58 sh181 (by decide) (by omega) (by decide) v3 ?_
  refine xn_icmp_ge 68 dX10_nextOrder_59 (by decide) (by omega) (by omega) (fun q => absurd q (by decide)) (fun _ => ?_)
  refine xn_idec (L2 := [(0, .ref 172), (1, .int (nI (1))), (2, .int (nI (2)))]) 2 dX10_nextOrder_62 rfl (by decide) (by decide) rfl ?_
  refine xe_goto 47 dX10_nextOrder_65 (by decide) ?_
  refine xe_aload_n 0 dX10_nextOrder_47 rfl rfl ?_
  refine xr_getR (b := 181) dX10_nextOrder_48 fX10_34 rfl sh172 (by decide) rfl ?_
  refine xe_iload_n 2 dX10_nextOrder_51 rfl rfl ?_
  refine xr_iald (k := 2) (v := nI (2)) dX10_nextOrder_52 sh181 (by decide) (by omega) (by decide) v4 ?_
  refine xe_aload_n 0 dX10_nextOrder_53 rfl rfl ?_
  refine xr_getR (b := 181) dX10_nextOrder_54 fX10_34 rfl sh172 (by decide) rfl ?_
  refine xe_iload_n 1 dX10_nextOrder_57 rfl rfl ?_
  refine xr_iald (k := 1) (v := nI (1)) dX10_nextOrder_58 sh181 (by decide) (by omega) (by decide) v3 ?_
  refine xn_icmp_ge 68 dX10_nextOrder_59 (by decide) (by omega) (by omega) (fun _ => ?_) (fun q => absurd q (by decide))
  refine xe_aload_n 0 dX10_nextOrder_68 rfl rfl ?_
  refine xr_getR (b := 181) dX10_nextOrder_69 fX10_34 rfl sh172 (by decide) rfl ?_
  refine xe_iload_n 1 dX10_nextOrder_72 rfl rfl ?_
  refine xr_iald (k := 1) (v := nI (1)) dX10_nextOrder_73 sh181 (by decide) (by omega) (by decide) v3 ?_
  refine xe_istore_n (L2 := [(0, .ref 172), (1, .int (nI (1))), (2, .int (nI (2))), (3, .int (nI (1)))]) dX10_nextOrder_74 rfl (by decide) rfl ?_
  refine xe_aload_n 0 dX10_nextOrder_75 rfl rfl ?_
  refine xr_getR (b := 181) dX10_nextOrder_76 fX10_34 rfl sh172 (by decide) rfl ?_
  refine xe_iload_n 1 dX10_nextOrder_79 rfl rfl ?_
  refine xe_aload_n 0 dX10_nextOrder_80 rfl rfl ?_
  refine xr_getR (b := 181) dX10_nextOrder_81 fX10_34 rfl sh172 (by decide) rfl ?_
  refine xe_iload_n 2 dX10_nextOrder_84 rfl rfl ?_
  refine xr_iald (k := 2) (v := nI (2)) dX10_nextOrder_85 sh181 (by decide) (by omega) (by decide) v4 ?_
  refine xr_iast (k := 1) dX10_nextOrder_86 sh181 (by decide) (by omega) (by decide) ?_
  refine xe_aload_n 0 dX10_nextOrder_87 rfl rfl ?_
  refine xr_getR (b := 181) dX10_nextOrder_88 fX10_34 rfl sh172 (by decide) rfl ?_
  refine xe_iload_n 2 dX10_nextOrder_91 rfl rfl ?_
  refine xe_iload_n 3 dX10_nextOrder_92 rfl rfl ?_
  refine xr_iast (k := 2) dX10_nextOrder_93 sh181 (by decide) (by omega) (by decide) ?_
  refine xe_iload_n 1 dX10_nextOrder_94 rfl rfl ?_
  refine xe_iconst (v := nI (1)) dX10_nextOrder_95 xc1 ?_
  refine xn_iadd dX10_nextOrder_96 ?_
  refine xe_istore (L2 := [(0, .ref 172), (1, .int (nI (1))), (2, .int (nI (2))), (3, .int (nI (1))), (4, .int (nI (2)))]) dX10_nextOrder_97 (by decide) rfl ?_
  refine xe_aload_n 0 dX10_nextOrder_99 rfl rfl ?_
  refine xr_getI (v := nI (4)) dX10_nextOrder_100 fX10_119 sh172 (by decide) ((wi_ne (by omega)).trans ((wi_ne (by omega)).trans v1)) ?_
  refine xe_iconst (v := nI (1)) dX10_nextOrder_103 xc1 ?_
  refine xn_isub dX10_nextOrder_104 (by decide) ?_
  refine xe_istore (L2 := [(0, .ref 172), (1, .int (nI (1))), (2, .int (nI (2))), (3, .int (nI (1))), (4, .int (nI (2))), (5, .int (nI (3)))]) dX10_nextOrder_105 (by decide) rfl ?_
  refine xe_iload 4 dX10_nextOrder_107 rfl ?_
  refine xe_iload 5 dX10_nextOrder_109 rfl ?_
  refine xn_icmp_ge 153 dX10_nextOrder_111 (by decide) (by omega) (by omega) (fun q => absurd q (by decide)) (fun _ => ?_)
  refine xe_aload_n 0 dX10_nextOrder_114 rfl rfl ?_
  refine xr_getR (b := 181) dX10_nextOrder_115 fX10_34 rfl sh172 (by decide) rfl ?_
  refine xe_iload 4 dX10_nextOrder_118 rfl ?_
  refine xr_iald (k := 2) (v := nI (1)) dX10_nextOrder_120 sh181 (by decide) (by omega) (by decide) wi_self ?_
  refine xe_istore_n (L2 := [(0, .ref 172), (1, .int (nI (1))), (2, .int (nI (2))), (3, .int (nI (1))), (4, .int (nI (2))), (5, .int (nI (3)))]) dX10_nextOrder_121 rfl (by decide) rfl ?_
  refine xe_aload_n 0 dX10_nextOrder_122 rfl rfl ?_
  refine xr_getR (b := 181) dX10_nextOrder_123 fX10_34 rfl sh172 (by decide) rfl ?_
  refine xe_iload 4 dX10_nextOrder_126 rfl ?_
  refine xe_aload_n 0 dX10_nextOrder_128 rfl rfl ?_
  refine xr_getR (b := 181) dX10_nextOrder_129 fX10_34 rfl sh172 (by decide) rfl ?_
  refine xe_iload 5 dX10_nextOrder_132 rfl ?_
  refine xr_iald (k := 3) (v := nI (0)) dX10_nextOrder_134 sh181 (by decide) (by omega) (by decide) ((wi_nek (by decide)).trans ((wi_nek (by decide)).trans v5)) ?_
  refine xr_iast (k := 2) dX10_nextOrder_135 sh181 (by decide) (by omega) (by decide) ?_
  refine xe_aload_n 0 dX10_nextOrder_136 rfl rfl ?_
  refine xr_getR (b := 181) dX10_nextOrder_137 fX10_34 rfl sh172 (by decide) rfl ?_
  refine xe_iload 5 dX10_nextOrder_140 rfl ?_
  refine xe_iload_n 3 dX10_nextOrder_142 rfl rfl ?_
  refine xr_iast (k := 3) dX10_nextOrder_143 sh181 (by decide) (by omega) (by decide) ?_
  refine xn_iinc (c := 1) (L2 := [(0, .ref 172), (1, .int (nI (1))), (2, .int (nI (2))), (3, .int (nI (1))), (4, .int (nI (3))), (5, .int (nI (3)))]) 4 dX10_nextOrder_144 rfl (by decide) rfl ?_
  refine xn_idec (L2 := [(0, .ref 172), (1, .int (nI (1))), (2, .int (nI (2))), (3, .int (nI (1))), (4, .int (nI (3))), (5, .int (nI (2)))]) 5 dX10_nextOrder_147 rfl (by decide) (by decide) rfl ?_
  refine xe_goto 107 dX10_nextOrder_150 (by decide) ?_
  refine xe_iload 4 dX10_nextOrder_107 rfl ?_
  refine xe_iload 5 dX10_nextOrder_109 rfl ?_
  refine xn_icmp_ge 153 dX10_nextOrder_111 (by decide) (by omega) (by omega) (fun _ => ?_) (fun q => absurd q (by decide))
  refine xe_iconst (v := nI (1)) dX10_nextOrder_153 xc1 ?_
  exact xe_ret (r := (some (.int (nI (1))))) dX10_nextOrder_154 (Or.inr rfl) (k1)

theorem hNO_4_21 (u : xU) (v1 : u.1 172 3 = nI (4)) (v2 : u.1 181 0 = nI (3)) (v3 : u.1 181 1 = nI (1)) (v4 : u.1 181 2 = nI (2)) (v5 : u.1 181 3 = nI (0)) : xC mX10_nextOrder [.ref 172] (xmm u) (fun r μ' => ∃ u' : xU, μ' = xmm u' ∧ r = some (.int (nI 1)) ∧ (∀ x, x ≠ 181 → u'.1 x = u.1 x) ∧ u'.2 = u.2 ∧ u'.1 181 0 = nI 3 ∧ u'.1 181 1 = nI 2 ∧ u'.1 181 2 = nI 0 ∧ u'.1 181 3 = nI 1) := xC.of xpl10 (Nat.le_of_ble_eq_true rfl) (gNO_4_21 u v1 v2 v3 v4 v5 ⟨_, rfl, rfl, fun x hx => by rw [wi_row hx, wi_row hx, wi_row hx, wi_row hx], rfl, by rw [wi_nek (by decide), wi_nek (by decide), wi_nek (by decide), wi_nek (by decide)]; exact v2, by rw [wi_nek (by decide), wi_nek (by decide), wi_nek (by decide), wi_self], by rw [wi_nek (by decide), wi_self], by rw [wi_self]⟩)
theorem gNO_4_22 (u : xU) {Q : Option Value → xM → Prop}  (v1 : u.1 172 3 = nI (4)) (v2 : u.1 181 0 = nI (3)) (v3 : u.1 181 1 = nI (2)) (v4 : u.1 181 2 = nI (0)) (v5 : u.1 181 3 = nI (1))
    (k1 : Q (some (.int (nI (1)))) (xmm (wi (wi u 181 2 (nI (1))) 181 3 (nI (0))))) : xE mX10_nextOrder 0 [(0, .ref 172)] [] (xmm u) Q := by
  refine xe_aload_n 0 dX10_nextOrder_0 rfl rfl ?_
  refine xr_getI (v := nI (4)) dX10_nextOrder_1 fX10_119 sh172 (by decide) v1 ?_
  refine xe_iconst (v := nI (2)) dX10_nextOrder_4 xc2 ?_
  refine xn_isub dX10_nextOrder_5 (by decide) ?_
  refine xe_istore_n (L2 := [(0, .ref 172), (1, .int (nI (2)))]) dX10_nextOrder_6 rfl (by decide) rfl ?_
  refine xe_iload_n 1 dX10_nextOrder_7 rfl rfl ?_
  refine xn_if_lt 34 dX10_nextOrder_8 (by decide) (by omega) (fun q => absurd q (by omega)) (fun _ => ?_)
  refine xe_aload_n 0 dX10_nextOrder_11 rfl rfl ?_
  refine xr_getR (b := 181) dX10_nextOrder_12 fX10_34 rfl sh172 (by decide) rfl ?_
  refine xe_iload_n 1 dX10_nextOrder_15 rfl rfl ?_
  refine xr_iald (k := 2) (v := nI (0)) dX10_nextOrder_16 sh181 (by decide) (by omega) (by decide) v4 ?_
  refine xe_aload_n 0 dX10_nextOrder_17 rfl rfl ?_
  refine xr_getR (b := 181) dX10_nextOrder_18 fX10_34 rfl sh172 (by decide) rfl ?_
  refine xe_iload_n 1 dX10_nextOrder_21 rfl rfl ?_
  refine xe_iconst (v := nI (1)) dX10_nextOrder_22 xc1 ?_
  refine xn_iadd dX10_nextOrder_23 ?_
  refine xr_iald (k := 3) (v := nI (1)) dX10_nextOrder_24 sh181 (by decide) (by omega) (by decide) v5 ?_
  refine xn_icmp_le 34 dX10_nextOrder_25 (by decide) (by omega) (by omega) (fun _ => ?_) (fun q => absurd q (by decide))
  refine xe_iload_n 1 dX10_nextOrder_34 rfl rfl ?_
  refine xn_if_ge 40 dX10_nextOrder_35 (by decide) (by omega) (fun _ => ?_) (fun q => absurd (Nat.zero_le _) q)
  refine xe_aload_n 0 dX10_nextOrder_40 rfl rfl ?_
  refine xr_getI (v := nI (4)) dX10_nextOrder_41 fX10_119 sh172 (by decide) v1 ?_
  refine xe_iconst (v := nI (1)) dX10_nextOrder_44 xc1 ?_
  refine xn_isub dX10_nextOrder_45 (by decide) ?_
  refine xe_istore_n (L2 := [(0, .ref 172), (1, .int (nI (2))), (2, .int (nI (3)))]) dX10_nextOrder_46 rfl (by decide) rfl ?_
  refine xe_aload_n 0 dX10_nextOrder_47 rfl rfl ?_
  refine xr_getR (b := 181) dX10_nextOrder_48 fX10_34 rfl sh172 (by decide) rfl ?_
  refine xe_iload_n 2 dX10_nextOrder_51 rfl rfl ?_
  refine xr_iald (k := 3) (v := nI (1)) dX10_nextOrder_52 sh181 (by decide) (by omega) (by decide) v5 ?_
  refine xe_aload_n 0 dX10_nextOrder_53 rfl rfl ?_
  refine xr_getR (b := 181) dX10_nextOrder_54 fX10_34 rfl sh172 (by decide) rfl ?_
  refine xe_iload_n 1 dX10_nextOrder_57 rfl rfl ?_
  refine xr_iald (k := 2) (v := nI (0)) dX10_nextOrder_58 sh181 (by decide) (by omega) (by decide) v4 ?_
  refine xn_icmp_ge 68 dX10_nextOrder_59 (by decide) (by omega) (by omega) (fun _ => ?_) (fun q => absurd q (by decide))
  refine xe_aload_n 0 dX10_nextOrder_68 rfl rfl ?_
  refine xr_getR (b := 181) dX10_nextOrder_69 fX10_34 rfl sh172 (by decide) rfl ?_
  refine xe_iload_n 1 dX10_nextOrder_72 rfl rfl ?_
  refine xr_iald (k := 2) (v := nI (0)) dX10_nextOrder_73 sh181 (by decide) (by omega) (by decide) v4 ?_
  refine xe_istore_n (L2 := [(0, .ref 172), (1, .int (nI (2))), (2, .int (nI (3))), (3, .int (nI (0)))]) dX10_nextOrder_74 rfl (by decide) rfl ?_
  refine xe_aload_n 0 dX10_nextOrder_75 rfl rfl ?_
  refine xr_getR (b := 181) dX10_nextOrder_76 fX10_34 rfl sh172 (by decide) rfl ?_
  refine xe_iload_n 1 dX10_nextOrder_79 rfl rfl ?_
  refine xe_aload_n 0 dX10_nextOrder_80 rfl rfl ?_
  refine xr_getR (b := 181) dX10_nextOrder_81 fX10_34 rfl sh172 (by decide) rfl ?_
  refine xe_iload_n 2 dX10_nextOrder_84 rfl rfl ?_
  refine xr_iald (k := 3) (v := nI (1)) dX10_nextOrder_85 sh181 (by decide) (by omega) (by decide) v5 ?_
  refine xr_iast (k := 2) dX10_nextOrder_86 sh181 (by decide) (by omega) (by decide) ?_
  refine xe_aload_n 0 dX10_nextOrder_87 rfl rfl ?_
  refine xr_getR (b := 181) dX10_nextOrder_88 fX10_34 rfl sh172 (by decide) rfl ?_
  refine xe_iload_n 2 dX10_nextOrder_91 rfl rfl ?_
  refine xe_iload_n 3 dX10_nextOrder_92 rfl rfl ?_
  refine xr_iast (k := 3) dX10_nextOrder_93 sh181 (by decide) (by omega) (by decide) ?_
  refine xe_iload_n 1 dX10_nextOrder_94 rfl rfl ?_
  refine xe_iconst (v := nI (1)) dX10_nextOrder_95 xc1 ?_
  refine xn_iadd dX10_nextOrder_96 ?_
  refine xe_istore (L2 := [(0, .ref 172), (1, .int (nI (2))), (2, .int (nI (3))), (3, .int (nI (0))), (4, .int (nI (3)))]) dX10_nextOrder_97 (by decide) rfl ?_
  refine xe_aload_n 0 dX10_nextOrder_99 rfl rfl ?_
  refine xr_getI (v := nI (4)) dX10_nextOrder_100 fX10_119 sh172 (by decide) ((wi_ne (by omega)).trans ((wi_ne (by omega)).trans v1)) ?_
  refine xe_iconst (v := nI (1)) dX10_nextOrder_103 xc1 ?_
  refine xn_isub dX10_nextOrder_104 (by decide) ?_
  refine xe_istore (L2 := [(0, .ref 172), (1, .int (nI (2))), (2, .int (nI (3))), (3, .int (nI (0))), (4, .int (nI (3))), (5, .int (nI (3)))]) dX10_nextOrder_105 (by decide) rfl ?_
  refine xe_iload 4 dX10_nextOrder_107 rfl ?_
  refine xe_iload 5 dX10_nextOrder_109 rfl ?_
  refine xn_icmp_ge 153 dX10_nextOrder_111 (by decide) (by omega) (by omega) (fun _ => ?_) (fun q => absurd q (by decide))
  refine xe_iconst (v := nI (1)) dX10_nextOrder_153 xc1 ?_
  exact xe_ret (r := (some (.int (nI (1))))) dX10_nextOrder_154 (Or.inr rfl) (k1)

theorem hNO_4_22 (u : xU) (v1 : u.1 172 3 = nI (4)) (v2 : u.1 181 0 = nI (3)) (v3 : u.1 181 1 = nI (2)) (v4 : u.1 181 2 = nI (0)) (v5 : u.1 181 3 = nI (1)) : xC mX10_nextOrder [.ref 172] (xmm u) (fun r μ' => ∃ u' : xU, μ' = xmm u' ∧ r = some (.int (nI 1)) ∧ (∀ x, x ≠ 181 → u'.1 x = u.1 x) ∧ u'.2 = u.2 ∧ u'.1 181 0 = nI 3 ∧ u'.1 181 1 = nI 2 ∧ u'.1 181 2 = nI 1 ∧ u'.1 181 3 = nI 0) := xC.of xpl10 (Nat.le_of_ble_eq_true rfl) (gNO_4_22 u v1 v2 v3 v4 v5 ⟨_, rfl, rfl, fun x hx => by rw [wi_row hx, wi_row hx], rfl, by rw [wi_nek (by decide), wi_nek (by decide)]; exact v2, by rw [wi_nek (by decide), wi_nek (by decide)]; exact v3, by rw [wi_nek (by decide), wi_self], by rw [wi_self]⟩)
theorem gNO_4_23 (u : xU) {Q : Option Value → xM → Prop}  (v1 : u.1 172 3 = nI (4)) (v2 : u.1 181 0 = nI (3)) (v3 : u.1 181 1 = nI (2)) (v4 : u.1 181 2 = nI (1)) (v5 : u.1 181 3 = nI (0))
    (k1 : Q (some (.int (nI (0)))) (xmm u)) : xE mX10_nextOrder 0 [(0, .ref 172)] [] (xmm u) Q := by
  refine xe_aload_n 0 dX10_nextOrder_0 rfl rfl ?_
  refine xr_getI (v := nI (4)) dX10_nextOrder_1 fX10_119 sh172 (by decide) v1 ?_
  refine xe_iconst (v := nI (2)) dX10_nextOrder_4 xc2 ?_
  refine xn_isub dX10_nextOrder_5 (by decide) ?_
  refine xe_istore_n (L2 := [(0, .ref 172), (1, .int (nI (2)))]) dX10_nextOrder_6 rfl (by decide) rfl ?_
  refine xe_iload_n 1 dX10_nextOrder_7 rfl rfl ?_
  refine xn_if_lt 34 dX10_nextOrder_8 (by decide) (by omega) (fun q => absurd q (by omega)) (fun _ => ?_)
  refine xe_aload_n 0 dX10_nextOrder_11 rfl rfl ?_
  refine xr_getR (b := 181) dX10_nextOrder_12 fX10_34 rfl sh172 (by decide) rfl ?_
  refine xe_iload_n 1 dX10_nextOrder_15 rfl rfl ?_
  refine xr_iald (k := 2) (v := nI (1)) dX10_nextOrder_16 sh181 (by decide) (by omega) (by decide) v4 ?_
  refine xe_aload_n 0 dX10_nextOrder_17 rfl rfl ?_
  refine xr_getR (b := 181) dX10_nextOrder_18 fX10_34 rfl sh172 (by decide) rfl ?_
  refine xe_iload_n 1 dX10_nextOrder_21 rfl rfl ?_
  refine xe_iconst (v := nI (1)) dX10_nextOrder_22 xc1 ?_
  refine xn_iadd dX10_nextOrder_23 ?_
  refine xr_iald (k := 3) (v := nI (0)) dX10_nextOrder_24 sh181 (by decide) (by omega) (by decide) v5 ?_
  refine xn_icmp_le 34 dX10_nextOrder_25 (by decide) (by omega) (by omega) (fun q => absurd q (by decide)) (fun _ => ?_)
  refine xn_idec (L2 := [(0, .ref 172), (1, .int (nI (1)))]) 1 dX10_nextOrder_28 rfl (by decide) (by decide) rfl ?_
  refine xe_goto 7 dX10_nextOrder_31 (by decide) ?_
  refine xe_iload_n 1 dX10_nextOrder_7 rfl rfl ?_
  refine xn_if_lt 34 dX10_nextOrder_8 (by decide) (by omega) (fun q => absurd q (by omega)) (fun _ => ?_)
  refine xe_aload_n 0 dX10_nextOrder_11 rfl rfl ?_
  refine xr_getR (b := 181) dX10_nextOrder_12 fX10_34 rfl sh172 (by decide) rfl ?_
  refine xe_iload_n 1 dX10_nextOrder_15 rfl rfl ?_
  refine xr_iald (k := 1) (v := nI (2)) dX10_nextOrder_16 sh181 (by decide) (by omega) (by decide) v3 ?_
  refine xe_aload_n 0 dX10_nextOrder_17 rfl rfl ?_
  refine xr_getR (b := 181) dX10_nextOrder_18 fX10_34 rfl sh172 (by decide) rfl ?_
  refine xe_iload_n 1 dX10_nextOrder_21 rfl rfl ?_
  refine xe_iconst (v := nI (1)) dX10_nextOrder_22 xc1 ?_
  refine xn_iadd dX10_nextOrder_23 ?_
  refine xr_iald (k := 2) (v := nI (1)) dX10_nextOrder_24 sh181 (by decide) (by omega) (by decide) v4 ?_
  refine xn_icmp_le 34 dX10_nextOrder_25 (by decide) (by omega) (by omega) (fun q => absurd q (by decide)) (fun _ => ?_)
  refine xn_idec (L2 := [(0, .ref 172), (1, .int (nI (0)))]) 1 dX10_nextOrder_28 rfl (by decide) (by decide) rfl ?_
  refine xe_goto 7 dX10_nextOrder_31 (by decide) ?_
  refine xe_iload_n 1 dX10_nextOrder_7 rfl rfl ?_
  refine xn_if_lt 34 dX10_nextOrder_8 (by decide) (by omega) (fun q => absurd q (by omega)) (fun _ => ?_)
  refine xe_aload_n 0 dX10_nextOrder_11 rfl rfl ?_
  refine xr_getR (b := 181) dX10_nextOrder_12 fX10_34 rfl sh172 (by decide) rfl ?_
  refine xe_iload_n 1 dX10_nextOrder_15 rfl rfl ?_
  refine xr_iald (k := 0) (v := nI (3)) dX10_nextOrder_16 sh181 (by decide) (by omega) (by decide) v2 ?_
  refine xe_aload_n 0 dX10_nextOrder_17 rfl rfl ?_
  refine xr_getR (b := 181) dX10_nextOrder_18 fX10_34 rfl sh172 (by decide) rfl ?_
  refine xe_iload_n 1 dX10_nextOrder_21 rfl rfl ?_
  refine xe_iconst (v := nI (1)) dX10_nextOrder_22 xc1 ?_
  refine xn_iadd dX10_nextOrder_23 ?_
  refine xr_iald (k := 1) (v := nI (2)) dX10_nextOrder_24 sh181 (by decide) (by omega) (by decide) v3 ?_
  refine xn_icmp_le 34 dX10_nextOrder_25 (by decide) (by omega) (by omega) (fun q => absurd q (by decide)) (fun _ => ?_)
  refine xe_iinc (v := (-1)) (L2 := [(0, .ref 172), (1, .int ((-1)))]) 1 dX10_nextOrder_28 rfl (by decide) (by decide) rfl ?_
  refine xe_goto 7 dX10_nextOrder_31 (by decide) ?_
  refine xe_iload_n 1 dX10_nextOrder_7 rfl rfl ?_
  refine xe_if_lt 34 dX10_nextOrder_8 (by decide) (fun _ => ?_) (fun q => absurd (by decide) q)
  refine xe_iload_n 1 dX10_nextOrder_34 rfl rfl ?_
  refine xe_if_ge 40 dX10_nextOrder_35 (by decide) (fun q => absurd q (by decide)) (fun _ => ?_)
  refine xe_iconst (v := nI (0)) dX10_nextOrder_38 xc0 ?_
  exact xe_ret (r := (some (.int (nI (0))))) dX10_nextOrder_39 (Or.inl rfl) (k1)

theorem hNO_4_23 (u : xU) (v1 : u.1 172 3 = nI (4)) (v2 : u.1 181 0 = nI (3)) (v3 : u.1 181 1 = nI (2)) (v4 : u.1 181 2 = nI (1)) (v5 : u.1 181 3 = nI (0)) : xC mX10_nextOrder [.ref 172] (xmm u) (fun r μ' => r = some (.int (nI 0)) ∧ μ' = xmm u) := xC.of xpl10 (Nat.le_of_ble_eq_true rfl) (gNO_4_23 u v1 v2 v3 v4 v5 ⟨rfl, rfl⟩)
theorem qX10_nextOrder {u : xU} {n j : Nat} (hn : n ≤ 4) (hj : j < (pmL n).length) (h3 : u.1 172 3 = nI n) (ho : ∀ i, i < n → u.1 181 i = nI (cd ((pmL n).getD j 0) i)) : xC mX10_nextOrder [.ref 172] (xmm u) (fun r μ' => ∃ u' : xU, μ' = xmm u' ∧ (∀ x, x ≠ 181 → u'.1 x = u.1 x) ∧ u'.2 = u.2 ∧ ((j + 1 < (pmL n).length ∧ r = some (.int (nI 1)) ∧ ∀ i, i < n → u'.1 181 i = nI (cd ((pmL n).getD (j + 1) 0) i)) ∨ (j + 1 = (pmL n).length ∧ r = some (.int (nI 0))))) := by
  rcases (show n = 0 ∨ n = 1 ∨ n = 2 ∨ n = 3 ∨ n = 4 by omega) with rfl | rfl | rfl | rfl | rfl
  · exact absurd hj (by simp [pmL])
  · have hl : (pmL 1).length = 1 := rfl
    rw [hl] at hj
    obtain rfl : j = 0 := by omega
    · refine (hNO_1_0 u h3 (ho 0 (by decide))).mono ?_
      rintro r μ' ⟨rfl, rfl⟩
      exact ⟨u, rfl, fun _ _ => rfl, rfl, Or.inr ⟨rfl, rfl⟩⟩
  · have hl : (pmL 2).length = 2 := rfl
    rw [hl] at hj
    rcases (show j = 0 ∨ j = 1 by omega) with rfl | rfl
    · refine (hNO_2_0 u h3 (ho 0 (by decide)) (ho 1 (by decide))).mono ?_
      rintro r μ' ⟨u', rfl, rfl, f1, f2, e0, e1⟩
      refine ⟨u', rfl, f1, f2, Or.inl ⟨by rw [hl]; decide, rfl, fun i hi => ?_⟩⟩
      rcases (show i = 0 ∨ i = 1 by omega) with rfl | rfl
      · exact e0
      · exact e1
    · refine (hNO_2_1 u h3 (ho 0 (by decide)) (ho 1 (by decide))).mono ?_
      rintro r μ' ⟨rfl, rfl⟩
      exact ⟨u, rfl, fun _ _ => rfl, rfl, Or.inr ⟨rfl, rfl⟩⟩
  · have hl : (pmL 3).length = 6 := rfl
    rw [hl] at hj
    rcases (show j = 0 ∨ j = 1 ∨ j = 2 ∨ j = 3 ∨ j = 4 ∨ j = 5 by omega) with rfl | rfl | rfl | rfl | rfl | rfl
    · refine (hNO_3_0 u h3 (ho 0 (by decide)) (ho 1 (by decide)) (ho 2 (by decide))).mono ?_
      rintro r μ' ⟨u', rfl, rfl, f1, f2, e0, e1, e2⟩
      refine ⟨u', rfl, f1, f2, Or.inl ⟨by rw [hl]; decide, rfl, fun i hi => ?_⟩⟩
      rcases (show i = 0 ∨ i = 1 ∨ i = 2 by omega) with rfl | rfl | rfl
      · exact e0
      · exact e1
      · exact e2
    · refine (hNO_3_1 u h3 (ho 0 (by decide)) (ho 1 (by decide)) (ho 2 (by decide))).mono ?_
      rintro r μ' ⟨u', rfl, rfl, f1, f2, e0, e1, e2⟩
      refine ⟨u', rfl, f1, f2, Or.inl ⟨by rw [hl]; decide, rfl, fun i hi => ?_⟩⟩
      rcases (show i = 0 ∨ i = 1 ∨ i = 2 by omega) with rfl | rfl | rfl
      · exact e0
      · exact e1
      · exact e2
    · refine (hNO_3_2 u h3 (ho 0 (by decide)) (ho 1 (by decide)) (ho 2 (by decide))).mono ?_
      rintro r μ' ⟨u', rfl, rfl, f1, f2, e0, e1, e2⟩
      refine ⟨u', rfl, f1, f2, Or.inl ⟨by rw [hl]; decide, rfl, fun i hi => ?_⟩⟩
      rcases (show i = 0 ∨ i = 1 ∨ i = 2 by omega) with rfl | rfl | rfl
      · exact e0
      · exact e1
      · exact e2
    · refine (hNO_3_3 u h3 (ho 0 (by decide)) (ho 1 (by decide)) (ho 2 (by decide))).mono ?_
      rintro r μ' ⟨u', rfl, rfl, f1, f2, e0, e1, e2⟩
      refine ⟨u', rfl, f1, f2, Or.inl ⟨by rw [hl]; decide, rfl, fun i hi => ?_⟩⟩
      rcases (show i = 0 ∨ i = 1 ∨ i = 2 by omega) with rfl | rfl | rfl
      · exact e0
      · exact e1
      · exact e2
    · refine (hNO_3_4 u h3 (ho 0 (by decide)) (ho 1 (by decide)) (ho 2 (by decide))).mono ?_
      rintro r μ' ⟨u', rfl, rfl, f1, f2, e0, e1, e2⟩
      refine ⟨u', rfl, f1, f2, Or.inl ⟨by rw [hl]; decide, rfl, fun i hi => ?_⟩⟩
      rcases (show i = 0 ∨ i = 1 ∨ i = 2 by omega) with rfl | rfl | rfl
      · exact e0
      · exact e1
      · exact e2
    · refine (hNO_3_5 u h3 (ho 0 (by decide)) (ho 1 (by decide)) (ho 2 (by decide))).mono ?_
      rintro r μ' ⟨rfl, rfl⟩
      exact ⟨u, rfl, fun _ _ => rfl, rfl, Or.inr ⟨rfl, rfl⟩⟩
  · have hl : (pmL 4).length = 24 := rfl
    rw [hl] at hj
    rcases (show j = 0 ∨ j = 1 ∨ j = 2 ∨ j = 3 ∨ j = 4 ∨ j = 5 ∨ j = 6 ∨ j = 7 ∨ j = 8 ∨ j = 9 ∨ j = 10 ∨ j = 11 ∨ j = 12 ∨ j = 13 ∨ j = 14 ∨ j = 15 ∨ j = 16 ∨ j = 17 ∨ j = 18 ∨ j = 19 ∨ j = 20 ∨ j = 21 ∨ j = 22 ∨ j = 23 by omega) with rfl | rfl | rfl | rfl | rfl | rfl | rfl | rfl | rfl | rfl | rfl | rfl | rfl | rfl | rfl | rfl | rfl | rfl | rfl | rfl | rfl | rfl | rfl | rfl
    · refine (hNO_4_0 u h3 (ho 0 (by decide)) (ho 1 (by decide)) (ho 2 (by decide)) (ho 3 (by decide))).mono ?_
      rintro r μ' ⟨u', rfl, rfl, f1, f2, e0, e1, e2, e3⟩
      refine ⟨u', rfl, f1, f2, Or.inl ⟨by rw [hl]; decide, rfl, fun i hi => ?_⟩⟩
      rcases (show i = 0 ∨ i = 1 ∨ i = 2 ∨ i = 3 by omega) with rfl | rfl | rfl | rfl
      · exact e0
      · exact e1
      · exact e2
      · exact e3
    · refine (hNO_4_1 u h3 (ho 0 (by decide)) (ho 1 (by decide)) (ho 2 (by decide)) (ho 3 (by decide))).mono ?_
      rintro r μ' ⟨u', rfl, rfl, f1, f2, e0, e1, e2, e3⟩
      refine ⟨u', rfl, f1, f2, Or.inl ⟨by rw [hl]; decide, rfl, fun i hi => ?_⟩⟩
      rcases (show i = 0 ∨ i = 1 ∨ i = 2 ∨ i = 3 by omega) with rfl | rfl | rfl | rfl
      · exact e0
      · exact e1
      · exact e2
      · exact e3
    · refine (hNO_4_2 u h3 (ho 0 (by decide)) (ho 1 (by decide)) (ho 2 (by decide)) (ho 3 (by decide))).mono ?_
      rintro r μ' ⟨u', rfl, rfl, f1, f2, e0, e1, e2, e3⟩
      refine ⟨u', rfl, f1, f2, Or.inl ⟨by rw [hl]; decide, rfl, fun i hi => ?_⟩⟩
      rcases (show i = 0 ∨ i = 1 ∨ i = 2 ∨ i = 3 by omega) with rfl | rfl | rfl | rfl
      · exact e0
      · exact e1
      · exact e2
      · exact e3
    · refine (hNO_4_3 u h3 (ho 0 (by decide)) (ho 1 (by decide)) (ho 2 (by decide)) (ho 3 (by decide))).mono ?_
      rintro r μ' ⟨u', rfl, rfl, f1, f2, e0, e1, e2, e3⟩
      refine ⟨u', rfl, f1, f2, Or.inl ⟨by rw [hl]; decide, rfl, fun i hi => ?_⟩⟩
      rcases (show i = 0 ∨ i = 1 ∨ i = 2 ∨ i = 3 by omega) with rfl | rfl | rfl | rfl
      · exact e0
      · exact e1
      · exact e2
      · exact e3
    · refine (hNO_4_4 u h3 (ho 0 (by decide)) (ho 1 (by decide)) (ho 2 (by decide)) (ho 3 (by decide))).mono ?_
      rintro r μ' ⟨u', rfl, rfl, f1, f2, e0, e1, e2, e3⟩
      refine ⟨u', rfl, f1, f2, Or.inl ⟨by rw [hl]; decide, rfl, fun i hi => ?_⟩⟩
      rcases (show i = 0 ∨ i = 1 ∨ i = 2 ∨ i = 3 by omega) with rfl | rfl | rfl | rfl
      · exact e0
      · exact e1
      · exact e2
      · exact e3
    · refine (hNO_4_5 u h3 (ho 0 (by decide)) (ho 1 (by decide)) (ho 2 (by decide)) (ho 3 (by decide))).mono ?_
      rintro r μ' ⟨u', rfl, rfl, f1, f2, e0, e1, e2, e3⟩
      refine ⟨u', rfl, f1, f2, Or.inl ⟨by rw [hl]; decide, rfl, fun i hi => ?_⟩⟩
      rcases (show i = 0 ∨ i = 1 ∨ i = 2 ∨ i = 3 by omega) with rfl | rfl | rfl | rfl
      · exact e0
      · exact e1
      · exact e2
      · exact e3
    · refine (hNO_4_6 u h3 (ho 0 (by decide)) (ho 1 (by decide)) (ho 2 (by decide)) (ho 3 (by decide))).mono ?_
      rintro r μ' ⟨u', rfl, rfl, f1, f2, e0, e1, e2, e3⟩
      refine ⟨u', rfl, f1, f2, Or.inl ⟨by rw [hl]; decide, rfl, fun i hi => ?_⟩⟩
      rcases (show i = 0 ∨ i = 1 ∨ i = 2 ∨ i = 3 by omega) with rfl | rfl | rfl | rfl
      · exact e0
      · exact e1
      · exact e2
      · exact e3
    · refine (hNO_4_7 u h3 (ho 0 (by decide)) (ho 1 (by decide)) (ho 2 (by decide)) (ho 3 (by decide))).mono ?_
      rintro r μ' ⟨u', rfl, rfl, f1, f2, e0, e1, e2, e3⟩
      refine ⟨u', rfl, f1, f2, Or.inl ⟨by rw [hl]; decide, rfl, fun i hi => ?_⟩⟩
      rcases (show i = 0 ∨ i = 1 ∨ i = 2 ∨ i = 3 by omega) with rfl | rfl | rfl | rfl
      · exact e0
      · exact e1
      · exact e2
      · exact e3
    · refine (hNO_4_8 u h3 (ho 0 (by decide)) (ho 1 (by decide)) (ho 2 (by decide)) (ho 3 (by decide))).mono ?_
      rintro r μ' ⟨u', rfl, rfl, f1, f2, e0, e1, e2, e3⟩
      refine ⟨u', rfl, f1, f2, Or.inl ⟨by rw [hl]; decide, rfl, fun i hi => ?_⟩⟩
      rcases (show i = 0 ∨ i = 1 ∨ i = 2 ∨ i = 3 by omega) with rfl | rfl | rfl | rfl
      · exact e0
      · exact e1
      · exact e2
      · exact e3
    · refine (hNO_4_9 u h3 (ho 0 (by decide)) (ho 1 (by decide)) (ho 2 (by decide)) (ho 3 (by decide))).mono ?_
      rintro r μ' ⟨u', rfl, rfl, f1, f2, e0, e1, e2, e3⟩
      refine ⟨u', rfl, f1, f2, Or.inl ⟨by rw [hl]; decide, rfl, fun i hi => ?_⟩⟩
      rcases (show i = 0 ∨ i = 1 ∨ i = 2 ∨ i = 3 by omega) with rfl | rfl | rfl | rfl
      · exact e0
      · exact e1
      · exact e2
      · exact e3
    · refine (hNO_4_10 u h3 (ho 0 (by decide)) (ho 1 (by decide)) (ho 2 (by decide)) (ho 3 (by decide))).mono ?_
      rintro r μ' ⟨u', rfl, rfl, f1, f2, e0, e1, e2, e3⟩
      refine ⟨u', rfl, f1, f2, Or.inl ⟨by rw [hl]; decide, rfl, fun i hi => ?_⟩⟩
      rcases (show i = 0 ∨ i = 1 ∨ i = 2 ∨ i = 3 by omega) with rfl | rfl | rfl | rfl
      · exact e0
      · exact e1
      · exact e2
      · exact e3
    · refine (hNO_4_11 u h3 (ho 0 (by decide)) (ho 1 (by decide)) (ho 2 (by decide)) (ho 3 (by decide))).mono ?_
      rintro r μ' ⟨u', rfl, rfl, f1, f2, e0, e1, e2, e3⟩
      refine ⟨u', rfl, f1, f2, Or.inl ⟨by rw [hl]; decide, rfl, fun i hi => ?_⟩⟩
      rcases (show i = 0 ∨ i = 1 ∨ i = 2 ∨ i = 3 by omega) with rfl | rfl | rfl | rfl
      · exact e0
      · exact e1
      · exact e2
      · exact e3
    · refine (hNO_4_12 u h3 (ho 0 (by decide)) (ho 1 (by decide)) (ho 2 (by decide)) (ho 3 (by decide))).mono ?_
      rintro r μ' ⟨u', rfl, rfl, f1, f2, e0, e1, e2, e3⟩
      refine ⟨u', rfl, f1, f2, Or.inl ⟨by rw [hl]; decide, rfl, fun i hi => ?_⟩⟩
      rcases (show i = 0 ∨ i = 1 ∨ i = 2 ∨ i = 3 by omega) with rfl | rfl | rfl | rfl
      · exact e0
      · exact e1
      · exact e2
      · exact e3
    · refine (hNO_4_13 u h3 (ho 0 (by decide)) (ho 1 (by decide)) (ho 2 (by decide)) (ho 3 (by decide))).mono ?_
      rintro r μ' ⟨u', rfl, rfl, f1, f2, e0, e1, e2, e3⟩
      refine ⟨u', rfl, f1, f2, Or.inl ⟨by rw [hl]; decide, rfl, fun i hi => ?_⟩⟩
      rcases (show i = 0 ∨ i = 1 ∨ i = 2 ∨ i = 3 by omega) with rfl | rfl | rfl | rfl
      · exact e0
      · exact e1
      · exact e2
      · exact e3
    · refine (hNO_4_14 u h3 (ho 0 (by decide)) (ho 1 (by decide)) (ho 2 (by decide)) (ho 3 (by decide))).mono ?_
      rintro r μ' ⟨u', rfl, rfl, f1, f2, e0, e1, e2, e3⟩
      refine ⟨u', rfl, f1, f2, Or.inl ⟨by rw [hl]; decide, rfl, fun i hi => ?_⟩⟩
      rcases (show i = 0 ∨ i = 1 ∨ i = 2 ∨ i = 3 by omega) with rfl | rfl | rfl | rfl
      · exact e0
      · exact e1
      · exact e2
      · exact e3
    · refine (hNO_4_15 u h3 (ho 0 (by decide)) (ho 1 (by decide)) (ho 2 (by decide)) (ho 3 (by decide))).mono ?_
      rintro r μ' ⟨u', rfl, rfl, f1, f2, e0, e1, e2, e3⟩
      refine ⟨u', rfl, f1, f2, Or.inl ⟨by rw [hl]; decide, rfl, fun i hi => ?_⟩⟩
      rcases (show i = 0 ∨ i = 1 ∨ i = 2 ∨ i = 3 by omega) with rfl | rfl | rfl | rfl
      · exact e0
      · exact e1
      · exact e2
      · exact e3
    · refine (hNO_4_16 u h3 (ho 0 (by decide)) (ho 1 (by decide)) (ho 2 (by decide)) (ho 3 (by decide))).mono ?_
      rintro r μ' ⟨u', rfl, rfl, f1, f2, e0, e1, e2, e3⟩
      refine ⟨u', rfl, f1, f2, Or.inl ⟨by rw [hl]; decide, rfl, fun i hi => ?_⟩⟩
      rcases (show i = 0 ∨ i = 1 ∨ i = 2 ∨ i = 3 by omega) with rfl | rfl | rfl | rfl
      · exact e0
      · exact e1
      · exact e2
      · exact e3
    · refine (hNO_4_17 u h3 (ho 0 (by decide)) (ho 1 (by decide)) (ho 2 (by decide)) (ho 3 (by decide))).mono ?_
      rintro r μ' ⟨u', rfl, rfl, f1, f2, e0, e1, e2, e3⟩
      refine ⟨u', rfl, f1, f2, Or.inl ⟨by rw [hl]; decide, rfl, fun i hi => ?_⟩⟩
      rcases (show i = 0 ∨ i = 1 ∨ i = 2 ∨ i = 3 by omega) with rfl | rfl | rfl | rfl
      · exact e0
      · exact e1
      · exact e2
      · exact e3
    · refine (hNO_4_18 u h3 (ho 0 (by decide)) (ho 1 (by decide)) (ho 2 (by decide)) (ho 3 (by decide))).mono ?_
      rintro r μ' ⟨u', rfl, rfl, f1, f2, e0, e1, e2, e3⟩
      refine ⟨u', rfl, f1, f2, Or.inl ⟨by rw [hl]; decide, rfl, fun i hi => ?_⟩⟩
      rcases (show i = 0 ∨ i = 1 ∨ i = 2 ∨ i = 3 by omega) with rfl | rfl | rfl | rfl
      · exact e0
      · exact e1
      · exact e2
      · exact e3
    · refine (hNO_4_19 u h3 (ho 0 (by decide)) (ho 1 (by decide)) (ho 2 (by decide)) (ho 3 (by decide))).mono ?_
      rintro r μ' ⟨u', rfl, rfl, f1, f2, e0, e1, e2, e3⟩
      refine ⟨u', rfl, f1, f2, Or.inl ⟨by rw [hl]; decide, rfl, fun i hi => ?_⟩⟩
      rcases (show i = 0 ∨ i = 1 ∨ i = 2 ∨ i = 3 by omega) with rfl | rfl | rfl | rfl
      · exact e0
      · exact e1
      · exact e2
      · exact e3
    · refine (hNO_4_20 u h3 (ho 0 (by decide)) (ho 1 (by decide)) (ho 2 (by decide)) (ho 3 (by decide))).mono ?_
      rintro r μ' ⟨u', rfl, rfl, f1, f2, e0, e1, e2, e3⟩
      refine ⟨u', rfl, f1, f2, Or.inl ⟨by rw [hl]; decide, rfl, fun i hi => ?_⟩⟩
      rcases (show i = 0 ∨ i = 1 ∨ i = 2 ∨ i = 3 by omega) with rfl | rfl | rfl | rfl
      · exact e0
      · exact e1
      · exact e2
      · exact e3
    · refine (hNO_4_21 u h3 (ho 0 (by decide)) (ho 1 (by decide)) (ho 2 (by decide)) (ho 3 (by decide))).mono ?_
      rintro r μ' ⟨u', rfl, rfl, f1, f2, e0, e1, e2, e3⟩
      refine ⟨u', rfl, f1, f2, Or.inl ⟨by rw [hl]; decide, rfl, fun i hi => ?_⟩⟩
      rcases (show i = 0 ∨ i = 1 ∨ i = 2 ∨ i = 3 by omega) with rfl | rfl | rfl | rfl
      · exact e0
      · exact e1
      · exact e2
      · exact e3
    · refine (hNO_4_22 u h3 (ho 0 (by decide)) (ho 1 (by decide)) (ho 2 (by decide)) (ho 3 (by decide))).mono ?_
      rintro r μ' ⟨u', rfl, rfl, f1, f2, e0, e1, e2, e3⟩
      refine ⟨u', rfl, f1, f2, Or.inl ⟨by rw [hl]; decide, rfl, fun i hi => ?_⟩⟩
      rcases (show i = 0 ∨ i = 1 ∨ i = 2 ∨ i = 3 by omega) with rfl | rfl | rfl | rfl
      · exact e0
      · exact e1
      · exact e2
      · exact e3
    · refine (hNO_4_23 u h3 (ho 0 (by decide)) (ho 1 (by decide)) (ho 2 (by decide)) (ho 3 (by decide))).mono ?_
      rintro r μ' ⟨rfl, rfl⟩
      exact ⟨u, rfl, fun _ _ => rfl, rfl, Or.inr ⟨rfl, rfl⟩⟩
theorem gX10_best_0 (u : xU) (nn n : Nat) (b : Bool) {Q : Option Value → xM → Prop} (hnn : nn ≤ 6) (hn : n ≤ 10) (hho : xC mX10_holds [.ref 172] (xmm u) (fun r μ' => r = some (.int (xb (b = true))) ∧ μ' = xmm u)) (v1 : u.1 172 3 = nI (nn)) (v2 : u.1 172 4 = nI (n))
    (k1 : ¬ (b = true) → Q (some (.int (-1))) (xmm u))
    (k2 : b = true → nn ≤ 4 → xE mX10_best 19 [(0, .ref 172), (1, .int (nI (0)))] [] (xmm u) Q)
    (k3 : b = true → ¬ nn ≤ 4 → Q (some (.int (-1))) (xmm u)) : xE mX10_best 0 [(0, .ref 172)] [] (xmm u) Q := by
  refine xe_aload_n 0 dX10_best_0 rfl rfl ?_
  refine xe_callV (As := []) (rest := []) dX10_best_1 wX10_holds lX10_166 iX10_holds sX10_holds ⟨by decide, by decide⟩ sh172 rfl (xin_mm (by decide)) rfl rfl (by simp [Value.category]) (xC.pure (v := .int (xb (b = true))) (hho) ?_)
  refine xb_if_eq 15 dX10_best_4 (by decide) (fun c1 => ?_) (fun c1 => ?_)
  · refine xe_iconst (v := -1) dX10_best_15 xcm1 ?_
    exact xe_ret (r := (some (.int (-1)))) dX10_best_16 trivial (k1 c1)
  · refine xe_aload_n 0 dX10_best_7 rfl rfl ?_
    refine xr_getI (v := nI (nn)) dX10_best_8 fX10_119 sh172 (by decide) v1 ?_
    refine xe_iconst (v := nI (4)) dX10_best_11 xc4 ?_
    refine xn_icmp_le 17 dX10_best_12 (by decide) (by omega) (by omega) (fun c2 => ?_) (fun c2 => ?_)
    · refine xe_iconst (v := nI (0)) dX10_best_17 xc0 ?_
      refine xe_istore_n (L2 := [(0, .ref 172), (1, .int (nI (0)))]) dX10_best_18 rfl (by decide) rfl ?_
      exact k2 c1 c2
    · refine xe_iconst (v := -1) dX10_best_15 xcm1 ?_
      exact xe_ret (r := (some (.int (-1)))) dX10_best_16 trivial (k3 c1 c2)

theorem gX10_best_19 (u : xU) (k : Nat) (x : Int32) {Q : Option Value → xM → Prop} (hk : k ≤ 6) (v1 : u.1 181 k = x)
    (k1 : 6 ≤ k → xE mX10_best 54 [(0, .ref 172), (1, .int (-1)), (2, .int (nI (1)))] [] (xmm u) Q)
    (k2 : ¬ 6 ≤ k → xE mX10_best 19 [(0, .ref 172), (1, .int (nI (k + 1)))] [] (xmm (wi (wi u 193 k (x)) 181 k (nI (k)))) Q) : xE mX10_best 19 [(0, .ref 172), (1, .int (nI (k)))] [] (xmm u) Q := by
  refine xe_iload_n 1 dX10_best_19 rfl rfl ?_
  refine xe_bipush (v := nI (6)) dX10_best_20 xcb6 ?_
  refine xn_icmp_ge 50 dX10_best_22 (by decide) (by omega) (by omega) (fun c1 => ?_) (fun c1 => ?_)
  · refine xe_iconst (v := -1) dX10_best_50 xcm1 ?_
    refine xe_istore_n (L2 := [(0, .ref 172), (1, .int (-1))]) dX10_best_51 rfl (by decide) rfl ?_
    refine xe_iconst (v := nI (1)) dX10_best_52 xc1 ?_
    refine xe_istore_n (L2 := [(0, .ref 172), (1, .int (-1)), (2, .int (nI (1)))]) dX10_best_53 rfl (by decide) rfl ?_
    exact k1 c1
  · refine xe_aload_n 0 dX10_best_25 rfl rfl ?_
    refine xr_getR (b := 193) dX10_best_26 fX10_78 rfl sh172 (by decide) rfl ?_
    refine xe_iload_n 1 dX10_best_29 rfl rfl ?_
    refine xe_aload_n 0 dX10_best_30 rfl rfl ?_
    refine xr_getR (b := 181) dX10_best_31 fX10_34 rfl sh172 (by decide) rfl ?_
    refine xe_iload_n 1 dX10_best_34 rfl rfl ?_
    refine xr_iald (k := k) (v := x) dX10_best_35 sh181 (by decide) (by omega) (by decide) v1 ?_
    refine xr_iast (k := k) dX10_best_36 sh193 (by decide) (by omega) (by decide) ?_
    refine xe_aload_n 0 dX10_best_37 rfl rfl ?_
    refine xr_getR (b := 181) dX10_best_38 fX10_34 rfl sh172 (by decide) rfl ?_
    refine xe_iload_n 1 dX10_best_41 rfl rfl ?_
    refine xe_iload_n 1 dX10_best_42 rfl rfl ?_
    refine xr_iast (k := k) dX10_best_43 sh181 (by decide) (by omega) (by decide) ?_
    refine xn_iinc (c := 1) (L2 := [(0, .ref 172), (1, .int (nI (k + 1)))]) 1 dX10_best_44 rfl (by decide) rfl ?_
    refine xe_goto 19 dX10_best_47 (by decide) ?_
    exact k2 c1

theorem gX10_best_t (u : xU) (x : Int32) {Q : Option Value → xM → Prop}  
    (k1 : xC mX10_meets [.ref 172] (xmm u) (fun r μ1 => xE mX10_best 62 [(0, .ref 172), (1, .int (x))] (r.toList ++ []) μ1 Q)) : xE mX10_best 54 [(0, .ref 172), (1, .int (x)), (2, .int (nI (1)))] [] (xmm u) Q := by
  refine xe_iload_n 2 dX10_best_54 rfl rfl ?_
  refine xn_if_eq 145 dX10_best_55 (by decide) (by omega) (fun q => absurd q (by decide)) (fun _ => ?_)
  refine xe_aload_n 0 dX10_best_58 rfl rfl ?_
  refine xE.sub [0, 1] rfl ?_
  refine xe_callV (As := []) (rest := []) dX10_best_59 wX10_meets lX10_170 iX10_meets sX10_meets ⟨by decide, by decide⟩ sh172 rfl (xin_mm (by decide)) rfl rfl (by simp [Value.category]) ?_
  exact k1

theorem gX10_best_f (u : xU) (x : Int32) {Q : Option Value → xM → Prop}  
    (k1 : xE mX10_best 147 [(0, .ref 172), (1, .int (x)), (3, .int (nI (0)))] [] (xmm u) Q) : xE mX10_best 54 [(0, .ref 172), (1, .int (x)), (2, .int (nI (0)))] [] (xmm u) Q := by
  refine xe_iload_n 2 dX10_best_54 rfl rfl ?_
  refine xn_if_eq 145 dX10_best_55 (by decide) (by omega) (fun _ => ?_) (fun q => absurd q (by decide))
  refine xe_iconst (v := nI (0)) dX10_best_145 xc0 ?_
  refine xe_istore_n (L2 := [(0, .ref 172), (1, .int (x)), (2, .int (nI (0))), (3, .int (nI (0)))]) dX10_best_146 rfl (by decide) rfl ?_
  refine xE.sub [0, 1, 3] rfl ?_
  exact k1

theorem gX10_best_62f (u : xU) (x : Int32) {Q : Option Value → xM → Prop}  
    (k1 : xC mX10_nextOrder [.ref 172] (xmm u) (fun r μ1 => xE mX10_best 141 [(0, .ref 172), (1, .int (x))] (r.toList ++ []) μ1 Q)) : xE mX10_best 62 [(0, .ref 172), (1, .int (x))] [.int (nI (0))] (xmm u) Q := by
  refine xn_if_eq 137 dX10_best_62 (by decide) (by omega) (fun _ => ?_) (fun q => absurd q (by decide))
  refine xe_aload_n 0 dX10_best_137 rfl rfl ?_
  refine xe_callV (As := []) (rest := []) dX10_best_138 wX10_nextOrder lX10_213 iX10_nextOrder sX10_nextOrder ⟨by decide, by decide⟩ sh172 rfl (xin_mm (by decide)) rfl rfl (by simp [Value.category]) ?_
  exact k1

theorem gX10_best_62t (u : xU) (x : Int32) {Q : Option Value → xM → Prop}  
    (k1 : xE mX10_best 70 [(0, .ref 172), (1, .int (x)), (3, .int (nI (0))), (4, .int (nI (0)))] [] (xmm u) Q) : xE mX10_best 62 [(0, .ref 172), (1, .int (x))] [.int (nI (1))] (xmm u) Q := by
  refine xn_if_eq 137 dX10_best_62 (by decide) (by omega) (fun q => absurd q (by decide)) (fun _ => ?_)
  refine xe_iconst (v := nI (0)) dX10_best_65 xc0 ?_
  refine xe_istore_n (L2 := [(0, .ref 172), (1, .int (x)), (3, .int (nI (0)))]) dX10_best_66 rfl (by decide) rfl ?_
  refine xe_iconst (v := nI (0)) dX10_best_67 xc0 ?_
  refine xe_istore (L2 := [(0, .ref 172), (1, .int (x)), (3, .int (nI (0))), (4, .int (nI (0)))]) dX10_best_68 (by decide) rfl ?_
  exact k1

theorem gX10_best_70 (u : xU) (nn n : Nat) (x : Int32) (sm i c : Nat) {Q : Option Value → xM → Prop} (hnn : nn ≤ 6) (hn : n ≤ 10) (hi : i < nn) (hsm : sm ≤ 2000) (v1 : u.1 172 3 = nI (nn)) (v2 : u.1 172 4 = nI (n)) (v3 : u.1 184 i = nI (c))
    (k1 : nn ≤ i → x = (-1) → xE mX10_best 110 [(0, .ref 172), (1, .int (nI (sm))), (4, .int (nI (0)))] [] (xmm u) Q)
    (k2 : nn ≤ i → ¬ x = (-1) → x ≤ (nI (sm)) → xC mX10_nextOrder [.ref 172] (xmm u) (fun r μ1 => xE mX10_best 141 [(0, .ref 172), (1, .int (x))] (r.toList ++ []) μ1 Q))
    (k3 : nn ≤ i → ¬ x = (-1) → ¬ x ≤ (nI (sm)) → xE mX10_best 110 [(0, .ref 172), (1, .int (nI (sm))), (4, .int (nI (0)))] [] (xmm u) Q)
    (k4 : ¬ nn ≤ i → xE mX10_best 70 [(0, .ref 172), (1, .int (x)), (3, .int (nI (sm + c))), (4, .int (nI (i + 1)))] [] (xmm u) Q) : xE mX10_best 70 [(0, .ref 172), (1, .int (x)), (3, .int (nI (sm))), (4, .int (nI (i)))] [] (xmm u) Q := by
  refine xe_iload 3 dX10_best_70 rfl ?_
  refine xe_aload_n 0 dX10_best_72 rfl rfl ?_
  refine xr_getI (v := nI (nn)) dX10_best_73 fX10_119 sh172 (by decide) v1 ?_
  refine xn_icmp_ge 95 dX10_best_76 (by decide) (by omega) (by omega) (fun c1 => ?_) (fun c1 => ?_)
  · refine xe_iload_n 1 dX10_best_95 rfl rfl ?_
    refine xe_iconst (v := -1) dX10_best_96 xcm1 ?_
    refine xe_icmp_eq 105 dX10_best_97 (by decide) (fun c2 => ?_) (fun c2 => ?_)
    · refine xe_iload_n 2 dX10_best_105 rfl rfl ?_
      refine xe_istore_n (L2 := [(0, .ref 172), (1, .int (nI (sm))), (3, .int (nI (sm))), (4, .int (nI (i)))]) dX10_best_106 rfl (by decide) rfl ?_
      refine xe_iconst (v := nI (0)) dX10_best_107 xc0 ?_
      refine xe_istore (L2 := [(0, .ref 172), (1, .int (nI (sm))), (3, .int (nI (sm))), (4, .int (nI (0)))]) dX10_best_108 (by decide) rfl ?_
      refine xE.sub [0, 1, 3] rfl ?_
      exact k1 c1 c2
    · refine xe_iload_n 2 dX10_best_100 rfl rfl ?_
      refine xe_iload_n 1 dX10_best_101 rfl rfl ?_
      refine xe_icmp_ge 137 dX10_best_102 (by decide) (fun c3 => ?_) (fun c3 => ?_)
      · refine xe_aload_n 0 dX10_best_137 rfl rfl ?_
        refine xE.sub [0, 1] rfl ?_
        refine xe_callV (As := []) (rest := []) dX10_best_138 wX10_nextOrder lX10_213 iX10_nextOrder sX10_nextOrder ⟨by decide, by decide⟩ sh172 rfl (xin_mm (by decide)) rfl rfl (by simp [Value.category]) ?_
        exact k2 c1 c2 c3
      · refine xe_iload_n 2 dX10_best_105 rfl rfl ?_
        refine xe_istore_n (L2 := [(0, .ref 172), (1, .int (nI (sm))), (3, .int (nI (sm))), (4, .int (nI (i)))]) dX10_best_106 rfl (by decide) rfl ?_
        refine xe_iconst (v := nI (0)) dX10_best_107 xc0 ?_
        refine xe_istore (L2 := [(0, .ref 172), (1, .int (nI (sm))), (3, .int (nI (sm))), (4, .int (nI (0)))]) dX10_best_108 (by decide) rfl ?_
        refine xE.sub [0, 1, 3] rfl ?_
        exact k3 c1 c2 c3
  · refine xe_iload_n 2 dX10_best_79 rfl rfl ?_
    refine xe_aload_n 0 dX10_best_80 rfl rfl ?_
    refine xr_getR (b := 184) dX10_best_81 fX10_43 rfl sh172 (by decide) rfl ?_
    refine xe_iload 3 dX10_best_84 rfl ?_
    refine xr_iald (k := i) (v := nI (c)) dX10_best_86 sh184 (by decide) (by omega) (by decide) v3 ?_
    refine xn_iadd dX10_best_87 ?_
    refine xe_istore_n (L2 := [(0, .ref 172), (1, .int (x)), (3, .int (nI (sm + c))), (4, .int (nI (i)))]) dX10_best_88 rfl (by decide) rfl ?_
    refine xn_iinc (c := 1) (L2 := [(0, .ref 172), (1, .int (x)), (3, .int (nI (sm + c))), (4, .int (nI (i + 1)))]) 3 dX10_best_89 rfl (by decide) rfl ?_
    refine xe_goto 70 dX10_best_92 (by decide) ?_
    exact k4 c1

theorem gX10_best_70a (u : xU) (nn n : Nat) (sm i : Nat) {Q : Option Value → xM → Prop} (hnn : nn ≤ 6) (hn : n ≤ 10) (hi : i = nn) (hsm : sm ≤ 2000) (v1 : u.1 172 3 = nI (nn)) (v2 : u.1 172 4 = nI (n))
    (k1 : nn ≤ i → xE mX10_best 110 [(0, .ref 172), (1, .int (nI (sm))), (4, .int (nI (0)))] [] (xmm u) Q)
    (k2 : ¬ nn ≤ i → xE mX10_best 70 [(0, .ref 172), (1, .int ((-1))), (3, .int ((nI (sm)) + (u.1 184 i))), (4, .int (nI (i + 1)))] [] (xmm u) Q) : xE mX10_best 70 [(0, .ref 172), (1, .int ((-1))), (3, .int (nI (sm))), (4, .int (nI (i)))] [] (xmm u) Q := by
  refine xe_iload 3 dX10_best_70 rfl ?_
  refine xe_aload_n 0 dX10_best_72 rfl rfl ?_
  refine xr_getI (v := nI (nn)) dX10_best_73 fX10_119 sh172 (by decide) v1 ?_
  refine xn_icmp_ge 95 dX10_best_76 (by decide) (by omega) (by omega) (fun c1 => ?_) (fun c1 => ?_)
  · refine xe_iload_n 1 dX10_best_95 rfl rfl ?_
    refine xe_iconst (v := -1) dX10_best_96 xcm1 ?_
    refine xe_icmp_eq 105 dX10_best_97 (by decide) (fun _ => ?_) (fun q => absurd rfl q)
    refine xe_iload_n 2 dX10_best_105 rfl rfl ?_
    refine xe_istore_n (L2 := [(0, .ref 172), (1, .int (nI (sm))), (3, .int (nI (sm))), (4, .int (nI (i)))]) dX10_best_106 rfl (by decide) rfl ?_
    refine xe_iconst (v := nI (0)) dX10_best_107 xc0 ?_
    refine xe_istore (L2 := [(0, .ref 172), (1, .int (nI (sm))), (3, .int (nI (sm))), (4, .int (nI (0)))]) dX10_best_108 (by decide) rfl ?_
    refine xE.sub [0, 1, 3] rfl ?_
    exact k1 c1
  · refine xe_iload_n 2 dX10_best_79 rfl rfl ?_
    refine xe_aload_n 0 dX10_best_80 rfl rfl ?_
    refine xr_getR (b := 184) dX10_best_81 fX10_43 rfl sh172 (by decide) rfl ?_
    refine xe_iload 3 dX10_best_84 rfl ?_
    refine xr_iald (k := i) (v := u.1 184 i) dX10_best_86 sh184 (by decide) (by omega) (by decide) rfl ?_
    refine xe_iadd dX10_best_87 ?_
    refine xe_istore_n (L2 := [(0, .ref 172), (1, .int ((-1))), (3, .int ((nI (sm)) + (u.1 184 i))), (4, .int (nI (i)))]) dX10_best_88 rfl (by decide) rfl ?_
    refine xn_iinc (c := 1) (L2 := [(0, .ref 172), (1, .int ((-1))), (3, .int ((nI (sm)) + (u.1 184 i))), (4, .int (nI (i + 1)))]) 3 dX10_best_89 rfl (by decide) rfl ?_
    refine xe_goto 70 dX10_best_92 (by decide) ?_
    exact k2 c1

theorem gX10_best_70b (u : xU) (nn n : Nat) (bs sm i : Nat) {Q : Option Value → xM → Prop} (hnn : nn ≤ 6) (hn : n ≤ 10) (hi : i = nn) (hsm : sm ≤ 2000) (hbs : bs ≤ 2000) (v1 : u.1 172 3 = nI (nn)) (v2 : u.1 172 4 = nI (n))
    (k1 : nn ≤ i → (nI (bs)) = (-1) → xE mX10_best 110 [(0, .ref 172), (1, .int (nI (sm))), (4, .int (nI (0)))] [] (xmm u) Q)
    (k2 : nn ≤ i → ¬ (nI (bs)) = (-1) → bs ≤ sm → xC mX10_nextOrder [.ref 172] (xmm u) (fun r μ1 => xE mX10_best 141 [(0, .ref 172), (1, .int (nI (bs)))] (r.toList ++ []) μ1 Q))
    (k3 : nn ≤ i → ¬ (nI (bs)) = (-1) → ¬ bs ≤ sm → xE mX10_best 110 [(0, .ref 172), (1, .int (nI (sm))), (4, .int (nI (0)))] [] (xmm u) Q)
    (k4 : ¬ nn ≤ i → xE mX10_best 70 [(0, .ref 172), (1, .int (nI (bs))), (3, .int ((nI (sm)) + (u.1 184 i))), (4, .int (nI (i + 1)))] [] (xmm u) Q) : xE mX10_best 70 [(0, .ref 172), (1, .int (nI (bs))), (3, .int (nI (sm))), (4, .int (nI (i)))] [] (xmm u) Q := by
  refine xe_iload 3 dX10_best_70 rfl ?_
  refine xe_aload_n 0 dX10_best_72 rfl rfl ?_
  refine xr_getI (v := nI (nn)) dX10_best_73 fX10_119 sh172 (by decide) v1 ?_
  refine xn_icmp_ge 95 dX10_best_76 (by decide) (by omega) (by omega) (fun c1 => ?_) (fun c1 => ?_)
  · refine xe_iload_n 1 dX10_best_95 rfl rfl ?_
    refine xe_iconst (v := -1) dX10_best_96 xcm1 ?_
    refine xe_icmp_eq 105 dX10_best_97 (by decide) (fun c2 => ?_) (fun c2 => ?_)
    · refine xe_iload_n 2 dX10_best_105 rfl rfl ?_
      refine xe_istore_n (L2 := [(0, .ref 172), (1, .int (nI (sm))), (3, .int (nI (sm))), (4, .int (nI (i)))]) dX10_best_106 rfl (by decide) rfl ?_
      refine xe_iconst (v := nI (0)) dX10_best_107 xc0 ?_
      refine xe_istore (L2 := [(0, .ref 172), (1, .int (nI (sm))), (3, .int (nI (sm))), (4, .int (nI (0)))]) dX10_best_108 (by decide) rfl ?_
      refine xE.sub [0, 1, 3] rfl ?_
      exact k1 c1 c2
    · refine xe_iload_n 2 dX10_best_100 rfl rfl ?_
      refine xe_iload_n 1 dX10_best_101 rfl rfl ?_
      refine xn_icmp_ge 137 dX10_best_102 (by decide) (by omega) (by omega) (fun c3 => ?_) (fun c3 => ?_)
      · refine xe_aload_n 0 dX10_best_137 rfl rfl ?_
        refine xE.sub [0, 1] rfl ?_
        refine xe_callV (As := []) (rest := []) dX10_best_138 wX10_nextOrder lX10_213 iX10_nextOrder sX10_nextOrder ⟨by decide, by decide⟩ sh172 rfl (xin_mm (by decide)) rfl rfl (by simp [Value.category]) ?_
        exact k2 c1 c2 c3
      · refine xe_iload_n 2 dX10_best_105 rfl rfl ?_
        refine xe_istore_n (L2 := [(0, .ref 172), (1, .int (nI (sm))), (3, .int (nI (sm))), (4, .int (nI (i)))]) dX10_best_106 rfl (by decide) rfl ?_
        refine xe_iconst (v := nI (0)) dX10_best_107 xc0 ?_
        refine xe_istore (L2 := [(0, .ref 172), (1, .int (nI (sm))), (3, .int (nI (sm))), (4, .int (nI (0)))]) dX10_best_108 (by decide) rfl ?_
        refine xE.sub [0, 1, 3] rfl ?_
        exact k3 c1 c2 c3
  · refine xe_iload_n 2 dX10_best_79 rfl rfl ?_
    refine xe_aload_n 0 dX10_best_80 rfl rfl ?_
    refine xr_getR (b := 184) dX10_best_81 fX10_43 rfl sh172 (by decide) rfl ?_
    refine xe_iload 3 dX10_best_84 rfl ?_
    refine xr_iald (k := i) (v := u.1 184 i) dX10_best_86 sh184 (by decide) (by omega) (by decide) rfl ?_
    refine xe_iadd dX10_best_87 ?_
    refine xe_istore_n (L2 := [(0, .ref 172), (1, .int (nI (bs))), (3, .int ((nI (sm)) + (u.1 184 i))), (4, .int (nI (i)))]) dX10_best_88 rfl (by decide) rfl ?_
    refine xn_iinc (c := 1) (L2 := [(0, .ref 172), (1, .int (nI (bs))), (3, .int ((nI (sm)) + (u.1 184 i))), (4, .int (nI (i + 1)))]) 3 dX10_best_89 rfl (by decide) rfl ?_
    refine xe_goto 70 dX10_best_92 (by decide) ?_
    exact k4 c1

theorem gX10_best_110 (u : xU) (x y : Int32) (k : Nat) {Q : Option Value → xM → Prop} (hk : k ≤ 6) (v1 : u.1 181 k = y)
    (k1 : 6 ≤ k → xC mX10_nextOrder [.ref 172] (xmm u) (fun r μ1 => xE mX10_best 141 [(0, .ref 172), (1, .int (x))] (r.toList ++ []) μ1 Q))
    (k2 : ¬ 6 ≤ k → xE mX10_best 110 [(0, .ref 172), (1, .int (x)), (4, .int (nI (k + 1)))] [] (xmm (wi u 194 k (y))) Q) : xE mX10_best 110 [(0, .ref 172), (1, .int (x)), (4, .int (nI (k)))] [] (xmm u) Q := by
  refine xe_iload 2 dX10_best_110 rfl ?_
  refine xe_bipush (v := nI (6)) dX10_best_112 xcb6 ?_
  refine xn_icmp_ge 137 dX10_best_114 (by decide) (by omega) (by omega) (fun c1 => ?_) (fun c1 => ?_)
  · refine xe_aload_n 0 dX10_best_137 rfl rfl ?_
    refine xE.sub [0, 1] rfl ?_
    refine xe_callV (As := []) (rest := []) dX10_best_138 wX10_nextOrder lX10_213 iX10_nextOrder sX10_nextOrder ⟨by decide, by decide⟩ sh172 rfl (xin_mm (by decide)) rfl rfl (by simp [Value.category]) ?_
    exact k1 c1
  · refine xe_aload_n 0 dX10_best_117 rfl rfl ?_
    refine xr_getR (b := 194) dX10_best_118 fX10_81 rfl sh172 (by decide) rfl ?_
    refine xe_iload 2 dX10_best_121 rfl ?_
    refine xe_aload_n 0 dX10_best_123 rfl rfl ?_
    refine xr_getR (b := 181) dX10_best_124 fX10_34 rfl sh172 (by decide) rfl ?_
    refine xe_iload 2 dX10_best_127 rfl ?_
    refine xr_iald (k := k) (v := y) dX10_best_129 sh181 (by decide) (by omega) (by decide) v1 ?_
    refine xr_iast (k := k) dX10_best_130 sh194 (by decide) (by omega) (by decide) ?_
    refine xn_iinc (c := 1) (L2 := [(0, .ref 172), (1, .int (x)), (4, .int (nI (k + 1)))]) 2 dX10_best_131 rfl (by decide) rfl ?_
    refine xe_goto 110 dX10_best_134 (by decide) ?_
    exact k2 c1

theorem gX10_best_141f (u : xU) (x : Int32) {Q : Option Value → xM → Prop}  
    (k1 : xE mX10_best 54 [(0, .ref 172), (1, .int (x)), (2, .int (nI (0)))] [] (xmm u) Q) : xE mX10_best 141 [(0, .ref 172), (1, .int (x))] [.int (nI (0))] (xmm u) Q := by
  refine xe_istore_n (L2 := [(0, .ref 172), (1, .int (x)), (2, .int (nI (0)))]) dX10_best_141 rfl (by decide) rfl ?_
  refine xe_goto 54 dX10_best_142 (by decide) ?_
  exact k1

theorem gX10_best_141t (u : xU) (x : Int32) {Q : Option Value → xM → Prop}  
    (k1 : xE mX10_best 54 [(0, .ref 172), (1, .int (x)), (2, .int (nI (1)))] [] (xmm u) Q) : xE mX10_best 141 [(0, .ref 172), (1, .int (x))] [.int (nI (1))] (xmm u) Q := by
  refine xe_istore_n (L2 := [(0, .ref 172), (1, .int (x)), (2, .int (nI (1)))]) dX10_best_141 rfl (by decide) rfl ?_
  refine xe_goto 54 dX10_best_142 (by decide) ?_
  exact k1

theorem gX10_best_147a (u : xU) (y : Int32) (k : Nat) {Q : Option Value → xM → Prop} (hk : k ≤ 6) (v1 : u.1 193 k = y)
    (k1 : 6 ≤ k → Q (some (.int (-2))) (xmm u))
    (k2 : ¬ 6 ≤ k → xE mX10_best 147 [(0, .ref 172), (1, .int ((-1))), (3, .int (nI (k + 1)))] [] (xmm (wi u 181 k (y))) Q) : xE mX10_best 147 [(0, .ref 172), (1, .int ((-1))), (3, .int (nI (k)))] [] (xmm u) Q := by
  refine xe_iload_n 2 dX10_best_147 rfl rfl ?_
  refine xe_bipush (v := nI (6)) dX10_best_148 xcb6 ?_
  refine xn_icmp_ge 185 dX10_best_150 (by decide) (by omega) (by omega) (fun c1 => ?_) (fun c1 => ?_)
  · refine xe_iload_n 1 dX10_best_185 rfl rfl ?_
    refine xe_iconst (v := -1) dX10_best_186 xcm1 ?_
    refine xe_icmp_ne 195 dX10_best_187 (by decide) (fun q => absurd rfl q) (fun _ => ?_)
    refine xe_bipush (v := -2) dX10_best_190 xcbm2 ?_
    refine xe_goto 196 dX10_best_192 (by decide) ?_
    exact xe_ret (r := (some (.int (-2)))) dX10_best_196 trivial (k1 c1)
  · refine xe_aload_n 0 dX10_best_153 rfl rfl ?_
    refine xr_getR (b := 181) dX10_best_154 fX10_34 rfl sh172 (by decide) rfl ?_
    refine xe_iload_n 2 dX10_best_157 rfl rfl ?_
    refine xe_iload_n 1 dX10_best_158 rfl rfl ?_
    refine xe_iconst (v := -1) dX10_best_159 xcm1 ?_
    refine xe_icmp_ne 172 dX10_best_160 (by decide) (fun q => absurd rfl q) (fun _ => ?_)
    refine xe_aload_n 0 dX10_best_163 rfl rfl ?_
    refine xr_getR (b := 193) dX10_best_164 fX10_78 rfl sh172 (by decide) rfl ?_
    refine xe_iload_n 2 dX10_best_167 rfl rfl ?_
    refine xr_iald (k := k) (v := y) dX10_best_168 sh193 (by decide) (by omega) (by decide) v1 ?_
    refine xe_goto 178 dX10_best_169 (by decide) ?_
    refine xr_iast (k := k) dX10_best_178 sh181 (by decide) (by omega) (by decide) ?_
    refine xn_iinc (c := 1) (L2 := [(0, .ref 172), (1, .int ((-1))), (3, .int (nI (k + 1)))]) 2 dX10_best_179 rfl (by decide) rfl ?_
    refine xe_goto 147 dX10_best_182 (by decide) ?_
    exact k2 c1

theorem gX10_best_147b (u : xU) (y : Int32) (bs k : Nat) {Q : Option Value → xM → Prop} (hk : k ≤ 6) (v1 : u.1 194 k = y)
    (k1 : 6 ≤ k → ¬ (nI (bs)) = (-1) → Q (some (.int (nI (bs)))) (xmm u))
    (k2 : 6 ≤ k → (nI (bs)) = (-1) → Q (some (.int (-2))) (xmm u))
    (k3 : ¬ 6 ≤ k → ¬ (nI (bs)) = (-1) → xE mX10_best 147 [(0, .ref 172), (1, .int (nI (bs))), (3, .int (nI (k + 1)))] [] (xmm (wi u 181 k (y))) Q)
    (k4 : ¬ 6 ≤ k → (nI (bs)) = (-1) → xE mX10_best 147 [(0, .ref 172), (1, .int (nI (bs))), (3, .int (nI (k + 1)))] [] (xmm (wi u 181 k (u.1 193 k))) Q) : xE mX10_best 147 [(0, .ref 172), (1, .int (nI (bs))), (3, .int (nI (k)))] [] (xmm u) Q := by
  refine xe_iload_n 2 dX10_best_147 rfl rfl ?_
  refine xe_bipush (v := nI (6)) dX10_best_148 xcb6 ?_
  refine xn_icmp_ge 185 dX10_best_150 (by decide) (by omega) (by omega) (fun c1 => ?_) (fun c1 => ?_)
  · refine xe_iload_n 1 dX10_best_185 rfl rfl ?_
    refine xe_iconst (v := -1) dX10_best_186 xcm1 ?_
    refine xe_icmp_ne 195 dX10_best_187 (by decide) (fun c2 => ?_) (fun c2 => ?_)
    · refine xe_iload_n 1 dX10_best_195 rfl rfl ?_
      exact xe_ret (r := (some (.int (nI (bs))))) dX10_best_196 trivial (k1 c1 c2)
    · refine xe_bipush (v := -2) dX10_best_190 xcbm2 ?_
      refine xe_goto 196 dX10_best_192 (by decide) ?_
      exact xe_ret (r := (some (.int (-2)))) dX10_best_196 trivial (k2 c1 c2)
  · refine xe_aload_n 0 dX10_best_153 rfl rfl ?_
    refine xr_getR (b := 181) dX10_best_154 fX10_34 rfl sh172 (by decide) rfl ?_
    refine xe_iload_n 2 dX10_best_157 rfl rfl ?_
    refine xe_iload_n 1 dX10_best_158 rfl rfl ?_
    refine xe_iconst (v := -1) dX10_best_159 xcm1 ?_
    refine xe_icmp_ne 172 dX10_best_160 (by decide) (fun c3 => ?_) (fun c3 => ?_)
    · refine xe_aload_n 0 dX10_best_172 rfl rfl ?_
      refine xr_getR (b := 194) dX10_best_173 fX10_81 rfl sh172 (by decide) rfl ?_
      refine xe_iload_n 2 dX10_best_176 rfl rfl ?_
      refine xr_iald (k := k) (v := y) dX10_best_177 sh194 (by decide) (by omega) (by decide) v1 ?_
      refine xr_iast (k := k) dX10_best_178 sh181 (by decide) (by omega) (by decide) ?_
      refine xn_iinc (c := 1) (L2 := [(0, .ref 172), (1, .int (nI (bs))), (3, .int (nI (k + 1)))]) 2 dX10_best_179 rfl (by decide) rfl ?_
      refine xe_goto 147 dX10_best_182 (by decide) ?_
      exact k3 c1 c3
    · refine xe_aload_n 0 dX10_best_163 rfl rfl ?_
      refine xr_getR (b := 193) dX10_best_164 fX10_78 rfl sh172 (by decide) rfl ?_
      refine xe_iload_n 2 dX10_best_167 rfl rfl ?_
      refine xr_iald (k := k) (v := u.1 193 k) dX10_best_168 sh193 (by decide) (by omega) (by decide) rfl ?_
      refine xe_goto 178 dX10_best_169 (by decide) ?_
      refine xr_iast (k := k) dX10_best_178 sh181 (by decide) (by omega) (by decide) ?_
      refine xn_iinc (c := 1) (L2 := [(0, .ref 172), (1, .int (nI (bs))), (3, .int (nI (k + 1)))]) 2 dX10_best_179 rfl (by decide) rfl ?_
      refine xe_goto 147 dX10_best_182 (by decide) ?_
      exact k4 c1 c3

