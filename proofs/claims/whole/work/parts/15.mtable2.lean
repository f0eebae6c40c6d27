theorem gX10_moves_0 (u : xU) (t i j : Nat) {Q : Option Value → xM → Prop}  
    (k1 : xE mX10_moves 3 [(0, .ref 172), (1, .int (nI (t))), (2, .int (nI (i))), (3, .int (nI (j))), (4, .int (nI (0)))] [] (xmm u) Q) : xE mX10_moves 0 [(0, .ref 172), (1, .int (nI (t))), (2, .int (nI (i))), (3, .int (nI (j)))] [] (xmm u) Q := by
  refine xe_iconst (v := nI (0)) dX10_moves_0 xc0 ?_
  refine xe_istore (L2 := [(0, .ref 172), (1, .int (nI (t))), (2, .int (nI (i))), (3, .int (nI (j))), (4, .int (nI (0)))]) dX10_moves_1 (by decide) rfl ?_
  exact k1

theorem gX10_moves_3 (u : xU) (t i j k : Nat) {Q : Option Value → xM → Prop} (ht : t < 8) (hi : i < 40) (hj : j < 40) (hk : k ≤ 3) 
    (k1 : 3 ≤ k → Q none (xmm u))
    (k2 : ¬ 3 ≤ k → xE mX10_moves 3 [(0, .ref 172), (1, .int (nI (t))), (2, .int (nI (i))), (3, .int (nI (j))), (4, .int (nI (k + 1)))] [] (xmm (wi u 175 (((120 * t) + (3 * j)) + k) (u.1 175 (((120 * t) + (3 * i)) + k)))) Q) : xE mX10_moves 3 [(0, .ref 172), (1, .int (nI (t))), (2, .int (nI (i))), (3, .int (nI (j))), (4, .int (nI (k)))] [] (xmm u) Q := by
  refine xe_iload 4 dX10_moves_3 rfl ?_
  refine xe_iconst (v := nI (3)) dX10_moves_5 xc3 ?_
  refine xn_icmp_ge 47 dX10_moves_6 (by decide) (by omega) (by omega) (fun c1 => ?_) (fun c1 => ?_)
  · exact xe_ret (r := none) dX10_moves_47 trivial (k1 c1)
  · refine xe_aload_n 0 dX10_moves_9 rfl rfl ?_
    refine xr_getR (b := 175) dX10_moves_10 fX10_16 rfl sh172 (by decide) rfl ?_
    refine xe_bipush (v := nI (120)) dX10_moves_13 xcb120 ?_
    refine xe_iload_n 1 dX10_moves_15 rfl rfl ?_
    refine xn_imul dX10_moves_16 ?_
    refine xe_iconst (v := nI (3)) dX10_moves_17 xc3 ?_
    refine xe_iload_n 3 dX10_moves_18 rfl rfl ?_
    refine xn_imul dX10_moves_19 ?_
    refine xn_iadd dX10_moves_20 ?_
    refine xe_iload 4 dX10_moves_21 rfl ?_
    refine xn_iadd dX10_moves_23 ?_
    refine xe_aload_n 0 dX10_moves_24 rfl rfl ?_
    refine xr_getR (b := 175) dX10_moves_25 fX10_16 rfl sh172 (by decide) rfl ?_
    refine xe_bipush (v := nI (120)) dX10_moves_28 xcb120 ?_
    refine xe_iload_n 1 dX10_moves_30 rfl rfl ?_
    refine xn_imul dX10_moves_31 ?_
    refine xe_iconst (v := nI (3)) dX10_moves_32 xc3 ?_
    refine xe_iload_n 2 dX10_moves_33 rfl rfl ?_
    refine xn_imul dX10_moves_34 ?_
    refine xn_iadd dX10_moves_35 ?_
    refine xe_iload 4 dX10_moves_36 rfl ?_
    refine xn_iadd dX10_moves_38 ?_
    refine xr_iald (k := ((120 * t) + (3 * i)) + k) (v := u.1 175 (((120 * t) + (3 * i)) + k)) dX10_moves_39 sh175 (by decide) (by omega) (by decide) rfl ?_
    refine xr_iast (k := ((120 * t) + (3 * j)) + k) dX10_moves_40 sh175 (by decide) (by omega) (by decide) ?_
    refine xn_iinc (c := 1) (L2 := [(0, .ref 172), (1, .int (nI (t))), (2, .int (nI (i))), (3, .int (nI (j))), (4, .int (nI (k + 1)))]) 4 dX10_moves_41 rfl (by decide) rfl ?_
    refine xe_goto 3 dX10_moves_44 (by decide) ?_
    exact k2 c1

/-- a row is written over another in the model's tables -/
def mvR (u u' : xU) (t i j : Nat) : Prop := (∀ c, c < 3 → u'.1 175 (120 * t + 3 * j + c) = u.1 175 (120 * t + 3 * i + c)) ∧ (∀ x, ¬ (120 * t + 3 * j ≤ x ∧ x < 120 * t + 3 * j + 3) → u'.1 175 x = u.1 175 x) ∧ (∀ a, a ≠ 175 → u'.1 a = u.1 a) ∧ u'.2 = u.2
theorem qX10_moves (u : xU) (t i j : Nat) (ht : t < 8) (hi : i < 40) (hj : j < 40) (hij : i ≠ j) : xC mX10_moves [.ref 172, .int (nI t), .int (nI i), .int (nI j)] (xmm u) (fun r μ' => ∃ u', μ' = xmm u' ∧ r = none ∧ mvR u u' t i j) := by
  refine xC.of xpl10 (Nat.le_of_ble_eq_true rfl) (gX10_moves_0 u t i j ?_)
  have loop : ∀ d k (v : xU), 3 - k = d → k ≤ 3 → (∀ c, c < k → v.1 175 (120 * t + 3 * j + c) = u.1 175 (120 * t + 3 * i + c)) → (∀ x, ¬ (120 * t + 3 * j ≤ x ∧ x < 120 * t + 3 * j + k) → v.1 175 x = u.1 175 x) → (∀ a, a ≠ 175 → v.1 a = u.1 a) → v.2 = u.2 → xE mX10_moves 3 [(0, .ref 172), (1, .int (nI (t))), (2, .int (nI (i))), (3, .int (nI (j))), (4, .int (nI (k)))] [] (xmm v) (fun r μ' => ∃ u', μ' = xmm u' ∧ r = none ∧ mvR u u' t i j) := by
    intro d
    induction d with
    | zero =>
      intro k v hd hk h1 h2 h3 h4
      obtain rfl : k = 3 := by omega
      exact gX10_moves_3 v t i j 3 ht hi hj (by omega) (fun q => ⟨v, rfl, rfl, h1, h2, h3, h4⟩) (fun q => by omega)
    | succ d ih =>
      intro k v hd hk h1 h2 h3 h4
      refine gX10_moves_3 v t i j k ht hi hj (by omega) (fun q => by omega) (fun q => ih (k + 1) _ (by omega) (by omega) (fun c hc => ?_) (fun x hx => ?_) (fun a ha => (wi_row ha).trans (h3 a ha)) h4)
      · by_cases hck : c = k
        · subst hck
          exact wi_self.trans (h2 (120 * t + 3 * i + c) (by omega))
        · exact (wi_nek (by omega)).trans (h1 c (by omega))
      · exact (wi_nek (by omega)).trans (h2 x (by omega))
  exact loop _ 0 u rfl (Nat.zero_le _) (fun c hc => absurd hc (Nat.not_lt_zero c)) (fun x _ => rfl) (fun a _ => rfl) rfl

theorem gX10_put_I (u : xU) (t a b c : Int32) {Q : Option Value → xM → Prop} (hit : xC mX10_isTable [.ref 172, .int t] (xmm u) (fun r μ' => r = some (.int (xb False)) ∧ μ' = xmm u)) 
    (k1 : False → xC mX10_find [.ref 172, .int (t), .int (a), .int (b), .int (c)] (xmm u) (fun r μ1 => xE mX10_put 19 [(0, .ref 172), (1, .int (t)), (2, .int (a)), (3, .int (b)), (4, .int (c))] (r.toList ++ []) μ1 Q))
    (k2 : ¬ False → Q (some (.int (-1))) (xmm u)) : xE mX10_put 0 [(0, .ref 172), (1, .int (t)), (2, .int (a)), (3, .int (b)), (4, .int (c))] [] (xmm u) Q := by
  refine xe_aload_n 0 dX10_put_0 rfl rfl ?_
  refine xe_iload_n 1 dX10_put_1 rfl rfl ?_
  refine xe_callV (As := [.int (t)]) (rest := []) dX10_put_2 wX10_isTable lX10_107 iX10_isTable sX10_isTable ⟨by decide, by decide⟩ sh172 rfl (xin_mm (by decide)) rfl rfl (by simp [Value.category]) (xC.pure (v := .int (xb (False))) (hit) ?_)
  refine xb_if_ne 10 dX10_put_5 (by decide) (fun c1 => ?_) (fun c1 => ?_)
  · refine xe_aload_n 0 dX10_put_10 rfl rfl ?_
    refine xe_iload_n 1 dX10_put_11 rfl rfl ?_
    refine xe_iload_n 2 dX10_put_12 rfl rfl ?_
    refine xe_iload_n 3 dX10_put_13 rfl rfl ?_
    refine xe_iload 4 dX10_put_14 rfl ?_
    refine xe_callV (As := [.int (t), .int (a), .int (b), .int (c)]) (rest := []) dX10_put_16 wX10_find lX10_111 iX10_find sX10_find ⟨by decide, by decide⟩ sh172 rfl (xin_mm (by decide)) rfl rfl (by simp [Value.category]) ?_
    exact k1 c1
  · refine xe_iconst (v := -1) dX10_put_8 xcm1 ?_
    exact xe_ret (r := (some (.int (-1)))) dX10_put_9 trivial (k2 c1)

theorem gX10_put_0 (u : xU) (t n cols : Nat) (a b c f : Int32) {Q : Option Value → xM → Prop} (ht : t < 8) (hcols : cols ≤ 3) (hn : n ≤ 40) (hf : xC mX10_find [.ref 172, .int (nI t), .int a, .int b, .int c] (xmm u) (fun r μ' => r = some (.int f) ∧ μ' = xmm u)) (v1 : u.1 173 t = nI (cols)) (v2 : u.1 174 t = nI (n))
    (k1 : 0 < cols → f = (-1) → ¬ n = 40 → xE mX10_put 46 [(0, .ref 172), (1, .int (nI (t))), (2, .int (a)), (3, .int (b)), (4, .int (c)), (5, .int (nI (n)))] [] (xmm u) Q)
    (k2 : 0 < cols → f = (-1) → n = 40 → Q (some (.int (-1))) (xmm u))
    (k3 : 0 < cols → ¬ f = (-1) → Q (some (.int (nI (0)))) (xmm u))
    (k4 : ¬ (0 < cols) → Q (some (.int (-1))) (xmm u)) : xE mX10_put 0 [(0, .ref 172), (1, .int (nI (t))), (2, .int (a)), (3, .int (b)), (4, .int (c))] [] (xmm u) Q := by
  refine xe_aload_n 0 dX10_put_0 rfl rfl ?_
  refine xe_iload_n 1 dX10_put_1 rfl rfl ?_
  refine xe_callV (As := [.int (nI (t))]) (rest := []) dX10_put_2 wX10_isTable lX10_107 iX10_isTable sX10_isTable ⟨by decide, by decide⟩ sh172 rfl (xin_mm (by decide)) rfl rfl (by simp [Value.category]) (xC.pure (v := .int (xb (0 < cols))) (qX10_isTable u t n cols ht hcols hn v1 v2) ?_)
  refine xb_if_ne 10 dX10_put_5 (by decide) (fun c1 => ?_) (fun c1 => ?_)
  · refine xe_aload_n 0 dX10_put_10 rfl rfl ?_
    refine xe_iload_n 1 dX10_put_11 rfl rfl ?_
    refine xe_iload_n 2 dX10_put_12 rfl rfl ?_
    refine xe_iload_n 3 dX10_put_13 rfl rfl ?_
    refine xe_iload 4 dX10_put_14 rfl ?_
    refine xe_callV (As := [.int (nI (t)), .int (a), .int (b), .int (c)]) (rest := []) dX10_put_16 wX10_find lX10_111 iX10_find sX10_find ⟨by decide, by decide⟩ sh172 rfl (xin_mm (by decide)) rfl rfl (by simp [Value.category]) (xC.pure (v := .int (f)) (hf) ?_)
    refine xe_iconst (v := -1) dX10_put_19 xcm1 ?_
    refine xe_icmp_eq 25 dX10_put_20 (by decide) (fun c2 => ?_) (fun c2 => ?_)
    · refine xe_aload_n 0 dX10_put_25 rfl rfl ?_
      refine xr_getR (b := 174) dX10_put_26 fX10_13 rfl sh172 (by decide) rfl ?_
      refine xe_iload_n 1 dX10_put_29 rfl rfl ?_
      refine xr_iald (k := t) (v := nI (n)) dX10_put_30 sh174 (by decide) (by omega) (by decide) v2 ?_
      refine xe_bipush (v := nI (40)) dX10_put_31 xcb40 ?_
      refine xn_icmp_ne 38 dX10_put_33 (by decide) (by omega) (by omega) (fun c3 => ?_) (fun c3 => ?_)
      · refine xe_aload_n 0 dX10_put_38 rfl rfl ?_
        refine xr_getR (b := 174) dX10_put_39 fX10_13 rfl sh172 (by decide) rfl ?_
        refine xe_iload_n 1 dX10_put_42 rfl rfl ?_
        refine xr_iald (k := t) (v := nI (n)) dX10_put_43 sh174 (by decide) (by omega) (by decide) v2 ?_
        refine xe_istore (L2 := [(0, .ref 172), (1, .int (nI (t))), (2, .int (a)), (3, .int (b)), (4, .int (c)), (5, .int (nI (n)))]) dX10_put_44 (by decide) rfl ?_
        exact k1 c1 c2 c3
      · refine xe_iconst (v := -1) dX10_put_36 xcm1 ?_
        exact xe_ret (r := (some (.int (-1)))) dX10_put_37 trivial (k2 c1 c2 c3)
    · refine xe_iconst (v := nI (0)) dX10_put_23 xc0 ?_
      exact xe_ret (r := (some (.int (nI (0))))) dX10_put_24 trivial (k3 c1 c2)
  · refine xe_iconst (v := -1) dX10_put_8 xcm1 ?_
    exact xe_ret (r := (some (.int (-1)))) dX10_put_9 trivial (k4 c1)

theorem gX10_put_46 (u : xU) (t n cols : Nat) (i : Nat) (a b c d : Int32) {Q : Option Value → xM → Prop} (ht : t < 8) (hn : n < 40) (hi : i ≤ n) (hd : 0 < i → xC mX10_against [.ref 172, .int (nI t), .int (nI (i - 1)), .int a, .int b, .int c] (xmm u) (fun r μ' => r = some (.int d) ∧ μ' = xmm u)) (v1 : u.1 174 t = nI (n))
    (k1 : i ≤ 0 → Q (some (.int (nI (1)))) (xmm (wi (wi (wi (wi u 175 ((120 * t) + (3 * i)) (a)) 175 (((120 * t) + (3 * i)) + 1) (b)) 175 (((120 * t) + (3 * i)) + 2) (c)) 174 t (nI (n + 1)))))
    (k2 : ¬ i ≤ 0 → d ≤ 0 → Q (some (.int (nI (1)))) (xmm (wi (wi (wi (wi u 175 ((120 * t) + (3 * i)) (a)) 175 (((120 * t) + (3 * i)) + 1) (b)) 175 (((120 * t) + (3 * i)) + 2) (c)) 174 t (nI (n + 1)))))
    (k3 : ¬ i ≤ 0 → ¬ d ≤ 0 → xC mX10_moves [.ref 172, .int (nI (t)), .int (nI (i - 1)), .int (nI (i))] (xmm u) (fun r μ1 => xE mX10_put 78 [(0, .ref 172), (1, .int (nI (t))), (2, .int (a)), (3, .int (b)), (4, .int (c)), (5, .int (nI (i)))] (r.toList ++ []) μ1 Q)) : xE mX10_put 46 [(0, .ref 172), (1, .int (nI (t))), (2, .int (a)), (3, .int (b)), (4, .int (c)), (5, .int (nI (i)))] [] (xmm u) Q := by
  refine xe_iload 5 dX10_put_46 rfl ?_
  refine xn_if_le 84 dX10_put_48 (by decide) (by omega) (fun c1 => ?_) (fun c1 => ?_)
  · refine xe_aload_n 0 dX10_put_84 rfl rfl ?_
    refine xr_getR (b := 175) dX10_put_85 fX10_16 rfl sh172 (by decide) rfl ?_
    refine xe_bipush (v := nI (120)) dX10_put_88 xcb120 ?_
    refine xe_iload_n 1 dX10_put_90 rfl rfl ?_
    refine xn_imul dX10_put_91 ?_
    refine xe_iconst (v := nI (3)) dX10_put_92 xc3 ?_
    refine xe_iload 5 dX10_put_93 rfl ?_
    refine xn_imul dX10_put_95 ?_
    refine xn_iadd dX10_put_96 ?_
    refine xe_iload_n 2 dX10_put_97 rfl rfl ?_
    refine xr_iast (k := (120 * t) + (3 * i)) dX10_put_98 sh175 (by decide) (by omega) (by decide) ?_
    refine xe_aload_n 0 dX10_put_99 rfl rfl ?_
    refine xr_getR (b := 175) dX10_put_100 fX10_16 rfl sh172 (by decide) rfl ?_
    refine xe_bipush (v := nI (120)) dX10_put_103 xcb120 ?_
    refine xe_iload_n 1 dX10_put_105 rfl rfl ?_
    refine xn_imul dX10_put_106 ?_
    refine xe_iconst (v := nI (3)) dX10_put_107 xc3 ?_
    refine xe_iload 5 dX10_put_108 rfl ?_
    refine xn_imul dX10_put_110 ?_
    refine xn_iadd dX10_put_111 ?_
    refine xe_iconst (v := nI (1)) dX10_put_112 xc1 ?_
    refine xn_iadd dX10_put_113 ?_
    refine xe_iload_n 3 dX10_put_114 rfl rfl ?_
    refine xr_iast (k := ((120 * t) + (3 * i)) + 1) dX10_put_115 sh175 (by decide) (by omega) (by decide) ?_
    refine xe_aload_n 0 dX10_put_116 rfl rfl ?_
    refine xr_getR (b := 175) dX10_put_117 fX10_16 rfl sh172 (by decide) rfl ?_
    refine xe_bipush (v := nI (120)) dX10_put_120 xcb120 ?_
    refine xe_iload_n 1 dX10_put_122 rfl rfl ?_
    refine xn_imul dX10_put_123 ?_
    refine xe_iconst (v := nI (3)) dX10_put_124 xc3 ?_
    refine xe_iload 5 dX10_put_125 rfl ?_
    refine xn_imul dX10_put_127 ?_
    refine xn_iadd dX10_put_128 ?_
    refine xe_iconst (v := nI (2)) dX10_put_129 xc2 ?_
    refine xn_iadd dX10_put_130 ?_
    refine xe_iload 4 dX10_put_131 rfl ?_
    refine xr_iast (k := ((120 * t) + (3 * i)) + 2) dX10_put_133 sh175 (by decide) (by omega) (by decide) ?_
    refine xe_aload_n 0 dX10_put_134 rfl rfl ?_
    refine xr_getR (b := 174) dX10_put_135 fX10_13 rfl sh172 (by decide) rfl ?_
    refine xe_iload_n 1 dX10_put_138 rfl rfl ?_
    refine xe_dup2 dX10_put_139 rfl rfl ?_
    refine xr_iald (k := t) (v := nI (n)) dX10_put_140 sh174 (by decide) (by omega) (by decide) ((wi_ne (by omega)).trans ((wi_ne (by omega)).trans ((wi_ne (by omega)).trans v1))) ?_
    refine xe_iconst (v := nI (1)) dX10_put_141 xc1 ?_
    refine xn_iadd dX10_put_142 ?_
    refine xr_iast (k := t) dX10_put_143 sh174 (by decide) (by omega) (by decide) ?_
    refine xe_iconst (v := nI (1)) dX10_put_144 xc1 ?_
    exact xe_ret (r := (some (.int (nI (1))))) dX10_put_145 trivial (k1 c1)
  · refine xe_aload_n 0 dX10_put_51 rfl rfl ?_
    refine xe_iload_n 1 dX10_put_52 rfl rfl ?_
    refine xe_iload 5 dX10_put_53 rfl ?_
    refine xe_iconst (v := nI (1)) dX10_put_55 xc1 ?_
    refine xn_isub dX10_put_56 (by omega) ?_
    refine xe_iload_n 2 dX10_put_57 rfl rfl ?_
    refine xe_iload_n 3 dX10_put_58 rfl rfl ?_
    refine xe_iload 4 dX10_put_59 rfl ?_
    refine xe_callV (As := [.int (nI (t)), .int (nI (i - 1)), .int (a), .int (b), .int (c)]) (rest := []) dX10_put_61 wX10_against lX10_103 iX10_against sX10_against ⟨by decide, by decide⟩ sh172 rfl (xin_mm (by decide)) rfl rfl (by simp [Value.category]) (xC.pure (v := .int (d)) (hd (by omega)) ?_)
    refine xe_if_le 84 dX10_put_64 (by decide) (fun c2 => ?_) (fun c2 => ?_)
    · refine xe_aload_n 0 dX10_put_84 rfl rfl ?_
      refine xr_getR (b := 175) dX10_put_85 fX10_16 rfl sh172 (by decide) rfl ?_
      refine xe_bipush (v := nI (120)) dX10_put_88 xcb120 ?_
      refine xe_iload_n 1 dX10_put_90 rfl rfl ?_
      refine xn_imul dX10_put_91 ?_
      refine xe_iconst (v := nI (3)) dX10_put_92 xc3 ?_
      refine xe_iload 5 dX10_put_93 rfl ?_
      refine xn_imul dX10_put_95 ?_
      refine xn_iadd dX10_put_96 ?_
      refine xe_iload_n 2 dX10_put_97 rfl rfl ?_
      refine xr_iast (k := (120 * t) + (3 * i)) dX10_put_98 sh175 (by decide) (by omega) (by decide) ?_
      refine xe_aload_n 0 dX10_put_99 rfl rfl ?_
      refine xr_getR (b := 175) dX10_put_100 fX10_16 rfl sh172 (by decide) rfl ?_
      refine xe_bipush (v := nI (120)) dX10_put_103 xcb120 ?_
      refine xe_iload_n 1 dX10_put_105 rfl rfl ?_
      refine xn_imul dX10_put_106 ?_
      refine xe_iconst (v := nI (3)) dX10_put_107 xc3 ?_
      refine xe_iload 5 dX10_put_108 rfl ?_
      refine xn_imul dX10_put_110 ?_
      refine xn_iadd dX10_put_111 ?_
      refine xe_iconst (v := nI (1)) dX10_put_112 xc1 ?_
      refine xn_iadd dX10_put_113 ?_
      refine xe_iload_n 3 dX10_put_114 rfl rfl ?_
      refine xr_iast (k := ((120 * t) + (3 * i)) + 1) dX10_put_115 sh175 (by decide) (by omega) (by decide) ?_
      refine xe_aload_n 0 dX10_put_116 rfl rfl ?_
      refine xr_getR (b := 175) dX10_put_117 fX10_16 rfl sh172 (by decide) rfl ?_
      refine xe_bipush (v := nI (120)) dX10_put_120 xcb120 ?_
      refine xe_iload_n 1 dX10_put_122 rfl rfl ?_
      refine xn_imul dX10_put_123 ?_
      refine xe_iconst (v := nI (3)) dX10_put_124 xc3 ?_
      refine xe_iload 5 dX10_put_125 rfl ?_
      refine xn_imul dX10_put_127 ?_
      refine xn_iadd dX10_put_128 ?_
      refine xe_iconst (v := nI (2)) dX10_put_129 xc2 ?_
      refine xn_iadd dX10_put_130 ?_
      refine xe_iload 4 dX10_put_131 rfl ?_
      refine xr_iast (k := ((120 * t) + (3 * i)) + 2) dX10_put_133 sh175 (by decide) (by omega) (by decide) ?_
      refine xe_aload_n 0 dX10_put_134 rfl rfl ?_
      refine xr_getR (b := 174) dX10_put_135 fX10_13 rfl sh172 (by decide) rfl ?_
      refine xe_iload_n 1 dX10_put_138 rfl rfl ?_
      refine xe_dup2 dX10_put_139 rfl rfl ?_
      refine xr_iald (k := t) (v := nI (n)) dX10_put_140 sh174 (by decide) (by omega) (by decide) ((wi_ne (by omega)).trans ((wi_ne (by omega)).trans ((wi_ne (by omega)).trans v1))) ?_
      refine xe_iconst (v := nI (1)) dX10_put_141 xc1 ?_
      refine xn_iadd dX10_put_142 ?_
      refine xr_iast (k := t) dX10_put_143 sh174 (by decide) (by omega) (by decide) ?_
      refine xe_iconst (v := nI (1)) dX10_put_144 xc1 ?_
      exact xe_ret (r := (some (.int (nI (1))))) dX10_put_145 trivial (k2 c1 c2)
    · refine xe_aload_n 0 dX10_put_67 rfl rfl ?_
      refine xe_iload_n 1 dX10_put_68 rfl rfl ?_
      refine xe_iload 5 dX10_put_69 rfl ?_
      refine xe_iconst (v := nI (1)) dX10_put_71 xc1 ?_
      refine xn_isub dX10_put_72 (by omega) ?_
      refine xe_iload 5 dX10_put_73 rfl ?_
      refine xe_callV (As := [.int (nI (t)), .int (nI (i - 1)), .int (nI (i))]) (rest := []) dX10_put_75 wX10_moves lX10_115 iX10_moves sX10_moves ⟨by decide, by decide⟩ sh172 rfl (xin_mm (by decide)) rfl rfl (by simp [Value.category]) ?_
      exact k3 c1 c2

theorem gX10_drop_I (u : xU) (t a b c : Int32) {Q : Option Value → xM → Prop} (hit : xC mX10_isTable [.ref 172, .int t] (xmm u) (fun r μ' => r = some (.int (xb False)) ∧ μ' = xmm u)) 
    (k1 : ¬ False → Q (some (.int (nI (0)))) (xmm u))
    (k2 : False → xC mX10_find [.ref 172, .int (t), .int (a), .int (b), .int (c)] (xmm u) (fun r μ1 => xE mX10_drop 17 [(0, .ref 172), (1, .int (t))] (r.toList ++ []) μ1 Q)) : xE mX10_drop 0 [(0, .ref 172), (1, .int (t)), (2, .int (a)), (3, .int (b)), (4, .int (c))] [] (xmm u) Q := by
  refine xe_aload_n 0 dX10_drop_0 rfl rfl ?_
  refine xe_iload_n 1 dX10_drop_1 rfl rfl ?_
  refine xe_callV (As := [.int (t)]) (rest := []) dX10_drop_2 wX10_isTable lX10_107 iX10_isTable sX10_isTable ⟨by decide, by decide⟩ sh172 rfl (xin_mm (by decide)) rfl rfl (by simp [Value.category]) (xC.pure (v := .int (xb (False))) (hit) ?_)
  refine xb_if_eq 20 dX10_drop_5 (by decide) (fun c1 => ?_) (fun c1 => ?_)
  · refine xe_iconst (v := -1) dX10_drop_20 xcm1 ?_
    refine xe_istore (L2 := [(0, .ref 172), (1, .int (t)), (2, .int (a)), (3, .int (b)), (4, .int (c)), (5, .int (-1))]) dX10_drop_21 (by decide) rfl ?_
    refine xe_iload 5 dX10_drop_23 rfl ?_
    refine xe_iconst (v := -1) dX10_drop_25 xcm1 ?_
    refine xe_icmp_ne 31 dX10_drop_26 (by decide) (fun q => absurd rfl q) (fun _ => ?_)
    refine xe_iconst (v := nI (0)) dX10_drop_29 xc0 ?_
    exact xe_ret (r := (some (.int (nI (0))))) dX10_drop_30 (Or.inl rfl) (k1 c1)
  · refine xe_aload_n 0 dX10_drop_8 rfl rfl ?_
    refine xe_iload_n 1 dX10_drop_9 rfl rfl ?_
    refine xe_iload_n 2 dX10_drop_10 rfl rfl ?_
    refine xe_iload_n 3 dX10_drop_11 rfl rfl ?_
    refine xe_iload 4 dX10_drop_12 rfl ?_
    refine xE.sub [0, 1] rfl ?_
    refine xe_callV (As := [.int (t), .int (a), .int (b), .int (c)]) (rest := []) dX10_drop_14 wX10_find lX10_111 iX10_find sX10_find ⟨by decide, by decide⟩ sh172 rfl (xin_mm (by decide)) rfl rfl (by simp [Value.category]) ?_
    exact k2 c1

theorem gX10_drop_0 (u : xU) (t n cols : Nat) (a b c f : Int32) {Q : Option Value → xM → Prop} (ht : t < 8) (hcols : cols ≤ 3) (hn : n ≤ 40) (hf : xC mX10_find [.ref 172, .int (nI t), .int a, .int b, .int c] (xmm u) (fun r μ' => r = some (.int f) ∧ μ' = xmm u)) (v1 : u.1 173 t = nI (cols)) (v2 : u.1 174 t = nI (n))
    (k1 : ¬ (0 < cols) → xE mX10_drop 23 [(0, .ref 172), (1, .int (nI (t))), (5, .int (-1))] [] (xmm u) Q)
    (k2 : 0 < cols → xE mX10_drop 23 [(0, .ref 172), (1, .int (nI (t))), (5, .int (f))] [] (xmm u) Q) : xE mX10_drop 0 [(0, .ref 172), (1, .int (nI (t))), (2, .int (a)), (3, .int (b)), (4, .int (c))] [] (xmm u) Q := by
  refine xe_aload_n 0 dX10_drop_0 rfl rfl ?_
  refine xe_iload_n 1 dX10_drop_1 rfl rfl ?_
  refine xe_callV (As := [.int (nI (t))]) (rest := []) dX10_drop_2 wX10_isTable lX10_107 iX10_isTable sX10_isTable ⟨by decide, by decide⟩ sh172 rfl (xin_mm (by decide)) rfl rfl (by simp [Value.category]) (xC.pure (v := .int (xb (0 < cols))) (qX10_isTable u t n cols ht hcols hn v1 v2) ?_)
  refine xb_if_eq 20 dX10_drop_5 (by decide) (fun c1 => ?_) (fun c1 => ?_)
  · refine xe_iconst (v := -1) dX10_drop_20 xcm1 ?_
    refine xe_istore (L2 := [(0, .ref 172), (1, .int (nI (t))), (2, .int (a)), (3, .int (b)), (4, .int (c)), (5, .int (-1))]) dX10_drop_21 (by decide) rfl ?_
    refine xE.sub [0, 1, 5] rfl ?_
    exact k1 c1
  · refine xe_aload_n 0 dX10_drop_8 rfl rfl ?_
    refine xe_iload_n 1 dX10_drop_9 rfl rfl ?_
    refine xe_iload_n 2 dX10_drop_10 rfl rfl ?_
    refine xe_iload_n 3 dX10_drop_11 rfl rfl ?_
    refine xe_iload 4 dX10_drop_12 rfl ?_
    refine xe_callV (As := [.int (nI (t)), .int (a), .int (b), .int (c)]) (rest := []) dX10_drop_14 wX10_find lX10_111 iX10_find sX10_find ⟨by decide, by decide⟩ sh172 rfl (xin_mm (by decide)) rfl rfl (by simp [Value.category]) (xC.pure (v := .int (f)) (hf) ?_)
    refine xe_goto 21 dX10_drop_17 (by decide) ?_
    refine xe_istore (L2 := [(0, .ref 172), (1, .int (nI (t))), (2, .int (a)), (3, .int (b)), (4, .int (c)), (5, .int (f))]) dX10_drop_21 (by decide) rfl ?_
    refine xE.sub [0, 1, 5] rfl ?_
    exact k2 c1

theorem gX10_drop_23 (u : xU) (t n cols : Nat) (p : Nat) {Q : Option Value → xM → Prop} (ht : t < 8) (hcols : cols ≤ 3) (hn : n ≤ 40) (hp : p < n) (v1 : u.1 173 t = nI (cols)) (v2 : u.1 174 t = nI (n))
    (k1 : ¬ (nI (p)) = (-1) → xE mX10_drop 45 [(0, .ref 172), (1, .int (nI (t))), (6, .int (nI (p)))] [] (xmm (wi u 174 t (nI (n - 1)))) Q)
    (k2 : (nI (p)) = (-1) → Q (some (.int (nI (0)))) (xmm u)) : xE mX10_drop 23 [(0, .ref 172), (1, .int (nI (t))), (5, .int (nI (p)))] [] (xmm u) Q := by
  refine xe_iload 2 dX10_drop_23 rfl ?_
  refine xe_iconst (v := -1) dX10_drop_25 xcm1 ?_
  refine xe_icmp_ne 31 dX10_drop_26 (by decide) (fun c1 => ?_) (fun c1 => ?_)
  · refine xe_aload_n 0 dX10_drop_31 rfl rfl ?_
    refine xr_getR (b := 174) dX10_drop_32 fX10_13 rfl sh172 (by decide) rfl ?_
    refine xe_iload_n 1 dX10_drop_35 rfl rfl ?_
    refine xe_dup2 dX10_drop_36 rfl rfl ?_
    refine xr_iald (k := t) (v := nI (n)) dX10_drop_37 sh174 (by decide) (by omega) (by decide) v2 ?_
    refine xe_iconst (v := nI (1)) dX10_drop_38 xc1 ?_
    refine xn_isub dX10_drop_39 (by omega) ?_
    refine xr_iast (k := t) dX10_drop_40 sh174 (by decide) (by omega) (by decide) ?_
    refine xe_iload 2 dX10_drop_41 rfl ?_
    refine xe_istore (L2 := [(0, .ref 172), (1, .int (nI (t))), (5, .int (nI (p))), (6, .int (nI (p)))]) dX10_drop_43 (by decide) rfl ?_
    refine xE.sub [0, 1, 3] rfl ?_
    exact k1 c1
  · refine xe_iconst (v := nI (0)) dX10_drop_29 xc0 ?_
    exact xe_ret (r := (some (.int (nI (0))))) dX10_drop_30 (Or.inl rfl) (k2 c1)

theorem gX10_drop_45 (u : xU) (t n cols : Nat) (k : Nat) {Q : Option Value → xM → Prop} (ht : t < 8) (hn : n < 40) (hk : k ≤ n) (v1 : u.1 174 t = nI (n))
    (k1 : n ≤ k → Q (some (.int (nI (1)))) (xmm u))
    (k2 : ¬ n ≤ k → xC mX10_moves [.ref 172, .int (nI (t)), .int (nI (k + 1)), .int (nI (k))] (xmm u) (fun r μ1 => xE mX10_drop 67 [(0, .ref 172), (1, .int (nI (t))), (6, .int (nI (k)))] (r.toList ++ []) μ1 Q)) : xE mX10_drop 45 [(0, .ref 172), (1, .int (nI (t))), (6, .int (nI (k)))] [] (xmm u) Q := by
  refine xe_iload 2 dX10_drop_45 rfl ?_
  refine xe_aload_n 0 dX10_drop_47 rfl rfl ?_
  refine xr_getR (b := 174) dX10_drop_48 fX10_13 rfl sh172 (by decide) rfl ?_
  refine xe_iload_n 1 dX10_drop_51 rfl rfl ?_
  refine xr_iald (k := t) (v := nI (n)) dX10_drop_52 sh174 (by decide) (by omega) (by decide) v1 ?_
  refine xn_icmp_ge 73 dX10_drop_53 (by decide) (by omega) (by omega) (fun c1 => ?_) (fun c1 => ?_)
  · refine xe_iconst (v := nI (1)) dX10_drop_73 xc1 ?_
    exact xe_ret (r := (some (.int (nI (1))))) dX10_drop_74 (Or.inr rfl) (k1 c1)
  · refine xe_aload_n 0 dX10_drop_56 rfl rfl ?_
    refine xe_iload_n 1 dX10_drop_57 rfl rfl ?_
    refine xe_iload 2 dX10_drop_58 rfl ?_
    refine xe_iconst (v := nI (1)) dX10_drop_60 xc1 ?_
    refine xn_iadd dX10_drop_61 ?_
    refine xe_iload 2 dX10_drop_62 rfl ?_
    refine xe_callV (As := [.int (nI (t)), .int (nI (k + 1)), .int (nI (k))]) (rest := []) dX10_drop_64 wX10_moves lX10_115 iX10_moves sX10_moves ⟨by decide, by decide⟩ sh172 rfl (xin_mm (by decide)) rfl rfl (by simp [Value.category]) ?_
    exact k2 c1


theorem gX10_put_78 (u : xU) (t i : Nat) (a b c : Int32) {Q : Option Value → xM → Prop} (hi : 1 ≤ i) 
    (k1 : xE mX10_put 46 [(0, .ref 172), (1, .int (nI (t))), (2, .int (a)), (3, .int (b)), (4, .int (c)), (5, .int (nI (i - 1)))] [] (xmm u) Q) : xE mX10_put 78 [(0, .ref 172), (1, .int (nI (t))), (2, .int (a)), (3, .int (b)), (4, .int (c)), (5, .int (nI (i)))] [] (xmm u) Q := by
  refine xn_idec (L2 := [(0, .ref 172), (1, .int (nI (t))), (2, .int (a)), (3, .int (b)), (4, .int (c)), (5, .int (nI (i - 1)))]) 5 dX10_put_78 rfl (by omega) (by decide) rfl ?_
  refine xe_goto 46 dX10_put_81 (by decide) ?_
  exact k1

theorem gX10_drop_67 (u : xU) (t k : Nat) {Q : Option Value → xM → Prop}  
    (k1 : xE mX10_drop 45 [(0, .ref 172), (1, .int (nI (t))), (6, .int (nI (k + 1)))] [] (xmm u) Q) : xE mX10_drop 67 [(0, .ref 172), (1, .int (nI (t))), (6, .int (nI (k)))] [] (xmm u) Q := by
  refine xn_iinc (c := 1) (L2 := [(0, .ref 172), (1, .int (nI (t))), (6, .int (nI (k + 1)))]) 2 dX10_drop_67 rfl (by decide) rfl ?_
  refine xe_goto 45 dX10_drop_70 (by decide) ?_
  exact k1

/-- what a method of the model's tables leaves alone -/
def frM (u u' : xU) : Prop := (∀ x, x ≠ 173 → x ≠ 174 → x ≠ 175 → u'.1 x = u.1 x) ∧ u'.2 = u.2
theorem frM.rf {u : xU} : frM u u := ⟨fun _ _ _ _ => rfl, rfl⟩
def pM (u : xU) (v : Value) (T' : TBL) : Option Value → xM → Prop := fun r μ' => ∃ u', μ' = xmm u' ∧ r = some v ∧ MT T' u' ∧ frM u u'
/-- the loop of put: rows from i on have moved by one -/
def pushed (T : TBL) (u v : xU) (t i : Nat) : Prop := (∀ j c, j < i → c < T.1 t → v.1 175 (120 * t + 3 * j + c) = T.2.2 t j c) ∧ (∀ j c, i < j → j ≤ T.2.1 t → c < T.1 t → v.1 175 (120 * t + 3 * j + c) = T.2.2 t (j - 1) c) ∧ (∀ x, ¬ (120 * t ≤ x ∧ x < 120 * t + 120) → v.1 175 x = u.1 175 x) ∧ (∀ a, a ≠ 175 → v.1 a = u.1 a) ∧ v.2 = u.2
theorem mput_in {u : xU} {T : TBL} (hT : TI T) (h : MT T u) (t : Nat) (a b c : Int32) (ht : t < 8) (h0 : T.1 t ≠ 0) : xC mX10_put [.ref 172, .int (nI t), .int a, .int b, .int c] (xmm u) (pM u (.int (tPut T t (nrm (T.1 t) a b c)).1) (tPut T t (nrm (T.1 t) a b c)).2) := by
  obtain ⟨h1, h2, h3⟩ := h t ht
  obtain ⟨i1, i2, i3, i4, i5⟩ := hT t ht
  have hfin := qX10_find hT h t a b c ht h0
  have hnr : ∀ j, j < T.1 t → nrm (T.1 t) a b c j = if j = 0 then a else if j = 1 then b else c := fun j hj => nrm_at hj i1
  generalize hr : nrm (T.1 t) a b c = r at hfin hnr
  have sle : tpos T t r ≤ T.2.1 t := cntlt_le (T.2.2 t) r (T.2.1 t)
  refine xC.of xpl10 (Nat.le_of_ble_eq_true rfl) (gX10_put_0 u t (T.2.1 t) (T.1 t) a b c (tFind T t r) ht i1 i2 hfin h1 h2 (fun q z y => ?_) (fun q z y => ?_) (fun q z => ?_) (fun q => by omega))
  · have hh : ¬ tHas T t r = true := fun x => by
      unfold tFind at z
      rw [if_pos x] at z
      have := congrArg Int32.toInt z
      rw [nI_toI (by omega), show (-1 : Int32).toInt = -1 from by decide] at this
      omega
    have e : tPut T t r = (1, tIns T t r) := by
      unfold tPut
      rw [if_neg hh, if_neg (by omega)]
    rw [e]
    obtain ⟨s1, s2⟩ := cntlt_sorted (r := r) i5
    have hp : cntlt (T.2.2 t) r (T.2.1 t) = tpos T t r := rfl
    rw [hp] at s1 s2
    have s3 : ∀ i, tpos T t r ≤ i → i < T.2.1 t → 0 < rcmp (T.2.2 t i) r := fun i x y => by
      rw [rcmp_gt]
      rcases rtri (T.2.2 t i) r with w | w | w
      · exact absurd w (s2 i x y)
      · exact absurd (tpos_req hT ht y (rcmp_eq.mpr w)).2 hh
      · exact w
    have fin : ∀ v : xU, pushed T u v t (tpos T t r) → pM u (.int 1) (tIns T t r) (some (.int (nI (1)))) (xmm (wi (wi (wi (wi v 175 ((120 * t) + (3 * tpos T t r)) (a)) 175 (((120 * t) + (3 * tpos T t r)) + 1) (b)) 175 (((120 * t) + (3 * tpos T t r)) + 2) (c)) 174 t (nI (T.2.1 t + 1)))) := by
      intro v ⟨p1, p2, p3, p4, p5⟩
      refine ⟨_, rfl, rfl, fun k hk => ?_, ⟨fun x x1 x2 x3 => ?_, p5⟩⟩
      · by_cases hkt : k = t
        · subst hkt
          simp only [tIns, setT_at]
          generalize tpos T k r = p at *
          refine ⟨?_, wi_self, fun i j hi hj => ?_⟩
          · rw [wi_ne (by omega), wi_ne (by omega), wi_ne (by omega), wi_ne (by omega), p4 _ (by omega)]
            exact h1
          · rw [wi_ne (by omega)]
            simp only [wi_app, true_and]
            unfold insX
            by_cases q1 : i < p
            · rw [if_pos q1, if_neg (by omega), if_neg (by omega), if_neg (by omega)]
              exact p1 i j q1 hj
            · rw [if_neg q1]
              by_cases q2 : i = p
              · rw [if_pos q2, hnr j hj, q2]
                rcases (by omega : j = 0 ∨ j = 1 ∨ j = 2) with rfl | rfl | rfl
                · rw [if_neg (by omega), if_neg (by omega), if_pos (by omega), if_pos rfl]
                · rw [if_neg (by omega), if_pos (by omega), if_neg (by omega), if_pos rfl]
                · rw [if_pos (by omega), if_neg (by omega), if_neg (by omega)]
              · rw [if_neg q2, if_neg (by omega), if_neg (by omega), if_neg (by omega)]
                exact p2 i j (by omega) (by omega) hj
        · simp only [tIns, setT_ne hkt]
          obtain ⟨g1, g2, g3⟩ := h k hk
          refine ⟨?_, ?_, fun i j hi hj => ?_⟩
          · rw [wi_ne (by omega), wi_ne (by omega), wi_ne (by omega), wi_ne (by omega), p4 _ (by omega)]
            exact g1
          · rw [wi_nek hkt, wi_ne (by omega), wi_ne (by omega), wi_ne (by omega), p4 _ (by omega)]
            exact g2
          · have i2' := (hT k hk).2.1
            have i1' := (hT k hk).1
            rw [wi_ne (by omega), wi_nek (by omega), wi_nek (by omega), wi_nek (by omega), p3 _ (by omega)]
            exact g3 i j hi hj
      · rw [wi_row x2, wi_row x3, wi_row x3, wi_row x3, p4 x x3]
    have loop : ∀ d i (v : xU), i - tpos T t r = d → tpos T t r ≤ i → i ≤ T.2.1 t → pushed T u v t i → xE mX10_put 46 [(0, .ref 172), (1, .int (nI (t))), (2, .int (a)), (3, .int (b)), (4, .int (c)), (5, .int (nI (i)))] [] (xmm v) (pM u (.int 1) (tIns T t r)) := by
      intro d
      induction d with
      | zero =>
        intro i v hd hi hin hv
        obtain rfl : i = tpos T t r := by omega
        have hvv := hv
        obtain ⟨p1, p2, p3, p4, p5⟩ := hv
        refine gX10_put_46 v t (T.2.1 t) (T.1 t) _ a b c (rcmp (T.2.2 t (tpos T t r - 1)) r) ht (by omega) hin (fun q => ?_) (by rw [p4 _ (by omega)]; exact h2) (fun q => fin v hvv) (fun q z => fin v hvv) (fun q z => ?_)
        · have := against_n hT ht h0 (i := tpos T t r - 1) (by omega) (by rw [p4 _ (by omega)]; exact h1) (fun j hj => p1 _ j (by omega) hj) a b c
          rw [hr] at this
          exact this
        · exact absurd (rcmp_gt.mp (Int32.not_le.mp z)) (fun w => rlt_irr w (s1 _ (by omega)))
      | succ d ih =>
        intro i v hd hi hin hv
        have hvv := hv
        obtain ⟨p1, p2, p3, p4, p5⟩ := hv
        refine gX10_put_46 v t (T.2.1 t) (T.1 t) _ a b c (rcmp (T.2.2 t (i - 1)) r) ht (by omega) hin (fun q => ?_) (by rw [p4 _ (by omega)]; exact h2) (fun q => by omega) (fun q z => ?_) (fun q z => ?_)
        · have := against_n hT ht h0 (i := i - 1) (by omega) (by rw [p4 _ (by omega)]; exact h1) (fun j hj => p1 _ j (by omega) hj) a b c
          rw [hr] at this
          exact this
        · have := s3 (i - 1) (by omega) (by omega)
          exact absurd z (Int32.not_le.mpr this)
        · refine (qX10_moves v t (i - 1) i ht (by omega) (by omega) (by omega)).mono ?_
          rintro r0 μ1 ⟨v', rfl, rfl, m1, m2, m3, m4⟩
          refine gX10_put_78 v' t i a b c (by omega) ?_
          refine ih (i - 1) v' (by omega) (by omega) (by omega) ⟨fun j c hj hc => ?_, fun j c hj hj2 hc => ?_, fun x hx => ?_, fun x hx => (m3 x hx).trans (p4 x hx), m4.trans p5⟩
          · rw [m2 _ (by omega)]
            exact p1 j c (by omega) hc
          · by_cases hji : j = i
            · subst hji
              rw [m1 c (by omega)]
              exact p1 (j - 1) c (by omega) hc
            · rw [m2 _ (by omega)]
              exact p2 j c (by omega) hj2 hc
          · rw [m2 _ (by omega)]
            exact p3 x hx
    exact loop _ (T.2.1 t) u rfl sle (Nat.le_refl _) ⟨fun j c hj hc => h3 j c hj hc, fun j c hj hj2 hc => by omega, fun x _ => rfl, fun x _ => rfl, rfl⟩
  · have hh : ¬ tHas T t r = true := fun x => by
      unfold tFind at z
      rw [if_pos x] at z
      have := congrArg Int32.toInt z
      rw [nI_toI (by omega), show (-1 : Int32).toInt = -1 from by decide] at this
      omega
    have e : tPut T t r = (-1, T) := by
      unfold tPut
      rw [if_neg hh, if_pos (by omega)]
    rw [e]
    exact ⟨u, rfl, rfl, h, frM.rf⟩
  · have hh : tHas T t r = true := Classical.byContradiction fun x => by
      unfold tFind at z
      rw [if_neg x] at z
      exact z rfl
    have e : tPut T t r = (0, T) := by
      unfold tPut
      rw [if_pos hh]
    rw [e]
    exact ⟨u, rfl, rfl, h, frM.rf⟩

