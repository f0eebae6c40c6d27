def CPq (T : TBL) (Q : QST) (p : Nat) (u : xU) : Prop := CP p (qK Q p) (qTb Q p) (qL Q p) (qM Q p) (qV Q p) (qDue T Q p) u
theorem CPq_congr {T : TBL} {Q Q' : QST} {p : Nat} {u : xU} (h : CPq T Q p u) (eK : qK Q' p = qK Q p) (eO : qOf Q' p = qOf Q p) (eL : qL Q' p = qL Q p) (eM : qM Q' p = qM Q p) (eV : qV Q' p = qV Q p) : CPq T Q' p u := by
  unfold CPq qTb qDue at *
  rw [eK, eO, eL, eM, eV]
  exact h
theorem CQ_push {T : TBL} {Q : QST} {u u' : xU} {kd o l : Nat} {m : Nat → Option Nat} {v : Nat → Int32} (h : CQ T Q u) (hc : CP (qP Q) kd (if kd ≤ 1 then nI o else -1) l m v (if kd ≤ 1 then T.1 o else 2) u') (e0 : u'.1 3 0 = nI (qN Q)) (e1 : u'.1 3 1 = nI (qP Q + 1)) (e2 : u'.1 3 4 = nI (hasN (qK Q) (qP Q) + if kd = 0 then 1 else 0)) (h5 : u'.1 5 = u.1 5) (hf : ∀ x, 6 ≤ x → x < 6 + 4 * qP Q → u'.1 x = u.1 x) : CQ T (pushQ Q kd o l m v) u' := by
  refine ⟨e0, e1, ?_, fun i hi => by rw [h5]; exact h.2.2.2.1 i hi, fun p hp => ?_⟩
  · rw [e2]
    show _ = nI (hasN (setT (qK Q) (qP Q) kd) (qP Q) + if setT (qK Q) (qP Q) kd (qP Q) = 0 then 1 else 0)
    rw [setT_at, hasN_congr (f := setT (qK Q) (qP Q) kd) (g := qK Q) (fun i hi => setT_ne (by omega))]
  · by_cases hpn : p = qP Q
    · subst hpn
      show CP (qP Q) (setT (qK Q) (qP Q) kd (qP Q)) (if setT (qK Q) (qP Q) kd (qP Q) ≤ 1 then nI (setT (qOf Q) (qP Q) o (qP Q)) else -1) (setT (qL Q) (qP Q) l (qP Q)) (setT (qM Q) (qP Q) m (qP Q)) (setT (qV Q) (qP Q) v (qP Q)) (if setT (qK Q) (qP Q) kd (qP Q) ≤ 1 then T.1 (setT (qOf Q) (qP Q) o (qP Q)) else 2) u'
      simp only [setT_at]
      exact hc
    · have hlt : p < qP Q := by
        have : p < qP Q + 1 := hp
        omega
      exact CPq_congr (Q := Q) ((h.2.2.2.2 p hlt).keep (fun x a b => hf x (by omega) (by omega))) (setT_ne hpn) (setT_ne hpn) (setT_ne hpn) (setT_ne hpn) (setT_ne hpn)
theorem QI_push {T : TBL} {Q : QST} {kd o l : Nat} {m : Nat → Option Nat} {v : Nat → Int32} (h : QI T Q) (hp : qP Q < 10) (hn : qN Q ≠ 0) (hkd : kd ≤ 3) (hh : kd = 0 → hasN (qK Q) (qP Q) < 5) (h1 : kd ≤ 1 → o < 8 ∧ T.1 o ≠ 0 ∧ l ≤ T.1 o) (h2 : 2 ≤ kd → l = 2 ∧ m 0 ≠ none) (h3 : ∀ i, i < l → ∀ k, m i = some k → k < qN Q) : QI T (pushQ Q kd o l m v) := by
  obtain ⟨q1, q2, q3, q4, q5, q6, q7, q8⟩ := h
  refine ⟨q1, by show qP Q + 1 ≤ 10; omega, ?_, fun z => absurd z hn, fun p hpl => ?_, q6, q7, q8⟩
  · show hasN (setT (qK Q) (qP Q) kd) (qP Q) + (if setT (qK Q) (qP Q) kd (qP Q) = 0 then 1 else 0) ≤ 5
    rw [setT_at, hasN_congr (f := setT (qK Q) (qP Q) kd) (g := qK Q) (fun i hi => setT_ne (by omega))]
    split
    · rename_i z
      have := hh z
      omega
    · omega
  · show setT (qK Q) (qP Q) kd p ≤ 3 ∧ (setT (qK Q) (qP Q) kd p ≤ 1 → setT (qOf Q) (qP Q) o p < 8 ∧ T.1 (setT (qOf Q) (qP Q) o p) ≠ 0 ∧ setT (qL Q) (qP Q) l p ≤ T.1 (setT (qOf Q) (qP Q) o p)) ∧ (2 ≤ setT (qK Q) (qP Q) kd p → setT (qL Q) (qP Q) l p = 2 ∧ setT (qM Q) (qP Q) m p 0 ≠ none) ∧ ∀ i, i < setT (qL Q) (qP Q) l p → ∀ k, setT (qM Q) (qP Q) m p i = some k → k < qN Q
    by_cases hpn : p = qP Q
    · subst hpn
      simp only [setT_at]
      exact ⟨hkd, h1, h2, h3⟩
    · have hlt : p < qP Q := by
        have : p < qP Q + 1 := hpl
        omega
      simp only [setT_ne hpn]
      exact q5 p hlt
theorem CQ_pl {T : TBL} {Q : QST} {u u' : xU} {o : Option Nat} {v : Int32} (h : CQ T Q u) (h0 : qP Q ≠ 0) (hp : qP Q ≤ 10) (hc : CP (qP Q - 1) (qK Q (qP Q - 1)) (qTb Q (qP Q - 1)) (qL Q (qP Q - 1) + 1) (setT (qM Q (qP Q - 1)) (qL Q (qP Q - 1)) o) (setT (qV Q (qP Q - 1)) (qL Q (qP Q - 1)) v) (qDue T Q (qP Q - 1)) u') (hf : frP (qP Q - 1) u u') : CQ T (plQ Q o v) u' := by
  obtain ⟨c1, c2, c3, c4, c5⟩ := h
  refine ⟨by rw [hf.1 3 (by omega)]; exact c1, by rw [hf.1 3 (by omega)]; exact c2, by rw [hf.1 3 (by omega)]; exact c3, fun i hi => by rw [hf.1 5 (by omega)]; exact c4 i hi, fun p hpl => ?_⟩
  by_cases hpn : p = qP Q - 1
  · subst hpn
    show CP (qP Q - 1) (qK Q (qP Q - 1)) (qTb Q (qP Q - 1)) (setT (qL Q) (qP Q - 1) (qL Q (qP Q - 1) + 1) (qP Q - 1)) (setT (qM Q) (qP Q - 1) (setT (qM Q (qP Q - 1)) (qL Q (qP Q - 1)) o) (qP Q - 1)) (setT (qV Q) (qP Q - 1) (setT (qV Q (qP Q - 1)) (qL Q (qP Q - 1)) v) (qP Q - 1)) (qDue T Q (qP Q - 1)) u'
    simp only [setT_at]
    exact hc
  · exact CPq_congr (Q := Q) ((c5 p hpl).keep (fun x a b => hf.1 x (by omega))) rfl rfl (setT_ne hpn) (setT_ne hpn) (setT_ne hpn)
theorem opn_t {T : TBL} {Q : QST} (h : opn T Q = true) : qP Q ≠ 0 ∧ qK Q (qP Q - 1) ≤ 1 ∧ qL Q (qP Q - 1) < T.1 (qOf Q (qP Q - 1)) := by
  simp only [opn, Bool.and_eq_true, decide_eq_true_eq] at h
  exact ⟨h.1.1, h.1.2, h.2⟩
theorem QI_pl {T : TBL} {Q : QST} {o : Option Nat} {v : Int32} (h : QI T Q) (ho : opn T Q = true) (hk : ∀ k, o = some k → k < qN Q) : QI T (plQ Q o v) := by
  obtain ⟨q1, q2, q3, q4, q5, q6⟩ := h
  obtain ⟨o1, o2, o3⟩ := opn_t ho
  refine ⟨q1, q2, q3, q4, fun p hp => ?_, q6⟩
  show qK Q p ≤ 3 ∧ (qK Q p ≤ 1 → qOf Q p < 8 ∧ T.1 (qOf Q p) ≠ 0 ∧ setT (qL Q) (qP Q - 1) (qL Q (qP Q - 1) + 1) p ≤ T.1 (qOf Q p)) ∧ (2 ≤ qK Q p → setT (qL Q) (qP Q - 1) (qL Q (qP Q - 1) + 1) p = 2 ∧ setT (qM Q) (qP Q - 1) (setT (qM Q (qP Q - 1)) (qL Q (qP Q - 1)) o) p 0 ≠ none) ∧ ∀ i, i < setT (qL Q) (qP Q - 1) (qL Q (qP Q - 1) + 1) p → ∀ k, setT (qM Q) (qP Q - 1) (setT (qM Q (qP Q - 1)) (qL Q (qP Q - 1)) o) p i = some k → k < qN Q
  have g := q5 p hp
  by_cases hpn : p = qP Q - 1
  · subst hpn
    simp only [setT_at]
    refine ⟨g.1, fun z => ⟨(g.2.1 z).1, (g.2.1 z).2.1, by omega⟩, fun z => by omega, fun i hi k hk' => ?_⟩
    by_cases e : i = qL Q (qP Q - 1)
    · rw [e, setT_at] at hk'
      exact hk k hk'
    · rw [setT_ne e] at hk'
      exact g.2.2.2 i (by omega) k hk'
  · simp only [setT_ne hpn]
    exact g
def pQ (T : TBL) (u : xU) (v : Option Value) (Q' : QST) : Option Value → xM → Prop := fun r μ' => ∃ u', μ' = xmm u' ∧ r = v ∧ CQ T Q' u' ∧ frQ u u'
theorem frQ_P {p : Nat} {u u' : xU} (hp : p < 10) (h : frP p u u') : frQ u u' := ⟨fun x _ _ hx => h.1 x (by omega), h.2⟩

theorem gX4_addComparison_25 (u : xU) (nn n hc : Nat) (b v x : Int32) {Q : Option Value → xM → Prop} (hnn : nn ≤ 6) (hn : n < 10) (hhc : hc ≤ 5) (v1 : u.1 3 0 = nI (nn)) (v2 : u.1 3 1 = nI (n)) (v3 : u.1 3 4 = nI (hc))
    (k1 : b = 0 → xC mX3_addTold [.ref (6 + 4 * n), .int (v)] (xmm u) (fun r μ1 => xE mX4_addComparison 48 [(0, .ref 3)] (r.toList ++ []) μ1 Q))
    (k2 : ¬ b = 0 → xC mX3_addName [.ref (6 + 4 * n), .int (v)] (xmm u) (fun r μ1 => xE mX4_addComparison 37 [(0, .ref 3)] (r.toList ++ []) μ1 Q)) : xE mX4_addComparison 25 [(0, .ref 3), (3, .int (b)), (4, .int (v)), (5, .ref (6 + 4 * n))] [.int (x)] (xmm u) Q := by
  refine xe_pop dX4_addComparison_25 rfl ?_
  refine xe_iload_n 1 dX4_addComparison_26 rfl rfl ?_
  refine xe_if_eq 41 dX4_addComparison_27 (by decide) (fun c1 => ?_) (fun c1 => ?_)
  · refine xe_aload 3 dX4_addComparison_41 rfl ?_
    refine xe_iload 2 dX4_addComparison_43 rfl ?_
    refine xE.sub [0] rfl ?_
    refine xe_callV (As := [.int (v)]) (rest := []) dX4_addComparison_45 wX3_addTold lX4_47 iX3_addTold sX3_addTold ⟨by decide, by decide⟩ (shP _ (by omega)) rfl (xin_mm (by omega)) rfl rfl (by simp [Value.category]) ?_
    exact k1 c1
  · refine xe_aload 3 dX4_addComparison_30 rfl ?_
    refine xe_iload 2 dX4_addComparison_32 rfl ?_
    refine xE.sub [0] rfl ?_
    refine xe_callV (As := [.int (v)]) (rest := []) dX4_addComparison_34 wX3_addName lX4_43 iX3_addName sX3_addName ⟨by decide, by decide⟩ (shP _ (by omega)) rfl (xin_mm (by omega)) rfl rfl (by simp [Value.category]) ?_
    exact k2 c1

theorem gX4_addComparison_37 (u : xU) (nn n hc : Nat) (x : Int32) {Q : Option Value → xM → Prop} (hnn : nn ≤ 6) (hn : n < 10) (hhc : hc ≤ 5) (v1 : u.1 3 0 = nI (nn)) (v2 : u.1 3 1 = nI (n)) (v3 : u.1 3 4 = nI (hc))
    (k1 : Q (some (.int (nI ((n + 1) - 1)))) (xmm (wi u 3 1 (nI (n + 1))))) : xE mX4_addComparison 37 [(0, .ref 3)] [.int (x)] (xmm u) Q := by
  refine xe_pop dX4_addComparison_37 rfl ?_
  refine xe_goto 49 dX4_addComparison_38 (by decide) ?_
  refine xe_aload_n 0 dX4_addComparison_49 rfl rfl ?_
  refine xe_dup dX4_addComparison_50 rfl ?_
  refine xr_getI (v := nI (n)) dX4_addComparison_51 fX4_26 sh3 (by decide) v2 ?_
  refine xe_iconst (v := nI (1)) dX4_addComparison_54 xc1 ?_
  refine xn_iadd dX4_addComparison_55 ?_
  refine xr_putI dX4_addComparison_56 fX4_26 sh3 (by decide) ?_
  refine xe_aload_n 0 dX4_addComparison_59 rfl rfl ?_
  refine xr_getI (v := nI (n + 1)) dX4_addComparison_60 fX4_26 sh3 (by decide) wi_self ?_
  refine xe_iconst (v := nI (1)) dX4_addComparison_63 xc1 ?_
  refine xn_isub dX4_addComparison_64 (by omega) ?_
  exact xe_ret (r := (some (.int (nI ((n + 1) - 1))))) dX4_addComparison_65 trivial (k1)

theorem gX4_addComparison_48 (u : xU) (nn n hc : Nat) (x : Int32) {Q : Option Value → xM → Prop} (hnn : nn ≤ 6) (hn : n < 10) (hhc : hc ≤ 5) (v1 : u.1 3 0 = nI (nn)) (v2 : u.1 3 1 = nI (n)) (v3 : u.1 3 4 = nI (hc))
    (k1 : Q (some (.int (nI ((n + 1) - 1)))) (xmm (wi u 3 1 (nI (n + 1))))) : xE mX4_addComparison 48 [(0, .ref 3)] [.int (x)] (xmm u) Q := by
  refine xe_pop dX4_addComparison_48 rfl ?_
  refine xe_aload_n 0 dX4_addComparison_49 rfl rfl ?_
  refine xe_dup dX4_addComparison_50 rfl ?_
  refine xr_getI (v := nI (n)) dX4_addComparison_51 fX4_26 sh3 (by decide) v2 ?_
  refine xe_iconst (v := nI (1)) dX4_addComparison_54 xc1 ?_
  refine xn_iadd dX4_addComparison_55 ?_
  refine xr_putI dX4_addComparison_56 fX4_26 sh3 (by decide) ?_
  refine xe_aload_n 0 dX4_addComparison_59 rfl rfl ?_
  refine xr_getI (v := nI (n + 1)) dX4_addComparison_60 fX4_26 sh3 (by decide) wi_self ?_
  refine xe_iconst (v := nI (1)) dX4_addComparison_63 xc1 ?_
  refine xn_isub dX4_addComparison_64 (by omega) ?_
  exact xe_ret (r := (some (.int (nI ((n + 1) - 1))))) dX4_addComparison_65 trivial (k1)

theorem gX4_open_0 (u : xU) (k : Nat) {Q : Option Value → xM → Prop}  
    (k1 : xE mX4_open 17 [(0, .ref 3), (2, .int (nI (0)))] [] (xmm (wi (wi (wi u 3 0 (nI (k))) 3 1 (nI (0))) 3 4 (nI (0)))) Q) : xE mX4_open 0 [(0, .ref 3), (1, .int (nI (k)))] [] (xmm u) Q := by
  refine xe_aload_n 0 dX4_open_0 rfl rfl ?_
  refine xe_iload_n 1 dX4_open_1 rfl rfl ?_
  refine xr_putI dX4_open_2 fX4_22 sh3 (by decide) ?_
  refine xe_aload_n 0 dX4_open_5 rfl rfl ?_
  refine xe_iconst (v := nI (0)) dX4_open_6 xc0 ?_
  refine xr_putI dX4_open_7 fX4_26 sh3 (by decide) ?_
  refine xe_aload_n 0 dX4_open_10 rfl rfl ?_
  refine xe_iconst (v := nI (0)) dX4_open_11 xc0 ?_
  refine xr_putI dX4_open_12 fX4_29 sh3 (by decide) ?_
  refine xe_iconst (v := nI (0)) dX4_open_15 xc0 ?_
  refine xe_istore_n (L2 := [(0, .ref 3), (1, .int (nI (k))), (2, .int (nI (0)))]) dX4_open_16 rfl (by decide) rfl ?_
  refine xE.sub [0, 2] rfl ?_
  exact k1

theorem gX4_open_17 (u : xU) (i : Nat) {Q : Option Value → xM → Prop} (hi : i ≤ 6) 
    (k1 : 6 ≤ i → Q none (xmm u))
    (k2 : ¬ 6 ≤ i → xE mX4_open 17 [(0, .ref 3), (2, .int (nI (i + 1)))] [] (xmm (wi u 5 i (nI (i)))) Q) : xE mX4_open 17 [(0, .ref 3), (2, .int (nI (i)))] [] (xmm u) Q := by
  refine xe_iload_n 1 dX4_open_17 rfl rfl ?_
  refine xe_bipush (v := nI (6)) dX4_open_18 xcb6 ?_
  refine xn_icmp_ge 36 dX4_open_20 (by decide) (by omega) (by omega) (fun c1 => ?_) (fun c1 => ?_)
  · exact xe_ret (r := none) dX4_open_36 trivial (k1 c1)
  · refine xe_aload_n 0 dX4_open_23 rfl rfl ?_
    refine xr_getR (b := 5) dX4_open_24 fX4_17 rfl sh3 (by decide) rfl ?_
    refine xe_iload_n 1 dX4_open_27 rfl rfl ?_
    refine xe_iload_n 1 dX4_open_28 rfl rfl ?_
    refine xr_iast (k := i) dX4_open_29 sh5 (by decide) (by omega) (by decide) ?_
    refine xn_iinc (c := 1) (L2 := [(0, .ref 3), (2, .int (nI (i + 1)))]) 1 dX4_open_30 rfl (by decide) rfl ?_
    refine xe_goto 17 dX4_open_33 (by decide) ?_
    exact k2 c1

theorem gX9_openPart_R (u : xU) (p kd l due : Nat) {Q : Option Value → xM → Prop} (hp : p < 10) (hkd : kd ≤ 3) (hl : l ≤ 3) (hdue : due ≤ 3) (hlp : xC mX4_lastPart [.ref 3] (xmm u) (fun r μ1 => r = some (.ref (6 + 4 * p)) ∧ μ1 = xmm u)) (v1 : u.1 (6 + 4 * p) 0 = nI (kd)) (v2 : u.1 (6 + 4 * p) 2 = nI (l)) (v3 : u.1 (6 + 4 * p) 4 = nI (due))
    (k1 : ¬ (kd ≤ 1) → Q (some (.null)) (xmm u))
    (k2 : kd ≤ 1 → ¬ (due ≤ l) → Q (some (.ref (6 + 4 * p))) (xmm u))
    (k3 : kd ≤ 1 → due ≤ l → Q (some (.null)) (xmm u)) : xE mX9_openPart 0 [(0, .ref 1)] [] (xmm u) Q := by
  refine xe_aload_n 0 dX9_openPart_0 rfl rfl ?_
  refine xr_getR (b := 3) dX9_openPart_1 fX9_18 rfl sh1 (by decide) rfl ?_
  refine xe_callV (As := []) (rest := []) dX9_openPart_4 wX4_lastPart lX9_222 iX4_lastPart sX4_lastPart ⟨by decide, by decide⟩ sh3 rfl (xin_mm (by decide)) rfl rfl (by simp [Value.category]) (xC.pure (v := .ref (6 + 4 * p)) (hlp) ?_)
  refine xe_astore_n (L2 := [(0, .ref 1), (1, .ref (6 + 4 * p))]) dX9_openPart_7 rfl (by decide) rfl ?_
  refine xe_aload_n 1 dX9_openPart_8 rfl rfl ?_
  refine xe_ifnull_r dX9_openPart_9 ?_
  refine xe_aload_n 1 dX9_openPart_12 rfl rfl ?_
  refine xe_callV (As := []) (rest := []) dX9_openPart_13 wX3_isFact lX9_225 iX3_isFact sX3_isFact ⟨by decide, by decide⟩ (shP _ (by omega)) rfl (xin_mm (by omega)) rfl rfl (by simp [Value.category]) (xC.pure (v := .int (xb (kd ≤ 1))) (qX3_isFact u p kd (by omega) (by omega) v1) ?_)
  refine xb_if_eq 26 dX9_openPart_16 (by decide) (fun c1 => ?_) (fun c1 => ?_)
  · refine xe_null dX9_openPart_26 ?_
    refine xe_goto 31 dX9_openPart_27 (by decide) ?_
    exact xe_ret (r := (some (.null))) dX9_openPart_31 trivial (k1 c1)
  · refine xe_aload_n 1 dX9_openPart_19 rfl rfl ?_
    refine xe_callV (As := []) (rest := []) dX9_openPart_20 wX3_isFull lX9_228 iX3_isFull sX3_isFull ⟨by decide, by decide⟩ (shP _ (by omega)) rfl (xin_mm (by omega)) rfl rfl (by simp [Value.category]) (xC.pure (v := .int (xb (due ≤ l))) (qX3_isFull u p l due (by omega) (by omega) (by omega) v2 v3) ?_)
    refine xb_if_eq 30 dX9_openPart_23 (by decide) (fun c2 => ?_) (fun c2 => ?_)
    · refine xe_aload_n 1 dX9_openPart_30 rfl rfl ?_
      exact xe_ret (r := (some (.ref (6 + 4 * p)))) dX9_openPart_31 trivial (k2 c1 c2)
    · refine xe_null dX9_openPart_26 ?_
      refine xe_goto 31 dX9_openPart_27 (by decide) ?_
      exact xe_ret (r := (some (.null))) dX9_openPart_31 trivial (k3 c1 c2)

theorem gX9_openPart_Z (u : xU) {Q : Option Value → xM → Prop} (hlp : xC mX4_lastPart [.ref 3] (xmm u) (fun r μ1 => r = some .null ∧ μ1 = xmm u)) 
    (k1 : Q (some (.null)) (xmm u)) : xE mX9_openPart 0 [(0, .ref 1)] [] (xmm u) Q := by
  refine xe_aload_n 0 dX9_openPart_0 rfl rfl ?_
  refine xr_getR (b := 3) dX9_openPart_1 fX9_18 rfl sh1 (by decide) rfl ?_
  refine xe_callV (As := []) (rest := []) dX9_openPart_4 wX4_lastPart lX9_222 iX4_lastPart sX4_lastPart ⟨by decide, by decide⟩ sh3 rfl (xin_mm (by decide)) rfl rfl (by simp [Value.category]) (xC.pure (v := .null) (hlp) ?_)
  refine xe_astoreN_n (L2 := [(0, .ref 1), (1, .null)]) dX9_openPart_7 rfl (by decide) rfl ?_
  refine xe_aloadN_n 1 dX9_openPart_8 rfl rfl ?_
  refine xe_ifnull_n 26 dX9_openPart_9 (by decide) ?_
  refine xe_null dX9_openPart_26 ?_
  refine xe_goto 31 dX9_openPart_27 (by decide) ?_
  exact xe_ret (r := (some (.null))) dX9_openPart_31 trivial (k1)

theorem gX9_ask_0 (u : xU) (n : Int32) {Q : Option Value → xM → Prop}  
    (k1 : n < 1 → Q (some (.int (nI (0)))) (xmm u))
    (k2 : ¬ n < 1 → n ≤ 6 → xC mX4_open [.ref 3, .int (n)] (xmm u) (fun r μ1 => xE mX9_ask 21 [] (r.toList ++ []) μ1 Q))
    (k3 : ¬ n < 1 → ¬ n ≤ 6 → Q (some (.int (nI (0)))) (xmm u)) : xE mX9_ask 0 [(0, .ref 1), (1, .int (n))] [] (xmm u) Q := by
  refine xe_iload_n 1 dX9_ask_0 rfl rfl ?_
  refine xe_iconst (v := nI (1)) dX9_ask_1 xc1 ?_
  refine xe_icmp_lt 11 dX9_ask_2 (by decide) (fun c1 => ?_) (fun c1 => ?_)
  · refine xe_iconst (v := nI (0)) dX9_ask_11 xc0 ?_
    exact xe_ret (r := (some (.int (nI (0))))) dX9_ask_12 (Or.inl rfl) (k1 c1)
  · refine xe_iload_n 1 dX9_ask_5 rfl rfl ?_
    refine xe_bipush (v := nI (6)) dX9_ask_6 xcb6 ?_
    refine xe_icmp_le 13 dX9_ask_8 (by decide) (fun c2 => ?_) (fun c2 => ?_)
    · refine xe_aload_n 0 dX9_ask_13 rfl rfl ?_
      refine xr_getR (b := 3) dX9_ask_14 fX9_18 rfl sh1 (by decide) rfl ?_
      refine xe_iload_n 1 dX9_ask_17 rfl rfl ?_
      refine xE.sub [] rfl ?_
      refine xe_callV (As := [.int (n)]) (rest := []) dX9_ask_18 wX4_open lX9_93 iX4_open sX4_open ⟨by decide, by decide⟩ sh3 rfl (xin_mm (by decide)) rfl rfl (by simp [Value.category]) ?_
      exact k2 c1 c2
    · refine xe_iconst (v := nI (0)) dX9_ask_11 xc0 ?_
      exact xe_ret (r := (some (.int (nI (0))))) dX9_ask_12 (Or.inl rfl) (k3 c1 c2)

theorem gX9_ask_21 (u : xU) {Q : Option Value → xM → Prop}  
    (k1 : Q (some (.int (nI (1)))) (xmm u)) : xE mX9_ask 21 [] [] (xmm u) Q := by
  refine xe_iconst (v := nI (1)) dX9_ask_21 xc1 ?_
  exact xe_ret (r := (some (.int (nI (1))))) dX9_ask_22 (Or.inr rfl) (k1)

theorem gX9_table_I (u : xU) (t c : Int32) (ea : Bool) {Q : Option Value → xM → Prop} (has : ∀ x, xC mX4_asksOf [.ref 3, .int x] (xmm u) (fun r μ' => r = some (.int (xb (ea = true))) ∧ μ' = xmm u)) 
    (k1 : t < 0 → Q (some (.int (nI (0)))) (xmm u))
    (k2 : ¬ t < 0 → 8 ≤ t → Q (some (.int (nI (0)))) (xmm u))
    (k3 : ¬ t < 0 → ¬ 8 ≤ t → c < 1 → Q (some (.int (nI (0)))) (xmm u))
    (k4 : ¬ t < 0 → ¬ 8 ≤ t → ¬ c < 1 → 3 < c → Q (some (.int (nI (0)))) (xmm u))
    (k5 : ¬ t < 0 → ¬ 8 ≤ t → ¬ c < 1 → ¬ 3 < c → ¬ (ea = true) → False)
    (k6 : ¬ t < 0 → ¬ 8 ≤ t → ¬ c < 1 → ¬ 3 < c → ea = true → Q (some (.int (nI (0)))) (xmm u)) : xE mX9_table 0 [(0, .ref 1), (1, .int (t)), (2, .int (c))] [] (xmm u) Q := by
  refine xe_iload_n 1 dX9_table_0 rfl rfl ?_
  refine xe_if_lt 31 dX9_table_1 (by decide) (fun c1 => ?_) (fun c1 => ?_)
  · refine xe_iconst (v := nI (0)) dX9_table_31 xc0 ?_
    exact xe_ret (r := (some (.int (nI (0))))) dX9_table_32 (Or.inl rfl) (k1 c1)
  · refine xe_iload_n 1 dX9_table_4 rfl rfl ?_
    refine xe_bipush (v := nI (8)) dX9_table_5 xcb8 ?_
    refine xe_icmp_ge 31 dX9_table_7 (by decide) (fun c2 => ?_) (fun c2 => ?_)
    · refine xe_iconst (v := nI (0)) dX9_table_31 xc0 ?_
      exact xe_ret (r := (some (.int (nI (0))))) dX9_table_32 (Or.inl rfl) (k2 c1 c2)
    · refine xe_iload_n 2 dX9_table_10 rfl rfl ?_
      refine xe_iconst (v := nI (1)) dX9_table_11 xc1 ?_
      refine xe_icmp_lt 31 dX9_table_12 (by decide) (fun c3 => ?_) (fun c3 => ?_)
      · refine xe_iconst (v := nI (0)) dX9_table_31 xc0 ?_
        exact xe_ret (r := (some (.int (nI (0))))) dX9_table_32 (Or.inl rfl) (k3 c1 c2 c3)
      · refine xe_iload_n 2 dX9_table_15 rfl rfl ?_
        refine xe_iconst (v := nI (3)) dX9_table_16 xc3 ?_
        refine xe_icmp_gt 31 dX9_table_17 (by decide) (fun c4 => ?_) (fun c4 => ?_)
        · refine xe_iconst (v := nI (0)) dX9_table_31 xc0 ?_
          exact xe_ret (r := (some (.int (nI (0))))) dX9_table_32 (Or.inl rfl) (k4 c1 c2 c3 c4)
        · refine xe_aload_n 0 dX9_table_20 rfl rfl ?_
          refine xr_getR (b := 3) dX9_table_21 fX9_18 rfl sh1 (by decide) rfl ?_
          refine xe_iload_n 1 dX9_table_24 rfl rfl ?_
          refine xe_callV (As := [.int (t)]) (rest := []) dX9_table_25 wX4_asksOf lX9_65 iX4_asksOf sX4_asksOf ⟨by decide, by decide⟩ sh3 rfl (xin_mm (by decide)) rfl rfl (by simp [Value.category]) (xC.pure (v := .int (xb (ea = true))) (has t) ?_)
          refine xb_if_eq 33 dX9_table_28 (by decide) (fun c5 => ?_) (fun c5 => ?_)
          · refine xe_aload_n 0 dX9_table_33 rfl rfl ?_
            refine xr_getR (b := 2) dX9_table_34 fX9_11 rfl sh1 (by decide) rfl ?_
            refine xe_iload_n 1 dX9_table_37 rfl rfl ?_
            exact (k5 c1 c2 c3 c4 c5).elim
          · refine xe_iconst (v := nI (0)) dX9_table_31 xc0 ?_
            exact xe_ret (r := (some (.int (nI (0))))) dX9_table_32 (Or.inl rfl) (k6 c1 c2 c3 c4 c5)

theorem gX9_table_0 (u : xU) (t : Nat) (c : Int32) (ea : Bool) {Q : Option Value → xM → Prop} (ht : t < 8) (has : xC mX4_asksOf [.ref 3, .int (nI t)] (xmm u) (fun r μ' => r = some (.int (xb (ea = true))) ∧ μ' = xmm u)) 
    (k1 : 8 ≤ t → Q (some (.int (nI (0)))) (xmm u))
    (k2 : ¬ 8 ≤ t → c < 1 → Q (some (.int (nI (0)))) (xmm u))
    (k3 : ¬ 8 ≤ t → ¬ c < 1 → 3 < c → Q (some (.int (nI (0)))) (xmm u))
    (k4 : ¬ 8 ≤ t → ¬ c < 1 → ¬ 3 < c → ¬ (ea = true) → xC mX6_open [.ref (156 + 2 * t), .int (c)] (xmm u) (fun r μ1 => xE mX9_table 43 [] (r.toList ++ []) μ1 Q))
    (k5 : ¬ 8 ≤ t → ¬ c < 1 → ¬ 3 < c → ea = true → Q (some (.int (nI (0)))) (xmm u)) : xE mX9_table 0 [(0, .ref 1), (1, .int (nI (t))), (2, .int (c))] [] (xmm u) Q := by
  refine xe_iload_n 1 dX9_table_0 rfl rfl ?_
  refine xn_if_lt 31 dX9_table_1 (by decide) (by omega) (fun q => absurd q (by omega)) (fun _ => ?_)
  refine xe_iload_n 1 dX9_table_4 rfl rfl ?_
  refine xe_bipush (v := nI (8)) dX9_table_5 xcb8 ?_
  refine xn_icmp_ge 31 dX9_table_7 (by decide) (by omega) (by omega) (fun c1 => ?_) (fun c1 => ?_)
  · refine xe_iconst (v := nI (0)) dX9_table_31 xc0 ?_
    exact xe_ret (r := (some (.int (nI (0))))) dX9_table_32 (Or.inl rfl) (k1 c1)
  · refine xe_iload_n 2 dX9_table_10 rfl rfl ?_
    refine xe_iconst (v := nI (1)) dX9_table_11 xc1 ?_
    refine xe_icmp_lt 31 dX9_table_12 (by decide) (fun c2 => ?_) (fun c2 => ?_)
    · refine xe_iconst (v := nI (0)) dX9_table_31 xc0 ?_
      exact xe_ret (r := (some (.int (nI (0))))) dX9_table_32 (Or.inl rfl) (k2 c1 c2)
    · refine xe_iload_n 2 dX9_table_15 rfl rfl ?_
      refine xe_iconst (v := nI (3)) dX9_table_16 xc3 ?_
      refine xe_icmp_gt 31 dX9_table_17 (by decide) (fun c3 => ?_) (fun c3 => ?_)
      · refine xe_iconst (v := nI (0)) dX9_table_31 xc0 ?_
        exact xe_ret (r := (some (.int (nI (0))))) dX9_table_32 (Or.inl rfl) (k3 c1 c2 c3)
      · refine xe_aload_n 0 dX9_table_20 rfl rfl ?_
        refine xr_getR (b := 3) dX9_table_21 fX9_18 rfl sh1 (by decide) rfl ?_
        refine xe_iload_n 1 dX9_table_24 rfl rfl ?_
        refine xe_callV (As := [.int (nI (t))]) (rest := []) dX9_table_25 wX4_asksOf lX9_65 iX4_asksOf sX4_asksOf ⟨by decide, by decide⟩ sh3 rfl (xin_mm (by decide)) rfl rfl (by simp [Value.category]) (xC.pure (v := .int (xb (ea = true))) (has) ?_)
        refine xb_if_eq 33 dX9_table_28 (by decide) (fun c4 => ?_) (fun c4 => ?_)
        · refine xe_aload_n 0 dX9_table_33 rfl rfl ?_
          refine xr_getR (b := 2) dX9_table_34 fX9_11 rfl sh1 (by decide) rfl ?_
          refine xe_iload_n 1 dX9_table_37 rfl rfl ?_
          refine xr_aald (k := t) (b := (156 + 2 * t)) dX9_table_38 sh2 (by decide) (by decide) (by decide) (by omega) (by decide) (rTabs (by omega)) ?_
          refine xe_iload_n 2 dX9_table_39 rfl rfl ?_
          refine xE.sub [] rfl ?_
          refine xe_callV (As := [.int (c)]) (rest := []) dX9_table_40 wX6_open lX9_69 iX6_open sX6_open ⟨by decide, by decide⟩ (shT _ (by omega)) rfl (xin_mm (by omega)) rfl rfl (by simp [Value.category]) ?_
          exact k4 c1 c2 c3 c4
        · refine xe_iconst (v := nI (0)) dX9_table_31 xc0 ?_
          exact xe_ret (r := (some (.int (nI (0))))) dX9_table_32 (Or.inl rfl) (k5 c1 c2 c3 c4)

theorem gX9_table_43 (u : xU) {Q : Option Value → xM → Prop}  
    (k1 : Q (some (.int (nI (1)))) (xmm u)) : xE mX9_table 43 [] [] (xmm u) Q := by
  refine xe_iconst (v := nI (1)) dX9_table_43 xc1 ?_
  exact xe_ret (r := (some (.int (nI (1))))) dX9_table_44 (Or.inr rfl) (k1)

theorem gX6_open_0 (u : xU) (t : Nat) (c : Int32) {Q : Option Value → xM → Prop} (ht : t < 8) 
    (k1 : Q none (xmm (wi (wi u (156 + 2 * t) 0 (c)) (156 + 2 * t) 1 (nI (0))))) : xE mX6_open 0 [(0, .ref (156 + 2 * t)), (1, .int (c))] [] (xmm u) Q := by
  refine xe_aload_n 0 dX6_open_0 rfl rfl ?_
  refine xe_iload_n 1 dX6_open_1 rfl rfl ?_
  refine xr_putI dX6_open_2 fX6_15 (shT _ (by omega)) (by omega) ?_
  refine xe_aload_n 0 dX6_open_5 rfl rfl ?_
  refine xe_iconst (v := nI (0)) dX6_open_6 xc0 ?_
  refine xr_putI dX6_open_7 fX6_19 (shT _ (by omega)) (by omega) ?_
  exact xe_ret (r := none) dX6_open_10 trivial (k1)

theorem gX9_part_T (u : xU) (k cols : Nat) (kd t : Int32) (er : Bool) {Q : Option Value → xM → Prop} (hk : k < 8) (hta : xC mX9_tableAt [.ref 1, .int t] (xmm u) (fun r μ' => r = some (.ref (156 + 2 * k)) ∧ μ' = xmm u)) (hrm : xC mX4_hasRoomFor [.ref 3, .int kd] (xmm u) (fun r μ' => r = some (.int (xb (er = true))) ∧ μ' = xmm u)) (v1 : u.1 (156 + 2 * k) 0 = nI (cols))
    (k1 : kd = 0 → er = true → xC mX4_addFact [.ref 3, .int (kd), .int (t), .int (nI (cols))] (xmm u) (fun r μ1 => xE mX9_part 45 [] (r.toList ++ []) μ1 Q))
    (k2 : kd = 0 → ¬ (er = true) → Q (some (.int (-1))) (xmm u))
    (k3 : ¬ kd = 0 → ¬ kd = 1 → Q (some (.int (-1))) (xmm u))
    (k4 : ¬ kd = 0 → kd = 1 → er = true → xC mX4_addFact [.ref 3, .int (kd), .int (t), .int (nI (cols))] (xmm u) (fun r μ1 => xE mX9_part 45 [] (r.toList ++ []) μ1 Q))
    (k5 : ¬ kd = 0 → kd = 1 → ¬ (er = true) → Q (some (.int (-1))) (xmm u)) : xE mX9_part 0 [(0, .ref 1), (1, .int (kd)), (2, .int (t))] [] (xmm u) Q := by
  refine xe_aload_n 0 dX9_part_0 rfl rfl ?_
  refine xe_iload_n 2 dX9_part_1 rfl rfl ?_
  refine xe_callV (As := [.int (t)]) (rest := []) dX9_part_2 wX9_tableAt lX9_73 iX9_tableAt sX9_tableAt ⟨by decide, by decide⟩ sh1 rfl (xin_mm (by decide)) rfl rfl (by simp [Value.category]) (xC.pure (v := .ref (156 + 2 * k)) (hta) ?_)
  refine xe_astore_n (L2 := [(0, .ref 1), (1, .int (kd)), (2, .int (t)), (3, .ref (156 + 2 * k))]) dX9_part_5 rfl (by decide) rfl ?_
  refine xe_iload_n 1 dX9_part_6 rfl rfl ?_
  refine xe_if_eq 15 dX9_part_7 (by decide) (fun c1 => ?_) (fun c1 => ?_)
  · refine xe_aload_n 3 dX9_part_15 rfl rfl ?_
    refine xe_ifnull_r dX9_part_16 ?_
    refine xe_aload_n 0 dX9_part_19 rfl rfl ?_
    refine xr_getR (b := 3) dX9_part_20 fX9_18 rfl sh1 (by decide) rfl ?_
    refine xe_iload_n 1 dX9_part_23 rfl rfl ?_
    refine xe_callV (As := [.int (kd)]) (rest := []) dX9_part_24 wX4_hasRoomFor lX9_94 iX4_hasRoomFor sX4_hasRoomFor ⟨by decide, by decide⟩ sh3 rfl (xin_mm (by decide)) rfl rfl (by simp [Value.category]) (xC.pure (v := .int (xb (er = true))) (hrm) ?_)
    refine xb_if_ne 32 dX9_part_27 (by decide) (fun c2 => ?_) (fun c2 => ?_)
    · refine xe_aload_n 0 dX9_part_32 rfl rfl ?_
      refine xr_getR (b := 3) dX9_part_33 fX9_18 rfl sh1 (by decide) rfl ?_
      refine xe_iload_n 1 dX9_part_36 rfl rfl ?_
      refine xe_iload_n 2 dX9_part_37 rfl rfl ?_
      refine xe_aload_n 3 dX9_part_38 rfl rfl ?_
      refine xr_getI (v := nI (cols)) dX9_part_39 fX9_97 (shT _ (by omega)) (by omega) v1 ?_
      refine xE.sub [] rfl ?_
      refine xe_callV (As := [.int (kd), .int (t), .int (nI (cols))]) (rest := []) dX9_part_42 wX4_addFact lX9_100 iX4_addFact sX4_addFact ⟨by decide, by decide⟩ sh3 rfl (xin_mm (by decide)) rfl rfl (by simp [Value.category]) ?_
      exact k1 c1 c2
    · refine xe_iconst (v := -1) dX9_part_30 xcm1 ?_
      exact xe_ret (r := (some (.int (-1)))) dX9_part_31 trivial (k2 c1 c2)
  · refine xe_iload_n 1 dX9_part_10 rfl rfl ?_
    refine xe_iconst (v := nI (1)) dX9_part_11 xc1 ?_
    refine xe_icmp_ne 30 dX9_part_12 (by decide) (fun c3 => ?_) (fun c3 => ?_)
    · refine xe_iconst (v := -1) dX9_part_30 xcm1 ?_
      exact xe_ret (r := (some (.int (-1)))) dX9_part_31 trivial (k3 c1 c3)
    · refine xe_aload_n 3 dX9_part_15 rfl rfl ?_
      refine xe_ifnull_r dX9_part_16 ?_
      refine xe_aload_n 0 dX9_part_19 rfl rfl ?_
      refine xr_getR (b := 3) dX9_part_20 fX9_18 rfl sh1 (by decide) rfl ?_
      refine xe_iload_n 1 dX9_part_23 rfl rfl ?_
      refine xe_callV (As := [.int (kd)]) (rest := []) dX9_part_24 wX4_hasRoomFor lX9_94 iX4_hasRoomFor sX4_hasRoomFor ⟨by decide, by decide⟩ sh3 rfl (xin_mm (by decide)) rfl rfl (by simp [Value.category]) (xC.pure (v := .int (xb (er = true))) (hrm) ?_)
      refine xb_if_ne 32 dX9_part_27 (by decide) (fun c4 => ?_) (fun c4 => ?_)
      · refine xe_aload_n 0 dX9_part_32 rfl rfl ?_
        refine xr_getR (b := 3) dX9_part_33 fX9_18 rfl sh1 (by decide) rfl ?_
        refine xe_iload_n 1 dX9_part_36 rfl rfl ?_
        refine xe_iload_n 2 dX9_part_37 rfl rfl ?_
        refine xe_aload_n 3 dX9_part_38 rfl rfl ?_
        refine xr_getI (v := nI (cols)) dX9_part_39 fX9_97 (shT _ (by omega)) (by omega) v1 ?_
        refine xE.sub [] rfl ?_
        refine xe_callV (As := [.int (kd), .int (t), .int (nI (cols))]) (rest := []) dX9_part_42 wX4_addFact lX9_100 iX4_addFact sX4_addFact ⟨by decide, by decide⟩ sh3 rfl (xin_mm (by decide)) rfl rfl (by simp [Value.category]) ?_
        exact k4 c1 c3 c4
      · refine xe_iconst (v := -1) dX9_part_30 xcm1 ?_
        exact xe_ret (r := (some (.int (-1)))) dX9_part_31 trivial (k5 c1 c3 c4)

theorem gX9_part_Z (u : xU) (kd t : Int32) {Q : Option Value → xM → Prop} (hta : xC mX9_tableAt [.ref 1, .int t] (xmm u) (fun r μ' => r = some .null ∧ μ' = xmm u)) 
    (k1 : kd = 0 → Q (some (.int (-1))) (xmm u))
    (k2 : ¬ kd = 0 → ¬ kd = 1 → Q (some (.int (-1))) (xmm u))
    (k3 : ¬ kd = 0 → kd = 1 → Q (some (.int (-1))) (xmm u)) : xE mX9_part 0 [(0, .ref 1), (1, .int (kd)), (2, .int (t))] [] (xmm u) Q := by
  refine xe_aload_n 0 dX9_part_0 rfl rfl ?_
  refine xe_iload_n 2 dX9_part_1 rfl rfl ?_
  refine xe_callV (As := [.int (t)]) (rest := []) dX9_part_2 wX9_tableAt lX9_73 iX9_tableAt sX9_tableAt ⟨by decide, by decide⟩ sh1 rfl (xin_mm (by decide)) rfl rfl (by simp [Value.category]) (xC.pure (v := .null) (hta) ?_)
  refine xe_astoreN_n (L2 := [(0, .ref 1), (1, .int (kd)), (2, .int (t)), (3, .null)]) dX9_part_5 rfl (by decide) rfl ?_
  refine xe_iload_n 1 dX9_part_6 rfl rfl ?_
  refine xe_if_eq 15 dX9_part_7 (by decide) (fun c1 => ?_) (fun c1 => ?_)
  · refine xe_aloadN_n 3 dX9_part_15 rfl rfl ?_
    refine xe_ifnull_n 30 dX9_part_16 (by decide) ?_
    refine xe_iconst (v := -1) dX9_part_30 xcm1 ?_
    exact xe_ret (r := (some (.int (-1)))) dX9_part_31 trivial (k1 c1)
  · refine xe_iload_n 1 dX9_part_10 rfl rfl ?_
    refine xe_iconst (v := nI (1)) dX9_part_11 xc1 ?_
    refine xe_icmp_ne 30 dX9_part_12 (by decide) (fun c2 => ?_) (fun c2 => ?_)
    · refine xe_iconst (v := -1) dX9_part_30 xcm1 ?_
      exact xe_ret (r := (some (.int (-1)))) dX9_part_31 trivial (k2 c1 c2)
    · refine xe_aloadN_n 3 dX9_part_15 rfl rfl ?_
      refine xe_ifnull_n 30 dX9_part_16 (by decide) ?_
      refine xe_iconst (v := -1) dX9_part_30 xcm1 ?_
      exact xe_ret (r := (some (.int (-1)))) dX9_part_31 trivial (k3 c1 c2)

theorem gX9_name_R (u : xU) (p : Nat) (k : Int32) (ek : Bool) {Q : Option Value → xM → Prop} (hp : p < 10) (hop : xC mX9_openPart [.ref 1] (xmm u) (fun r μ' => r = some (.ref (6 + 4 * p)) ∧ μ' = xmm u)) (hhn : xC mX4_hasName [.ref 3, .int k] (xmm u) (fun r μ' => r = some (.int (xb (ek = true))) ∧ μ' = xmm u)) 
    (k1 : ek = true → xC mX3_addName [.ref (6 + 4 * p), .int (k)] (xmm u) (fun r μ1 => xE mX9_name 29 [] (r.toList ++ []) μ1 Q))
    (k2 : ¬ (ek = true) → Q (some (.int (-1))) (xmm u)) : xE mX9_name 0 [(0, .ref 1), (1, .int (k))] [] (xmm u) Q := by
  refine xe_aload_n 0 dX9_name_0 rfl rfl ?_
  refine xe_callV (As := []) (rest := []) dX9_name_1 wX9_openPart lX9_103 iX9_openPart sX9_openPart ⟨by decide, by decide⟩ sh1 rfl (xin_mm (by decide)) rfl rfl (by simp [Value.category]) (xC.pure (v := .ref (6 + 4 * p)) (hop) ?_)
  refine xe_astore_n (L2 := [(0, .ref 1), (1, .int (k)), (2, .ref (6 + 4 * p))]) dX9_name_4 rfl (by decide) rfl ?_
  refine xe_aload_n 2 dX9_name_5 rfl rfl ?_
  refine xe_ifnull_r dX9_name_6 ?_
  refine xe_aload_n 0 dX9_name_9 rfl rfl ?_
  refine xr_getR (b := 3) dX9_name_10 fX9_18 rfl sh1 (by decide) rfl ?_
  refine xe_iload_n 1 dX9_name_13 rfl rfl ?_
  refine xe_callV (As := [.int (k)]) (rest := []) dX9_name_14 wX4_hasName lX9_107 iX4_hasName sX4_hasName ⟨by decide, by decide⟩ sh3 rfl (xin_mm (by decide)) rfl rfl (by simp [Value.category]) (xC.pure (v := .int (xb (ek = true))) (hhn) ?_)
  refine xb_if_ne 24 dX9_name_17 (by decide) (fun c1 => ?_) (fun c1 => ?_)
  · refine xe_aload_n 2 dX9_name_24 rfl rfl ?_
    refine xe_iload_n 1 dX9_name_25 rfl rfl ?_
    refine xE.sub [] rfl ?_
    refine xe_callV (As := [.int (k)]) (rest := []) dX9_name_26 wX3_addName lX9_110 iX3_addName sX3_addName ⟨by decide, by decide⟩ (shP _ (by omega)) rfl (xin_mm (by omega)) rfl rfl (by simp [Value.category]) ?_
    exact k1 c1
  · refine xe_iconst (v := -1) dX9_name_20 xcm1 ?_
    refine xe_goto 29 dX9_name_21 (by decide) ?_
    exact xe_ret (r := (some (.int (-1)))) dX9_name_29 trivial (k2 c1)

theorem gX9_name_Z (u : xU) (k : Int32) {Q : Option Value → xM → Prop} (hop : xC mX9_openPart [.ref 1] (xmm u) (fun r μ' => r = some .null ∧ μ' = xmm u)) 
    (k1 : Q (some (.int (-1))) (xmm u)) : xE mX9_name 0 [(0, .ref 1), (1, .int (k))] [] (xmm u) Q := by
  refine xe_aload_n 0 dX9_name_0 rfl rfl ?_
  refine xe_callV (As := []) (rest := []) dX9_name_1 wX9_openPart lX9_103 iX9_openPart sX9_openPart ⟨by decide, by decide⟩ sh1 rfl (xin_mm (by decide)) rfl rfl (by simp [Value.category]) (xC.pure (v := .null) (hop) ?_)
  refine xe_astoreN_n (L2 := [(0, .ref 1), (1, .int (k)), (2, .null)]) dX9_name_4 rfl (by decide) rfl ?_
  refine xe_aloadN_n 2 dX9_name_5 rfl rfl ?_
  refine xe_ifnull_n 20 dX9_name_6 (by decide) ?_
  refine xe_iconst (v := -1) dX9_name_20 xcm1 ?_
  refine xe_goto 29 dX9_name_21 (by decide) ?_
  exact xe_ret (r := (some (.int (-1)))) dX9_name_29 trivial (k1)

theorem gX9_value_R (u : xU) (p : Nat) (v : Int32) {Q : Option Value → xM → Prop} (hp : p < 10) (hop : xC mX9_openPart [.ref 1] (xmm u) (fun r μ' => r = some (.ref (6 + 4 * p)) ∧ μ' = xmm u)) 
    (k1 : xC mX3_addTold [.ref (6 + 4 * p), .int (v)] (xmm u) (fun r μ1 => xE mX9_value 18 [] (r.toList ++ []) μ1 Q)) : xE mX9_value 0 [(0, .ref 1), (1, .int (v))] [] (xmm u) Q := by
  refine xe_aload_n 0 dX9_value_0 rfl rfl ?_
  refine xe_callV (As := []) (rest := []) dX9_value_1 wX9_openPart lX9_103 iX9_openPart sX9_openPart ⟨by decide, by decide⟩ sh1 rfl (xin_mm (by decide)) rfl rfl (by simp [Value.category]) (xC.pure (v := .ref (6 + 4 * p)) (hop) ?_)
  refine xe_astore_n (L2 := [(0, .ref 1), (1, .int (v)), (2, .ref (6 + 4 * p))]) dX9_value_4 rfl (by decide) rfl ?_
  refine xe_aload_n 2 dX9_value_5 rfl rfl ?_
  refine xe_ifnonnull_r 13 dX9_value_6 (by decide) ?_
  refine xe_aload_n 2 dX9_value_13 rfl rfl ?_
  refine xe_iload_n 1 dX9_value_14 rfl rfl ?_
  refine xE.sub [] rfl ?_
  refine xe_callV (As := [.int (v)]) (rest := []) dX9_value_15 wX3_addTold lX9_116 iX3_addTold sX3_addTold ⟨by decide, by decide⟩ (shP _ (by omega)) rfl (xin_mm (by omega)) rfl rfl (by simp [Value.category]) ?_
  exact k1

theorem gX9_value_Z (u : xU) (v : Int32) {Q : Option Value → xM → Prop} (hop : xC mX9_openPart [.ref 1] (xmm u) (fun r μ' => r = some .null ∧ μ' = xmm u)) 
    (k1 : Q (some (.int (-1))) (xmm u)) : xE mX9_value 0 [(0, .ref 1), (1, .int (v))] [] (xmm u) Q := by
  refine xe_aload_n 0 dX9_value_0 rfl rfl ?_
  refine xe_callV (As := []) (rest := []) dX9_value_1 wX9_openPart lX9_103 iX9_openPart sX9_openPart ⟨by decide, by decide⟩ sh1 rfl (xin_mm (by decide)) rfl rfl (by simp [Value.category]) (xC.pure (v := .null) (hop) ?_)
  refine xe_astoreN_n (L2 := [(0, .ref 1), (1, .int (v)), (2, .null)]) dX9_value_4 rfl (by decide) rfl ?_
  refine xe_aloadN_n 2 dX9_value_5 rfl rfl ?_
  refine xe_ifnonnull_n dX9_value_6 ?_
  refine xe_iconst (v := -1) dX9_value_9 xcm1 ?_
  refine xe_goto 18 dX9_value_10 (by decide) ?_
  exact xe_ret (r := (some (.int (-1)))) dX9_value_18 trivial (k1)

theorem gX9_compare_0 (u : xU) (kd a b v : Int32) (e1 e2 er : Bool) {Q : Option Value → xM → Prop} (h1 : xC mX4_hasName [.ref 3, .int a] (xmm u) (fun r μ' => r = some (.int (xb (e1 = true))) ∧ μ' = xmm u)) (h2 : xC mX4_hasName [.ref 3, .int v] (xmm u) (fun r μ' => r = some (.int (xb (e2 = true))) ∧ μ' = xmm u)) (hrm : xC mX4_hasRoomFor [.ref 3, .int kd] (xmm u) (fun r μ' => r = some (.int (xb (er = true))) ∧ μ' = xmm u)) 
    (k1 : ¬ (e1 = true) → kd = 2 → Q (some (.int (-1))) (xmm u))
    (k2 : ¬ (e1 = true) → ¬ kd = 2 → ¬ kd = 3 → Q (some (.int (-1))) (xmm u))
    (k3 : ¬ (e1 = true) → ¬ kd = 2 → kd = 3 → Q (some (.int (-1))) (xmm u))
    (k4 : e1 = true → b = 0 → kd = 2 → er = true → xC mX4_addComparison [.ref 3, .int (kd), .int (a), .int (b), .int (v)] (xmm u) (fun r μ1 => xE mX9_compare 74 [] (r.toList ++ []) μ1 Q))
    (k5 : e1 = true → b = 0 → kd = 2 → ¬ (er = true) → Q (some (.int (-1))) (xmm u))
    (k6 : e1 = true → b = 0 → ¬ kd = 2 → ¬ kd = 3 → Q (some (.int (-1))) (xmm u))
    (k7 : e1 = true → b = 0 → ¬ kd = 2 → kd = 3 → er = true → xC mX4_addComparison [.ref 3, .int (kd), .int (a), .int (b), .int (v)] (xmm u) (fun r μ1 => xE mX9_compare 74 [] (r.toList ++ []) μ1 Q))
    (k8 : e1 = true → b = 0 → ¬ kd = 2 → kd = 3 → ¬ (er = true) → Q (some (.int (-1))) (xmm u))
    (k9 : e1 = true → ¬ b = 0 → ¬ (e2 = true) → kd = 2 → Q (some (.int (-1))) (xmm u))
    (k10 : e1 = true → ¬ b = 0 → ¬ (e2 = true) → ¬ kd = 2 → ¬ kd = 3 → Q (some (.int (-1))) (xmm u))
    (k11 : e1 = true → ¬ b = 0 → ¬ (e2 = true) → ¬ kd = 2 → kd = 3 → Q (some (.int (-1))) (xmm u))
    (k12 : e1 = true → ¬ b = 0 → e2 = true → kd = 2 → er = true → xC mX4_addComparison [.ref 3, .int (kd), .int (a), .int (b), .int (v)] (xmm u) (fun r μ1 => xE mX9_compare 74 [] (r.toList ++ []) μ1 Q))
    (k13 : e1 = true → ¬ b = 0 → e2 = true → kd = 2 → ¬ (er = true) → Q (some (.int (-1))) (xmm u))
    (k14 : e1 = true → ¬ b = 0 → e2 = true → ¬ kd = 2 → ¬ kd = 3 → Q (some (.int (-1))) (xmm u))
    (k15 : e1 = true → ¬ b = 0 → e2 = true → ¬ kd = 2 → kd = 3 → er = true → xC mX4_addComparison [.ref 3, .int (kd), .int (a), .int (b), .int (v)] (xmm u) (fun r μ1 => xE mX9_compare 74 [] (r.toList ++ []) μ1 Q))
    (k16 : e1 = true → ¬ b = 0 → e2 = true → ¬ kd = 2 → kd = 3 → ¬ (er = true) → Q (some (.int (-1))) (xmm u)) : xE mX9_compare 0 [(0, .ref 1), (1, .int (kd)), (2, .int (a)), (3, .int (b)), (4, .int (v))] [] (xmm u) Q := by
  refine xe_aload_n 0 dX9_compare_0 rfl rfl ?_
  refine xr_getR (b := 3) dX9_compare_1 fX9_18 rfl sh1 (by decide) rfl ?_
  refine xe_iload_n 2 dX9_compare_4 rfl rfl ?_
  refine xe_callV (As := [.int (a)]) (rest := []) dX9_compare_5 wX4_hasName lX9_107 iX4_hasName sX4_hasName ⟨by decide, by decide⟩ sh3 rfl (xin_mm (by decide)) rfl rfl (by simp [Value.category]) (xC.pure (v := .int (xb (e1 = true))) (h1) ?_)
  refine xb_if_eq 31 dX9_compare_8 (by decide) (fun c1 => ?_) (fun c1 => ?_)
  · refine xe_iconst (v := nI (0)) dX9_compare_31 xc0 ?_
    refine xe_istore (L2 := [(0, .ref 1), (1, .int (kd)), (2, .int (a)), (3, .int (b)), (4, .int (v)), (5, .int (nI (0)))]) dX9_compare_32 (by decide) rfl ?_
    refine xe_iload_n 1 dX9_compare_34 rfl rfl ?_
    refine xe_iconst (v := nI (2)) dX9_compare_35 xc2 ?_
    refine xe_icmp_eq 44 dX9_compare_36 (by decide) (fun c2 => ?_) (fun c2 => ?_)
    · refine xe_iload 5 dX9_compare_44 rfl ?_
      refine xn_if_eq 60 dX9_compare_46 (by decide) (by omega) (fun _ => ?_) (fun q => absurd q (by decide))
      refine xe_iconst (v := -1) dX9_compare_60 xcm1 ?_
      exact xe_ret (r := (some (.int (-1)))) dX9_compare_61 trivial (k1 c1 c2)
    · refine xe_iload_n 1 dX9_compare_39 rfl rfl ?_
      refine xe_iconst (v := nI (3)) dX9_compare_40 xc3 ?_
      refine xe_icmp_ne 60 dX9_compare_41 (by decide) (fun c3 => ?_) (fun c3 => ?_)
      · refine xe_iconst (v := -1) dX9_compare_60 xcm1 ?_
        exact xe_ret (r := (some (.int (-1)))) dX9_compare_61 trivial (k2 c1 c2 c3)
      · refine xe_iload 5 dX9_compare_44 rfl ?_
        refine xn_if_eq 60 dX9_compare_46 (by decide) (by omega) (fun _ => ?_) (fun q => absurd q (by decide))
        refine xe_iconst (v := -1) dX9_compare_60 xcm1 ?_
        exact xe_ret (r := (some (.int (-1)))) dX9_compare_61 trivial (k3 c1 c2 c3)
  · refine xe_iload_n 3 dX9_compare_11 rfl rfl ?_
    refine xe_if_eq 27 dX9_compare_12 (by decide) (fun c4 => ?_) (fun c4 => ?_)
    · refine xe_iconst (v := nI (1)) dX9_compare_27 xc1 ?_
      refine xe_goto 32 dX9_compare_28 (by decide) ?_
      refine xe_istore (L2 := [(0, .ref 1), (1, .int (kd)), (2, .int (a)), (3, .int (b)), (4, .int (v)), (5, .int (nI (1)))]) dX9_compare_32 (by decide) rfl ?_
      refine xe_iload_n 1 dX9_compare_34 rfl rfl ?_
      refine xe_iconst (v := nI (2)) dX9_compare_35 xc2 ?_
      refine xe_icmp_eq 44 dX9_compare_36 (by decide) (fun c5 => ?_) (fun c5 => ?_)
      · refine xe_iload 5 dX9_compare_44 rfl ?_
        refine xn_if_eq 60 dX9_compare_46 (by decide) (by omega) (fun q => absurd q (by decide)) (fun _ => ?_)
        refine xe_aload_n 0 dX9_compare_49 rfl rfl ?_
        refine xr_getR (b := 3) dX9_compare_50 fX9_18 rfl sh1 (by decide) rfl ?_
        refine xe_iload_n 1 dX9_compare_53 rfl rfl ?_
        refine xe_callV (As := [.int (kd)]) (rest := []) dX9_compare_54 wX4_hasRoomFor lX9_94 iX4_hasRoomFor sX4_hasRoomFor ⟨by decide, by decide⟩ sh3 rfl (xin_mm (by decide)) rfl rfl (by simp [Value.category]) (xC.pure (v := .int (xb (er = true))) (hrm) ?_)
        refine xb_if_ne 62 dX9_compare_57 (by decide) (fun c6 => ?_) (fun c6 => ?_)
        · refine xe_aload_n 0 dX9_compare_62 rfl rfl ?_
          refine xr_getR (b := 3) dX9_compare_63 fX9_18 rfl sh1 (by decide) rfl ?_
          refine xe_iload_n 1 dX9_compare_66 rfl rfl ?_
          refine xe_iload_n 2 dX9_compare_67 rfl rfl ?_
          refine xe_iload_n 3 dX9_compare_68 rfl rfl ?_
          refine xe_iload 4 dX9_compare_69 rfl ?_
          refine xE.sub [] rfl ?_
          refine xe_callV (As := [.int (kd), .int (a), .int (b), .int (v)]) (rest := []) dX9_compare_71 wX4_addComparison lX9_119 iX4_addComparison sX4_addComparison ⟨by decide, by decide⟩ sh3 rfl (xin_mm (by decide)) rfl rfl (by simp [Value.category]) ?_
          exact k4 c1 c4 c5 c6
        · refine xe_iconst (v := -1) dX9_compare_60 xcm1 ?_
          exact xe_ret (r := (some (.int (-1)))) dX9_compare_61 trivial (k5 c1 c4 c5 c6)
      · refine xe_iload_n 1 dX9_compare_39 rfl rfl ?_
        refine xe_iconst (v := nI (3)) dX9_compare_40 xc3 ?_
        refine xe_icmp_ne 60 dX9_compare_41 (by decide) (fun c7 => ?_) (fun c7 => ?_)
        · refine xe_iconst (v := -1) dX9_compare_60 xcm1 ?_
          exact xe_ret (r := (some (.int (-1)))) dX9_compare_61 trivial (k6 c1 c4 c5 c7)
        · refine xe_iload 5 dX9_compare_44 rfl ?_
          refine xn_if_eq 60 dX9_compare_46 (by decide) (by omega) (fun q => absurd q (by decide)) (fun _ => ?_)
          refine xe_aload_n 0 dX9_compare_49 rfl rfl ?_
          refine xr_getR (b := 3) dX9_compare_50 fX9_18 rfl sh1 (by decide) rfl ?_
          refine xe_iload_n 1 dX9_compare_53 rfl rfl ?_
          refine xe_callV (As := [.int (kd)]) (rest := []) dX9_compare_54 wX4_hasRoomFor lX9_94 iX4_hasRoomFor sX4_hasRoomFor ⟨by decide, by decide⟩ sh3 rfl (xin_mm (by decide)) rfl rfl (by simp [Value.category]) (xC.pure (v := .int (xb (er = true))) (hrm) ?_)
          refine xb_if_ne 62 dX9_compare_57 (by decide) (fun c8 => ?_) (fun c8 => ?_)
          · refine xe_aload_n 0 dX9_compare_62 rfl rfl ?_
            refine xr_getR (b := 3) dX9_compare_63 fX9_18 rfl sh1 (by decide) rfl ?_
            refine xe_iload_n 1 dX9_compare_66 rfl rfl ?_
            refine xe_iload_n 2 dX9_compare_67 rfl rfl ?_
            refine xe_iload_n 3 dX9_compare_68 rfl rfl ?_
            refine xe_iload 4 dX9_compare_69 rfl ?_
            refine xE.sub [] rfl ?_
            refine xe_callV (As := [.int (kd), .int (a), .int (b), .int (v)]) (rest := []) dX9_compare_71 wX4_addComparison lX9_119 iX4_addComparison sX4_addComparison ⟨by decide, by decide⟩ sh3 rfl (xin_mm (by decide)) rfl rfl (by simp [Value.category]) ?_
            exact k7 c1 c4 c5 c7 c8
          · refine xe_iconst (v := -1) dX9_compare_60 xcm1 ?_
            exact xe_ret (r := (some (.int (-1)))) dX9_compare_61 trivial (k8 c1 c4 c5 c7 c8)
    · refine xe_aload_n 0 dX9_compare_15 rfl rfl ?_
      refine xr_getR (b := 3) dX9_compare_16 fX9_18 rfl sh1 (by decide) rfl ?_
      refine xe_iload 4 dX9_compare_19 rfl ?_
      refine xe_callV (As := [.int (v)]) (rest := []) dX9_compare_21 wX4_hasName lX9_107 iX4_hasName sX4_hasName ⟨by decide, by decide⟩ sh3 rfl (xin_mm (by decide)) rfl rfl (by simp [Value.category]) (xC.pure (v := .int (xb (e2 = true))) (h2) ?_)
      refine xb_if_eq 31 dX9_compare_24 (by decide) (fun c9 => ?_) (fun c9 => ?_)
      · refine xe_iconst (v := nI (0)) dX9_compare_31 xc0 ?_
        refine xe_istore (L2 := [(0, .ref 1), (1, .int (kd)), (2, .int (a)), (3, .int (b)), (4, .int (v)), (5, .int (nI (0)))]) dX9_compare_32 (by decide) rfl ?_
        refine xe_iload_n 1 dX9_compare_34 rfl rfl ?_
        refine xe_iconst (v := nI (2)) dX9_compare_35 xc2 ?_
        refine xe_icmp_eq 44 dX9_compare_36 (by decide) (fun c10 => ?_) (fun c10 => ?_)
        · refine xe_iload 5 dX9_compare_44 rfl ?_
          refine xn_if_eq 60 dX9_compare_46 (by decide) (by omega) (fun _ => ?_) (fun q => absurd q (by decide))
          refine xe_iconst (v := -1) dX9_compare_60 xcm1 ?_
          exact xe_ret (r := (some (.int (-1)))) dX9_compare_61 trivial (k9 c1 c4 c9 c10)
        · refine xe_iload_n 1 dX9_compare_39 rfl rfl ?_
          refine xe_iconst (v := nI (3)) dX9_compare_40 xc3 ?_
          refine xe_icmp_ne 60 dX9_compare_41 (by decide) (fun c11 => ?_) (fun c11 => ?_)
          · refine xe_iconst (v := -1) dX9_compare_60 xcm1 ?_
            exact xe_ret (r := (some (.int (-1)))) dX9_compare_61 trivial (k10 c1 c4 c9 c10 c11)
          · refine xe_iload 5 dX9_compare_44 rfl ?_
            refine xn_if_eq 60 dX9_compare_46 (by decide) (by omega) (fun _ => ?_) (fun q => absurd q (by decide))
            refine xe_iconst (v := -1) dX9_compare_60 xcm1 ?_
            exact xe_ret (r := (some (.int (-1)))) dX9_compare_61 trivial (k11 c1 c4 c9 c10 c11)
      · refine xe_iconst (v := nI (1)) dX9_compare_27 xc1 ?_
        refine xe_goto 32 dX9_compare_28 (by decide) ?_
        refine xe_istore (L2 := [(0, .ref 1), (1, .int (kd)), (2, .int (a)), (3, .int (b)), (4, .int (v)), (5, .int (nI (1)))]) dX9_compare_32 (by decide) rfl ?_
        refine xe_iload_n 1 dX9_compare_34 rfl rfl ?_
        refine xe_iconst (v := nI (2)) dX9_compare_35 xc2 ?_
        refine xe_icmp_eq 44 dX9_compare_36 (by decide) (fun c12 => ?_) (fun c12 => ?_)
        · refine xe_iload 5 dX9_compare_44 rfl ?_
          refine xn_if_eq 60 dX9_compare_46 (by decide) (by omega) (fun q => absurd q (by decide)) (fun _ => ?_)
          refine xe_aload_n 0 dX9_compare_49 rfl rfl ?_
          refine xr_getR (b := 3) dX9_compare_50 fX9_18 rfl sh1 (by decide) rfl ?_
          refine xe_iload_n 1 dX9_compare_53 rfl rfl ?_
          refine xe_callV (As := [.int (kd)]) (rest := []) dX9_compare_54 wX4_hasRoomFor lX9_94 iX4_hasRoomFor sX4_hasRoomFor ⟨by decide, by decide⟩ sh3 rfl (xin_mm (by decide)) rfl rfl (by simp [Value.category]) (xC.pure (v := .int (xb (er = true))) (hrm) ?_)
          refine xb_if_ne 62 dX9_compare_57 (by decide) (fun c13 => ?_) (fun c13 => ?_)
          · refine xe_aload_n 0 dX9_compare_62 rfl rfl ?_
            refine xr_getR (b := 3) dX9_compare_63 fX9_18 rfl sh1 (by decide) rfl ?_
            refine xe_iload_n 1 dX9_compare_66 rfl rfl ?_
            refine xe_iload_n 2 dX9_compare_67 rfl rfl ?_
            refine xe_iload_n 3 dX9_compare_68 rfl rfl ?_
            refine xe_iload 4 dX9_compare_69 rfl ?_
            refine xE.sub [] rfl ?_
            refine xe_callV (As := [.int (kd), .int (a), .int (b), .int (v)]) (rest := []) dX9_compare_71 wX4_addComparison lX9_119 iX4_addComparison sX4_addComparison ⟨by decide, by decide⟩ sh3 rfl (xin_mm (by decide)) rfl rfl (by simp [Value.category]) ?_
            exact k12 c1 c4 c9 c12 c13
          · refine xe_iconst (v := -1) dX9_compare_60 xcm1 ?_
            exact xe_ret (r := (some (.int (-1)))) dX9_compare_61 trivial (k13 c1 c4 c9 c12 c13)
        · refine xe_iload_n 1 dX9_compare_39 rfl rfl ?_
          refine xe_iconst (v := nI (3)) dX9_compare_40 xc3 ?_
          refine xe_icmp_ne 60 dX9_compare_41 (by decide) (fun c14 => ?_) (fun c14 => ?_)
          · refine xe_iconst (v := -1) dX9_compare_60 xcm1 ?_
            exact xe_ret (r := (some (.int (-1)))) dX9_compare_61 trivial (k14 c1 c4 c9 c12 c14)
          · refine xe_iload 5 dX9_compare_44 rfl ?_
            refine xn_if_eq 60 dX9_compare_46 (by decide) (by omega) (fun q => absurd q (by decide)) (fun _ => ?_)
            refine xe_aload_n 0 dX9_compare_49 rfl rfl ?_
            refine xr_getR (b := 3) dX9_compare_50 fX9_18 rfl sh1 (by decide) rfl ?_
            refine xe_iload_n 1 dX9_compare_53 rfl rfl ?_
            refine xe_callV (As := [.int (kd)]) (rest := []) dX9_compare_54 wX4_hasRoomFor lX9_94 iX4_hasRoomFor sX4_hasRoomFor ⟨by decide, by decide⟩ sh3 rfl (xin_mm (by decide)) rfl rfl (by simp [Value.category]) (xC.pure (v := .int (xb (er = true))) (hrm) ?_)
            refine xb_if_ne 62 dX9_compare_57 (by decide) (fun c15 => ?_) (fun c15 => ?_)
            · refine xe_aload_n 0 dX9_compare_62 rfl rfl ?_
              refine xr_getR (b := 3) dX9_compare_63 fX9_18 rfl sh1 (by decide) rfl ?_
              refine xe_iload_n 1 dX9_compare_66 rfl rfl ?_
              refine xe_iload_n 2 dX9_compare_67 rfl rfl ?_
              refine xe_iload_n 3 dX9_compare_68 rfl rfl ?_
              refine xe_iload 4 dX9_compare_69 rfl ?_
              refine xE.sub [] rfl ?_
              refine xe_callV (As := [.int (kd), .int (a), .int (b), .int (v)]) (rest := []) dX9_compare_71 wX4_addComparison lX9_119 iX4_addComparison sX4_addComparison ⟨by decide, by decide⟩ sh3 rfl (xin_mm (by decide)) rfl rfl (by simp [Value.category]) ?_
              exact k15 c1 c4 c9 c12 c14 c15
            · refine xe_iconst (v := -1) dX9_compare_60 xcm1 ?_
              exact xe_ret (r := (some (.int (-1)))) dX9_compare_61 trivial (k16 c1 c4 c9 c12 c14 c15)

theorem gX9_order_0 (u : xU) (i k : Int32) (e1 e2 : Bool) {Q : Option Value → xM → Prop} (h1 : xC mX4_hasName [.ref 3, .int i] (xmm u) (fun r μ' => r = some (.int (xb (e1 = true))) ∧ μ' = xmm u)) (h2 : xC mX4_hasName [.ref 3, .int k] (xmm u) (fun r μ' => r = some (.int (xb (e2 = true))) ∧ μ' = xmm u)) 
    (k1 : ¬ (e1 = true) → Q (some (.int (nI (0)))) (xmm u))
    (k2 : e1 = true → e2 = true → xC mX4_bringForward [.ref 3, .int (i), .int (k)] (xmm u) (fun r μ1 => xE mX9_order 33 [] (r.toList ++ []) μ1 Q))
    (k3 : e1 = true → ¬ (e2 = true) → Q (some (.int (nI (0)))) (xmm u)) : xE mX9_order 0 [(0, .ref 1), (1, .int (i)), (2, .int (k))] [] (xmm u) Q := by
  refine xe_aload_n 0 dX9_order_0 rfl rfl ?_
  refine xr_getR (b := 3) dX9_order_1 fX9_18 rfl sh1 (by decide) rfl ?_
  refine xe_iload_n 1 dX9_order_4 rfl rfl ?_
  refine xe_callV (As := [.int (i)]) (rest := []) dX9_order_5 wX4_hasName lX9_107 iX4_hasName sX4_hasName ⟨by decide, by decide⟩ sh3 rfl (xin_mm (by decide)) rfl rfl (by simp [Value.category]) (xC.pure (v := .int (xb (e1 = true))) (h1) ?_)
  refine xb_if_eq 22 dX9_order_8 (by decide) (fun c1 => ?_) (fun c1 => ?_)
  · refine xe_iconst (v := nI (0)) dX9_order_22 xc0 ?_
    exact xe_ret (r := (some (.int (nI (0))))) dX9_order_23 (Or.inl rfl) (k1 c1)
  · refine xe_aload_n 0 dX9_order_11 rfl rfl ?_
    refine xr_getR (b := 3) dX9_order_12 fX9_18 rfl sh1 (by decide) rfl ?_
    refine xe_iload_n 2 dX9_order_15 rfl rfl ?_
    refine xe_callV (As := [.int (k)]) (rest := []) dX9_order_16 wX4_hasName lX9_107 iX4_hasName sX4_hasName ⟨by decide, by decide⟩ sh3 rfl (xin_mm (by decide)) rfl rfl (by simp [Value.category]) (xC.pure (v := .int (xb (e2 = true))) (h2) ?_)
    refine xb_if_ne 24 dX9_order_19 (by decide) (fun c2 => ?_) (fun c2 => ?_)
    · refine xe_aload_n 0 dX9_order_24 rfl rfl ?_
      refine xr_getR (b := 3) dX9_order_25 fX9_18 rfl sh1 (by decide) rfl ?_
      refine xe_iload_n 1 dX9_order_28 rfl rfl ?_
      refine xe_iload_n 2 dX9_order_29 rfl rfl ?_
      refine xE.sub [] rfl ?_
      refine xe_callV (As := [.int (i), .int (k)]) (rest := []) dX9_order_30 wX4_bringForward lX9_123 iX4_bringForward sX4_bringForward ⟨by decide, by decide⟩ sh3 rfl (xin_mm (by decide)) rfl rfl (by simp [Value.category]) ?_
      exact k2 c1 c2
    · refine xe_iconst (v := nI (0)) dX9_order_22 xc0 ?_
      exact xe_ret (r := (some (.int (nI (0))))) dX9_order_23 (Or.inl rfl) (k3 c1 c2)

theorem gX9_order_33 (u : xU) {Q : Option Value → xM → Prop}  
    (k1 : Q (some (.int (nI (1)))) (xmm u)) : xE mX9_order 33 [] [] (xmm u) Q := by
  refine xe_iconst (v := nI (1)) dX9_order_33 xc1 ?_
  exact xe_ret (r := (some (.int (nI (1))))) dX9_order_34 (Or.inr rfl) (k1)

theorem qX4_hasRoomFor {u : xU} {T : TBL} {Q : QST} (hQ : QI T Q) (h : CQ T Q u) (k : Int32) : xC mX4_hasRoomFor [.ref 3, .int k] (xmm u) (fun r μ' => r = some (.int (xb (room Q k = true))) ∧ μ' = xmm u) := by
  have rm : room Q k = true ↔ (qN Q ≠ 0 ∧ qP Q < 10) ∧ (k ≠ 0 ∨ hasN (qK Q) (qP Q) < 5) := by simp only [room, Bool.and_eq_true, Bool.or_eq_true, decide_eq_true_eq]
  refine xC.of xpl4 (Nat.le_of_ble_eq_true rfl) (gX4_hasRoomFor_0 u (qN Q) (qP Q) _ k hQ.1 hQ.2.1 hQ.2.2.1 h.1 h.2.1 h.2.2.1 (fun q => ⟨ret_f ?_, rfl⟩) (fun q z => ⟨ret_f ?_, rfl⟩) (fun q z y => ⟨ret_t ?_, rfl⟩) (fun q z y x => ⟨ret_f ?_, rfl⟩) (fun q z y x => ⟨ret_t ?_, rfl⟩)) <;> rw [rm]
  · omega
  · omega
  · exact ⟨⟨by omega, by omega⟩, Or.inl y⟩
  · rintro ⟨-, a | a⟩
    · exact a y
    · omega
  · exact ⟨⟨by omega, by omega⟩, Or.inr (by omega)⟩
theorem room_t {Q : QST} {k : Int32} (h : room Q k = true) : qN Q ≠ 0 ∧ qP Q < 10 ∧ (k = 0 → hasN (qK Q) (qP Q) < 5) := by
  simp only [room, Bool.and_eq_true, Bool.or_eq_true, decide_eq_true_eq] at h
  exact ⟨h.1.1, h.1.2, fun z => h.2.resolve_left (fun y => y z)⟩
theorem qX4_addFact {u : xU} {T : TBL} {Q : QST} (hT : TI T) (hQ : QI T Q) (h : CQ T Q u) (kd o : Nat) (hkd : kd ≤ 1) (ho : o < 8) (hr : room Q (nI kd) = true) : xC mX4_addFact [.ref 3, .int (nI kd), .int (nI o), .int (nI (T.1 o))] (xmm u) (pQ T u (some (.int (nI (qP Q)))) (pushQ Q kd o 0 (fun _ => none) (fun _ => 0))) := by
  obtain ⟨r1, r2, r3⟩ := room_t hr
  refine xC.of xpl4 (Nat.le_of_ble_eq_true rfl) (gX4_addFact_0 u (qN Q) (qP Q) _ kd (T.1 o) (nI o) hQ.1 r2 hQ.2.2.1 h.1 h.2.1 h.2.2.1 ?_)
  refine (qX3_open u (qP Q) kd (T.1 o) (nI o) (fun _ => none) (fun _ => 0) r2).mono ?_
  rintro r μ' ⟨u', rfl, rfl, c, f⟩
  refine gX4_addFact_15 u' (qN Q) (qP Q) (hasN (qK Q) (qP Q)) kd hQ.1 r2 hQ.2.2.1 (by omega) (by rw [f.1 3 (by omega)]; exact h.1) (by rw [f.1 3 (by omega)]; exact h.2.1) (by rw [f.1 3 (by omega)]; exact h.2.2.1) (fun z => ?_) (fun z => ?_)
  · refine ⟨_, rfl, rfl, CQ_push h ?_ ?_ ?_ ?_ ?_ ?_, ⟨fun x x3 x5 x6 => ?_, f.2⟩⟩
    · rw [if_pos hkd, if_pos hkd]
      exact c.keep (fun x a b => wi_row (by omega))
    · rw [wi_nek (by decide), f.1 3 (by omega)]; exact h.1
    · exact wi_self
    · rw [wi_nek (by decide), f.1 3 (by omega), if_neg z]; exact h.2.2.1
    · rw [wi_row (by decide), f.1 5 (by omega)]
    · intro x a b
      rw [wi_row (by omega), f.1 x (by omega)]
    · rw [wi_row x3, f.1 x (by omega)]
  · refine ⟨_, rfl, rfl, CQ_push h ?_ ?_ ?_ ?_ ?_ ?_, ⟨fun x x3 x5 x6 => ?_, f.2⟩⟩
    · rw [if_pos hkd, if_pos hkd]
      exact c.keep (fun x a b => (wi_row (by omega)).trans (wi_row (by omega)))
    · rw [wi_nek (by decide), wi_nek (by decide), f.1 3 (by omega)]; exact h.1
    · exact wi_self
    · rw [wi_nek (by decide), wi_self, if_pos z]
    · rw [wi_row (by decide), wi_row (by decide), f.1 5 (by omega)]
    · intro x a b
      rw [wi_row (by omega), wi_row (by omega), f.1 x (by omega)]
    · rw [wi_row x3, wi_row x3, f.1 x (by omega)]
theorem qX4_addComparison {u : xU} {T : TBL} {Q : QST} (hQ : QI T Q) (h : CQ T Q u) (kd a : Nat) (b v : Int32) (h2 : 2 ≤ kd) (h3 : kd ≤ 3) (ha : a < qN Q) (hv : b ≠ 0 → isNm Q v = true) (hr : room Q (nI kd) = true) : xC mX4_addComparison [.ref 3, .int (nI kd), .int (nI a), .int b, .int v] (xmm u) (pQ T u (some (.int (nI (qP Q)))) (pushQ Q kd 0 2 (setT (setT (fun _ => none) 0 (some a)) 1 (if b = 0 then none else some v.toNatClampNeg)) (setT (setT (fun _ => 0) 0 0) 1 (if b = 0 then v else 0)))) := by
  obtain ⟨r1, r2, r3⟩ := room_t hr
  have hn6 := hQ.1
  refine xC.of xpl4 (Nat.le_of_ble_eq_true rfl) (gX4_addComparison_0 u (qN Q) (qP Q) _ kd a b v hQ.1 r2 hQ.2.2.1 h.1 h.2.1 h.2.2.1 ?_)
  refine (qX3_open u (qP Q) kd 2 (-1) (fun _ => none) (fun _ => 0) r2).mono ?_
  rintro r μ' ⟨u1, rfl, rfl, c, f⟩
  refine gX4_addComparison_19 u1 (qN Q) (qP Q) (hasN (qK Q) (qP Q)) a b v hQ.1 r2 hQ.2.2.1 (by rw [f.1 3 (by omega)]; exact h.1) (by rw [f.1 3 (by omega)]; exact h.2.1) (by rw [f.1 3 (by omega)]; exact h.2.2.1) ?_
  refine (qX3_addName c r2 (by decide) (fun i hi => absurd hi (Nat.not_lt_zero i)) a (by omega)).mono ?_
  rintro r μ' ⟨u2, rfl, rfl, c2, f2⟩
  have fin : ∀ u3 : xU, ∀ m tv, CP (qP Q) kd (-1) 2 m tv 2 u3 → frP (qP Q) u2 u3 → CQ T (pushQ Q kd 0 2 m tv) (wi u3 3 1 (nI (qP Q + 1))) ∧ frQ u (wi u3 3 1 (nI (qP Q + 1))) := fun u3 m tv c3 f3 => by
    have ff : ∀ x, ¬ (6 + 4 * qP Q ≤ x ∧ x < 10 + 4 * qP Q) → u3.1 x = u.1 x := fun x hx => (f3.1 x hx).trans ((f2.1 x hx).trans (f.1 x hx))
    refine ⟨CQ_push h ?_ ?_ ?_ ?_ ?_ ?_, ⟨fun x x3 x5 x6 => ?_, f3.2.trans (f2.2.trans f.2)⟩⟩
    · rw [if_neg (by omega), if_neg (by omega)]
      exact c3.keep (fun x a b => wi_row (by omega))
    · rw [wi_nek (by decide), ff 3 (by omega)]; exact h.1
    · exact wi_self
    · rw [wi_nek (by decide), ff 3 (by omega), if_neg (by omega)]; exact h.2.2.1
    · rw [wi_row (by decide), ff 5 (by omega)]
    · intro x a b
      rw [wi_row (by omega), ff x (by omega)]
    · rw [wi_row x3, ff x (by omega)]
  have v3 : u2.1 3 0 = nI (qN Q) ∧ u2.1 3 1 = nI (qP Q) ∧ u2.1 3 4 = nI (hasN (qK Q) (qP Q)) := by
    rw [f2.1 3 (by omega), f.1 3 (by omega)]
    exact ⟨h.1, h.2.1, h.2.2.1⟩
  have wr : ∀ u3 : xU, frP (qP Q) u2 u3 → u3.1 3 0 = nI (qN Q) ∧ u3.1 3 1 = nI (qP Q) ∧ u3.1 3 4 = nI (hasN (qK Q) (qP Q)) := fun u3 f3 => by
    rw [f3.1 3 (by omega)]
    exact v3
  refine gX4_addComparison_25 u2 (qN Q) (qP Q) (hasN (qK Q) (qP Q)) b v _ hQ.1 r2 hQ.2.2.1 v3.1 v3.2.1 v3.2.2 (fun z => ?_) (fun z => ?_)
  · refine (qX3_addTold c2 r2 (by decide) v).mono ?_
    rintro r μ' ⟨u3, rfl, rfl, c3, f3⟩
    have w3 := wr u3 f3
    refine gX4_addComparison_48 u3 (qN Q) (qP Q) (hasN (qK Q) (qP Q)) _ hQ.1 r2 hQ.2.2.1 w3.1 w3.2.1 w3.2.2 ?_
    rw [if_pos z, if_pos z]
    exact ⟨_, rfl, rfl, fin u3 _ _ c3 f3⟩
  · obtain ⟨j, hj, rfl, e⟩ := isNm_t hQ (hv z)
    refine (qX3_addName c2 r2 (by decide) (fun i hi k hk => ?_) j (by omega)).mono ?_
    · have hi0 : i = 0 := by omega
      subst hi0
      rw [setT_at] at hk
      cases hk
      omega
    rintro r μ' ⟨u3, rfl, rfl, c3, f3⟩
    have w3 := wr u3 f3
    refine gX4_addComparison_37 u3 (qN Q) (qP Q) (hasN (qK Q) (qP Q)) _ hQ.1 r2 hQ.2.2.1 w3.1 w3.2.1 w3.2.2 ?_
    rw [if_neg z, if_neg z, e]
    exact ⟨_, rfl, rfl, fin u3 _ _ c3 f3⟩

