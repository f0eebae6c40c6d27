theorem gX4_bringForward_0 (u : xU) (i k : Nat) {Q : Option Value → xM → Prop}  
    (k1 : xE mX4_bringForward 2 [(0, .ref 3), (1, .int (nI (i))), (2, .int (nI (k))), (3, .int (nI (0)))] [] (xmm u) Q) : xE mX4_bringForward 0 [(0, .ref 3), (1, .int (nI (i))), (2, .int (nI (k)))] [] (xmm u) Q := by
  refine xe_iconst (v := nI (0)) dX4_bringForward_0 xc0 ?_
  refine xe_istore_n (L2 := [(0, .ref 3), (1, .int (nI (i))), (2, .int (nI (k))), (3, .int (nI (0)))]) dX4_bringForward_1 rfl (by decide) rfl ?_
  exact k1

theorem gX4_bringForward_2 (u : xU) (nn n hc : Nat) (i k j oi oj : Nat) {Q : Option Value → xM → Prop} (hnn : nn ≤ 6) (hn : n ≤ 10) (hhc : hc ≤ 5) (hi : i < nn) (hk : k < nn) (hj : j < nn) (hoi : oi < nn) (hoj : oj < nn) (v1 : u.1 3 0 = nI (nn)) (v2 : u.1 3 1 = nI (n)) (v3 : u.1 3 4 = nI (hc)) (v4 : u.1 5 j = nI (oj)) (v5 : u.1 5 i = nI (oi))
    (k1 : nn ≤ j → Q none (xmm u))
    (k2 : ¬ nn ≤ j → ¬ oj = k → xE mX4_bringForward 2 [(0, .ref 3), (1, .int (nI (i))), (2, .int (nI (k))), (3, .int (nI (j + 1)))] [] (xmm u) Q)
    (k3 : ¬ nn ≤ j → oj = k → Q none (xmm (wi (wi u 5 j (nI (oi))) 5 i (nI (k))))) : xE mX4_bringForward 2 [(0, .ref 3), (1, .int (nI (i))), (2, .int (nI (k))), (3, .int (nI (j)))] [] (xmm u) Q := by
  refine xe_iload_n 3 dX4_bringForward_2 rfl rfl ?_
  refine xe_aload_n 0 dX4_bringForward_3 rfl rfl ?_
  refine xr_getI (v := nI (nn)) dX4_bringForward_4 fX4_22 sh3 (by decide) v1 ?_
  refine xn_icmp_ge 46 dX4_bringForward_7 (by decide) (by omega) (by omega) (fun c1 => ?_) (fun c1 => ?_)
  · exact xe_ret (r := none) dX4_bringForward_46 trivial (k1 c1)
  · refine xe_aload_n 0 dX4_bringForward_10 rfl rfl ?_
    refine xr_getR (b := 5) dX4_bringForward_11 fX4_17 rfl sh3 (by decide) rfl ?_
    refine xe_iload_n 3 dX4_bringForward_14 rfl rfl ?_
    refine xr_iald (k := j) (v := nI (oj)) dX4_bringForward_15 sh5 (by decide) (by omega) (by decide) v4 ?_
    refine xe_iload_n 2 dX4_bringForward_16 rfl rfl ?_
    refine xn_icmp_ne 40 dX4_bringForward_17 (by decide) (by omega) (by omega) (fun c2 => ?_) (fun c2 => ?_)
    · refine xn_iinc (c := 1) (L2 := [(0, .ref 3), (1, .int (nI (i))), (2, .int (nI (k))), (3, .int (nI (j + 1)))]) 3 dX4_bringForward_40 rfl (by decide) rfl ?_
      refine xe_goto 2 dX4_bringForward_43 (by decide) ?_
      exact k2 c1 c2
    · refine xe_aload_n 0 dX4_bringForward_20 rfl rfl ?_
      refine xr_getR (b := 5) dX4_bringForward_21 fX4_17 rfl sh3 (by decide) rfl ?_
      refine xe_iload_n 3 dX4_bringForward_24 rfl rfl ?_
      refine xe_aload_n 0 dX4_bringForward_25 rfl rfl ?_
      refine xr_getR (b := 5) dX4_bringForward_26 fX4_17 rfl sh3 (by decide) rfl ?_
      refine xe_iload_n 1 dX4_bringForward_29 rfl rfl ?_
      refine xr_iald (k := i) (v := nI (oi)) dX4_bringForward_30 sh5 (by decide) (by omega) (by decide) v5 ?_
      refine xr_iast (k := j) dX4_bringForward_31 sh5 (by decide) (by omega) (by decide) ?_
      refine xe_aload_n 0 dX4_bringForward_32 rfl rfl ?_
      refine xr_getR (b := 5) dX4_bringForward_33 fX4_17 rfl sh3 (by decide) rfl ?_
      refine xe_iload_n 1 dX4_bringForward_36 rfl rfl ?_
      refine xe_iload_n 2 dX4_bringForward_37 rfl rfl ?_
      refine xr_iast (k := i) dX4_bringForward_38 sh5 (by decide) (by omega) (by decide) ?_
      exact xe_ret (r := none) dX4_bringForward_39 trivial (k3 c1 c2)

theorem gX4_stands_0 (u : xU) {Q : Option Value → xM → Prop}  
    (k1 : xE mX4_stands 4 [(0, .ref 3), (1, .int (nI (0))), (2, .int (nI (0)))] [] (xmm u) Q) : xE mX4_stands 0 [(0, .ref 3)] [] (xmm u) Q := by
  refine xe_iconst (v := nI (0)) dX4_stands_0 xc0 ?_
  refine xe_istore_n (L2 := [(0, .ref 3), (1, .int (nI (0)))]) dX4_stands_1 rfl (by decide) rfl ?_
  refine xe_iconst (v := nI (0)) dX4_stands_2 xc0 ?_
  refine xe_istore_n (L2 := [(0, .ref 3), (1, .int (nI (0))), (2, .int (nI (0)))]) dX4_stands_3 rfl (by decide) rfl ?_
  exact k1

theorem gX4_stands_4 (u : xU) (nn n hc : Nat) (p l m due kd : Nat) (f : Int32) {Q : Option Value → xM → Prop} (hnn : nn ≤ 6) (hn : n ≤ 10) (hhc : hc ≤ 5) (hp : p < n) (hkd : kd ≤ 3) (hl : l ≤ 3) (hdue : due ≤ 3) (v1 : u.1 3 0 = nI (nn)) (v2 : u.1 3 1 = nI (n)) (v3 : u.1 3 4 = nI (hc)) (v4 : u.1 (6 + 4 * p) 0 = nI (kd)) (v5 : u.1 (6 + 4 * p) 2 = nI (l)) (v6 : u.1 (6 + 4 * p) 3 = nI (m)) (v7 : u.1 (6 + 4 * p) 4 = nI (due))
    (k1 : n ≤ p → nn ≤ 0 → Q (some (.int (nI (0)))) (xmm u))
    (k2 : n ≤ p → ¬ nn ≤ 0 → ¬ f = ((1 <<< ((nI (nn)) &&& 31)) - 1) → Q (some (.int (nI (0)))) (xmm u))
    (k3 : n ≤ p → ¬ nn ≤ 0 → f = ((1 <<< ((nI (nn)) &&& 31)) - 1) → Q (some (.int (nI (1)))) (xmm u))
    (k4 : ¬ n ≤ p → due ≤ l → ¬ kd = 0 → xE mX4_stands 4 [(0, .ref 3), (1, .int (f)), (2, .int (nI (p + 1)))] [] (xmm u) Q)
    (k5 : ¬ n ≤ p → due ≤ l → kd = 0 → xE mX4_stands 4 [(0, .ref 3), (1, .int (f ||| (nI (m)))), (2, .int (nI (p + 1)))] [] (xmm u) Q)
    (k6 : ¬ n ≤ p → ¬ (due ≤ l) → Q (some (.int (nI (0)))) (xmm u)) : xE mX4_stands 4 [(0, .ref 3), (1, .int (f)), (2, .int (nI (p)))] [] (xmm u) Q := by
  refine xe_iload_n 2 dX4_stands_4 rfl rfl ?_
  refine xe_aload_n 0 dX4_stands_5 rfl rfl ?_
  refine xr_getI (v := nI (n)) dX4_stands_6 fX4_26 sh3 (by decide) v2 ?_
  refine xn_icmp_ge 56 dX4_stands_9 (by decide) (by omega) (by omega) (fun c1 => ?_) (fun c1 => ?_)
  · refine xe_aload_n 0 dX4_stands_56 rfl rfl ?_
    refine xr_getI (v := nI (nn)) dX4_stands_57 fX4_22 sh3 (by decide) v1 ?_
    refine xn_if_le 79 dX4_stands_60 (by decide) (by omega) (fun c2 => ?_) (fun c2 => ?_)
    · refine xe_iconst (v := nI (0)) dX4_stands_79 xc0 ?_
      exact xe_ret (r := (some (.int (nI (0))))) dX4_stands_80 (Or.inl rfl) (k1 c1 c2)
    · refine xe_iload_n 1 dX4_stands_63 rfl rfl ?_
      refine xe_iconst (v := nI (1)) dX4_stands_64 xc1 ?_
      refine xe_aload_n 0 dX4_stands_65 rfl rfl ?_
      refine xr_getI (v := nI (nn)) dX4_stands_66 fX4_22 sh3 (by decide) v1 ?_
      refine xe_ishl dX4_stands_69 ?_
      refine xe_iconst (v := nI (1)) dX4_stands_70 xc1 ?_
      refine xe_isub dX4_stands_71 ?_
      refine xe_icmp_ne 79 dX4_stands_72 (by decide) (fun c3 => ?_) (fun c3 => ?_)
      · refine xe_iconst (v := nI (0)) dX4_stands_79 xc0 ?_
        exact xe_ret (r := (some (.int (nI (0))))) dX4_stands_80 (Or.inl rfl) (k2 c1 c2 c3)
      · refine xe_iconst (v := nI (1)) dX4_stands_75 xc1 ?_
        refine xe_goto 80 dX4_stands_76 (by decide) ?_
        exact xe_ret (r := (some (.int (nI (1))))) dX4_stands_80 (Or.inr rfl) (k3 c1 c2 c3)
  · refine xe_aload_n 0 dX4_stands_12 rfl rfl ?_
    refine xr_getR (b := 4) dX4_stands_13 fX4_11 rfl sh3 (by decide) rfl ?_
    refine xe_iload_n 2 dX4_stands_16 rfl rfl ?_
    refine xr_aald (k := p) (b := (6 + 4 * p)) dX4_stands_17 sh4 (by decide) (by decide) (by decide) (by omega) (by decide) (rParts (by omega)) ?_
    refine xe_callV (As := []) (rest := []) dX4_stands_18 wX3_isFull lX4_50 iX3_isFull sX3_isFull ⟨by decide, by decide⟩ (shP _ (by omega)) rfl (xin_mm (by omega)) rfl rfl (by simp [Value.category]) (xC.pure (v := .int (xb (due ≤ l))) (qX3_isFull u p l due (by omega) (by omega) (by omega) v5 v7) ?_)
    refine xb_if_ne 26 dX4_stands_21 (by decide) (fun c4 => ?_) (fun c4 => ?_)
    · refine xe_aload_n 0 dX4_stands_26 rfl rfl ?_
      refine xr_getR (b := 4) dX4_stands_27 fX4_11 rfl sh3 (by decide) rfl ?_
      refine xe_iload_n 2 dX4_stands_30 rfl rfl ?_
      refine xr_aald (k := p) (b := (6 + 4 * p)) dX4_stands_31 sh4 (by decide) (by decide) (by decide) (by omega) (by decide) (rParts (by omega)) ?_
      refine xr_getI (v := nI (kd)) dX4_stands_32 fX4_53 (shP _ (by omega)) (by omega) v4 ?_
      refine xn_if_ne 50 dX4_stands_35 (by decide) (by omega) (fun c5 => ?_) (fun c5 => ?_)
      · refine xn_iinc (c := 1) (L2 := [(0, .ref 3), (1, .int (f)), (2, .int (nI (p + 1)))]) 2 dX4_stands_50 rfl (by decide) rfl ?_
        refine xe_goto 4 dX4_stands_53 (by decide) ?_
        exact k4 c1 c4 c5
      · refine xe_iload_n 1 dX4_stands_38 rfl rfl ?_
        refine xe_aload_n 0 dX4_stands_39 rfl rfl ?_
        refine xr_getR (b := 4) dX4_stands_40 fX4_11 rfl sh3 (by decide) rfl ?_
        refine xe_iload_n 2 dX4_stands_43 rfl rfl ?_
        refine xr_aald (k := p) (b := (6 + 4 * p)) dX4_stands_44 sh4 (by decide) (by decide) (by decide) (by omega) (by decide) (rParts (by omega)) ?_
        refine xr_getI (v := nI (m)) dX4_stands_45 fX4_56 (shP _ (by omega)) (by omega) v6 ?_
        refine xe_ior dX4_stands_48 ?_
        refine xe_istore_n (L2 := [(0, .ref 3), (1, .int (f ||| (nI (m)))), (2, .int (nI (p)))]) dX4_stands_49 rfl (by decide) rfl ?_
        refine xn_iinc (c := 1) (L2 := [(0, .ref 3), (1, .int (f ||| (nI (m)))), (2, .int (nI (p + 1)))]) 2 dX4_stands_50 rfl (by decide) rfl ?_
        refine xe_goto 4 dX4_stands_53 (by decide) ?_
        exact k5 c1 c4 c5
    · refine xe_iconst (v := nI (0)) dX4_stands_24 xc0 ?_
      exact xe_ret (r := (some (.int (nI (0))))) dX4_stands_25 (Or.inl rfl) (k6 c1 c4)

theorem gX4_stands_e (u : xU) (nn n hc : Nat) (p : Nat) (f : Int32) {Q : Option Value → xM → Prop} (hnn : nn ≤ 6) (hn : n ≤ 10) (hhc : hc ≤ 5) (hp : p = n) (v1 : u.1 3 0 = nI (nn)) (v2 : u.1 3 1 = nI (n)) (v3 : u.1 3 4 = nI (hc))
    (k1 : n ≤ p → nn ≤ 0 → Q (some (.int (nI (0)))) (xmm u))
    (k2 : n ≤ p → ¬ nn ≤ 0 → ¬ f = ((1 <<< ((nI (nn)) &&& 31)) - 1) → Q (some (.int (nI (0)))) (xmm u))
    (k3 : n ≤ p → ¬ nn ≤ 0 → f = ((1 <<< ((nI (nn)) &&& 31)) - 1) → Q (some (.int (nI (1)))) (xmm u))
    (k4 : ¬ n ≤ p → xC mX3_isFull [.ref (6 + 4 * p)] (xmm u) (fun r μ1 => xE mX4_stands 21 [(0, .ref 3), (1, .int (f)), (2, .int (nI (p)))] (r.toList ++ []) μ1 Q)) : xE mX4_stands 4 [(0, .ref 3), (1, .int (f)), (2, .int (nI (p)))] [] (xmm u) Q := by
  refine xe_iload_n 2 dX4_stands_4 rfl rfl ?_
  refine xe_aload_n 0 dX4_stands_5 rfl rfl ?_
  refine xr_getI (v := nI (n)) dX4_stands_6 fX4_26 sh3 (by decide) v2 ?_
  refine xn_icmp_ge 56 dX4_stands_9 (by decide) (by omega) (by omega) (fun c1 => ?_) (fun c1 => ?_)
  · refine xe_aload_n 0 dX4_stands_56 rfl rfl ?_
    refine xr_getI (v := nI (nn)) dX4_stands_57 fX4_22 sh3 (by decide) v1 ?_
    refine xn_if_le 79 dX4_stands_60 (by decide) (by omega) (fun c2 => ?_) (fun c2 => ?_)
    · refine xe_iconst (v := nI (0)) dX4_stands_79 xc0 ?_
      exact xe_ret (r := (some (.int (nI (0))))) dX4_stands_80 (Or.inl rfl) (k1 c1 c2)
    · refine xe_iload_n 1 dX4_stands_63 rfl rfl ?_
      refine xe_iconst (v := nI (1)) dX4_stands_64 xc1 ?_
      refine xe_aload_n 0 dX4_stands_65 rfl rfl ?_
      refine xr_getI (v := nI (nn)) dX4_stands_66 fX4_22 sh3 (by decide) v1 ?_
      refine xe_ishl dX4_stands_69 ?_
      refine xe_iconst (v := nI (1)) dX4_stands_70 xc1 ?_
      refine xe_isub dX4_stands_71 ?_
      refine xe_icmp_ne 79 dX4_stands_72 (by decide) (fun c3 => ?_) (fun c3 => ?_)
      · refine xe_iconst (v := nI (0)) dX4_stands_79 xc0 ?_
        exact xe_ret (r := (some (.int (nI (0))))) dX4_stands_80 (Or.inl rfl) (k2 c1 c2 c3)
      · refine xe_iconst (v := nI (1)) dX4_stands_75 xc1 ?_
        refine xe_goto 80 dX4_stands_76 (by decide) ?_
        exact xe_ret (r := (some (.int (nI (1))))) dX4_stands_80 (Or.inr rfl) (k3 c1 c2 c3)
  · refine xe_aload_n 0 dX4_stands_12 rfl rfl ?_
    refine xr_getR (b := 4) dX4_stands_13 fX4_11 rfl sh3 (by decide) rfl ?_
    refine xe_iload_n 2 dX4_stands_16 rfl rfl ?_
    refine xr_aald (k := p) (b := (6 + 4 * p)) dX4_stands_17 sh4 (by decide) (by decide) (by decide) (by omega) (by decide) (rParts (by omega)) ?_
    refine xe_callV (As := []) (rest := []) dX4_stands_18 wX3_isFull lX4_50 iX3_isFull sX3_isFull ⟨by decide, by decide⟩ (shP _ (by omega)) rfl (xin_mm (by omega)) rfl rfl (by simp [Value.category]) ?_
    exact k4 c1

theorem qX4_lastPart_t {u : xU} {T : TBL} {Q : QST} (hQ : QI T Q) (h : CQ T Q u) (h0 : qP Q ≠ 0) : xC mX4_lastPart [.ref 3] (xmm u) (fun r μ' => r = some (.ref (6 + 4 * (qP Q - 1))) ∧ μ' = xmm u) :=
  xC.of xpl4 (Nat.le_of_ble_eq_true rfl) (gX4_lastPart_0 u (qN Q) (qP Q) _ hQ.1 hQ.2.1 hQ.2.2.1 h.1 h.2.1 h.2.2.1 (fun _ => ⟨rfl, rfl⟩) (fun q => absurd q h0))
theorem qX4_lastPart_f {u : xU} {T : TBL} {Q : QST} (hQ : QI T Q) (h : CQ T Q u) (h0 : qP Q = 0) : xC mX4_lastPart [.ref 3] (xmm u) (fun r μ' => r = some .null ∧ μ' = xmm u) :=
  xC.of xpl4 (Nat.le_of_ble_eq_true rfl) (gX4_lastPart_0 u (qN Q) (qP Q) _ hQ.1 hQ.2.1 hQ.2.2.1 h.1 h.2.1 h.2.2.1 (fun q => absurd h0 q) (fun _ => ⟨rfl, rfl⟩))
theorem opn_iff {T : TBL} {Q : QST} : opn T Q = true ↔ qP Q ≠ 0 ∧ qK Q (qP Q - 1) ≤ 1 ∧ qL Q (qP Q - 1) < T.1 (qOf Q (qP Q - 1)) := by
  simp only [opn, Bool.and_eq_true, decide_eq_true_eq, and_assoc]
theorem qX9_openPart_t {u : xU} {T : TBL} {Q : QST} (hT : TI T) (hQ : QI T Q) (h : CQ T Q u) (ho : opn T Q = true) : xC mX9_openPart [.ref 1] (xmm u) (fun r μ' => r = some (.ref (6 + 4 * (qP Q - 1))) ∧ μ' = xmm u) := by
  obtain ⟨o1, o2, o3⟩ := opn_t ho
  have hp : qP Q - 1 < qP Q := by omega
  have hp10 := hQ.2.1
  have c := h.2.2.2.2 _ hp
  have hd := qDue_le hT hQ hp
  have hl := qL_le hT hQ hp
  refine xC.of xpl9 (Nat.le_of_ble_eq_true rfl) (gX9_openPart_R u _ (qK Q (qP Q - 1)) (qL Q (qP Q - 1)) (qDue T Q (qP Q - 1)) (by omega) (by omega) (by omega) hd (qX4_lastPart_t hQ h o1) c.1 c.2.2.1 c.2.2.2.2.1 (fun q => absurd o2 q) (fun q z => ⟨rfl, rfl⟩) (fun q z => ?_))
  unfold qDue at z
  rw [if_pos o2] at z
  omega
theorem qX9_openPart_f {u : xU} {T : TBL} {Q : QST} (hT : TI T) (hQ : QI T Q) (h : CQ T Q u) (ho : ¬ opn T Q = true) : xC mX9_openPart [.ref 1] (xmm u) (fun r μ' => r = some .null ∧ μ' = xmm u) := by
  by_cases h0 : qP Q = 0
  · exact xC.of xpl9 (Nat.le_of_ble_eq_true rfl) (gX9_openPart_Z u (qX4_lastPart_f hQ h h0) ⟨rfl, rfl⟩)
  · have hp : qP Q - 1 < qP Q := by omega
    have hp10 := hQ.2.1
    have c := h.2.2.2.2 _ hp
    have hd := qDue_le hT hQ hp
    have hl := qL_le hT hQ hp
    refine xC.of xpl9 (Nat.le_of_ble_eq_true rfl) (gX9_openPart_R u _ (qK Q (qP Q - 1)) (qL Q (qP Q - 1)) (qDue T Q (qP Q - 1)) (by omega) (hQ.2.2.2.2.1 _ hp).1 (by omega) hd (qX4_lastPart_t hQ h h0) c.1 c.2.2.1 c.2.2.2.2.1 (fun q => ⟨rfl, rfl⟩) (fun q z => ?_) (fun q z => ⟨rfl, rfl⟩))
    unfold qDue at z
    rw [if_pos q] at z
    exact absurd (opn_iff.mpr ⟨h0, q, by omega⟩) ho
theorem qX9_name {u : xU} {T : TBL} {Q : QST} (hT : TI T) (hQ : QI T Q) (h : CQ T Q u) (k : Int32) : xC mX9_name [.ref 1, .int k] (xmm u) (pQ T u (some (.int (aName T Q k).1)) (aName T Q k).2) := by
  have hp10 := hQ.2.1
  have hn6 := hQ.1
  by_cases ho : opn T Q = true
  · obtain ⟨o1, o2, o3⟩ := opn_t ho
    have hp : qP Q - 1 < qP Q := by omega
    have c := h.2.2.2.2 _ hp
    have hd := qDue_le hT hQ hp
    have hl3 : qL Q (qP Q - 1) < 3 := by
      have := (hT _ ((hQ.2.2.2.2.1 _ hp).2.1 o2).1).1
      omega
    refine xC.of xpl9 (Nat.le_of_ble_eq_true rfl) (gX9_name_R u _ k (isNm Q k) (by omega) (qX9_openPart_t hT hQ h ho) (qX4_hasName hQ h k) (fun z => ?_) (fun z => ?_))
    · obtain ⟨j, hj, rfl, e⟩ := isNm_t hQ z
      have ea : aName T Q (nI j) = (nI (qL Q (qP Q - 1) + 1), plQ Q (some j) 0) := by
        unfold aName
        rw [if_pos (by rw [ho, z]; rfl), e]
      rw [ea]
      refine (qX3_addName c (by omega) hl3 (fun i hi k hk => by have := qM_lt hQ hp hi hk; omega) j (by omega)).mono ?_
      rintro r μ' ⟨u', rfl, rfl, c', f⟩
      exact xe_ret (r := some (.int _)) dX9_name_29 trivial ⟨u', rfl, rfl, CQ_pl h o1 hp10 c' f, frQ_P (by omega) f⟩
    · have ea : aName T Q k = (-1, Q) := by
        unfold aName
        rw [if_neg (by rw [Bool.and_eq_true]; exact fun y => z y.2)]
      rw [ea]
      exact ⟨u, rfl, rfl, h, frQ.rf⟩
  · have ea : aName T Q k = (-1, Q) := by
      unfold aName
      rw [if_neg (by rw [Bool.and_eq_true]; exact fun y => ho y.1)]
    rw [ea]
    exact xC.of xpl9 (Nat.le_of_ble_eq_true rfl) (gX9_name_Z u k (qX9_openPart_f hT hQ h ho) ⟨u, rfl, rfl, h, frQ.rf⟩)
theorem qX9_value {u : xU} {T : TBL} {Q : QST} (hT : TI T) (hQ : QI T Q) (h : CQ T Q u) (v : Int32) : xC mX9_value [.ref 1, .int v] (xmm u) (pQ T u (some (.int (aValue T Q v).1)) (aValue T Q v).2) := by
  have hp10 := hQ.2.1
  by_cases ho : opn T Q = true
  · obtain ⟨o1, o2, o3⟩ := opn_t ho
    have hp : qP Q - 1 < qP Q := by omega
    have c := h.2.2.2.2 _ hp
    have hl3 : qL Q (qP Q - 1) < 3 := by
      have := (hT _ ((hQ.2.2.2.2.1 _ hp).2.1 o2).1).1
      omega
    have ea : aValue T Q v = (nI (qL Q (qP Q - 1) + 1), plQ Q none v) := by
      unfold aValue
      rw [if_pos ho]
    rw [ea]
    refine xC.of xpl9 (Nat.le_of_ble_eq_true rfl) (gX9_value_R u _ v (by omega) (qX9_openPart_t hT hQ h ho) ?_)
    refine (qX3_addTold c (by omega) hl3 v).mono ?_
    rintro r μ' ⟨u', rfl, rfl, c', f⟩
    exact xe_ret (r := some (.int _)) dX9_value_18 trivial ⟨u', rfl, rfl, CQ_pl h o1 hp10 c' f, frQ_P (by omega) f⟩
  · have ea : aValue T Q v = (-1, Q) := by
      unfold aValue
      rw [if_neg ho]
    rw [ea]
    exact xC.of xpl9 (Nat.le_of_ble_eq_true rfl) (gX9_value_Z u v (qX9_openPart_f hT hQ h ho) ⟨u, rfl, rfl, h, frQ.rf⟩)
theorem qX9_part {u : xU} {T : TBL} {Q : QST} (hT : TI T) (hQ : QI T Q) (hC : CT T u) (h : CQ T Q u) (kd t : Int32) : xC mX9_part [.ref 1, .int kd, .int t] (xmm u) (pQ T u (some (.int (aPart T Q kd t).1)) (aPart T Q kd t).2) := by
  have no : ¬ ((decide (kd = 0) || decide (kd = 1)) && tIs T t && room Q kd) = true → pQ T u (some (.int (aPart T Q kd t).1)) (aPart T Q kd t).2 (some (.int (-1))) (xmm u) := fun z => by
    unfold aPart
    rw [if_neg z]
    exact ⟨u, rfl, rfl, h, frQ.rf⟩
  by_cases hi : tIs T t = true
  · obtain ⟨k, hk, rfl, e, h0⟩ := tIs_t hi
    have yes : ∀ kn, kn ≤ 1 → kd = nI kn → room Q kd = true → xC mX4_addFact [.ref 3, .int kd, .int (nI k), .int (nI (T.1 k))] (xmm u) (fun r μ1 => xE mX9_part 45 [] (r.toList ++ []) μ1 (pQ T u (some (.int (aPart T Q kd (nI k)).1)) (aPart T Q kd (nI k)).2)) := fun kn hkn hkd hr => by
      subst hkd
      have ea : aPart T Q (nI kn) (nI k) = (nI (qP Q), pushQ Q kn k 0 (fun _ => none) (fun _ => 0)) := by
        unfold aPart
        rw [if_pos, e, nI_nat (by omega)]
        rw [hi, hr]
        rcases (show kn = 0 ∨ kn = 1 by omega) with rfl | rfl <;> rfl
      rw [ea]
      refine (qX4_addFact hT hQ h kn k hkn hk hr).mono ?_
      rintro r μ' ⟨u', rfl, rfl, c', f⟩
      exact xe_ret (r := some (.int _)) dX9_part_45 trivial ⟨u', rfl, rfl, c', f⟩
    refine xC.of xpl9 (Nat.le_of_ble_eq_true rfl) (gX9_part_T u k (T.1 k) kd _ (room Q kd) hk (qX9_tableAt_t hT hC hk h0) (qX4_hasRoomFor hQ h kd) (hC k hk).1 (fun q z => yes 0 (by omega) q z) (fun q z => no ?_) (fun q z => no ?_) (fun q z y => yes 1 (by omega) z y) (fun q z y => no ?_))
    · simp only [Bool.and_eq_true]; exact fun y => z y.2
    · simp only [Bool.and_eq_true, Bool.or_eq_true, decide_eq_true_eq]; exact fun y => y.1.1.elim q z
    · simp only [Bool.and_eq_true]; exact fun x => y x.2
  · have nn := no (by simp only [Bool.and_eq_true]; exact fun y => hi y.1.2)
    exact xC.of xpl9 (Nat.le_of_ble_eq_true rfl) (gX9_part_Z u kd t (qX9_tableAt_f hT hC hi) (fun _ => nn) (fun _ _ => nn) (fun _ _ => nn))
theorem qX9_compare {u : xU} {T : TBL} {Q : QST} (hQ : QI T Q) (h : CQ T Q u) (kd a b v : Int32) : xC mX9_compare [.ref 1, .int kd, .int a, .int b, .int v] (xmm u) (pQ T u (some (.int (aCompare Q kd a b v).1)) (aCompare Q kd a b v).2) := by
  have no : ¬ ((decide (kd = 2) || decide (kd = 3)) && isNm Q a && (decide (b = 0) || isNm Q v) && room Q kd) = true → pQ T u (some (.int (aCompare Q kd a b v).1)) (aCompare Q kd a b v).2 (some (.int (-1))) (xmm u) := fun z => by
    unfold aCompare
    rw [if_neg z]
    exact ⟨u, rfl, rfl, h, frQ.rf⟩
  simp only [Bool.and_eq_true, Bool.or_eq_true, decide_eq_true_eq] at no
  have yes : ∀ kn, 2 ≤ kn → kn ≤ 3 → kd = nI kn → isNm Q a = true → (b ≠ 0 → isNm Q v = true) → room Q kd = true → xC mX4_addComparison [.ref 3, .int kd, .int a, .int b, .int v] (xmm u) (fun r μ1 => xE mX9_compare 74 [] (r.toList ++ []) μ1 (pQ T u (some (.int (aCompare Q kd a b v).1)) (aCompare Q kd a b v).2)) := fun kn h2 h3 hkd ha hv hr => by
    subst hkd
    obtain ⟨j, hj, rfl, e⟩ := isNm_t hQ ha
    have ea : aCompare Q (nI kn) (nI j) b v = (nI (qP Q), pushQ Q kn 0 2 (setT (setT (fun _ => none) 0 (some j)) 1 (if b = 0 then none else some v.toNatClampNeg)) (setT (setT (fun _ => 0) 0 0) 1 (if b = 0 then v else 0))) := by
      unfold aCompare
      rw [if_pos, e, nI_nat (by omega)]
      simp only [Bool.and_eq_true, Bool.or_eq_true, decide_eq_true_eq]
      refine ⟨⟨⟨?_, ha⟩, ?_⟩, hr⟩
      · rcases (show kn = 2 ∨ kn = 3 by omega) with rfl | rfl
        · exact Or.inl rfl
        · exact Or.inr rfl
      · by_cases hb : b = 0
        · exact Or.inl hb
        · exact Or.inr (hv hb)
    rw [ea]
    refine (qX4_addComparison hQ h kn j b v h2 h3 hj hv hr).mono ?_
    rintro r μ' ⟨u', rfl, rfl, c', f⟩
    exact xe_ret (r := some (.int _)) dX9_compare_74 trivial ⟨u', rfl, rfl, c', f⟩
  refine xC.of xpl9 (Nat.le_of_ble_eq_true rfl) (gX9_compare_0 u kd a b v (isNm Q a) (isNm Q v) (room Q kd) (qX4_hasName hQ h a) (qX4_hasName hQ h v) (qX4_hasRoomFor hQ h kd)
    (fun q z => no fun y => q y.1.1.2) (fun q z _ => no fun y => q y.1.1.2) (fun q z _ => no fun y => q y.1.1.2)
    (fun q z y x => yes 2 (by omega) (by omega) y q (fun w => absurd z w) x) (fun q z y x => no fun w => x w.2) (fun q z y x => no fun w => w.1.1.1.elim y x)
    (fun q z y x r => yes 3 (by omega) (by omega) x q (fun w => absurd z w) r) (fun q z y x r => no fun w => r w.2)
    (fun q z y x => no fun w => w.1.2.elim z y) (fun q z y x r => no fun w => w.1.2.elim z y) (fun q z y x r => no fun w => w.1.2.elim z y)
    (fun q z y x r => yes 2 (by omega) (by omega) x q (fun _ => y) r) (fun q z y x r => no fun w => r w.2) (fun q z y x r => no fun w => w.1.1.1.elim x r)
    (fun q z y x r s => yes 3 (by omega) (by omega) r q (fun _ => y) s) (fun q z y x r s => no fun w => s w.2))
theorem qX9_ask {u : xU} {T : TBL} {Q : QST} (h : CQ T Q u) (n : Int32) : xC mX9_ask [.ref 1, .int n] (xmm u) (pQ T u (some (.int (xb ((aAsk Q n).1 = true)))) (aAsk Q n).2) := by
  have no : ¬ (1 ≤ n ∧ n ≤ 6) → pQ T u (some (.int (xb ((aAsk Q n).1 = true)))) (aAsk Q n).2 (some (.int (nI 0))) (xmm u) := fun z => by
    have ea : aAsk Q n = (false, Q) := by
      unfold aAsk
      rw [if_neg (by simp only [Bool.and_eq_true, decide_eq_true_eq]; exact z)]
    rw [ea]
    exact ⟨u, rfl, ret_f (fun q => by cases q), h, frQ.rf⟩
  refine xC.of xpl9 (Nat.le_of_ble_eq_true rfl) (gX9_ask_0 u n (fun q => no fun z => le_not_lt z.1 q) (fun q z => ?_) (fun q z => no fun y => z y.2))
  have ea : aAsk Q n = (true, (n.toNatClampNeg, 0, qK Q, qOf Q, qL Q, qM Q, qV Q, fun i => i)) := by
    unfold aAsk
    rw [if_pos (by simp only [Bool.and_eq_true, decide_eq_true_eq]; exact ⟨not_lt_le q, z⟩)]
  rw [ea]
  rcases xspl n with y | ⟨k, hk, rfl⟩
  · exact absurd y (by
      have := not_lt_le q
      rw [Int32.le_iff_toInt_le, show (1 : Int32).toInt = 1 from by decide] at this
      rw [Int32.lt_iff_toInt_lt, show (0 : Int32).toInt = 0 from by decide]
      omega)
  rw [nI_nat hk]
  refine xC.of xpl4 (Nat.le_of_ble_eq_true rfl) (gX4_open_0 u k ?_)
  have loop : ∀ d i (v : xU), 6 - i = d → i ≤ 6 → v.1 3 = (wi (wi (wi u 3 0 (nI k)) 3 1 (nI 0)) 3 4 (nI 0)).1 3 → (∀ j, j < i → v.1 5 j = nI j) → (∀ x, x ≠ 3 → x ≠ 5 → v.1 x = u.1 x) → v.2 = u.2 → xE mX4_open 17 [(0, .ref 3), (2, .int (nI i))] [] (xmm v) (fun r μ1 => xE mX9_ask 21 [] (r.toList ++ []) μ1 (pQ T u (some (.int (xb ((true, ((k, 0, qK Q, qOf Q, qL Q, qM Q, qV Q, fun i => i) : QST)).1 = true)))) (true, ((k, 0, qK Q, qOf Q, qL Q, qM Q, qV Q, fun i => i) : QST)).2)) := by
    intro d
    induction d with
    | zero =>
      intro i v hd hi v3 v5 vf v2
      refine gX4_open_17 v i hi (fun _ => ?_) (fun z => absurd (by omega) z)
      have hk6 : k ≤ 6 := (nI_len hk (by decide)).mp z
      refine gX9_ask_21 v ⟨v, rfl, ret_t rfl, ⟨?_, ?_, ?_, fun j hj => v5 j (by have : j < k := hj; omega), fun p hp => absurd hp (Nat.not_lt_zero p)⟩, fun x x3 x5 _ => vf x x3 x5, v2⟩
      · rw [v3, wi_nek (by decide), wi_nek (by decide)]; exact wi_self
      · rw [v3, wi_nek (by decide)]; exact wi_self
      · rw [v3]; exact wi_self
    | succ d ih =>
      intro i v hd hi v3 v5 vf v2
      refine gX4_open_17 v i hi (fun z => by omega) (fun _ => ?_)
      refine ih (i + 1) _ (by omega) (by omega) ((wi_row (by decide)).trans v3) (fun j hj => ?_) (fun x x3 x5 => (wi_row x5).trans (vf x x3 x5)) v2
      by_cases e : j = i
      · subst e; exact wi_self
      · rw [wi_nek e]; exact v5 j (by omega)
  exact loop _ 0 _ rfl (by omega) rfl (fun j hj => absurd hj (Nat.not_lt_zero j)) (fun x x3 x5 => by rw [wi_row x3, wi_row x3, wi_row x3]) rfl

