theorem gX9_weave_0 (u : xU) (b : Bool) {Q : Option Value → xM → Prop} (hst : xC mX4_stands [.ref 3] (xmm u) (fun r μ' => r = some (.int (xb (b = true))) ∧ μ' = xmm u)) 
    (k1 : b = true → xC mX7_prepare [.ref 74, .ref 2, .ref 3] (xmm u) (fun r μ1 => xE mX9_weave 27 [(0, .ref 1)] (r.toList ++ []) μ1 Q))
    (k2 : ¬ (b = true) → Q (some (.int (-1))) (xmm u)) : xE mX9_weave 0 [(0, .ref 1)] [] (xmm u) Q := by
  refine xe_aload_n 0 dX9_weave_0 rfl rfl ?_
  refine xr_getR (b := 3) dX9_weave_1 fX9_18 rfl sh1 (by decide) rfl ?_
  refine xe_callV (As := []) (rest := []) dX9_weave_4 wX4_stands lX9_127 iX4_stands sX4_stands ⟨by decide, by decide⟩ sh3 rfl (xin_mm (by decide)) rfl rfl (by simp [Value.category]) (xC.pure (v := .int (xb (b = true))) (hst) ?_)
  refine xb_if_ne 12 dX9_weave_7 (by decide) (fun c1 => ?_) (fun c1 => ?_)
  · refine xe_aload_n 0 dX9_weave_12 rfl rfl ?_
    refine xr_getR (b := 74) dX9_weave_13 fX9_60 rfl sh1 (by decide) rfl ?_
    refine xe_aload_n 0 dX9_weave_16 rfl rfl ?_
    refine xr_getR (b := 2) dX9_weave_17 fX9_11 rfl sh1 (by decide) rfl ?_
    refine xe_aload_n 0 dX9_weave_20 rfl rfl ?_
    refine xr_getR (b := 3) dX9_weave_21 fX9_18 rfl sh1 (by decide) rfl ?_
    refine xe_callV (As := [.ref 2, .ref 3]) (rest := []) dX9_weave_24 wX7_prepare lX9_131 iX7_prepare sX7_prepare ⟨by decide, by decide⟩ sh74 rfl (xin_mm (by decide)) rfl rfl (by simp [Value.category]) ?_
    exact k1 c1
  · refine xe_iconst (v := -1) dX9_weave_10 xcm1 ?_
    exact xe_ret (r := (some (.int (-1)))) dX9_weave_11 trivial (k2 c1)

theorem gX9_weave_27 (u : xU) {Q : Option Value → xM → Prop}  
    (k1 : xC mX7_weaveInto [.ref 74, .ref 3, .ref 46] (xmm u) (fun r μ1 => xE mX9_weave 42 [(0, .ref 1)] (r.toList ++ []) μ1 Q)) : xE mX9_weave 27 [(0, .ref 1)] [] (xmm u) Q := by
  refine xe_aload_n 0 dX9_weave_27 rfl rfl ?_
  refine xr_getR (b := 74) dX9_weave_28 fX9_60 rfl sh1 (by decide) rfl ?_
  refine xe_aload_n 0 dX9_weave_31 rfl rfl ?_
  refine xr_getR (b := 3) dX9_weave_32 fX9_18 rfl sh1 (by decide) rfl ?_
  refine xe_aload_n 0 dX9_weave_35 rfl rfl ?_
  refine xr_getR (b := 46) dX9_weave_36 fX9_25 rfl sh1 (by decide) rfl ?_
  refine xe_callV (As := [.ref 3, .ref 46]) (rest := []) dX9_weave_39 wX7_weaveInto lX9_135 iX7_weaveInto sX7_weaveInto ⟨by decide, by decide⟩ sh74 rfl (xin_mm (by decide)) rfl rfl (by simp [Value.category]) ?_
  exact k1

theorem gX9_weave_f (u : xU) {Q : Option Value → xM → Prop}  
    (k1 : Q (some (.int (-2))) (xmm u)) : xE mX9_weave 42 [(0, .ref 1)] [.int (nI (0))] (xmm u) Q := by
  refine xn_if_eq 58 dX9_weave_42 (by decide) (by omega) (fun _ => ?_) (fun q => absurd q (by decide))
  refine xe_bipush (v := -2) dX9_weave_58 xcbm2 ?_
  exact xe_ret (r := (some (.int (-2)))) dX9_weave_60 trivial (k1)

theorem gX9_weave_t (u : xU) (m : Nat) {Q : Option Value → xM → Prop}  (v1 : u.1 47 1 = nI (m))
    (k1 : Q (some (.int (nI (m)))) (xmm u)) : xE mX9_weave 42 [(0, .ref 1)] [.int (nI (1))] (xmm u) Q := by
  refine xn_if_eq 58 dX9_weave_42 (by decide) (by omega) (fun q => absurd q (by decide)) (fun _ => ?_)
  refine xe_aload_n 0 dX9_weave_45 rfl rfl ?_
  refine xr_getR (b := 46) dX9_weave_46 fX9_25 rfl sh1 (by decide) rfl ?_
  refine xr_getR (b := 47) dX9_weave_49 fX9_139 rfl sh46 (by decide) rfl ?_
  refine xr_getI (v := nI (m)) dX9_weave_52 fX9_142 sh47 (by decide) v1 ?_
  refine xe_goto 60 dX9_weave_55 (by decide) ?_
  exact xe_ret (r := (some (.int (nI (m))))) dX9_weave_60 trivial (k1)

def okW (T : TBL) (Q : QST) : Prop := ∀ i, 1 ≤ i → i ≤ qN Q → cntS T Q (psO (qO Q) i) ≠ none
noncomputable def aWeave (T : TBL) (Q : QST) (W : WVN) : Int32 × WVN := if aStands T Q = true then (if bP (okW T Q) = true then (nI (rowsS T Q).length, Wof T Q) else (-2, W)) else (-1, W)
/-- what was woven is in order -/
def WI (W : WVN) : Prop := AI (wN W) (wR W) ∧ wP W ≤ 10 ∧ (∀ p, p < wP W → ∀ q, wH W p = some q → q < 5) ∧ (wR W = none → wN W = 0)
theorem Wof_WI {T : TBL} {Q : QST} (hQ : QI T Q) (h1 : (rowsS T Q).length ≤ 500) (h2 : (rowsS T Q).Pairwise (lexR (qN Q))) (h3 : ∀ a, a ∈ rowsS T Q ↔ MEM T Q (FS Q) a) : WI (Wof T Q) := by
  refine ⟨⟨hQ.1, fun l hl => ?_⟩, hQ.2.1, fun p hp q hq => ?_, fun z => by cases z⟩
  · have : rowsS T Q = l := Option.some.inj hl
    subst this
    exact ⟨h1, h2, fun a ha j hj => ((h3 a).mp ha).1 j (fun z => hj ((FS_bit hQ).mp z))⟩
  · have hq' : hNo Q p = some q := hq
    unfold hNo at hq'
    split at hq'
    · rename_i hk
      cases hq'
      have := hasN_lt (show p < qP Q from hp) hk
      have := hQ.2.2.1
      omega
    · cases hq'
theorem qX9_weave {u : xU} {T : TBL} {Q : QST} {W : WVN} (hT : TI T) (hQ : QI T Q) (hW : WI W) (hC : CT T u) (h : CQ T Q u) (hw : CW W u) : xC mX9_weave [.ref 1] (xmm u) (fun r μ' => ∃ u', μ' = xmm u' ∧ r = some (.int (aWeave T Q W).1) ∧ CW (aWeave T Q W).2 u' ∧ WI (aWeave T Q W).2 ∧ frY u u') := by
  have hn6 := hQ.1
  unfold aWeave
  refine xC.of xpl9 (Nat.le_of_ble_eq_true rfl) (gX9_weave_0 u _ (qX4_stands hT hQ h) (fun z => ?_) (fun z => ?_))
  all_goals first
  | (rw [if_neg z]; exact ⟨u, rfl, rfl, hw, hW, frX.rf.Y⟩)
  | skip
  rw [if_pos z]
  refine (qX7_prepare hT hQ hC h z).mono ?_
  rintro r μ' ⟨v, Z, D, rfl, rfl, hpre, h0, fx⟩
  refine gX9_weave_27 v ?_
  refine (qX7_weaveInto hT hQ (hC.X fx) (h.X hQ fx) z hpre h0).mono ?_
  rintro r μ' ⟨w, rfl, ⟨rfl, fw, i, i1, i2, i3⟩ | ⟨rfl, fw, cw, l5, lp, lm, cs⟩⟩
  · have no : ¬ bP (okW T Q) = true := fun q => bP_iff.mp q i i1 i2 i3
    rw [if_neg no]
    have ff := fx.tr fw
    exact gX9_weave_f w ⟨w, rfl, rfl, hw.keep hW.1.1 (fun x _ _ => ff.1 x (by omega)) (ff.2.1 55 (by omega)), hW, ff.Y⟩
  · have yes : bP (okW T Q) = true := bP_iff.mpr (fun i i1 i2 i3 => by
      obtain ⟨c, -, c2⟩ := cs i i2
      rw [i3] at c2
      cases c2)
    rw [if_pos yes]
    exact gX9_weave_t w (rowsS T Q).length cw.1.2.1 ⟨w, rfl, rfl, cw, Wof_WI hQ l5 lp lm, fx.Y.tr fw⟩

