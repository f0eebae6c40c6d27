
def LI (T : TBL) (Q : QST) (W : WVN) (K : KPT) : Prop := TI T ∧ QI T Q ∧ WI W ∧ (∀ l, wR W = some l → 1 ≤ wN W) ∧ KI W K
def LC (T : TBL) (Q : QST) (W : WVN) (K : KPT) (u : xU) : Prop := CT T u ∧ CQ T Q u ∧ CW W u ∧ CA 59 K.1 K.2 u
def LM (T : TBL) (Q : QST) (W : WVN) (K : KPT) (u : xU) : Prop := MT T u ∧ KQ Q u ∧ MW W u ∧ MKp K u
def cF (u u' : xU) : Prop := (∀ x, 3 ≤ x → x < 67 → u'.1 x = u.1 x) ∧ (∀ x, 156 ≤ x → x < 172 → u'.1 x = u.1 x) ∧ u'.2.1 55 = u.2.1 55 ∧ u'.2.1 67 = u.2.1 67
def mF (u u' : xU) : Prop := ∀ x, 172 ≤ x → u'.1 x = u.1 x
theorem cF.rf {u : xU} : cF u u := ⟨fun _ _ _ => rfl, fun _ _ _ => rfl, rfl, rfl⟩
theorem mF.rf {u : xU} : mF u u := fun _ _ => rfl
theorem LC.kp {T : TBL} {Q : QST} {W : WVN} {K : KPT} {u u' : xU} (i : LI T Q W K) (h : LC T Q W K u) (f : cF u u') : LC T Q W K u' :=
  ⟨h.1.keep f.2.1, h.2.1.keep i.2.1.2.1 (fun x hx => f.1 x (by omega) (by omega)), h.2.2.1.keep i.2.2.1.1.1 (fun x a b => f.1 x (by omega) (by omega)) f.2.2.1, h.2.2.2.keep i.2.2.2.2.1.1 (fun x hx => f.1 x (by omega) (by omega)) f.2.2.2⟩
theorem LM.kp {T : TBL} {Q : QST} {W : WVN} {K : KPT} {u u' : xU} (h : LM T Q W K u) (f : mF u u') : LM T Q W K u' :=
  ⟨h.1.keep (f _ (by decide)) (f _ (by decide)) (f _ (by decide)), h.2.1.keep (congrFun (f 172 (by decide)) 3) (congrFun (f 172 (by decide)) 4) (fun x a b => f x (by omega)), h.2.2.1.keep (congrFun (f 172 (by decide)) 15) (congrFun (f 172 (by decide)) 16) (congrFun (f 172 (by decide)) 17) (fun x a b => f x (by omega)), h.2.2.2.keep (congrFun (f 172 (by decide)) 22) (congrFun (f 172 (by decide)) 23) (f _ (by decide))⟩
/-- what both sides are, call by call -/
def LV (u : xU) : Prop := ∃ T Q W K, LI T Q W K ∧ LC T Q W K u ∧ LM T Q W K u
/-- one call on each side: the same answer -/
def TW {α : Type} (mk : α → Value) (m1 m2 : xD) (as : List Value) (u : xU) : Prop := xC m1 (.ref 1 :: as) (xmm u) (fun r μ1 => ∃ (v : α) (u1 : xU), r = some (mk v) ∧ μ1 = xmm u1 ∧ u1.1 0 = u.1 0 ∧ xC m2 (.ref 172 :: as) (xmm u1) (fun r2 μ2 => r2 = some (mk v) ∧ ∃ u2, μ2 = xmm u2 ∧ u2.1 0 = u.1 0 ∧ LV u2))
theorem TW.of {α : Type} {mk : α → Value} {m1 m2 : xD} {as : List Value} {u : xU} {v : α} {T T' : TBL} {Q Q' : QST} {W W' : WVN} {K K' : KPT} (m : LM T Q W K u) (i : LI T' Q' W' K')
    (h1 : xC m1 (.ref 1 :: as) (xmm u) (fun r μ => ∃ u1, μ = xmm u1 ∧ r = some (mk v) ∧ LC T' Q' W' K' u1 ∧ mF u u1 ∧ u1.1 0 = u.1 0))
    (h2 : ∀ u1, LM T Q W K u1 → xC m2 (.ref 172 :: as) (xmm u1) (fun r μ => ∃ u2, μ = xmm u2 ∧ r = some (mk v) ∧ LM T' Q' W' K' u2 ∧ cF u1 u2 ∧ u2.1 0 = u1.1 0)) : TW mk m1 m2 as u :=
  h1.mono fun r μ ⟨u1, e1, e2, c, f, z⟩ => ⟨v, u1, e2, e1, z, (h2 u1 (m.kp f)).mono fun r μ ⟨u2, e3, e4, d, g, y⟩ => ⟨e4, u2, e3, y.trans z, T', Q', W', K', i, c.kp i g, d⟩⟩
theorem aPut_same (T : TBL) (t a b c : Int32) : (aPut T t a b c).2.1 = T.1 := by
  unfold aPut tPut
  split
  · split
    · rfl
    · split <;> rfl
  · rfl
theorem aDrop_same (T : TBL) (t a b c : Int32) : (aDrop T t a b c).2.1 = T.1 := by
  unfold aDrop tDrop
  split
  · split <;> rfl
  · rfl
theorem aAsk_QI {T : TBL} {Q : QST} (h : QI T Q) (n : Int32) : QI T (aAsk Q n).2 := by
  unfold aAsk
  split
  · rename_i hn
    simp only [Bool.and_eq_true, decide_eq_true_eq] at hn
    have h6 : n.toNatClampNeg ≤ 6 := by
      rcases xspl n with q | ⟨k, hk, rfl⟩
      · exact absurd (Int32.le_trans (by decide) hn.1) (neg_nn q)
      · rw [nI_nat hk]
        exact (nI_len (b := 6) hk (by decide)).mp hn.2
    exact ⟨h6, Nat.zero_le _, Nat.zero_le _, fun _ => rfl, fun p hp => absurd hp (Nat.not_lt_zero _), fun i hi => hi, fun i j _ _ e => e, fun k hk => ⟨k, hk, rfl⟩⟩
  · exact h
theorem aPart_QI {T : TBL} {Q : QST} (h : QI T Q) (k t : Int32) : QI T (aPart T Q k t).2 := by
  unfold aPart
  split
  · rename_i hn
    simp only [Bool.and_eq_true, Bool.or_eq_true, decide_eq_true_eq] at hn
    obtain ⟨⟨hk, ht⟩, hr⟩ := hn
    obtain ⟨r1, r2, r3⟩ := room_t hr
    obtain ⟨j, hj, -, e, h0⟩ := tIs_t ht
    have hk1 : k.toNatClampNeg ≤ 1 := by rcases hk with rfl | rfl <;> decide
    refine QI_push h r2 r1 (by omega) (fun z => r3 ?_) (fun _ => ⟨by omega, by rw [e]; exact h0, Nat.zero_le _⟩) (fun z => absurd z (by omega)) (fun i hi => absurd hi (Nat.not_lt_zero _))
    rcases hk with rfl | rfl
    · rfl
    · exact absurd z (by decide)
  · exact h
theorem aName_QI {T : TBL} {Q : QST} (h : QI T Q) (k : Int32) : QI T (aName T Q k).2 := by
  unfold aName
  split
  · rename_i hn
    simp only [Bool.and_eq_true] at hn
    obtain ⟨j, hj, -, e⟩ := isNm_t h hn.2
    refine QI_pl h hn.1 fun q hq => ?_
    have := Option.some.inj hq
    omega
  · exact h
theorem aValue_QI {T : TBL} {Q : QST} (h : QI T Q) (v : Int32) : QI T (aValue T Q v).2 := by
  unfold aValue
  split
  · rename_i hn
    exact QI_pl h hn fun q hq => by cases hq
  · exact h
theorem aCompare_QI {T : TBL} {Q : QST} (h : QI T Q) (kd a b v : Int32) : QI T (aCompare Q kd a b v).2 := by
  unfold aCompare
  split
  · rename_i hn
    simp only [Bool.and_eq_true, Bool.or_eq_true, decide_eq_true_eq] at hn
    obtain ⟨⟨⟨hk, ha⟩, hb⟩, hr⟩ := hn
    obtain ⟨r1, r2, r3⟩ := room_t hr
    have hk2 : kd.toNatClampNeg = 2 ∨ kd.toNatClampNeg = 3 := by rcases hk with rfl | rfl <;> decide
    obtain ⟨j, hj, -, e⟩ := isNm_t h ha
    refine QI_push h r2 r1 (by omega) (fun z => by omega) (fun z => by omega) (fun _ => ⟨rfl, ?_⟩) (fun i hi q hq => ?_)
    · rw [setT_ne (by decide), setT_at]
      exact fun z => by cases z
    · by_cases e1 : i = 1
      · subst e1
        rw [setT_at] at hq
        split at hq
        · cases hq
        · rename_i nb
          rcases hb with hb | hb
          · exact absurd hb nb
          · obtain ⟨j2, hj2, -, e2⟩ := isNm_t h hb
            have := Option.some.inj hq
            omega
      · have e0 : i = 0 := by omega
        subst e0
        rw [setT_ne (by decide), setT_at] at hq
        have := Option.some.inj hq
        omega
  · exact h
theorem aOrder_QI {T : TBL} {Q : QST} (h : QI T Q) (i k : Int32) : QI T (aOrder Q i k).2 := by
  unfold aOrder
  split
  · rename_i hn
    simp only [Bool.and_eq_true] at hn
    obtain ⟨j, hj, -, e⟩ := isNm_t h hn.1
    obtain ⟨j2, hj2, -, e2⟩ := isNm_t h hn.2
    exact QI_swp h (by omega) (by omega)
  · exact h
theorem CA_sz {n : Nat} {A : Nat} {r : Option (List (Nat → Int32))} {u : xU} (h : CA A n r u) : u.1 A 1 = szI r := by
  cases r with
  | none => exact h.2
  | some l => exact h.2.1
theorem frT.c {T : TBL} {Q : QST} {W : WVN} {K : KPT} {u u' : xU} (i : LI T Q W K) (h : LC T Q W K u) (f : frT u u') {T' : TBL} (c : CT T' u') (hs : ∀ p, p < qP Q → qK Q p ≤ 1 → T'.1 (qOf Q p) = T.1 (qOf Q p)) : LC T' Q W K u' :=
  ⟨c, CQ_T (h.2.1.keep i.2.1.2.1 (fun x hx => f.1 x (by omega))) hs, h.2.2.1.keep i.2.2.1.1.1 (fun x a b => f.1 x (by omega)) (by rw [f.2]), h.2.2.2.keep i.2.2.2.2.1.1 (fun x hx => f.1 x (by omega)) (by rw [f.2])⟩
theorem frM.m {T : TBL} {Q : QST} {W : WVN} {K : KPT} {u u' : xU} (h : LM T Q W K u) (f : frM u u') {T' : TBL} (c : MT T' u') : LM T' Q W K u' := by
  have g : ∀ x, 176 ≤ x → u'.1 x = u.1 x := fun x hx => f.1 x (by omega) (by omega) (by omega)
  have g1 : u'.1 172 = u.1 172 := f.1 172 (by decide) (by decide) (by decide)
  exact ⟨c, h.2.1.keep (congrFun g1 3) (congrFun g1 4) (fun x a b => g x a), h.2.2.1.keep (congrFun g1 15) (congrFun g1 16) (congrFun g1 17) (fun x a b => g x (by omega)), h.2.2.2.keep (congrFun g1 22) (congrFun g1 23) (g _ (by decide))⟩
theorem frM.cf {u u' : xU} (f : frM u u') : cF u u' := ⟨fun x _ _ => f.1 x (by omega) (by omega) (by omega), fun x _ _ => f.1 x (by omega) (by omega) (by omega), by rw [f.2], by rw [f.2]⟩
theorem frQ.c {T : TBL} {Q : QST} {W : WVN} {K : KPT} {u u' : xU} (i : LI T Q W K) (h : LC T Q W K u) (f : frQ u u') {Q' : QST} (c : CQ T Q' u') : LC T Q' W K u' :=
  ⟨h.1.keep (fun x a b => f.1 x (by omega) (by omega) (by omega)), c, h.2.2.1.keep i.2.2.1.1.1 (fun x a b => f.1 x (by omega) (by omega) (by omega)) (by rw [f.2]), h.2.2.2.keep i.2.2.2.2.1.1 (fun x hx => f.1 x (by omega) (by omega) (by omega)) (by rw [f.2])⟩
theorem frK.m {T : TBL} {Q : QST} {W : WVN} {K : KPT} {u u' : xU} (h : LM T Q W K u) (f : frK u u') {Q' : QST} (c : KQ Q' u') : LM T Q' W K u' := by
  have g1 := fun k a b => f.2.1 k a b
  exact ⟨h.1.keep (f.1 173 (by decide) (by decide)) (f.1 174 (by decide) (by decide)) (f.1 175 (by decide) (by decide)), c, h.2.2.1.keep (g1 15 (by decide) (by decide)) (g1 16 (by decide) (by decide)) (g1 17 (by decide) (by decide)) (fun x a b => f.1 x (by omega) (by omega)), h.2.2.2.keep (g1 22 (by decide) (by decide)) (g1 23 (by decide) (by decide)) (f.1 189 (by decide) (by decide))⟩
theorem frK.cf {u u' : xU} (f : frK u u') : cF u u' := ⟨fun x _ _ => f.1 x (by omega) (by omega), fun x _ _ => f.1 x (by omega) (by omega), by rw [f.2.2], by rw [f.2.2]⟩
theorem LI.T {T T' : TBL} {Q : QST} {W : WVN} {K : KPT} (i : LI T Q W K) (h : TI T') (hs : ∀ p, p < qP Q → qK Q p ≤ 1 → T'.1 (qOf Q p) = T.1 (qOf Q p)) : LI T' Q W K := ⟨h, QI_T i.2.1 hs, i.2.2⟩
theorem LI.Q {T : TBL} {Q Q' : QST} {W : WVN} {K : KPT} (i : LI T Q W K) (h : QI T Q') : LI T Q' W K := ⟨i.1, h, i.2.2⟩
theorem tw_put {u : xU} {T : TBL} {Q : QST} {W : WVN} {K : KPT} (i : LI T Q W K) (c : LC T Q W K u) (m : LM T Q W K u) (t a b d : Int32) : TW Value.int mX9_put mX10_put [.int t, .int a, .int b, .int d] u :=
  TW.of m (i.T (aPut_TI i.1 t a b d) (fun p _ _ => by rw [aPut_same])) ((qX9_put i.1 c.1 t a b d).mono fun r μ ⟨u1, e1, e2, h, f⟩ => ⟨u1, e1, e2, frT.c i c f h (fun p _ _ => by rw [aPut_same]), fun x hx => f.1 x (by omega), f.1 0 (by omega)⟩)
    (fun u1 m1 => (qX10_put i.1 m1.1 t a b d).mono fun r μ ⟨u2, e1, e2, h, f⟩ => ⟨u2, e1, e2, frM.m m1 f h, f.cf, f.1 0 (by decide) (by decide) (by decide)⟩)
theorem tw_drop {u : xU} {T : TBL} {Q : QST} {W : WVN} {K : KPT} (i : LI T Q W K) (c : LC T Q W K u) (m : LM T Q W K u) (t a b d : Int32) : TW Value.int mX9_drop mX10_drop [.int t, .int a, .int b, .int d] u :=
  TW.of m (i.T (aDrop_TI i.1 t a b d) (fun p _ _ => by rw [aDrop_same])) ((qX9_drop i.1 c.1 t a b d).mono fun r μ ⟨u1, e1, e2, h, f⟩ => ⟨u1, e1, e2, frT.c i c f h (fun p _ _ => by rw [aDrop_same]), fun x hx => f.1 x (by omega), f.1 0 (by omega)⟩)
    (fun u1 m1 => (qX10_drop i.1 m1.1 t a b d).mono fun r μ ⟨u2, e1, e2, h, f⟩ => ⟨u2, e1, e2, frM.m m1 f h, f.cf, f.1 0 (by decide) (by decide) (by decide)⟩)
theorem tw_table {u : xU} {T : TBL} {Q : QST} {W : WVN} {K : KPT} (i : LI T Q W K) (c : LC T Q W K u) (m : LM T Q W K u) (t k : Int32) : TW Value.int mX9_table mX10_table [.int t, .int k] u :=
  TW.of m (i.T (aTable_TI i.1 t k) (fun p hp hk => aTable_same t k hp hk)) ((qX9_table i.1 i.2.1 c.1 c.2.1 t k).mono fun r μ ⟨u1, e1, e2, h, f⟩ => ⟨u1, e1, e2, frT.c i c f h (fun p hp hk => aTable_same t k hp hk), fun x hx => f.1 x (by omega), f.1 0 (by omega)⟩)
    (fun u1 m1 => (qX10_table i.1 i.2.1 m1.1 m1.2.1 t k).mono fun r μ ⟨u2, e1, e2, h, f⟩ => ⟨u2, e1, e2, frM.m m1 f h, f.cf, f.1 0 (by decide) (by decide) (by decide)⟩)

theorem tw_ask {u : xU} {T : TBL} {Q : QST} {W : WVN} {K : KPT} (i : LI T Q W K) (c : LC T Q W K u) (m : LM T Q W K u) (n : Int32) : TW Value.int mX9_ask mX10_ask [.int n] u :=
  TW.of m (i.Q (aAsk_QI i.2.1 n)) ((qX9_ask c.2.1 n).mono fun r μ ⟨u1, e1, e2, h, f⟩ => ⟨u1, e1, e2, frQ.c i c f h, fun x hx => f.1 x (by omega) (by omega) (by omega), f.1 0 (by decide) (by decide) (by decide)⟩)
    (fun u1 m1 => (qX10_ask m1.2.1 n).mono fun r μ ⟨u2, e1, e2, h, f⟩ => ⟨u2, e1, e2, frK.m m1 f h, f.cf, f.1 0 (by decide) (by decide)⟩)
theorem tw_part {u : xU} {T : TBL} {Q : QST} {W : WVN} {K : KPT} (i : LI T Q W K) (c : LC T Q W K u) (m : LM T Q W K u) (k t : Int32) : TW Value.int mX9_part mX10_part [.int k, .int t] u :=
  TW.of m (i.Q (aPart_QI i.2.1 k t)) ((qX9_part i.1 i.2.1 c.1 c.2.1 k t).mono fun r μ ⟨u1, e1, e2, h, f⟩ => ⟨u1, e1, e2, frQ.c i c f h, fun x hx => f.1 x (by omega) (by omega) (by omega), f.1 0 (by decide) (by decide) (by decide)⟩)
    (fun u1 m1 => (qX10_part i.1 i.2.1 m1.1 m1.2.1 k t).mono fun r μ ⟨u2, e1, e2, h, f⟩ => ⟨u2, e1, e2, frK.m m1 f h, f.cf, f.1 0 (by decide) (by decide)⟩)
theorem tw_name {u : xU} {T : TBL} {Q : QST} {W : WVN} {K : KPT} (i : LI T Q W K) (c : LC T Q W K u) (m : LM T Q W K u) (k : Int32) : TW Value.int mX9_name mX10_name [.int k] u :=
  TW.of m (i.Q (aName_QI i.2.1 k)) ((qX9_name i.1 i.2.1 c.2.1 k).mono fun r μ ⟨u1, e1, e2, h, f⟩ => ⟨u1, e1, e2, frQ.c i c f h, fun x hx => f.1 x (by omega) (by omega) (by omega), f.1 0 (by decide) (by decide) (by decide)⟩)
    (fun u1 m1 => (qX10_name i.1 i.2.1 m1.1 m1.2.1 k).mono fun r μ ⟨u2, e1, e2, h, f⟩ => ⟨u2, e1, e2, frK.m m1 f h, f.cf, f.1 0 (by decide) (by decide)⟩)
theorem tw_value {u : xU} {T : TBL} {Q : QST} {W : WVN} {K : KPT} (i : LI T Q W K) (c : LC T Q W K u) (m : LM T Q W K u) (k : Int32) : TW Value.int mX9_value mX10_value [.int k] u :=
  TW.of m (i.Q (aValue_QI i.2.1 k)) ((qX9_value i.1 i.2.1 c.2.1 k).mono fun r μ ⟨u1, e1, e2, h, f⟩ => ⟨u1, e1, e2, frQ.c i c f h, fun x hx => f.1 x (by omega) (by omega) (by omega), f.1 0 (by decide) (by decide) (by decide)⟩)
    (fun u1 m1 => (qX10_value i.1 i.2.1 m1.1 m1.2.1 k).mono fun r μ ⟨u2, e1, e2, h, f⟩ => ⟨u2, e1, e2, frK.m m1 f h, f.cf, f.1 0 (by decide) (by decide)⟩)
theorem tw_compare {u : xU} {T : TBL} {Q : QST} {W : WVN} {K : KPT} (i : LI T Q W K) (c : LC T Q W K u) (m : LM T Q W K u) (k a b v : Int32) : TW Value.int mX9_compare mX10_compare [.int k, .int a, .int b, .int v] u :=
  TW.of m (i.Q (aCompare_QI i.2.1 k a b v)) ((qX9_compare i.2.1 c.2.1 k a b v).mono fun r μ ⟨u1, e1, e2, h, f⟩ => ⟨u1, e1, e2, frQ.c i c f h, fun x hx => f.1 x (by omega) (by omega) (by omega), f.1 0 (by decide) (by decide) (by decide)⟩)
    (fun u1 m1 => (qX10_compare i.1 i.2.1 m1.2.1 k a b v).mono fun r μ ⟨u2, e1, e2, h, f⟩ => ⟨u2, e1, e2, frK.m m1 f h, f.cf, f.1 0 (by decide) (by decide)⟩)
theorem tw_order {u : xU} {T : TBL} {Q : QST} {W : WVN} {K : KPT} (i : LI T Q W K) (c : LC T Q W K u) (m : LM T Q W K u) (k t : Int32) : TW Value.int mX9_order mX10_order [.int k, .int t] u :=
  TW.of m (i.Q (aOrder_QI i.2.1 k t)) ((qX9_order i.2.1 c.2.1 k t).mono fun r μ ⟨u1, e1, e2, h, f⟩ => ⟨u1, e1, e2, frQ.c i c f h, fun x hx => f.1 x (by omega) (by omega) (by omega), f.1 0 (by decide) (by decide) (by decide)⟩)
    (fun u1 m1 => (qX10_order i.2.1 m1.2.1 k t).mono fun r μ ⟨u2, e1, e2, h, f⟩ => ⟨u2, e1, e2, frK.m m1 f h, f.cf, f.1 0 (by decide) (by decide)⟩)
theorem tw_rows {u : xU} {T : TBL} {Q : QST} {W : WVN} {K : KPT} (i : LI T Q W K) (c : LC T Q W K u) (m : LM T Q W K u) (t : Int32) : TW Value.int mX9_rows mX10_rows [.int t] u :=
  TW.of m i ((qX9_rows i.1 c.1 t).mono fun r μ ⟨e1, e2⟩ => ⟨u, e2, e1, c, mF.rf, rfl⟩)
    (fun u1 m1 => (qX10_rows i.1 m1.1 t).mono fun r μ ⟨e1, e2⟩ => ⟨u1, e2, e1, m1, cF.rf, rfl⟩)
theorem tw_row {u : xU} {T : TBL} {Q : QST} {W : WVN} {K : KPT} (i : LI T Q W K) (c : LC T Q W K u) (m : LM T Q W K u) (t j k : Int32) : TW Value.int mX9_row mX10_row [.int t, .int j, .int k] u :=
  TW.of m i ((qX9_row i.1 c.1 t j k).mono fun r μ ⟨e1, e2⟩ => ⟨u, e2, e1, c, mF.rf, rfl⟩)
    (fun u1 m1 => (qX10_row i.1 m1.1 t j k).mono fun r μ ⟨e1, e2⟩ => ⟨u1, e2, e1, m1, cF.rf, rfl⟩)
theorem tw_count {u : xU} {T : TBL} {Q : QST} {W : WVN} {K : KPT} (i : LI T Q W K) (c : LC T Q W K u) (m : LM T Q W K u) (v : Int32) : TW Value.int mX9_count mX10_count [.int v] u :=
  TW.of m i ((qX9_count i.1 i.2.1 c.2.1 (CA_sz c.2.2.1.1) (CA_sz c.2.2.2) v).mono fun r μ ⟨e1, e2⟩ => ⟨u, e2, e1, c, mF.rf, rfl⟩)
    (fun u1 m1 => (qX10_count i.1 i.2.1 m1.1 m1.2.1 m1.2.2.1.2.1 m1.2.2.2.2.1 v).mono fun r μ ⟨e1, e2⟩ => ⟨u1, e2, e1, m1, cF.rf, rfl⟩)
theorem tw_answer {u : xU} {T : TBL} {Q : QST} {W : WVN} {K : KPT} (i : LI T Q W K) (c : LC T Q W K u) (m : LM T Q W K u) (j k : Int32) : TW Value.int mX9_answer mX10_answer [.int j, .int k] u :=
  TW.of m i ((qX9_answer i.2.2.1 c.2.2.1 j k).mono fun r μ ⟨e1, e2⟩ => ⟨u, e2, e1, c, mF.rf, rfl⟩)
    (fun u1 m1 => (qX10_answer i.2.2.1 i.2.2.2.1 m1.2.2.1 j k).mono fun r μ ⟨e1, e2⟩ => ⟨u1, e2, e1, m1, cF.rf, rfl⟩)
theorem tw_meetings {u : xU} {T : TBL} {Q : QST} {W : WVN} {K : KPT} (i : LI T Q W K) (c : LC T Q W K u) (m : LM T Q W K u) (j : Int32) : TW Value.int mX9_meetings mX10_meetings [.int j] u :=
  TW.of m i ((qX9_meetings i.2.2.1 c.2.2.1 j).mono fun r μ ⟨e1, e2⟩ => ⟨u, e2, e1, c, mF.rf, rfl⟩)
    (fun u1 m1 => (qX10_meetings i.2.2.1 i.2.2.2.1 m1.2.2.1 j).mono fun r μ ⟨e1, e2⟩ => ⟨u1, e2, e1, m1, cF.rf, rfl⟩)
theorem tw_witness {u : xU} {T : TBL} {Q : QST} {W : WVN} {K : KPT} (i : LI T Q W K) (c : LC T Q W K u) (m : LM T Q W K u) (j p : Int32) : TW Value.int mX9_witness mX10_witness [.int j, .int p] u :=
  TW.of m i ((qX9_witness i.2.2.1 c.2.2.1 j p).mono fun r μ ⟨e1, e2⟩ => ⟨u, e2, e1, c, mF.rf, rfl⟩)
    (fun u1 m1 => (qX10_witness i.2.2.1 m1.2.2.1 j p).mono fun r μ ⟨e1, e2⟩ => ⟨u1, e2, e1, m1, cF.rf, rfl⟩)
theorem tw_sum {u : xU} {T : TBL} {Q : QST} {W : WVN} {K : KPT} (i : LI T Q W K) (c : LC T Q W K u) (m : LM T Q W K u) (k v : Int32) : TW Value.long mX9_sum mX10_sum [.int k, .int v] u :=
  TW.of m i ((qX9_sum i.2.2.1 c.2.2.1 k v).mono fun r μ ⟨e1, e2⟩ => ⟨u, e2, e1, c, mF.rf, rfl⟩)
    (fun u1 m1 => (qX10_sum i.2.2.1 i.2.2.2.1 m1.2.2.1 k v).mono fun r μ ⟨e1, e2⟩ => ⟨u1, e2, e1, m1, cF.rf, rfl⟩)
theorem tw_group {u : xU} {T : TBL} {Q : QST} {W : WVN} {K : KPT} (i : LI T Q W K) (c : LC T Q W K u) (m : LM T Q W K u) (k v t j : Int32) : TW Value.long mX9_group mX10_group [.int k, .int v, .int t, .int j] u :=
  TW.of m i ((qX9_group i.2.2.1 c.2.2.1 k v t j).mono fun r μ ⟨e1, e2⟩ => ⟨u, e2, e1, c, mF.rf, rfl⟩)
    (fun u1 m1 => (qX10_group i.2.2.1 i.2.2.2.1 m1.2.2.1 k v t j).mono fun r μ ⟨e1, e2⟩ => ⟨u1, e2, e1, m1, cF.rf, rfl⟩)
theorem frR.cm {u u' : xU} (f : frR u u') : cF u u' ∧ mF u u' := ⟨⟨fun x _ _ => f.1 x (by omega), fun x _ _ => f.1 x (by omega), by rw [f.2], by rw [f.2]⟩, fun x _ => f.1 x (by omega)⟩
theorem frC.cm {u u' : xU} (f : frC u u') : cF u u' ∧ mF u u' := ⟨⟨fun x _ _ => f.1 x (by omega) (by omega) (by omega), fun x _ _ => f.1 x (by omega) (by omega) (by omega), by rw [f.2.1 55 (by decide)], by rw [f.2.1 67 (by decide)]⟩, fun x _ => f.1 x (by omega) (by omega) (by omega)⟩
theorem frQd.cm {u u' : xU} (f : frQd u u') : cF u u' ∧ mF u u' := ⟨⟨fun x _ _ => f.1 x (by omega) (by omega), fun x _ _ => f.1 x (by omega) (by omega), by rw [f.2], by rw [f.2]⟩, fun x _ => f.1 x (by omega) (by omega)⟩
theorem frF.cm {u u' : xU} {T : TBL} {Q : QST} {W : WVN} {K : KPT} (h : LM T Q W K u) (f : frF u u') : cF u u' ∧ LM T Q W K u' := by
  have g : ∀ x, x < 195 → u'.1 x = u.1 x := fun x hx => f.1 x (by omega)
  have g1 : u'.1 172 = u.1 172 := g 172 (by decide)
  exact ⟨⟨fun x _ _ => g x (by omega), fun x _ _ => g x (by omega), by rw [f.2], by rw [f.2]⟩, h.1.keep (g _ (by decide)) (g _ (by decide)) (g _ (by decide)), h.2.1.keep (congrFun g1 3) (congrFun g1 4) (fun x a b => g x (by omega)), h.2.2.1.keep (congrFun g1 15) (congrFun g1 16) (congrFun g1 17) (fun x a b => g x (by omega)), h.2.2.2.keep (congrFun g1 22) (congrFun g1 23) (g _ (by decide))⟩
theorem frL.cm {u u' : xU} {T : TBL} {Q : QST} {W : WVN} {K : KPT} (h : LM T Q W K u) (f : frL u u') : cF u u' ∧ LM T Q W K u' := by
  have g : ∀ x, x < 191 → u'.1 x = u.1 x := fun x hx => f.1 x (by omega) (by omega)
  have g1 : u'.1 172 = u.1 172 := g 172 (by decide)
  exact ⟨⟨fun x _ _ => g x (by omega), fun x _ _ => g x (by omega), by rw [f.2], by rw [f.2]⟩, h.1.keep (g _ (by decide)) (g _ (by decide)) (g _ (by decide)), h.2.1.keep (congrFun g1 3) (congrFun g1 4) (fun x a b => g x (by omega)), h.2.2.1.keep (congrFun g1 15) (congrFun g1 16) (congrFun g1 17) (fun x a b => g x (by omega)), h.2.2.2.keep (congrFun g1 22) (congrFun g1 23) (g _ (by decide))⟩
theorem tw_rings {u : xU} {T : TBL} {Q : QST} {W : WVN} {K : KPT} (i : LI T Q W K) (c : LC T Q W K u) (m : LM T Q W K u) (t : Int32) : TW Value.int mX9_rings mX10_rings [.int t] u :=
  TW.of m i ((qX9_rings i.1 c.1 t).mono fun r μ ⟨u1, e1, e2, f⟩ => ⟨u1, e1, e2, c.kp i f.cm.1, f.cm.2, f.1 0 (by decide)⟩)
    (fun u1 m1 => (qX10_rings i.1 m1.1 t).mono fun r μ ⟨u2, e1, e2, f⟩ => ⟨u2, e1, e2, (frF.cm m1 f).2, (frF.cm m1 f).1, f.1 0 (by decide)⟩)
theorem tw_ring {u : xU} {T : TBL} {Q : QST} {W : WVN} {K : KPT} (i : LI T Q W K) (c : LC T Q W K u) (m : LM T Q W K u) (t j k : Int32) : TW Value.int mX9_ring mX10_ring [.int t, .int j, .int k] u := by
  obtain ⟨r, μ, ⟨u1, v, e1, e2, g, f⟩, hr⟩ := qX9_ring i.1 c.1 t j k
  refine TW.of (v := v) m i ⟨r, μ, ⟨u1, e1, e2, c.kp i f.cm.1, f.cm.2, f.1 0 (by decide)⟩, hr⟩ (fun u1 m1 => (qX10_ring i.1 m1.1 t j k).mono fun r μ ⟨u2, v2, e1, e2, g2, f⟩ => ⟨u2, e1, ?_, (frF.cm m1 f).2, (frF.cm m1 f).1, f.1 0 (by decide)⟩)
  rw [rgR_uniq g g2]
  exact e2
theorem tw_bound {u : xU} {T : TBL} {Q : QST} {W : WVN} {K : KPT} (i : LI T Q W K) (c : LC T Q W K u) (m : LM T Q W K u) : TW Value.long mX9_bound mX10_bound [] u :=
  TW.of m i ((qX9_bound i.1 i.2.1 c.1 c.2.1).mono fun r μ ⟨u1, e1, e2, f⟩ => ⟨u1, e1, e2, c.kp i f.cm.1, f.cm.2, f.1 0 (by decide) (by decide) (by decide)⟩)
    (fun u1 m1 => (qX10_bound i.1 i.2.1 m1.1 m1.2.1).mono fun r μ ⟨u2, e1, e2, f⟩ => ⟨u2, e1, e2, (frL.cm m1 f).2, (frL.cm m1 f).1, f.1 0 (by decide) (by decide)⟩)
theorem tw_cover {u : xU} {T : TBL} {Q : QST} {W : WVN} {K : KPT} (i : LI T Q W K) (c : LC T Q W K u) (m : LM T Q W K u) (p : Int32) : TW Value.int mX9_cover mX10_cover [.int p] u :=
  TW.of m i ((qX9_cover i.1 i.2.1 c.1 c.2.1 p).mono fun r μ ⟨u1, e1, e2, f⟩ => ⟨u1, e1, e2, c.kp i f.cm.1, f.cm.2, f.1 0 (by decide) (by decide) (by decide)⟩)
    (fun u1 m1 => (qX10_cover i.1 i.2.1 m1.1 m1.2.1 p).mono fun r μ ⟨u2, e1, e2, f⟩ => ⟨u2, e1, e2, (frL.cm m1 f).2, (frL.cm m1 f).1, f.1 0 (by decide) (by decide)⟩)
theorem tw_delta {u : xU} {T : TBL} {Q : QST} {W : WVN} {K : KPT} (i : LI T Q W K) (c : LC T Q W K u) (m : LM T Q W K u) (v : Int32) : TW Value.int mX9_delta mX10_delta [.int v] u :=
  TW.of m i ((qX9_delta i.2.2.1 i.2.2.2.2.1 c.2.2.1 c.2.2.2 v).mono fun r μ ⟨u1, e1, e2, f⟩ => ⟨u1, e1, e2, c.kp i f.cm.1, f.cm.2, f.1 0 (by decide) (by decide)⟩)
    (fun u1 m1 => (qX10_delta i.2.2.1 i.2.2.2.2 m1.2.2.1 m1.2.2.2 v).mono fun r μ ⟨e1, e2⟩ => ⟨u1, e2, e1, m1, cF.rf, rfl⟩)
theorem tw_change {u : xU} {T : TBL} {Q : QST} {W : WVN} {K : KPT} (i : LI T Q W K) (c : LC T Q W K u) (m : LM T Q W K u) (v j k : Int32) : TW Value.int mX9_change mX10_change [.int v, .int j, .int k] u :=
  TW.of m i ((qX9_change i.2.2.1 i.2.2.2.2.1 c.2.2.1 c.2.2.2 v j k).mono fun r μ ⟨u1, e1, e2, f⟩ => ⟨u1, e1, e2, c.kp i f.cm.1, f.cm.2, f.1 0 (by decide) (by decide)⟩)
    (fun u1 m1 => (qX10_change i.2.2.1 i.2.2.2.1 i.2.2.2.2 m1.2.2.1 m1.2.2.2 v j k).mono fun r μ ⟨e1, e2⟩ => ⟨u1, e2, e1, m1, cF.rf, rfl⟩)
theorem weave_LI {u : xU} {T : TBL} {Q : QST} {W : WVN} {K : KPT} (i : LI T Q W K) (c : LC T Q W K u) (m : LM T Q W K u) (hw : WI (aWeave T Q W).2) : LI T Q (aWeave T Q W).2 K := by
  unfold aWeave at hw ⊢
  split
  · rename_i hs
    rw [if_pos hs] at hw
    split
    · rename_i ho
      rw [if_pos ho] at hw
      have := (aStands_iff.mp hs).1
      exact ⟨i.1, i.2.1, hw, fun l _ => Nat.one_le_iff_ne_zero.mpr this, i.2.2.2.2.1, fun _ z => by cases z⟩
    · exact i
  · exact i
theorem tw_weave {u : xU} {T : TBL} {Q : QST} {W : WVN} {K : KPT} (i : LI T Q W K) (c : LC T Q W K u) (m : LM T Q W K u) : TW Value.int mX9_weave mX10_weave [] u := by
  obtain ⟨r, μ, ⟨u1, e1, e2, h, hw, f⟩, hr⟩ := qX9_weave i.1 i.2.1 i.2.2.1 c.1 c.2.1 c.2.2.1
  have li := weave_LI i c m hw
  refine TW.of m li ⟨r, μ, ⟨u1, e1, e2, ⟨c.1.keep (fun x a b => f.1 x (by omega)), c.2.1.keep i.2.1.2.1 (fun x hx => f.1 x (by omega)), h, c.2.2.2.keep i.2.2.2.2.1.1 (fun x hx => f.1 x (by omega)) (f.2.1 67 (by decide))⟩, fun x hx => f.1 x (by omega), f.1 0 (by decide)⟩, hr⟩
    (fun u1 m1 => (qX10_weave (W := W) i.1 i.2.1 m1.1 m1.2.1 m1.2.2.1).mono fun r μ ⟨u2, e1, e2, h, f⟩ => ⟨u2, e1, e2, ⟨m1.1.B f, m1.2.1.B f, h, m1.2.2.2.keep (f.2.1 22 (by decide) (by decide) (by decide) (by decide)) (f.2.1 23 (by decide) (by decide) (by decide) (by decide)) (f.1 189 (by decide) (by decide) (by decide))⟩, ⟨fun x _ _ => f.1 x (by omega) (by omega) (by omega), fun x _ _ => f.1 x (by omega) (by omega) (by omega), by rw [f.2.2], by rw [f.2.2]⟩, f.1 0 (by decide) (by decide) (by decide)⟩)
theorem keep_LI {u : xU} {T : TBL} {Q : QST} {W : WVN} {K : KPT} (i : LI T Q W K) (c : LC T Q W K u) (m : LM T Q W K u) : LI T Q W (aKeep W K).2 := by
  unfold aKeep
  split
  · exact i
  · rename_i l hl
    exact ⟨i.1, i.2.1, i.2.2.1, i.2.2.2.1, by have := i.2.2.1.1; rw [hl] at this; exact this, fun _ z => by rw [hl] at z; cases z⟩
theorem tw_keep {u : xU} {T : TBL} {Q : QST} {W : WVN} {K : KPT} (i : LI T Q W K) (c : LC T Q W K u) (m : LM T Q W K u) : TW Value.int mX9_keep mX10_keep [] u :=
  TW.of m (keep_LI i c m) ((qX9_keep i.2.2.1 c.2.2.1 c.2.2.2).mono fun r μ ⟨u1, e1, e2, h, f⟩ => ⟨u1, e1, e2, ⟨c.1.keep (fun x a b => f.1 x (by omega) (by omega)), c.2.1.keep i.2.1.2.1 (fun x hx => f.1 x (by omega) (by omega)), c.2.2.1.keep i.2.2.1.1.1 (fun x a b => f.1 x (by omega) (by omega)) (f.2.1 55 (by decide)), h⟩, fun x hx => f.1 x (by omega) (by omega), f.1 0 (by decide) (by decide)⟩)
    (fun u1 m1 => (qX10_keep i.2.2.1 m1.2.2.1 m1.2.2.2).mono fun r μ ⟨u2, e1, e2, h, f⟩ => ⟨u2, e1, e2, ⟨m1.1.keep (f.1 _ (by decide) (by decide)) (f.1 _ (by decide) (by decide)) (f.1 _ (by decide) (by decide)), m1.2.1.keep (f.2.1 3 (by decide) (by decide)) (f.2.1 4 (by decide) (by decide)) (fun x a b => f.1 x (by omega) (by omega)), m1.2.2.1.keep (f.2.1 15 (by decide) (by decide)) (f.2.1 16 (by decide) (by decide)) (f.2.1 17 (by decide) (by decide)) (fun x a b => f.1 x (by omega) (by omega)), h⟩, ⟨fun x _ _ => f.1 x (by omega) (by omega), fun x _ _ => f.1 x (by omega) (by omega), by rw [f.2.2], by rw [f.2.2]⟩, f.1 0 (by decide) (by decide)⟩)
theorem tw_best {u : xU} {T : TBL} {Q : QST} {W : WVN} {K : KPT} (i : LI T Q W K) (c : LC T Q W K u) (m : LM T Q W K u) : TW Value.int mX9_best mX10_best [] u := by
  obtain ⟨r, μ, ⟨u1, e1, e2, h, hq, f⟩, hr⟩ := qX9_best i.1 i.2.1 c.1 c.2.1
  exact TW.of m (i.Q hq) ⟨r, μ, ⟨u1, e1, e2, ⟨c.1.keep (fun x a b => f.1 x (by omega) (by omega)), h, c.2.2.1.keep i.2.2.1.1.1 (fun x a b => f.1 x (by omega) (by omega)) (f.2.1 55 (by decide)), c.2.2.2.keep i.2.2.2.2.1.1 (fun x hx => f.1 x (by omega) (by omega)) (f.2.1 67 (by decide))⟩, fun x hx => f.1 x (by omega) (by omega), f.1 0 (by decide) (by decide)⟩, hr⟩
    (fun u1 m1 => (qX10_best i.1 i.2.1 m1.1 m1.2.1).mono fun r μ ⟨u2, e1, e2, h, f⟩ => ⟨u2, e1, e2, ⟨m1.1.keep (f.1 _ (by decide) (by decide) (by decide) (by decide) (by decide)) (f.1 _ (by decide) (by decide) (by decide) (by decide) (by decide)) (f.1 _ (by decide) (by decide) (by decide) (by decide) (by decide)), h, m1.2.2.1.keep (f.2.1 15 (by decide)) (f.2.1 16 (by decide)) (f.2.1 17 (by decide)) (fun x a b => f.1 x (by omega) (by omega) (by omega) (by omega) (by omega)), m1.2.2.2.keep (f.2.1 22 (by decide)) (f.2.1 23 (by decide)) (f.1 189 (by decide) (by decide) (by decide) (by decide) (by decide))⟩, ⟨fun x _ _ => f.1 x (by omega) (by omega) (by omega) (by omega) (by omega), fun x _ _ => f.1 x (by omega) (by omega) (by omega) (by omega) (by omega), by rw [f.2.2], by rw [f.2.2]⟩, f.1 0 (by decide) (by decide) (by decide) (by decide) (by decide)⟩)

