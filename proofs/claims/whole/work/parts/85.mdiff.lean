theorem qX10_isAmong_k {u : xU} {n i : Nat} {la lb : List (Nat → Int32)} {a : Nat → Int32} (hn : n ≤ 6) (la5 : la.length ≤ 500) (lb5 : lb.length ≤ 500) (hA : RWL 185 la u) (hB : RWL 189 lb u) (ha : la[i]? = some a) (za : ∀ j, ¬ j < n → a j = 0) (zb : ∀ b, b ∈ lb → ∀ j, ¬ j < n → b j = 0) : xC mX10_isAmong [.ref 185, .int (nI i), .ref 189, .int (nI lb.length), .int (nI n)] (xmm u) (fun r μ' => r = some (.int (xb (bP (a ∈ lb) = true))) ∧ μ' = xmm u) := by
  have hi := (List.getElem?_eq_some_iff.mp ha).1
  refine xC.of xpl10 (Nat.le_of_ble_eq_true rfl) (gX10_isAmong_k_0 u i lb.length n ?_)
  have loop : ∀ d j, lb.length - j = d → j ≤ lb.length → (∀ x b, x < j → lb[x]? = some b → b ≠ a) → xE mX10_isAmong 3 [(0, .ref 185), (1, .int (nI i)), (2, .ref 189), (3, .int (nI lb.length)), (4, .int (nI n)), (5, .int (nI j))] [] (xmm u) (fun r μ' => r = some (.int (xb (bP (a ∈ lb) = true))) ∧ μ' = xmm u) := by
    intro d
    induction d with
    | zero =>
      intro j hd hj hx
      refine gX10_isAmong_k_e u i lb.length n j lb5 (by omega) (fun _ => ⟨ret_f (fun q => ?_), rfl⟩) (fun z => absurd (by omega) z)
      obtain ⟨x, e⟩ := List.mem_iff_getElem?.mp (bP_iff.mp q)
      have := (List.getElem?_eq_some_iff.mp e).1
      exact hx x a (by omega) e rfl
    | succ d ih =>
      intro j hd hj hx
      have hjl : j < lb.length := by omega
      have hb := List.getElem?_eq_getElem hjl
      generalize lb[j] = b at hb
      refine gX10_isAmong_k_3 u i lb.length n j _ lb5 hjl (qX10_against_k (a := a) (b := b) (by omega) (by omega) hn (fun k hk => hA i a ha k hk) (fun k hk => hB j b hb k hk)) (fun z => absurd hjl (by omega)) (fun _ z => ih (j + 1) (by omega) hjl (fun x b' h1 h2 => ?_)) (fun _ z => ⟨ret_t (bP_iff.mpr ?_), rfl⟩)
      · by_cases e : x = j
        · subst e
          rw [hb] at h2
          cases h2
          exact fun q => z (lexD_zero.mpr (fun k _ => by rw [q]))
        · exact hx x b' (by omega) h2
      · have eq := lexD_zero.mp z
        have : a = b := by
          funext k
          by_cases hk : k < n
          · exact eq k hk
          · rw [za k hk, zb b (List.mem_of_getElem? hb) k hk]
        rw [this]
        exact List.mem_of_getElem? hb
  exact loop _ 0 rfl (Nat.zero_le _) (fun x b h1 => absurd h1 (Nat.not_lt_zero x))

theorem qX10_isAmong_w {u : xU} {n i : Nat} {la lb : List (Nat → Int32)} {a : Nat → Int32} (hn : n ≤ 6) (la5 : la.length ≤ 500) (lb5 : lb.length ≤ 500) (hA : RWL 189 la u) (hB : RWL 185 lb u) (ha : la[i]? = some a) (za : ∀ j, ¬ j < n → a j = 0) (zb : ∀ b, b ∈ lb → ∀ j, ¬ j < n → b j = 0) : xC mX10_isAmong [.ref 189, .int (nI i), .ref 185, .int (nI lb.length), .int (nI n)] (xmm u) (fun r μ' => r = some (.int (xb (bP (a ∈ lb) = true))) ∧ μ' = xmm u) := by
  have hi := (List.getElem?_eq_some_iff.mp ha).1
  refine xC.of xpl10 (Nat.le_of_ble_eq_true rfl) (gX10_isAmong_w_0 u i lb.length n ?_)
  have loop : ∀ d j, lb.length - j = d → j ≤ lb.length → (∀ x b, x < j → lb[x]? = some b → b ≠ a) → xE mX10_isAmong 3 [(0, .ref 189), (1, .int (nI i)), (2, .ref 185), (3, .int (nI lb.length)), (4, .int (nI n)), (5, .int (nI j))] [] (xmm u) (fun r μ' => r = some (.int (xb (bP (a ∈ lb) = true))) ∧ μ' = xmm u) := by
    intro d
    induction d with
    | zero =>
      intro j hd hj hx
      refine gX10_isAmong_w_e u i lb.length n j lb5 (by omega) (fun _ => ⟨ret_f (fun q => ?_), rfl⟩) (fun z => absurd (by omega) z)
      obtain ⟨x, e⟩ := List.mem_iff_getElem?.mp (bP_iff.mp q)
      have := (List.getElem?_eq_some_iff.mp e).1
      exact hx x a (by omega) e rfl
    | succ d ih =>
      intro j hd hj hx
      have hjl : j < lb.length := by omega
      have hb := List.getElem?_eq_getElem hjl
      generalize lb[j] = b at hb
      refine gX10_isAmong_w_3 u i lb.length n j _ lb5 hjl (qX10_against_w (a := a) (b := b) (by omega) (by omega) hn (fun k hk => hA i a ha k hk) (fun k hk => hB j b hb k hk)) (fun z => absurd hjl (by omega)) (fun _ z => ih (j + 1) (by omega) hjl (fun x b' h1 h2 => ?_)) (fun _ z => ⟨ret_t (bP_iff.mpr ?_), rfl⟩)
      · by_cases e : x = j
        · subst e
          rw [hb] at h2
          cases h2
          exact fun q => z (lexD_zero.mpr (fun k _ => by rw [q]))
        · exact hx x b' (by omega) h2
      · have eq := lexD_zero.mp z
        have : a = b := by
          funext k
          by_cases hk : k < n
          · exact eq k hk
          · rw [za k hk, zb b (List.mem_of_getElem? hb) k hk]
        rw [this]
        exact List.mem_of_getElem? hb
  exact loop _ 0 rfl (Nat.zero_le _) (fun x b h1 => absurd h1 (Nat.not_lt_zero x))

def difV (L : List Nat) (i : Int32) : Int32 := if i = -1 then nI L.length else if 0 ≤ i ∧ i < nI L.length then nI (L.getD i.toNatClampNeg 0) else -1
theorem dI_step {la lb : List (Nat → Int32)} (i : Nat) : ∃ t, dI la lb (i + 1) = dI la lb i ++ t := by
  unfold dI
  rw [List.range_succ, List.filter_append]
  exact ⟨_, rfl⟩
theorem dI_pre {la lb : List (Nat → Int32)} {i y x : Nat} (h : (dI la lb i)[y]? = some x) : ∀ d, (dI la lb (i + d))[y]? = some x
  | 0 => h
  | d + 1 => by
    obtain ⟨t, e⟩ := dI_step (la := la) (lb := lb) (i + d)
    have := dI_pre h d
    rw [show i + (d + 1) = i + d + 1 by omega, e, List.getElem?_append_left (List.getElem?_eq_some_iff.mp this).1]
    exact this

theorem qX10_differs_0 {u : xU} {n : Nat} {la lb : List (Nat → Int32)} (hn : n ≤ 6) (hIA : AI n (some la)) (hIB : AI n (some lb)) (hA : RWL 185 la u) (hB : RWL 189 lb u) (vw : u.1 172 16 = nI la.length) (vk : u.1 172 23 = nI lb.length) (vn : u.1 172 22 = nI n) (i : Int32) : xC mX10_differs [.ref 172, .int (nI 0), .int i] (xmm u) (fun r μ' => r = some (.int (difV (dfI la lb) i)) ∧ μ' = xmm u) := by
  obtain ⟨la5, -, laz⟩ := hIA.2 la rfl
  obtain ⟨lb5, -, lbz⟩ := hIB.2 lb rfl
  have hlen := dI_len (la := la) (lb := lb) la.length
  refine xC.of xpl10 (Nat.le_of_ble_eq_true rfl) (gX10_differs_0 u _ _ n i vw vk vn ?_)
  have loop : ∀ d m, la.length - m = d → m ≤ la.length → (∀ y, y < (dI la lb m).length → nI y ≠ i) → xE mX10_differs 22 [(0, .ref 172), (1, .int (nI 0)), (2, .int i), (3, .int (nI (dI la lb m).length)), (4, .int (nI la.length)), (5, .int (nI m))] [] (xmm u) (fun r μ' => r = some (.int (difV (dfI la lb) i)) ∧ μ' = xmm u) := by
    intro d
    induction d with
    | zero =>
      intro m hd hm hy
      have e : m = la.length := by omega
      subst e
      refine gX10_differs_e_0 u _ la.length _ i la5 rfl (fun _ z => ⟨?_, rfl⟩) (fun _ z => ⟨?_, rfl⟩) (fun z => absurd (Nat.le_refl _) z)
      · unfold difV
        rw [if_neg z, if_neg]
        rintro ⟨a, b⟩
        have hl' : (dfI la lb).length ≤ 500 := Nat.le_trans hlen la5
        obtain ⟨y, y1, rfl⟩ := in_N (by omega) a b
        exact hy y y1 rfl
      · unfold difV
        rw [if_pos z]
        rfl
    | succ d ih =>
      intro m hd hm hy
      have hml : m < la.length := by omega
      have ha := List.getElem?_eq_getElem hml
      generalize la[m] = a at ha
      have hal := List.mem_of_getElem? ha
      have hc := dI_len (la := la) (lb := lb) m
      refine gX10_differs_22_0 u _ _ n _ la.length m i _ la5 hml (qX10_isAmong_k hn la5 lb5 hA hB ha (laz a hal) lbz) vw vk vn (fun z => absurd hml (by omega)) (fun z => absurd hml (by omega)) (fun _ z y => ?_) (fun _ z y => ⟨?_, rfl⟩) (fun _ z => ?_)
      · have no : a ∉ lb := fun q => z (bP_iff.mpr q)
        have := ih (m + 1) (by omega) hml (fun x hx => ?_)
        · rw [dI_out ha no, List.length_append] at this
          exact this
        · rw [dI_out ha no, List.length_append] at hx
          simp only [List.length_cons, List.length_nil] at hx
          by_cases e : x = (dI la lb m).length
          · subst e; exact y
          · exact hy x (by omega)
      · have no : a ∉ lb := fun q => z (bP_iff.mpr q)
        have hx : (dI la lb (m + 1))[(dI la lb m).length]? = some m := by
          rw [dI_out ha no, List.getElem?_append_right (Nat.le_refl _), Nat.sub_self]
          rfl
        have hL := dI_pre hx (la.length - (m + 1))
        rw [show m + 1 + (la.length - (m + 1)) = la.length by omega] at hL
        have hlt := (List.getElem?_eq_some_iff.mp hL).1
        have hl' : (dI la lb la.length).length ≤ 500 := Nat.le_trans hlen la5
        rw [← y]
        unfold difV
        rw [if_neg (nIm1 (by omega)), if_pos ⟨nn_N _ (by omega), (nI_ltn (by omega) (by unfold dfI; omega)).mpr hlt⟩, nI_nat (by omega), List.getD_eq_getElem?_getD]
        show _ = some (Value.int (nI ((dI la lb la.length)[(dI la lb m).length]?.getD 0)))
        rw [hL]
        rfl
      · have yes : a ∈ lb := bP_iff.mp z
        have := ih (m + 1) (by omega) hml (fun x hx => by rw [dI_in ha yes] at hx; exact hy x hx)
        rw [dI_in ha yes] at this
        exact this
  exact loop _ 0 rfl (Nat.zero_le _) (fun y hy => by simp [dI] at hy)

theorem qX10_differs_1 {u : xU} {n : Nat} {la lb : List (Nat → Int32)} (hn : n ≤ 6) (hIA : AI n (some la)) (hIB : AI n (some lb)) (hA : RWL 189 la u) (hB : RWL 185 lb u) (vw : u.1 172 16 = nI lb.length) (vk : u.1 172 23 = nI la.length) (vn : u.1 172 22 = nI n) (i : Int32) : xC mX10_differs [.ref 172, .int (nI 1), .int i] (xmm u) (fun r μ' => r = some (.int (difV (dfI la lb) i)) ∧ μ' = xmm u) := by
  obtain ⟨la5, -, laz⟩ := hIA.2 la rfl
  obtain ⟨lb5, -, lbz⟩ := hIB.2 lb rfl
  have hlen := dI_len (la := la) (lb := lb) la.length
  refine xC.of xpl10 (Nat.le_of_ble_eq_true rfl) (gX10_differs_1 u _ _ n i vw vk vn ?_)
  have loop : ∀ d m, la.length - m = d → m ≤ la.length → (∀ y, y < (dI la lb m).length → nI y ≠ i) → xE mX10_differs 22 [(0, .ref 172), (1, .int (nI 1)), (2, .int i), (3, .int (nI (dI la lb m).length)), (4, .int (nI la.length)), (5, .int (nI m))] [] (xmm u) (fun r μ' => r = some (.int (difV (dfI la lb) i)) ∧ μ' = xmm u) := by
    intro d
    induction d with
    | zero =>
      intro m hd hm hy
      have e : m = la.length := by omega
      subst e
      refine gX10_differs_e_1 u _ la.length _ i la5 rfl (fun _ z => ⟨?_, rfl⟩) (fun _ z => ⟨?_, rfl⟩) (fun z => absurd (Nat.le_refl _) z)
      · unfold difV
        rw [if_neg z, if_neg]
        rintro ⟨a, b⟩
        have hl' : (dfI la lb).length ≤ 500 := Nat.le_trans hlen la5
        obtain ⟨y, y1, rfl⟩ := in_N (by omega) a b
        exact hy y y1 rfl
      · unfold difV
        rw [if_pos z]
        rfl
    | succ d ih =>
      intro m hd hm hy
      have hml : m < la.length := by omega
      have ha := List.getElem?_eq_getElem hml
      generalize la[m] = a at ha
      have hal := List.mem_of_getElem? ha
      have hc := dI_len (la := la) (lb := lb) m
      refine gX10_differs_22_1 u _ _ n _ la.length m i _ la5 hml (qX10_isAmong_w hn la5 lb5 hA hB ha (laz a hal) lbz) vw vk vn (fun z => absurd hml (by omega)) (fun z => absurd hml (by omega)) (fun _ z y => ?_) (fun _ z y => ⟨?_, rfl⟩) (fun _ z => ?_)
      · have no : a ∉ lb := fun q => z (bP_iff.mpr q)
        have := ih (m + 1) (by omega) hml (fun x hx => ?_)
        · rw [dI_out ha no, List.length_append] at this
          exact this
        · rw [dI_out ha no, List.length_append] at hx
          simp only [List.length_cons, List.length_nil] at hx
          by_cases e : x = (dI la lb m).length
          · subst e; exact y
          · exact hy x (by omega)
      · have no : a ∉ lb := fun q => z (bP_iff.mpr q)
        have hx : (dI la lb (m + 1))[(dI la lb m).length]? = some m := by
          rw [dI_out ha no, List.getElem?_append_right (Nat.le_refl _), Nat.sub_self]
          rfl
        have hL := dI_pre hx (la.length - (m + 1))
        rw [show m + 1 + (la.length - (m + 1)) = la.length by omega] at hL
        have hlt := (List.getElem?_eq_some_iff.mp hL).1
        have hl' : (dI la lb la.length).length ≤ 500 := Nat.le_trans hlen la5
        rw [← y]
        unfold difV
        rw [if_neg (nIm1 (by omega)), if_pos ⟨nn_N _ (by omega), (nI_ltn (by omega) (by unfold dfI; omega)).mpr hlt⟩, nI_nat (by omega), List.getD_eq_getElem?_getD]
        show _ = some (Value.int (nI ((dI la lb la.length)[(dI la lb m).length]?.getD 0)))
        rw [hL]
        rfl
      · have yes : a ∈ lb := bP_iff.mp z
        have := ih (m + 1) (by omega) hml (fun x hx => by rw [dI_in ha yes] at hx; exact hy x hx)
        rw [dI_in ha yes] at this
        exact this
  exact loop _ 0 rfl (Nat.zero_le _) (fun y hy => by simp [dI] at hy)

/-- what was kept was woven -/
def KI (W : WVN) (K : KPT) : Prop := AI K.1 K.2 ∧ (K.2 ≠ none → wR W ≠ none)
theorem qX10_differ {u : xU} {W : WVN} {K : KPT} (hW : WI W) (hK : KI W K) (h : MW W u) (hk : MKp K u) (w : Int32) : xC mX10_differ [.ref 172, .int w] (xmm u) (fun r μ' => r = some (.int (xb (difOk W K w = true))) ∧ μ' = xmm u) := by
  have sk := szI_m (fun l hl => (hK.1.2 l hl).1)
  refine xC.of xpl10 (Nat.le_of_ble_eq_true rfl) (gX10_differ_0 u _ w K.1 (wN W) hK.1.1 hW.1.1 hk.2.1 hk.1 h.1 (fun z => ⟨ret_f (fun q => ?_), rfl⟩) (fun _ z => ⟨ret_f (fun q => ?_), rfl⟩) (fun _ _ z => ⟨ret_f (fun q => ?_), rfl⟩) (fun a b c => ⟨ret_t ?_, rfl⟩))
  · obtain ⟨lw, lk, h1, h2, -⟩ := difOk_t q
    rw [sk.mp z] at h2; cases h2
  · obtain ⟨lw, lk, h1, h2, h3, -⟩ := difOk_t q
    exact z h3
  · obtain ⟨lw, lk, h1, h2, h3, h4 | h4⟩ := difOk_t q
    · exact z (by rw [h4]; decide)
    · exact z (by rw [h4]; decide)
  · cases hkk : K.2 with
    | none => exact absurd (sk.mpr hkk) a
    | some lk =>
      cases hr : wR W with
      | none => exact absurd hr (hK.2 (by rw [hkk]; simp))
      | some lw => exact difOk_i hr hkk b c.1 c.2
/-- the two lists in the model -/
theorem difs {u : xU} {W : WVN} {K : KPT} (hW : WI W) (hK : KI W K) (h : MW W u) (hk : MKp K u) {w : Int32} (ok : difOk W K w = true) (i : Int32) : xC mX10_differs [.ref 172, .int w, .int i] (xmm u) (fun r μ' => r = some (.int (difV (dfI (dA W K w) (dB W K w)) i)) ∧ μ' = xmm u) := by
  obtain ⟨lw, lk, h1, h2, h3, hw⟩ := difOk_t ok
  obtain ⟨ia, ib⟩ := dAB hW hK.1 ok
  have rw' := (h.2.2 lw h1).2.2.1
  have rk := hk.2.2 lk h2
  have vw := h.2.1
  have vk := hk.2.1
  have vn := hk.1
  rw [h1] at vw
  rw [h2] at vk
  rw [h3] at vn
  rcases hw with rfl | rfl
  · have ha : dA W K 0 = lw := by unfold dA; rw [if_pos rfl, h1]; rfl
    have hb : dB W K 0 = lk := by unfold dB; rw [if_pos rfl, h2]; rfl
    rw [ha] at ia ⊢
    rw [hb] at ib ⊢
    exact qX10_differs_0 hW.1.1 ia ib rw' rk vw vk vn i
  · have ha : dA W K 1 = lk := by unfold dA; rw [if_neg (by decide), h2]; rfl
    have hb : dB W K 1 = lw := by unfold dB; rw [if_neg (by decide), h1]; rfl
    rw [ha] at ia ⊢
    rw [hb] at ib ⊢
    exact qX10_differs_1 hW.1.1 ia ib rk rw' vw vk vn i
theorem qX10_delta {u : xU} {W : WVN} {K : KPT} (hW : WI W) (hK : KI W K) (h : MW W u) (hk : MKp K u) (w : Int32) : xC mX10_delta [.ref 172, .int w] (xmm u) (fun r μ' => r = some (.int (aDelta W K w)) ∧ μ' = xmm u) := by
  have hdf := qX10_differ hW hK h hk w
  unfold aDelta
  by_cases ok : difOk W K w = true
  · rw [if_pos ok]
    rw [xb_eq (show (difOk W K w = true) ↔ True from ⟨fun _ => True.intro, fun _ => ok⟩)] at hdf
    have hd := difs hW hK h hk ok (-1)
    exact xC.of xpl10 (Nat.le_of_ble_eq_true rfl) (gX10_delta_t u w _ hdf hd (fun z => absurd True.intro z) (fun _ => ⟨by unfold difV; rw [if_pos rfl], rfl⟩))
  · rw [if_neg ok]
    rw [xb_eq (show (difOk W K w = true) ↔ False from ⟨fun q => ok q, fun q => q.elim⟩)] at hdf
    exact xC.of xpl10 (Nat.le_of_ble_eq_true rfl) (gX10_delta_f u w hdf (fun _ => ⟨rfl, rfl⟩) (fun z => z.elim))
theorem qX10_change {u : xU} {W : WVN} {K : KPT} (hW : WI W) (h1 : ∀ l, wR W = some l → 1 ≤ wN W) (hK : KI W K) (h : MW W u) (hk : MKp K u) (w i k : Int32) : xC mX10_change [.ref 172, .int w, .int i, .int k] (xmm u) (fun r μ' => r = some (.int (aChange W K w i k)) ∧ μ' = xmm u) := by
  have hdf := qX10_differ hW hK h hk w
  have hin := qX10_isName hW h1 h k
  have hn6 := hW.1.1
  refine xC.of xpl10 (Nat.le_of_ble_eq_true rfl) (gX10_change_0 u w i k _ _ hdf hin (fun z => ⟨?_, rfl⟩) (fun _ z => ⟨?_, rfl⟩) (fun ok z y => ?_) (fun ok _ z => ⟨?_, rfl⟩))
  · unfold aChange
    rw [if_neg (fun q => z q.1)]
    rfl
  · unfold aChange
    rw [if_neg (fun q => neg_nn z q.2.1)]
    rfl
  · obtain ⟨lw, lk, e1, e2, e3, hw⟩ := difOk_t ok
    obtain ⟨ia, ib⟩ := dAB hW hK.1 ok
    obtain ⟨_, k', -, k1, rfl⟩ := cry_t hn6 y
    have l5 := (ia.2 _ rfl).1
    have hl := dI_len (la := dA W K w) (lb := dB W K w) (dA W K w).length
    have hl' : (dfI (dA W K w) (dB W K w)).length ≤ 500 := Nat.le_trans hl l5
    have hdi := difs hW hK h hk ok i
    unfold aChange
    by_cases hin2 : i < nI (dfI (dA W K w) (dB W K w)).length
    · obtain ⟨i', i1, rfl⟩ := in_N (by omega) (Int32.not_lt.mp z) hin2
      rw [if_pos ⟨ok, Int32.not_lt.mp z, hin2⟩, nI_nat (by omega)]
      have hx := List.getElem?_eq_getElem i1
      generalize (dfI (dA W K w) (dB W K w))[i'] = x at hx
      have e : (dfI (dA W K w) (dB W K w)).getD i' 0 = x := by rw [List.getD_eq_getElem?_getD, hx]; rfl
      have hxl : x < (dA W K w).length := dI_lt (List.mem_of_getElem? hx)
      have ha := List.getElem?_eq_getElem hxl
      have ev : difV (dfI (dA W K w) (dB W K w)) (nI i') = nI x := by
        unfold difV
        rw [if_neg (nIm1 (by omega)), if_pos ⟨Int32.not_lt.mp z, hin2⟩, nI_nat (by omega), e]
      rw [ev] at hdi
      rw [e, atV_n hn6 l5 ha k1]
      refine gX10_change_s u w (nI i') _ _ k' x (by omega) (by omega) hdi rfl rfl (fun _ f => ⟨?_, rfl⟩) (fun _ f => ⟨?_, rfl⟩) (fun f => absurd f (nIm1 (by omega)))
      · have hA : dA W K w = lk := by unfold dA; rw [if_neg f, e2]; rfl
        have ha' : lk[x]? = some (dA W K w)[x] := by rw [← hA]; exact ha
        rw [hk.2.2 lk e2 x _ ha' k' (by omega)]
      · have hA : dA W K w = lw := by unfold dA; rw [if_pos f, e1]; rfl
        have ha' : lw[x]? = some (dA W K w)[x] := by rw [← hA]; exact ha
        rw [(h.2.2 lw e1).2.2.1 x _ ha' k' (by omega)]
    · rw [if_neg (fun q => hin2 q.2.2)]
      have ev : difV (dfI (dA W K w) (dB W K w)) i = -1 := by
        unfold difV
        rw [if_neg (fun q => z (by rw [q]; decide)), if_neg (fun q => hin2 q.2)]
      rw [ev] at hdi
      exact gX10_change_n u w i _ hdi ⟨rfl, rfl⟩
  · obtain ⟨lw, lk, e1, e2, e3, hw⟩ := difOk_t ok
    have : aChange W K w i k = 0 := by
      unfold aChange
      split
      · unfold atV
        dsimp only
        rw [if_neg]
        rintro ⟨-, -, q⟩
        refine z ?_
        unfold cry at q ⊢
        rw [e1]
        exact q
      · rfl
    rw [this]
    rfl

