abbrev xU : Type := (Nat → Nat → Int32) × (Nat → Nat → Int64) × Option Nat
/-- the references behind the constructors; fr: the list that the difference looks at -/
def xRR (fr : Option Nat) (a k : Nat) : Option Nat :=
  if a = 2 then (if k < 8 then some (156 + 2 * k) else none) else
  if a = 4 then (if k < 10 then some (6 + 4 * k) else none) else
  if 5 < a ∧ a < 46 then (if (a - 6) % 4 = 0 ∧ 4 < k ∧ k < 8 then some (a + k - 4) else none) else
  if a = 47 ∨ a = 59 then (if k = 2 then some (a + 1) else if k = 3 then some (a + 8) else none) else
  if a = 48 ∨ a = 60 ∨ a = 76 then (if k < 6 then some (a + 1 + k) else none) else
  if a = 68 then (if k = 1 then fr else if k = 2 then some 69 else none) else
  if a = 84 then (if k < 30 then some (85 + k) else none) else
  if a = 115 then (if k < 30 then some (116 + k) else none) else
  if a = 147 then (if k < 2 then some (148 + k) else none) else
  if 155 < a ∧ a < 172 then (if a % 2 = 0 ∧ k = 2 then some (a + 1) else none) else
  xR1 a k
where
  xR1 (a k : Nat) : Option Nat := (([(1, 0, 2), (1, 1, 3), (1, 2, 46), (1, 3, 59), (1, 4, 68), (1, 5, 70), (1, 6, 71), (1, 7, 74), (3, 2, 4), (3, 3, 5), (46, 0, 47), (46, 2, 56), (46, 3, 57), (46, 4, 58), (71, 2, 72), (71, 3, 73), (74, 0, 75), (74, 1, 76), (74, 2, 83), (74, 3, 84), (74, 4, 115), (74, 5, 146), (74, 6, 147), (74, 7, 150), (74, 8, 151), (74, 9, 152), (74, 10, 153), (74, 11, 154), (74, 12, 155), (172, 0, 173), (172, 1, 174), (172, 2, 175), (172, 5, 176), (172, 6, 177), (172, 7, 178), (172, 8, 179), (172, 9, 180), (172, 10, 181), (172, 11, 182), (172, 12, 183), (172, 14, 184), (172, 18, 185), (172, 19, 186), (172, 20, 187), (172, 21, 188), (172, 24, 189), (172, 25, 190), (172, 26, 191), (172, 27, 192), (172, 28, 193), (172, 29, 194), (172, 30, 195)] : List (Nat × Nat × Nat)).find? (fun q => q.1 == a && q.2.1 == k)).map (fun q => q.2.2)

def xmm (u : xU) : xM := (195, u.1, u.2.1, xRR u.2.2)
def wi (u : xU) (a k : Nat) (v : Int32) : xU := (up2 u.1 a k v, u.2)
def wl (u : xU) (a k : Nat) (v : Int64) : xU := (u.1, up2 u.2.1 a k v, u.2.2)
def wf (u : xU) (f : Option Nat) : xU := (u.1, u.2.1, f)
def wci (u : xU) (a b sp dp n : Nat) : xU := (cp2 u.1 a b sp dp n, u.2)
def wcl (u : xU) (a b sp dp n : Nat) : xU := (u.1, cp2 u.2.1 a b sp dp n, u.2.2)
theorem wi_ne {u : xU} {a k b j : Nat} {v : Int32} (h : b ≠ a) : (wi u a k v).1 b j = u.1 b j := congrFun (up2_ne h) j
theorem wi_nek {u : xU} {a k j : Nat} {v : Int32} (h : j ≠ k) : (wi u a k v).1 a j = u.1 a j := up2_nek h
theorem wi_self {u : xU} {a k : Nat} {v : Int32} : (wi u a k v).1 a k = v := up2_self
theorem wl_ne {u : xU} {a k b j : Nat} {v : Int64} (h : b ≠ a) : (wl u a k v).2.1 b j = u.2.1 b j := congrFun (up2_ne h) j
theorem wl_nek {u : xU} {a k j : Nat} {v : Int64} (h : j ≠ k) : (wl u a k v).2.1 a j = u.2.1 a j := up2_nek h
theorem wl_self {u : xU} {a k : Nat} {v : Int64} : (wl u a k v).2.1 a k = v := up2_self
theorem wci_ne {u : xU} {a c b j sp dp n : Nat} (h : b ≠ c) : (wci u a c sp dp n).1 b j = u.1 b j := congrFun (cp2_ne h) j
theorem wcl_ne {u : xU} {a c b j sp dp n : Nat} (h : b ≠ c) : (wcl u a c sp dp n).2.1 b j = u.2.1 b j := congrFun (cp2_ne h) j
theorem wi_l {u : xU} {a k b j : Nat} {v : Int32} : (wi u a k v).2.1 b j = u.2.1 b j := rfl
theorem wl_i {u : xU} {a k b j : Nat} {v : Int64} : (wl u a k v).1 b j = u.1 b j := rfl
theorem wci_l {u : xU} {a c b j sp dp n : Nat} : (wci u a c sp dp n).2.1 b j = u.2.1 b j := rfl
theorem wcl_i {u : xU} {a c b j sp dp n : Nat} : (wcl u a c sp dp n).1 b j = u.1 b j := rfl
theorem wf_i {u : xU} {b j : Nat} {f : Option Nat} : (wf u f).1 b j = u.1 b j := rfl
theorem wf_l {u : xU} {b j : Nat} {f : Option Nat} : (wf u f).2.1 b j = u.2.1 b j := rfl
theorem wi_app {u : xU} {a k b j : Nat} {v : Int32} : (wi u a k v).1 b j = if b = a ∧ j = k then v else u.1 b j := by
  by_cases h : b = a
  · subst h
    by_cases h2 : j = k
    · subst h2; rw [wi_self, if_pos ⟨rfl, rfl⟩]
    · rw [wi_nek h2, if_neg (fun q => h2 q.2)]
  · rw [wi_ne h, if_neg (fun q => h q.1)]
theorem wl_app {u : xU} {a k b j : Nat} {v : Int64} : (wl u a k v).2.1 b j = if b = a ∧ j = k then v else u.2.1 b j := by
  by_cases h : b = a
  · subst h
    by_cases h2 : j = k
    · subst h2; rw [wl_self, if_pos ⟨rfl, rfl⟩]
    · rw [wl_nek h2, if_neg (fun q => h2 q.2)]
  · rw [wl_ne h, if_neg (fun q => h q.1)]
theorem wci_app {u : xU} {a c b j sp dp n : Nat} : (wci u a c sp dp n).1 b j = if b = c ∧ dp ≤ j ∧ j < dp + n then u.1 a (sp + (j - dp)) else u.1 b j := by
  by_cases h : b = c
  · subst h
    show cp2 u.1 a b sp dp n b j = _
    rw [cp2_at]
    unfold va_cpy
    by_cases h2 : dp ≤ j ∧ j < dp + n
    · rw [if_pos h2, if_pos ⟨rfl, h2⟩]
    · rw [if_neg h2, if_neg (fun q => h2 q.2)]
  · rw [wci_ne h, if_neg (fun q => h q.1)]
theorem wcl_app {u : xU} {a c b j sp dp n : Nat} : (wcl u a c sp dp n).2.1 b j = if b = c ∧ dp ≤ j ∧ j < dp + n then u.2.1 a (sp + (j - dp)) else u.2.1 b j := by
  by_cases h : b = c
  · subst h
    show cp2 u.2.1 a b sp dp n b j = _
    rw [cp2_at]
    unfold va_cpy
    by_cases h2 : dp ≤ j ∧ j < dp + n
    · rw [if_pos h2, if_pos ⟨rfl, h2⟩]
    · rw [if_neg h2, if_neg (fun q => h2 q.2)]
  · rw [wcl_ne h, if_neg (fun q => h q.1)]
theorem wi_row {u : xU} {a k b : Nat} {v : Int32} (h : b ≠ a) : (wi u a k v).1 b = u.1 b := up2_ne h
theorem wl_row {u : xU} {a k b : Nat} {v : Int64} (h : b ≠ a) : (wl u a k v).2.1 b = u.2.1 b := up2_ne h
theorem wci_row {u : xU} {a c b sp dp n : Nat} (h : b ≠ c) : (wci u a c sp dp n).1 b = u.1 b := cp2_ne h
theorem wcl_row {u : xU} {a c b sp dp n : Nat} (h : b ≠ c) : (wcl u a c sp dp n).2.1 b = u.2.1 b := cp2_ne h
theorem xin_mm {u : xU} {a : Nat} (h : 0 < a ∧ a ≤ 195) : xin (xmm u) a := ⟨by show a - 1 < 195; omega, h.1⟩
def xb (P : Prop) [Decidable P] : Int32 := if P then 1 else 0
theorem xb_ok (P : Prop) [Decidable P] : xb P = 0 ∨ xb P = 1 := by unfold xb; split; exact Or.inr rfl; exact Or.inl rfl
theorem xb_t {P : Prop} [Decidable P] (h : P) : xb P = 1 := if_pos h
theorem xb_f {P : Prop} [Decidable P] (h : ¬ P) : xb P = 0 := if_neg h
theorem xb_eq {P P' : Prop} [Decidable P] [Decidable P'] (h : P ↔ P') : xb P = xb P' := by unfold xb; by_cases hp : P; rw [if_pos hp, if_pos (h.mp hp)]; rw [if_neg hp, if_neg (fun q => hp (h.mpr q))]
theorem xb_zero {P : Prop} [Decidable P] : xb P = 0 ↔ ¬ P := by unfold xb; split <;> simp_all
theorem nI_z : nI 0 = 0 := rfl
theorem nI_o : nI 1 = 1 := rfl
theorem nI_ad (a b : Nat) : nI a + nI b = nI (a + b) := (Int32.ofNat_add a b).symm
theorem nI_mul (a b : Nat) : nI a * nI b = nI (a * b) := (Int32.ofNat_mul a b).symm
theorem nI_sub {a b : Nat} (h : b ≤ a) : nI a - nI b = nI (a - b) := (Int32.ofNat_sub a b h).symm
theorem nI_inj {a b : Nat} (ha : a < 2147483648) (hb : b < 2147483648) : nI a = nI b ↔ a = b := by
  refine ⟨fun h => ?_, fun h => by rw [h]⟩
  have := congrArg Int32.toInt h
  rw [nI_toInt (by omega), nI_toInt (by omega)] at this
  omega
theorem nI_ltn {a b : Nat} (ha : a < 2147483648) (hb : b < 2147483648) : nI a < nI b ↔ a < b := by
  rw [Int32.lt_iff_toInt_lt, nI_toInt (by omega), nI_toInt (by omega)]; omega
theorem nI_len {a b : Nat} (ha : a < 2147483648) (hb : b < 2147483648) : nI a ≤ nI b ↔ a ≤ b := by
  rw [Int32.le_iff_toInt_le, nI_toInt (by omega), nI_toInt (by omega)]; omega
theorem nI_ix {k n : Nat} (h : k < n) (hn : n ≤ 10000) : vp_in (nI k) n := nI_in h (by omega)
theorem nI_nat {k : Nat} (h : k < 2147483648) : (nI k).toNatClampNeg = k := nI_clamp (by omega)
theorem nI_toI {k : Nat} (h : k < 2147483648) : (nI k).toInt = (k : Int) := nI_toInt (by omega)
section XD
variable {M : xD} {pc : Nat} {L : List (Nat × Value)} {st : List Value} {u : xU} {Q : Option Value → xM → Prop} {a idx ci N k n : Nat} {fin : Bool}
theorem xr_getI {v : Int32} (hd : decode M.2.1 pc = .ok (.getfield idx, 3)) (hF : xFld M.1.cls idx ci N k .int fin) (hs : xSH a = (ci, N)) (ha : 0 < a ∧ a ≤ 195) (hv : u.1 a k = v) (h : xE M (pc + 3) L (.int v :: st) (xmm u) Q) : xE M pc L (.ref a :: st) (xmm u) Q := by
  subst hv
  exact xe_getI hd hF hs (xin_mm ha) h
theorem xr_getL {v : Int64} (hd : decode M.2.1 pc = .ok (.getfield idx, 3)) (hF : xFld M.1.cls idx ci N k .long fin) (hs : xSH a = (ci, N)) (ha : 0 < a ∧ a ≤ 195) (hv : u.2.1 a k = v) (h : xE M (pc + 3) L (.long v :: st) (xmm u) Q) : xE M pc L (.ref a :: st) (xmm u) Q := by
  subst hv
  exact xe_getL hd hF hs (xin_mm ha) h
theorem xr_getR {ty : FieldType} {b : Nat} (hd : decode M.2.1 pc = .ok (.getfield idx, 3)) (hF : xFld M.1.cls idx ci N k ty fin) (hr : refKind ty = true) (hs : xSH a = (ci, N)) (ha : 0 < a ∧ a ≤ 195) (hv : xRR u.2.2 a k = some b) (h : xE M (pc + 3) L (.ref b :: st) (xmm u) Q) : xE M pc L (.ref a :: st) (xmm u) Q :=
  xe_getR hd hF hr hs (xin_mm ha) hv h
theorem xr_getN {ty : FieldType} (hd : decode M.2.1 pc = .ok (.getfield idx, 3)) (hF : xFld M.1.cls idx ci N k ty fin) (hr : refKind ty = true) (hs : xSH a = (ci, N)) (ha : 0 < a ∧ a ≤ 195) (hv : xRR u.2.2 a k = none) (h : xE M (pc + 3) L (.null :: st) (xmm u) Q) : xE M pc L (.ref a :: st) (xmm u) Q :=
  xe_getN hd hF hr hs (xin_mm ha) hv h
theorem xr_putI {v : Int32} (hd : decode M.2.1 pc = .ok (.putfield idx, 3)) (hF : xFld M.1.cls idx ci N k .int false) (hs : xSH a = (ci, N)) (ha : 0 < a ∧ a ≤ 195) (h : xE M (pc + 3) L st (xmm (wi u a k v)) Q) : xE M pc L (.int v :: .ref a :: st) (xmm u) Q :=
  xe_putI hd hF hs (xin_mm ha) h
theorem xr_putL {v : Int64} (hd : decode M.2.1 pc = .ok (.putfield idx, 3)) (hF : xFld M.1.cls idx ci N k .long false) (hs : xSH a = (ci, N)) (ha : 0 < a ∧ a ≤ 195) (h : xE M (pc + 3) L st (xmm (wl u a k v)) Q) : xE M pc L (.long v :: .ref a :: st) (xmm u) Q :=
  xe_putL hd hF hs (xin_mm ha) h
theorem xRR_put (f : Option Nat) (b : Nat) : up2 (xRR f) 68 1 (some b) = xRR (some b) := by
  funext a k
  unfold up2
  by_cases h : a = 68
  · subst h
    by_cases hk : k = 1
    · subst hk
      rfl
    · simp only [if_true, if_neg hk]
      simp [xRR, hk]
  · rw [if_neg h]
    simp [xRR, h]
theorem xr_putR {b : Nat} {D0 : String} (hd : decode M.2.1 pc = .ok (.putfield idx, 3)) (hF : xFld M.1.cls idx 2 3 1 (.object D0) false) (h : xE M (pc + 3) L st (xmm (wf u (some b))) Q) : xE M pc L (.ref b :: .ref 68 :: st) (xmm u) Q :=
  xe_putR hd hF rfl (xin_mm (by decide)) (by
    have e : xwr (xmm u) 68 1 (some b) = xmm (wf u (some b)) := by
      show (195, u.1, u.2.1, up2 (xRR u.2.2) 68 1 (some b)) = (195, u.1, u.2.1, xRR (some b))
      rw [xRR_put]
    rw [e]
    exact h)
-- arrays, the index a Nat
theorem xr_iald {v : Int32} (hd : decode M.2.1 pc = .ok (.iaload, 1)) (hs : xSH a = (50, n)) (ha : 0 < a ∧ a ≤ 195) (hk : k < n) (hn : n ≤ 10000) (hv : u.1 a k = v) (h : xE M (pc + 1) L (.int v :: st) (xmm u) Q) : xE M pc L (.int (nI k) :: .ref a :: st) (xmm u) Q := by
  subst hv
  exact xe_iaload hd hs (xin_mm ha) (nI_ix hk hn) (by rw [nI_nat (by omega)]; exact h)
theorem xr_zald {v : Int32} (hd : decode M.2.1 pc = .ok (.baload, 1)) (hs : xSH a = (52, n)) (ha : 0 < a ∧ a ≤ 195) (hk : k < n) (hn : n ≤ 10000) (hv : u.1 a k = v) (h : xE M (pc + 1) L (.int v :: st) (xmm u) Q) : xE M pc L (.int (nI k) :: .ref a :: st) (xmm u) Q := by
  subst hv
  exact xe_zaload hd hs (xin_mm ha) (nI_ix hk hn) (by rw [nI_nat (by omega)]; exact h)
theorem xr_lald {v : Int64} (hd : decode M.2.1 pc = .ok (.laload, 1)) (hs : xSH a = (51, n)) (ha : 0 < a ∧ a ≤ 195) (hk : k < n) (hn : n ≤ 10000) (hv : u.2.1 a k = v) (h : xE M (pc + 1) L (.long v :: st) (xmm u) Q) : xE M pc L (.int (nI k) :: .ref a :: st) (xmm u) Q := by
  subst hv
  exact xe_laload hd hs (xin_mm ha) (nI_ix hk hn) (by rw [nI_nat (by omega)]; exact h)
theorem xr_aald {kd b : Nat} (hd : decode M.2.1 pc = .ok (.aaload, 1)) (hs : xSH a = (kd, n)) (h1 : 52 < kd) (h2 : kd < 57) (ha : 0 < a ∧ a ≤ 195) (hk : k < n) (hn : n ≤ 10000) (hv : xRR u.2.2 a k = some b) (h : xE M (pc + 1) L (.ref b :: st) (xmm u) Q) : xE M pc L (.int (nI k) :: .ref a :: st) (xmm u) Q :=
  xe_aaload hd hs h1 h2 (xin_mm ha) (nI_ix hk hn) (by rw [nI_nat (by omega)]; exact hv) h
theorem xr_iast {v : Int32} (hd : decode M.2.1 pc = .ok (.iastore, 1)) (hs : xSH a = (50, n)) (ha : 0 < a ∧ a ≤ 195) (hk : k < n) (hn : n ≤ 10000) (h : xE M (pc + 1) L st (xmm (wi u a k v)) Q) : xE M pc L (.int v :: .int (nI k) :: .ref a :: st) (xmm u) Q :=
  xe_iastore hd hs (xin_mm ha) (nI_ix hk hn) (by rw [nI_nat (by omega)]; exact h)
theorem xr_zast {P : Prop} [Decidable P] (hd : decode M.2.1 pc = .ok (.bastore, 1)) (hs : xSH a = (52, n)) (ha : 0 < a ∧ a ≤ 195) (hk : k < n) (hn : n ≤ 10000) (h : xE M (pc + 1) L st (xmm (wi u a k (xb P))) Q) : xE M pc L (.int (xb P) :: .int (nI k) :: .ref a :: st) (xmm u) Q :=
  xe_zastore hd hs (xin_mm ha) (nI_ix hk hn) (by rcases xb_ok P with h | h <;> rw [h] <;> rfl) (by rw [nI_nat (by omega)]; exact h)
theorem xr_last {v : Int64} (hd : decode M.2.1 pc = .ok (.lastore, 1)) (hs : xSH a = (51, n)) (ha : 0 < a ∧ a ≤ 195) (hk : k < n) (hn : n ≤ 10000) (h : xE M (pc + 1) L st (xmm (wl u a k v)) Q) : xE M pc L (.long v :: .int (nI k) :: .ref a :: st) (xmm u) Q :=
  xe_lastore hd hs (xin_mm ha) (nI_ix hk hn) (by rw [nI_nat (by omega)]; exact h)
-- arithmetic of Nats
theorem xn_iadd {x y : Nat} (hd : decode M.2.1 pc = .ok (.iadd, 1)) (h : xE M (pc + 1) L (.int (nI (x + y)) :: st) (xmm u) Q) : xE M pc L (.int (nI y) :: .int (nI x) :: st) (xmm u) Q := xe_iadd hd (by rw [nI_ad]; exact h)
theorem xn_imul {x y : Nat} (hd : decode M.2.1 pc = .ok (.imul, 1)) (h : xE M (pc + 1) L (.int (nI (x * y)) :: st) (xmm u) Q) : xE M pc L (.int (nI y) :: .int (nI x) :: st) (xmm u) Q := xe_imul hd (by rw [nI_mul]; exact h)
theorem xn_isub {x y : Nat} (hd : decode M.2.1 pc = .ok (.isub, 1)) (hle : y ≤ x) (h : xE M (pc + 1) L (.int (nI (x - y)) :: st) (xmm u) Q) : xE M pc L (.int (nI y) :: .int (nI x) :: st) (xmm u) Q := xe_isub hd (by rw [nI_sub hle]; exact h)
theorem xn_iinc {i c : Nat} {x : Nat} {L2 : List (Nat × Value)} (k : Nat) (hd : decode M.2.1 pc = .ok (.iinc i (c : Int), 3)) (hk : L[k]? = some (i, .int (nI x))) (hn : i < M.2.2.1) (hL : xput L i (.int (nI (x + c))) = L2) (h : xE M (pc + 3) L2 st (xmm u) Q) : xE M pc L st (xmm u) Q :=
  xe_iinc k hd hk (by rw [← nI_ad]; rfl) hn hL h
theorem xn_idec {i : Nat} {x : Nat} {L2 : List (Nat × Value)} (k : Nat) (hd : decode M.2.1 pc = .ok (.iinc i (-1), 3)) (hk : L[k]? = some (i, .int (nI x))) (h1 : 1 ≤ x) (hn : i < M.2.2.1) (hL : xput L i (.int (nI (x - 1))) = L2) (h : xE M (pc + 3) L2 st (xmm u) Q) : xE M pc L st (xmm u) Q :=
  xe_iinc k hd hk (by rw [← nI_sub h1]; show nI x + Int32.ofInt (-1) = nI x - nI 1; rw [show Int32.ofInt (-1) = -1 from rfl, show nI 1 = 1 from rfl]; exact (Int32.sub_eq_add_neg _ _).symm) hn hL h
theorem nI_div {x y : Nat} (hx : x < 2147483648) (hy : y < 2147483648) : nI x / nI y = nI (x / y) := by
  apply Int32.toInt_inj.mp
  have h1 : x / y < 2147483648 := Nat.lt_of_le_of_lt (Nat.div_le_self x y) hx
  rw [Int32.toInt_div, nI_toI hx, nI_toI hy, nI_toI h1]
  rw [show (x : Int).tdiv y = ((x / y : Nat) : Int) from (Int.ofNat_tdiv x y).symm]
  generalize x / y = z at h1
  exact Int.bmod_eq_of_le (by omega) (by omega)
theorem xn_idiv {x y : Nat} (hd : decode M.2.1 pc = .ok (.idiv, 1)) (hx : x < 2147483648) (hy : y < 2147483648) (h0 : 0 < y) (h : xE M (pc + 1) L (.int (nI (x / y)) :: st) (xmm u) Q) : xE M pc L (.int (nI y) :: .int (nI x) :: st) (xmm u) Q := xe_idiv hd (fun q => by have := (nI_inj hy (by decide)).mp (q.trans nI_z.symm); omega) (by rw [nI_div hx hy]; exact h)
theorem xn_irem {x y : Nat} (hd : decode M.2.1 pc = .ok (.irem, 1)) (hx : x < 2147483648) (hy : y < 2147483648) (h0 : 0 < y) (h : xE M (pc + 1) L (.int (nI (x % y)) :: st) (xmm u) Q) : xE M pc L (.int (nI y) :: .int (nI x) :: st) (xmm u) Q := xe_irem hd (fun q => by have := (nI_inj hy (by decide)).mp (q.trans nI_z.symm); omega) (by
  rw [nI_div hx hy, nI_mul, nI_sub (Nat.div_mul_le_self x y)]
  have e : x - x / y * y = x % y := by have := Nat.div_add_mod x y; rw [Nat.mul_comm] at this; omega
  rw [e]
  exact h)
theorem xn_half {x : Nat} (hd : decode M.2.1 pc = .ok (.iushr, 1)) (hx : x < 2147483648) (h : xE M (pc + 1) L (.int (nI (x / 2)) :: st) (xmm u) Q) : xE M pc L (.int (nI 1) :: .int (nI x) :: st) (xmm u) Q := xe_iushr hd (by
  have e : ((nI x).toUInt32 >>> ((nI 1).toUInt32 &&& Int32.toUInt32 31)).toInt32 = nI (x / 2) := by
    have e1 : (nI 1).toUInt32 &&& Int32.toUInt32 31 = 1 := by decide
    rw [e1]
    apply Int32.toInt_inj.mp
    have h2 : x / 2 < 2147483648 := by omega
    rw [nI_toI h2]
    have e3 : (nI x).toUInt32.toNat = x := by
      show (Int32.ofNat x).toUInt32.toNat = x
      simp [Int32.toUInt32_ofNat', UInt32.toNat_ofNat]
      omega
    have e4 : ((nI x).toUInt32 >>> 1).toNat = x / 2 := by
      rw [UInt32.toNat_shiftRight, e3]
      simp [Nat.shiftRight_eq_div_pow]
    have e5 : ((nI x).toUInt32 >>> 1) = UInt32.ofNat (x / 2) := by
      apply UInt32.toNat_inj.mp
      rw [e4]
      simp [UInt32.toNat_ofNat]
      omega
    rw [e5]
    have e6 : (UInt32.ofNat (x / 2)).toInt32 = Int32.ofNat (x / 2) := by simp
    rw [e6]
    exact nI_toI h2
  rw [e]
  exact h)

theorem xn_icmp_eq {x y : Nat} {off : Int} (tgt : Nat) (hd : decode M.2.1 pc = .ok (.if_icmp .eq off, 3)) (ht : (pc : Int) + off = (tgt : Int)) (hx : x < 2147483648) (hy : y < 2147483648) (kt : x = y → xE M tgt L st (xmm u) Q) (kf : ¬ x = y → xE M (pc + 3) L st (xmm u) Q) : xE M pc L (.int (nI y) :: .int (nI x) :: st) (xmm u) Q :=
  xe_icmp_eq tgt hd ht (fun q => kt ((nI_inj hx hy).mp q)) (fun q => kf (fun z => q ((nI_inj hx hy).mpr z)))
theorem xn_icmp_ne {x y : Nat} {off : Int} (tgt : Nat) (hd : decode M.2.1 pc = .ok (.if_icmp .ne off, 3)) (ht : (pc : Int) + off = (tgt : Int)) (hx : x < 2147483648) (hy : y < 2147483648) (kt : ¬ x = y → xE M tgt L st (xmm u) Q) (kf : x = y → xE M (pc + 3) L st (xmm u) Q) : xE M pc L (.int (nI y) :: .int (nI x) :: st) (xmm u) Q :=
  xe_icmp_ne tgt hd ht (fun q => kt (fun z => q ((nI_inj hx hy).mpr z))) (fun q => kf ((nI_inj hx hy).mp q))
theorem xn_icmp_lt {x y : Nat} {off : Int} (tgt : Nat) (hd : decode M.2.1 pc = .ok (.if_icmp .lt off, 3)) (ht : (pc : Int) + off = (tgt : Int)) (hx : x < 2147483648) (hy : y < 2147483648) (kt : x < y → xE M tgt L st (xmm u) Q) (kf : ¬ x < y → xE M (pc + 3) L st (xmm u) Q) : xE M pc L (.int (nI y) :: .int (nI x) :: st) (xmm u) Q :=
  xe_icmp_lt tgt hd ht (fun q => kt ((nI_ltn hx hy).mp q)) (fun q => kf (fun z => q ((nI_ltn hx hy).mpr z)))
theorem xn_icmp_ge {x y : Nat} {off : Int} (tgt : Nat) (hd : decode M.2.1 pc = .ok (.if_icmp .ge off, 3)) (ht : (pc : Int) + off = (tgt : Int)) (hx : x < 2147483648) (hy : y < 2147483648) (kt : y ≤ x → xE M tgt L st (xmm u) Q) (kf : ¬ y ≤ x → xE M (pc + 3) L st (xmm u) Q) : xE M pc L (.int (nI y) :: .int (nI x) :: st) (xmm u) Q :=
  xe_icmp_ge tgt hd ht (fun q => kt ((nI_len hy hx).mp q)) (fun q => kf (fun z => q ((nI_len hy hx).mpr z)))
theorem xn_icmp_gt {x y : Nat} {off : Int} (tgt : Nat) (hd : decode M.2.1 pc = .ok (.if_icmp .gt off, 3)) (ht : (pc : Int) + off = (tgt : Int)) (hx : x < 2147483648) (hy : y < 2147483648) (kt : y < x → xE M tgt L st (xmm u) Q) (kf : ¬ y < x → xE M (pc + 3) L st (xmm u) Q) : xE M pc L (.int (nI y) :: .int (nI x) :: st) (xmm u) Q :=
  xe_icmp_gt tgt hd ht (fun q => kt ((nI_ltn hy hx).mp q)) (fun q => kf (fun z => q ((nI_ltn hy hx).mpr z)))
theorem xn_icmp_le {x y : Nat} {off : Int} (tgt : Nat) (hd : decode M.2.1 pc = .ok (.if_icmp .le off, 3)) (ht : (pc : Int) + off = (tgt : Int)) (hx : x < 2147483648) (hy : y < 2147483648) (kt : x ≤ y → xE M tgt L st (xmm u) Q) (kf : ¬ x ≤ y → xE M (pc + 3) L st (xmm u) Q) : xE M pc L (.int (nI y) :: .int (nI x) :: st) (xmm u) Q :=
  xe_icmp_le tgt hd ht (fun q => kt ((nI_len hx hy).mp q)) (fun q => kf (fun z => q ((nI_len hx hy).mpr z)))
theorem xn_if_eq {x : Nat} {off : Int} (tgt : Nat) (hd : decode M.2.1 pc = .ok (.ifCond .eq off, 3)) (ht : (pc : Int) + off = (tgt : Int)) (hx : x < 2147483648) (kt : x = 0 → xE M tgt L st (xmm u) Q) (kf : ¬ x = 0 → xE M (pc + 3) L st (xmm u) Q) : xE M pc L (.int (nI x) :: st) (xmm u) Q :=
  xe_if_eq tgt hd ht (fun q => kt ((nI_inj hx (by decide)).mp q)) (fun q => kf (fun z => q ((nI_inj hx (by decide)).mpr z)))
theorem xn_if_ne {x : Nat} {off : Int} (tgt : Nat) (hd : decode M.2.1 pc = .ok (.ifCond .ne off, 3)) (ht : (pc : Int) + off = (tgt : Int)) (hx : x < 2147483648) (kt : ¬ x = 0 → xE M tgt L st (xmm u) Q) (kf : x = 0 → xE M (pc + 3) L st (xmm u) Q) : xE M pc L (.int (nI x) :: st) (xmm u) Q :=
  xe_if_ne tgt hd ht (fun q => kt (fun z => q ((nI_inj hx (by decide)).mpr z))) (fun q => kf ((nI_inj hx (by decide)).mp q))
theorem xn_if_lt {x : Nat} {off : Int} (tgt : Nat) (hd : decode M.2.1 pc = .ok (.ifCond .lt off, 3)) (ht : (pc : Int) + off = (tgt : Int)) (hx : x < 2147483648) (kt : x < 0 → xE M tgt L st (xmm u) Q) (kf : ¬ x < 0 → xE M (pc + 3) L st (xmm u) Q) : xE M pc L (.int (nI x) :: st) (xmm u) Q :=
  xe_if_lt tgt hd ht (fun q => kt ((nI_ltn hx (by decide)).mp q)) (fun q => kf (fun z => q ((nI_ltn hx (by decide)).mpr z)))
theorem xn_if_ge {x : Nat} {off : Int} (tgt : Nat) (hd : decode M.2.1 pc = .ok (.ifCond .ge off, 3)) (ht : (pc : Int) + off = (tgt : Int)) (hx : x < 2147483648) (kt : 0 ≤ x → xE M tgt L st (xmm u) Q) (kf : ¬ 0 ≤ x → xE M (pc + 3) L st (xmm u) Q) : xE M pc L (.int (nI x) :: st) (xmm u) Q :=
  xe_if_ge tgt hd ht (fun q => kt ((nI_len (by decide) hx).mp q)) (fun q => kf (fun z => q ((nI_len (by decide) hx).mpr z)))
theorem xn_if_gt {x : Nat} {off : Int} (tgt : Nat) (hd : decode M.2.1 pc = .ok (.ifCond .gt off, 3)) (ht : (pc : Int) + off = (tgt : Int)) (hx : x < 2147483648) (kt : 0 < x → xE M tgt L st (xmm u) Q) (kf : ¬ 0 < x → xE M (pc + 3) L st (xmm u) Q) : xE M pc L (.int (nI x) :: st) (xmm u) Q :=
  xe_if_gt tgt hd ht (fun q => kt ((nI_ltn (by decide) hx).mp q)) (fun q => kf (fun z => q ((nI_ltn (by decide) hx).mpr z)))
theorem xn_if_le {x : Nat} {off : Int} (tgt : Nat) (hd : decode M.2.1 pc = .ok (.ifCond .le off, 3)) (ht : (pc : Int) + off = (tgt : Int)) (hx : x < 2147483648) (kt : x ≤ 0 → xE M tgt L st (xmm u) Q) (kf : ¬ x ≤ 0 → xE M (pc + 3) L st (xmm u) Q) : xE M pc L (.int (nI x) :: st) (xmm u) Q :=
  xe_if_le tgt hd ht (fun q => kt ((nI_len hx (by decide)).mp q)) (fun q => kf (fun z => q ((nI_len hx (by decide)).mpr z)))
theorem xb_if_eq {P : Prop} [Decidable P] {off : Int} (tgt : Nat) (hd : decode M.2.1 pc = .ok (.ifCond .eq off, 3)) (ht : (pc : Int) + off = (tgt : Int)) (kt : ¬ P → xE M tgt L st (xmm u) Q) (kf : P → xE M (pc + 3) L st (xmm u) Q) : xE M pc L (.int (xb P) :: st) (xmm u) Q :=
  xe_if_eq tgt hd ht (fun q => kt (xb_zero.mp q)) (fun q => kf (Classical.byContradiction fun z => q (xb_zero.mpr z)))
theorem xb_if_ne {P : Prop} [Decidable P] {off : Int} (tgt : Nat) (hd : decode M.2.1 pc = .ok (.ifCond .ne off, 3)) (ht : (pc : Int) + off = (tgt : Int)) (kt : P → xE M tgt L st (xmm u) Q) (kf : ¬ P → xE M (pc + 3) L st (xmm u) Q) : xE M pc L (.int (xb P) :: st) (xmm u) Q :=
  xe_if_ne tgt hd ht (fun q => kt (Classical.byContradiction fun z => q (xb_zero.mpr z))) (fun q => kf (xb_zero.mp q))
theorem xr_copyi {b n2 sp dp m9 : Nat} (hd : decode M.2.1 pc = .ok (.invokestatic idx, 3)) (hw : Cond.methodLink M.1.cls idx arraycopyName ∈ xTB) (hro : 1 ≤ M.2.2.2.2.1 ∧ (st.map fun v => v.category).sum + (nativeFrameWords "java/lang/System" "arraycopy" 5 + 11) ≤ M.2.2.2.2.2) (hs : xSH a = (50, n)) (ha : 0 < a ∧ a ≤ 195) (hs2 : xSH b = (50, n2)) (hb : 0 < b ∧ b ≤ 195) (h1 : sp < 2147483648) (h2 : dp < 2147483648) (h3 : m9 < 2147483648) (h4 : sp + m9 ≤ n) (h5 : dp + m9 ≤ n2)
    (h : xE M (pc + 3) L st (xmm (wci u a b sp dp m9)) Q) : xE M pc L (.int (nI m9) :: .int (nI dp) :: .ref b :: .int (nI sp) :: .ref a :: st) (xmm u) Q :=
  xe_copyi hd hw hro hs (xin_mm ha) hs2 (xin_mm hb) (nI_pos (by omega)) (nI_pos (by omega)) (nI_pos (by omega)) (by rw [nI_nat h1, nI_nat h3]; exact h4) (by rw [nI_nat h2, nI_nat h3]; exact h5) (by rw [nI_nat h1, nI_nat h2, nI_nat h3]; exact h)
theorem xr_copyl {b n2 sp dp m9 : Nat} (hd : decode M.2.1 pc = .ok (.invokestatic idx, 3)) (hw : Cond.methodLink M.1.cls idx arraycopyName ∈ xTB) (hro : 1 ≤ M.2.2.2.2.1 ∧ (st.map fun v => v.category).sum + (nativeFrameWords "java/lang/System" "arraycopy" 5 + 11) ≤ M.2.2.2.2.2) (hs : xSH a = (51, n)) (ha : 0 < a ∧ a ≤ 195) (hs2 : xSH b = (51, n2)) (hb : 0 < b ∧ b ≤ 195) (h1 : sp < 2147483648) (h2 : dp < 2147483648) (h3 : m9 < 2147483648) (h4 : sp + m9 ≤ n) (h5 : dp + m9 ≤ n2)
    (h : xE M (pc + 3) L st (xmm (wcl u a b sp dp m9)) Q) : xE M pc L (.int (nI m9) :: .int (nI dp) :: .ref b :: .int (nI sp) :: .ref a :: st) (xmm u) Q :=
  xe_copyl hd hw hro hs (xin_mm ha) hs2 (xin_mm hb) (nI_pos (by omega)) (nI_pos (by omega)) (nI_pos (by omega)) (by rw [nI_nat h1, nI_nat h3]; exact h4) (by rw [nI_nat h2, nI_nat h3]; exact h5) (by rw [nI_nat h1, nI_nat h2, nI_nat h3]; exact h)
end XD
/-- a callee that answers v and changes nothing -/
theorem xC.pure {M M' : xD} {pc : Nat} {L : List (Nat × Value)} {as rest : List Value} {μ : xM} {v : Value} {Q : Option Value → xM → Prop} (h : xC M' as μ (fun r μ' => r = some v ∧ μ' = μ)) (k : xE M pc L (v :: rest) μ Q) : xC M' as μ (fun r μ1 => xE M pc L (r.toList ++ rest) μ1 Q) :=
  h.mono fun r μ' ⟨h1, h2⟩ => by subst h1; subst h2; exact k

theorem sh1 : xSH 1 = (9, 8) := by decide +kernel
theorem sh2 : xSH 2 = (53, 8) := by decide +kernel
theorem sh3 : xSH 3 = (4, 5) := by decide +kernel
theorem sh4 : xSH 4 = (54, 10) := by decide +kernel
theorem sh5 : xSH 5 = (50, 6) := by decide +kernel
theorem sh6 : xSH 6 = (3, 8) := by decide +kernel
theorem sh7 : xSH 7 = (50, 3) := by decide +kernel
theorem sh8 : xSH 8 = (50, 3) := by decide +kernel
theorem sh9 : xSH 9 = (50, 6) := by decide +kernel
theorem sh10 : xSH 10 = (3, 8) := by decide +kernel
theorem sh11 : xSH 11 = (50, 3) := by decide +kernel
theorem sh12 : xSH 12 = (50, 3) := by decide +kernel
theorem sh13 : xSH 13 = (50, 6) := by decide +kernel
theorem sh14 : xSH 14 = (3, 8) := by decide +kernel
theorem sh15 : xSH 15 = (50, 3) := by decide +kernel
theorem sh16 : xSH 16 = (50, 3) := by decide +kernel
theorem sh17 : xSH 17 = (50, 6) := by decide +kernel
theorem sh18 : xSH 18 = (3, 8) := by decide +kernel
theorem sh19 : xSH 19 = (50, 3) := by decide +kernel
theorem sh20 : xSH 20 = (50, 3) := by decide +kernel
theorem sh21 : xSH 21 = (50, 6) := by decide +kernel
theorem sh22 : xSH 22 = (3, 8) := by decide +kernel
theorem sh23 : xSH 23 = (50, 3) := by decide +kernel
theorem sh24 : xSH 24 = (50, 3) := by decide +kernel
theorem sh25 : xSH 25 = (50, 6) := by decide +kernel
theorem sh26 : xSH 26 = (3, 8) := by decide +kernel
theorem sh27 : xSH 27 = (50, 3) := by decide +kernel
theorem sh28 : xSH 28 = (50, 3) := by decide +kernel
theorem sh29 : xSH 29 = (50, 6) := by decide +kernel
theorem sh30 : xSH 30 = (3, 8) := by decide +kernel
theorem sh31 : xSH 31 = (50, 3) := by decide +kernel
theorem sh32 : xSH 32 = (50, 3) := by decide +kernel
theorem sh33 : xSH 33 = (50, 6) := by decide +kernel
theorem sh34 : xSH 34 = (3, 8) := by decide +kernel
theorem sh35 : xSH 35 = (50, 3) := by decide +kernel
theorem sh36 : xSH 36 = (50, 3) := by decide +kernel
theorem sh37 : xSH 37 = (50, 6) := by decide +kernel
theorem sh38 : xSH 38 = (3, 8) := by decide +kernel
theorem sh39 : xSH 39 = (50, 3) := by decide +kernel
theorem sh40 : xSH 40 = (50, 3) := by decide +kernel
theorem sh41 : xSH 41 = (50, 6) := by decide +kernel
theorem sh42 : xSH 42 = (3, 8) := by decide +kernel
theorem sh43 : xSH 43 = (50, 3) := by decide +kernel
theorem sh44 : xSH 44 = (50, 3) := by decide +kernel
theorem sh45 : xSH 45 = (50, 6) := by decide +kernel
theorem sh46 : xSH 46 = (8, 5) := by decide +kernel
theorem sh47 : xSH 47 = (0, 4) := by decide +kernel
theorem sh48 : xSH 48 = (55, 6) := by decide +kernel
theorem sh49 : xSH 49 = (50, 64) := by decide +kernel
theorem sh50 : xSH 50 = (50, 64) := by decide +kernel
theorem sh51 : xSH 51 = (50, 64) := by decide +kernel
theorem sh52 : xSH 52 = (50, 64) := by decide +kernel
theorem sh53 : xSH 53 = (50, 64) := by decide +kernel
theorem sh54 : xSH 54 = (50, 64) := by decide +kernel
theorem sh55 : xSH 55 = (51, 500) := by decide +kernel
theorem sh56 : xSH 56 = (50, 10) := by decide +kernel
theorem sh57 : xSH 57 = (50, 6) := by decide +kernel
theorem sh58 : xSH 58 = (50, 500) := by decide +kernel
theorem sh59 : xSH 59 = (0, 4) := by decide +kernel
theorem sh60 : xSH 60 = (55, 6) := by decide +kernel
theorem sh61 : xSH 61 = (50, 64) := by decide +kernel
theorem sh62 : xSH 62 = (50, 64) := by decide +kernel
theorem sh63 : xSH 63 = (50, 64) := by decide +kernel
theorem sh64 : xSH 64 = (50, 64) := by decide +kernel
theorem sh65 : xSH 65 = (50, 64) := by decide +kernel
theorem sh66 : xSH 66 = (50, 64) := by decide +kernel
theorem sh67 : xSH 67 = (51, 500) := by decide +kernel
theorem sh68 : xSH 68 = (2, 3) := by decide +kernel
theorem sh69 : xSH 69 = (50, 500) := by decide +kernel
theorem sh70 : xSH 70 = (5, 4) := by decide +kernel
theorem sh71 : xSH 71 = (1, 4) := by decide +kernel
theorem sh72 : xSH 72 = (50, 5) := by decide +kernel
theorem sh73 : xSH 73 = (50, 5) := by decide +kernel
theorem sh74 : xSH 74 = (7, 13) := by decide +kernel
theorem sh75 : xSH 75 = (50, 6) := by decide +kernel
theorem sh76 : xSH 76 = (55, 6) := by decide +kernel
theorem sh77 : xSH 77 = (50, 64) := by decide +kernel
theorem sh78 : xSH 78 = (50, 64) := by decide +kernel
theorem sh79 : xSH 79 = (50, 64) := by decide +kernel
theorem sh80 : xSH 80 = (50, 64) := by decide +kernel
theorem sh81 : xSH 81 = (50, 64) := by decide +kernel
theorem sh82 : xSH 82 = (50, 64) := by decide +kernel
theorem sh83 : xSH 83 = (51, 10) := by decide +kernel
theorem sh84 : xSH 84 = (56, 30) := by decide +kernel
theorem sh85 : xSH 85 = (51, 64) := by decide +kernel
theorem sh86 : xSH 86 = (51, 64) := by decide +kernel
theorem sh87 : xSH 87 = (51, 64) := by decide +kernel
theorem sh88 : xSH 88 = (51, 64) := by decide +kernel
theorem sh89 : xSH 89 = (51, 64) := by decide +kernel
theorem sh90 : xSH 90 = (51, 64) := by decide +kernel
theorem sh91 : xSH 91 = (51, 64) := by decide +kernel
theorem sh92 : xSH 92 = (51, 64) := by decide +kernel
theorem sh93 : xSH 93 = (51, 64) := by decide +kernel
theorem sh94 : xSH 94 = (51, 64) := by decide +kernel
theorem sh95 : xSH 95 = (51, 64) := by decide +kernel
theorem sh96 : xSH 96 = (51, 64) := by decide +kernel
theorem sh97 : xSH 97 = (51, 64) := by decide +kernel
theorem sh98 : xSH 98 = (51, 64) := by decide +kernel
theorem sh99 : xSH 99 = (51, 64) := by decide +kernel
theorem sh100 : xSH 100 = (51, 64) := by decide +kernel
theorem sh101 : xSH 101 = (51, 64) := by decide +kernel
theorem sh102 : xSH 102 = (51, 64) := by decide +kernel
theorem sh103 : xSH 103 = (51, 64) := by decide +kernel
theorem sh104 : xSH 104 = (51, 64) := by decide +kernel
theorem sh105 : xSH 105 = (51, 64) := by decide +kernel
theorem sh106 : xSH 106 = (51, 64) := by decide +kernel
theorem sh107 : xSH 107 = (51, 64) := by decide +kernel
theorem sh108 : xSH 108 = (51, 64) := by decide +kernel
theorem sh109 : xSH 109 = (51, 64) := by decide +kernel
theorem sh110 : xSH 110 = (51, 64) := by decide +kernel
theorem sh111 : xSH 111 = (51, 64) := by decide +kernel
theorem sh112 : xSH 112 = (51, 64) := by decide +kernel
theorem sh113 : xSH 113 = (51, 64) := by decide +kernel
theorem sh114 : xSH 114 = (51, 64) := by decide +kernel
theorem sh115 : xSH 115 = (55, 30) := by decide +kernel
theorem sh116 : xSH 116 = (50, 64) := by decide +kernel
theorem sh117 : xSH 117 = (50, 64) := by decide +kernel
theorem sh118 : xSH 118 = (50, 64) := by decide +kernel
theorem sh119 : xSH 119 = (50, 64) := by decide +kernel
theorem sh120 : xSH 120 = (50, 64) := by decide +kernel
theorem sh121 : xSH 121 = (50, 64) := by decide +kernel
theorem sh122 : xSH 122 = (50, 64) := by decide +kernel
theorem sh123 : xSH 123 = (50, 64) := by decide +kernel
theorem sh124 : xSH 124 = (50, 64) := by decide +kernel
theorem sh125 : xSH 125 = (50, 64) := by decide +kernel
theorem sh126 : xSH 126 = (50, 64) := by decide +kernel
theorem sh127 : xSH 127 = (50, 64) := by decide +kernel
theorem sh128 : xSH 128 = (50, 64) := by decide +kernel
theorem sh129 : xSH 129 = (50, 64) := by decide +kernel
theorem sh130 : xSH 130 = (50, 64) := by decide +kernel
theorem sh131 : xSH 131 = (50, 64) := by decide +kernel
theorem sh132 : xSH 132 = (50, 64) := by decide +kernel
theorem sh133 : xSH 133 = (50, 64) := by decide +kernel
theorem sh134 : xSH 134 = (50, 64) := by decide +kernel
theorem sh135 : xSH 135 = (50, 64) := by decide +kernel
theorem sh136 : xSH 136 = (50, 64) := by decide +kernel
theorem sh137 : xSH 137 = (50, 64) := by decide +kernel
theorem sh138 : xSH 138 = (50, 64) := by decide +kernel
theorem sh139 : xSH 139 = (50, 64) := by decide +kernel
theorem sh140 : xSH 140 = (50, 64) := by decide +kernel
theorem sh141 : xSH 141 = (50, 64) := by decide +kernel
theorem sh142 : xSH 142 = (50, 64) := by decide +kernel
theorem sh143 : xSH 143 = (50, 64) := by decide +kernel
theorem sh144 : xSH 144 = (50, 64) := by decide +kernel
theorem sh145 : xSH 145 = (50, 64) := by decide +kernel
theorem sh146 : xSH 146 = (50, 7) := by decide +kernel
theorem sh147 : xSH 147 = (56, 2) := by decide +kernel
theorem sh148 : xSH 148 = (51, 500) := by decide +kernel
theorem sh149 : xSH 149 = (51, 500) := by decide +kernel
theorem sh150 : xSH 150 = (50, 6) := by decide +kernel
theorem sh151 : xSH 151 = (50, 6) := by decide +kernel
theorem sh152 : xSH 152 = (51, 10) := by decide +kernel
theorem sh153 : xSH 153 = (50, 16) := by decide +kernel
theorem sh154 : xSH 154 = (50, 16) := by decide +kernel
theorem sh155 : xSH 155 = (50, 4) := by decide +kernel
theorem sh156 : xSH 156 = (6, 3) := by decide +kernel
theorem sh157 : xSH 157 = (50, 120) := by decide +kernel
theorem sh158 : xSH 158 = (6, 3) := by decide +kernel
theorem sh159 : xSH 159 = (50, 120) := by decide +kernel
theorem sh160 : xSH 160 = (6, 3) := by decide +kernel
theorem sh161 : xSH 161 = (50, 120) := by decide +kernel
theorem sh162 : xSH 162 = (6, 3) := by decide +kernel
theorem sh163 : xSH 163 = (50, 120) := by decide +kernel
theorem sh164 : xSH 164 = (6, 3) := by decide +kernel
theorem sh165 : xSH 165 = (50, 120) := by decide +kernel
theorem sh166 : xSH 166 = (6, 3) := by decide +kernel
theorem sh167 : xSH 167 = (50, 120) := by decide +kernel
theorem sh168 : xSH 168 = (6, 3) := by decide +kernel
theorem sh169 : xSH 169 = (50, 120) := by decide +kernel
theorem sh170 : xSH 170 = (6, 3) := by decide +kernel
theorem sh171 : xSH 171 = (50, 120) := by decide +kernel
theorem sh172 : xSH 172 = (10, 31) := by decide +kernel
theorem sh173 : xSH 173 = (50, 8) := by decide +kernel
theorem sh174 : xSH 174 = (50, 8) := by decide +kernel
theorem sh175 : xSH 175 = (50, 960) := by decide +kernel
theorem sh176 : xSH 176 = (50, 10) := by decide +kernel
theorem sh177 : xSH 177 = (50, 10) := by decide +kernel
theorem sh178 : xSH 178 = (50, 10) := by decide +kernel
theorem sh179 : xSH 179 = (50, 30) := by decide +kernel
theorem sh180 : xSH 180 = (50, 30) := by decide +kernel
theorem sh181 : xSH 181 = (50, 6) := by decide +kernel
theorem sh182 : xSH 182 = (50, 3006) := by decide +kernel
theorem sh183 : xSH 183 = (50, 3006) := by decide +kernel
theorem sh184 : xSH 184 = (50, 6) := by decide +kernel
theorem sh185 : xSH 185 = (50, 3006) := by decide +kernel
theorem sh186 : xSH 186 = (50, 6) := by decide +kernel
theorem sh187 : xSH 187 = (50, 5010) := by decide +kernel
theorem sh188 : xSH 188 = (52, 10) := by decide +kernel
theorem sh189 : xSH 189 = (50, 3006) := by decide +kernel
theorem sh190 : xSH 190 = (50, 6) := by decide +kernel
theorem sh191 : xSH 191 = (50, 10) := by decide +kernel
theorem sh192 : xSH 192 = (50, 10) := by decide +kernel
theorem sh193 : xSH 193 = (50, 6) := by decide +kernel
theorem sh194 : xSH 194 = (50, 6) := by decide +kernel
theorem sh195 : xSH 195 = (50, 3) := by decide +kernel
theorem shT : ∀ k, k < 8 → xSH (156 + 2 * k) = (6, 3) := by decide +kernel
theorem shTC : ∀ k, k < 8 → xSH (157 + 2 * k) = (50, 120) := by decide +kernel
theorem shP : ∀ k, k < 10 → xSH (6 + 4 * k) = (3, 8) := by decide +kernel
theorem shPN : ∀ k, k < 10 → xSH (7 + 4 * k) = (50, 3) := by decide +kernel
theorem shPT : ∀ k, k < 10 → xSH (8 + 4 * k) = (50, 3) := by decide +kernel
theorem shPO : ∀ k, k < 10 → xSH (9 + 4 * k) = (50, 6) := by decide +kernel
theorem shWD : ∀ k, k < 6 → xSH (77 + k) = (50, 64) := by decide +kernel
theorem shWR : ∀ k, k < 30 → xSH (85 + k) = (51, 64) := by decide +kernel
theorem shWS : ∀ k, k < 30 → xSH (116 + k) = (50, 64) := by decide +kernel
theorem shSL : ∀ k, k < 2 → xSH (148 + k) = (51, 500) := by decide +kernel
theorem shD1 : ∀ k, k < 6 → xSH (49 + k) = (50, 64) := by decide +kernel
theorem shD2 : ∀ k, k < 6 → xSH (61 + k) = (50, 64) := by decide +kernel
theorem shA {A : Nat} (h : A = 47 ∨ A = 59) : xSH A = (0, 4) ∧ xSH (A + 1) = (55, 6) ∧ xSH (A + 8) = (51, 500) := by rcases h with rfl | rfl <;> decide +kernel
theorem shAD {A k : Nat} (h : A = 47 ∨ A = 59) (hk : k < 6) : xSH (A + 2 + k) = (50, 64) := by
  rcases h with rfl | rfl
  · exact shD1 k hk
  · exact shD2 k hk
theorem rA {A : Nat} {f : Option Nat} (h : A = 47 ∨ A = 59) : xRR f A 2 = some (A + 1) ∧ xRR f A 3 = some (A + 8) := by rcases h with rfl | rfl <;> exact ⟨rfl, rfl⟩
theorem rAD {A k : Nat} {f : Option Nat} (h : A = 47 ∨ A = 59) (hk : k < 6) : xRR f (A + 1) k = some (A + 2 + k) := by rcases h with rfl | rfl <;> simp [xRR, hk]
theorem rTabs {k : Nat} {f : Option Nat} (hk : k < 8) : xRR f 2 k = some (156 + 2 * k) := by simp [xRR, hk]
theorem rParts {k : Nat} {f : Option Nat} (hk : k < 10) : xRR f 4 k = some (6 + 4 * k) := by simp [xRR, hk]
theorem rT {k : Nat} {f : Option Nat} (hk : k < 8) : xRR f (156 + 2 * k) 2 = some (157 + 2 * k) := by
  unfold xRR
  rw [if_neg (by omega), if_neg (by omega), if_neg (by omega), if_neg (by omega), if_neg (by omega), if_neg (by omega), if_neg (by omega), if_neg (by omega), if_neg (by omega), if_pos (by omega), if_pos (by omega)]
  congr 1
  omega
theorem rP {p j : Nat} {f : Option Nat} (hp : p < 10) (h1 : 4 < j) (h2 : j < 8) : xRR f (6 + 4 * p) j = some (6 + 4 * p + j - 4) := by
  unfold xRR
  rw [if_neg (by omega), if_neg (by omega), if_pos (by omega), if_pos (by omega)]
theorem rPN {p : Nat} {f : Option Nat} (hp : p < 10) : xRR f (6 + 4 * p) 5 = some (7 + 4 * p) := by rw [rP hp (by decide) (by decide)]; congr 1; omega
theorem rPT {p : Nat} {f : Option Nat} (hp : p < 10) : xRR f (6 + 4 * p) 6 = some (8 + 4 * p) := by rw [rP hp (by decide) (by decide)]; congr 1; omega
theorem rPO {p : Nat} {f : Option Nat} (hp : p < 10) : xRR f (6 + 4 * p) 7 = some (9 + 4 * p) := by rw [rP hp (by decide) (by decide)]; congr 1; omega
theorem rWD {k : Nat} {f : Option Nat} (hk : k < 6) : xRR f 76 k = some (77 + k) := by simp [xRR, hk]
theorem rWR {k : Nat} {f : Option Nat} (hk : k < 30) : xRR f 84 k = some (85 + k) := by simp [xRR, hk]
theorem rWS {k : Nat} {f : Option Nat} (hk : k < 30) : xRR f 115 k = some (116 + k) := by simp [xRR, hk]
theorem rSL {k : Nat} {f : Option Nat} (hk : k < 2) : xRR f 147 k = some (148 + k) := by simp [xRR, hk]

theorem xc0 : Int32.ofInt 0 = nI 0 := by decide +kernel
theorem xcb0 : (Int8.ofInt 0).toInt32 = nI 0 := by decide +kernel
theorem xcs0 : (Int16.ofInt 0).toInt32 = nI 0 := by decide +kernel
theorem xc1 : Int32.ofInt 1 = nI 1 := by decide +kernel
theorem xcb1 : (Int8.ofInt 1).toInt32 = nI 1 := by decide +kernel
theorem xcs1 : (Int16.ofInt 1).toInt32 = nI 1 := by decide +kernel
theorem xc2 : Int32.ofInt 2 = nI 2 := by decide +kernel
theorem xcb2 : (Int8.ofInt 2).toInt32 = nI 2 := by decide +kernel
theorem xcs2 : (Int16.ofInt 2).toInt32 = nI 2 := by decide +kernel
theorem xc3 : Int32.ofInt 3 = nI 3 := by decide +kernel
theorem xcb3 : (Int8.ofInt 3).toInt32 = nI 3 := by decide +kernel
theorem xcs3 : (Int16.ofInt 3).toInt32 = nI 3 := by decide +kernel
theorem xc4 : Int32.ofInt 4 = nI 4 := by decide +kernel
theorem xcb4 : (Int8.ofInt 4).toInt32 = nI 4 := by decide +kernel
theorem xcs4 : (Int16.ofInt 4).toInt32 = nI 4 := by decide +kernel
theorem xc5 : Int32.ofInt 5 = nI 5 := by decide +kernel
theorem xcb5 : (Int8.ofInt 5).toInt32 = nI 5 := by decide +kernel
theorem xcs5 : (Int16.ofInt 5).toInt32 = nI 5 := by decide +kernel
theorem xc6 : Int32.ofInt 6 = nI 6 := by decide +kernel
theorem xcb6 : (Int8.ofInt 6).toInt32 = nI 6 := by decide +kernel
theorem xcs6 : (Int16.ofInt 6).toInt32 = nI 6 := by decide +kernel
theorem xc7 : Int32.ofInt 7 = nI 7 := by decide +kernel
theorem xcb7 : (Int8.ofInt 7).toInt32 = nI 7 := by decide +kernel
theorem xcs7 : (Int16.ofInt 7).toInt32 = nI 7 := by decide +kernel
theorem xc8 : Int32.ofInt 8 = nI 8 := by decide +kernel
theorem xcb8 : (Int8.ofInt 8).toInt32 = nI 8 := by decide +kernel
theorem xcs8 : (Int16.ofInt 8).toInt32 = nI 8 := by decide +kernel
theorem xc10 : Int32.ofInt 10 = nI 10 := by decide +kernel
theorem xcb10 : (Int8.ofInt 10).toInt32 = nI 10 := by decide +kernel
theorem xcs10 : (Int16.ofInt 10).toInt32 = nI 10 := by decide +kernel
theorem xc16 : Int32.ofInt 16 = nI 16 := by decide +kernel
theorem xcb16 : (Int8.ofInt 16).toInt32 = nI 16 := by decide +kernel
theorem xcs16 : (Int16.ofInt 16).toInt32 = nI 16 := by decide +kernel
theorem xc30 : Int32.ofInt 30 = nI 30 := by decide +kernel
theorem xcb30 : (Int8.ofInt 30).toInt32 = nI 30 := by decide +kernel
theorem xcs30 : (Int16.ofInt 30).toInt32 = nI 30 := by decide +kernel
theorem xc31 : Int32.ofInt 31 = nI 31 := by decide +kernel
theorem xcb31 : (Int8.ofInt 31).toInt32 = nI 31 := by decide +kernel
theorem xcs31 : (Int16.ofInt 31).toInt32 = nI 31 := by decide +kernel
theorem xc32 : Int32.ofInt 32 = nI 32 := by decide +kernel
theorem xcb32 : (Int8.ofInt 32).toInt32 = nI 32 := by decide +kernel
theorem xcs32 : (Int16.ofInt 32).toInt32 = nI 32 := by decide +kernel
theorem xc40 : Int32.ofInt 40 = nI 40 := by decide +kernel
theorem xcb40 : (Int8.ofInt 40).toInt32 = nI 40 := by decide +kernel
theorem xcs40 : (Int16.ofInt 40).toInt32 = nI 40 := by decide +kernel
theorem xc41 : Int32.ofInt 41 = nI 41 := by decide +kernel
theorem xcb41 : (Int8.ofInt 41).toInt32 = nI 41 := by decide +kernel
theorem xcs41 : (Int16.ofInt 41).toInt32 = nI 41 := by decide +kernel
theorem xc63 : Int32.ofInt 63 = nI 63 := by decide +kernel
theorem xcb63 : (Int8.ofInt 63).toInt32 = nI 63 := by decide +kernel
theorem xcs63 : (Int16.ofInt 63).toInt32 = nI 63 := by decide +kernel
theorem xc64 : Int32.ofInt 64 = nI 64 := by decide +kernel
theorem xcb64 : (Int8.ofInt 64).toInt32 = nI 64 := by decide +kernel
theorem xcs64 : (Int16.ofInt 64).toInt32 = nI 64 := by decide +kernel
theorem xc120 : Int32.ofInt 120 = nI 120 := by decide +kernel
theorem xcb120 : (Int8.ofInt 120).toInt32 = nI 120 := by decide +kernel
theorem xcs120 : (Int16.ofInt 120).toInt32 = nI 120 := by decide +kernel
theorem xc127 : Int32.ofInt 127 = nI 127 := by decide +kernel
theorem xcb127 : (Int8.ofInt 127).toInt32 = nI 127 := by decide +kernel
theorem xcs127 : (Int16.ofInt 127).toInt32 = nI 127 := by decide +kernel
theorem xc250 : Int32.ofInt 250 = nI 250 := by decide +kernel
theorem xcs250 : (Int16.ofInt 250).toInt32 = nI 250 := by decide +kernel
theorem xc256 : Int32.ofInt 256 = nI 256 := by decide +kernel
theorem xcs256 : (Int16.ofInt 256).toInt32 = nI 256 := by decide +kernel
theorem xc500 : Int32.ofInt 500 = nI 500 := by decide +kernel
theorem xcs500 : (Int16.ofInt 500).toInt32 = nI 500 := by decide +kernel
theorem xc960 : Int32.ofInt 960 = nI 960 := by decide +kernel
theorem xcs960 : (Int16.ofInt 960).toInt32 = nI 960 := by decide +kernel
theorem xc1600 : Int32.ofInt 1600 = nI 1600 := by decide +kernel
theorem xcs1600 : (Int16.ofInt 1600).toInt32 = nI 1600 := by decide +kernel
theorem xc3006 : Int32.ofInt 3006 = nI 3006 := by decide +kernel
theorem xcs3006 : (Int16.ofInt 3006).toInt32 = nI 3006 := by decide +kernel
theorem xc5010 : Int32.ofInt 5010 = nI 5010 := by decide +kernel
theorem xcs5010 : (Int16.ofInt 5010).toInt32 = nI 5010 := by decide +kernel
theorem xcm1 : Int32.ofInt (-1) = -1 := by decide +kernel
theorem xcbm2 : (Int8.ofInt (-2)).toInt32 = -2 := by decide +kernel
