
/-- cells whose references stand from the start: arrays of arrays -/
def mo (c : Nat) : Bool := c == 48 || c == 60 || c == 76 || c == 84 || c == 115 || c == 147
def MM (n : Nat) (i : Nat → Nat → Int32) (F : Nat → Nat → Bool) : xM := (n, i, fun _ _ => 0, fun a k => if F a k then xRR none a k else none)
def mOK (n : Nat) (i : Nat → Nat → Int32) (F : Nat → Nat → Bool) : Prop := (∀ c k, F c k = true → c ≤ n ∨ mo c = true) ∧ (∀ c k, mo c = true → F c k = true) ∧ ∀ c k, n < c → i c k = 0
def mLe (F G : Nat → Nat → Bool) : Prop := ∀ c k, F c k = true → G c k = true
theorem mLe.rfl' {F : Nat → Nat → Bool} : mLe F F := fun _ _ h => h
theorem mLe.tr {F G K : Nat → Nat → Bool} (h : mLe F G) (h2 : mLe G K) : mLe F K := fun c k q => h2 c k (h c k q)
def fS (F : Nat → Nat → Bool) (a k : Nat) : Nat → Nat → Bool := fun c j => F c j || (c == a && j == k)
theorem fS_le {F : Nat → Nat → Bool} {a k : Nat} : mLe F (fS F a k) := fun c j h => by unfold fS; rw [h]; rfl
theorem fS_at {F : Nat → Nat → Bool} {a k : Nat} : fS F a k a k = true := by unfold fS; simp
theorem mOK.gr {n d : Nat} {i : Nat → Nat → Int32} {F : Nat → Nat → Bool} (h : mOK n i F) : mOK (n + d) i F :=
  ⟨fun c k q => (h.1 c k q).imp (fun q => by omega) id, h.2.1, fun c k q => h.2.2 c k (by omega)⟩
theorem mOK.wr {n a k : Nat} {i : Nat → Nat → Int32} {F : Nat → Nat → Bool} (h : mOK n i F) (ha : a ≤ n) : mOK n i (fS F a k) := by
  refine ⟨fun c j q => ?_, fun c j q => fS_le _ _ (h.2.1 c j q), h.2.2⟩
  unfold fS at q
  rcases Bool.or_eq_true _ _ ▸ q with q | q
  · exact h.1 c j q
  · simp only [Bool.and_eq_true, beq_iff_eq] at q
    exact Or.inl (by omega)
theorem mOK.wi {n a k : Nat} {v : Int32} {i : Nat → Nat → Int32} {F : Nat → Nat → Bool} (h : mOK n i F) (ha : a ≤ n) : mOK n (up2 i a k v) F :=
  ⟨h.1, h.2.1, fun c j q => by rw [up2_ne (show c ≠ a by omega)]; exact h.2.2 c j q⟩
theorem mOK.z {n b : Nat} {i : Nat → Nat → Int32} {F : Nat → Nat → Bool} (h : mOK n i F) (hb : n < b) (hm : mo b = false) : xz (MM n i F) b := by
  refine ⟨fun k => h.2.2 b k hb, fun k => rfl, fun k => ?_⟩
  show (if F b k then xRR none b k else none) = none
  refine if_neg fun q => ?_
  rcases h.1 b k q with q | q
  · omega
  · rw [hm] at q; cases q
theorem mm_wr {n a k b : Nat} {i : Nat → Nat → Int32} {F : Nat → Nat → Bool} (h : xRR none a k = some b) : xwr (MM n i F) a k (some b) = MM n i (fS F a k) := by
  have e : up2 (fun a k => if F a k then xRR none a k else none) a k (some b) = fun c j => if fS F a k c j then xRR none c j else none := by
    funext c j
    by_cases h1 : c = a
    · subst h1
      by_cases h2 : j = k
      · subst h2
        rw [up2_self, fS_at, if_pos rfl, h]
      · rw [up2_nek h2]
        unfold fS
        simp [h2]
    · rw [congrFun (up2_ne h1) j]
      unfold fS
      simp [h1]
  unfold MM xwr
  exact congrArg (fun q => ((n, i, (fun _ _ => 0), q) : xM)) e
section CC
variable {M : xD} {pc : Nat} {L : List (Nat × Value)} {st : List Value} {n : Nat} {i : Nat → Nat → Int32} {F : Nat → Nat → Bool} {Q : Option Value → xM → Prop} {a idx ci N cnt k : Nat} {T : u_T} {C0 : String}
theorem cc_new (hd : decode M.2.1 pc = .ok (.new idx, 3)) (hc : xCl[ci]? = some (C0, T, N)) (h1 : Cond.classLink M.1.cls idx C0 ∈ xTB) (h2 : Cond.instantiable C0 N ∈ xTB) (h3 : Cond.initialized C0 ∈ xTB) (b : Nat) (hb : n + 1 = b) (hs : xSH b = (ci, N)) (hm : mo b = false) (ok : mOK n i F) (h : mOK b i F → xE M (pc + 3) L (.ref b :: st) (MM b i F) Q) : xE M pc L st (MM n i F) Q := by
  have hz := ok.z (b := b) (by omega) hm
  have ok2 := ok.gr (d := 1)
  subst hb
  exact xe_new hd hc h1 h2 h3 _ rfl hs hz (h ok2)
theorem cc_newarr {atype : ArrayType} {v : Int32} {kd : Nat} (hd : decode M.2.1 pc = .ok (.newarray atype, 2)) (hk : kd = 50 ∧ atype = .int ∨ kd = 51 ∧ atype = .long ∨ kd = 52 ∧ atype = .boolean) (h1 : Cond.arrayClass (newarray.typeOf atype) ∈ xTB) (hv : ¬ v < 0) (hn : v.toNatClampNeg = cnt) (hsm : cnt * 8 ≤ 536870912) (b : Nat) (hb : n + 1 = b) (hs : xSH b = (kd, cnt)) (hm : mo b = false) (ok : mOK n i F) (h : mOK b i F → xE M (pc + 2) L (.ref b :: st) (MM b i F) Q) : xE M pc L (.int v :: st) (MM n i F) Q := by
  have hz := ok.z (b := b) (by omega) hm
  have ok2 := ok.gr (d := 1)
  subst hb
  exact xe_newarr hd hk h1 hv hn hsm _ rfl hs hz (h ok2)
theorem cc_newref {v : Int32} {kd : Nat} (hd : decode M.2.1 pc = .ok (.anewarray idx, 3)) (hk : kd = 53 ∧ C0 = RX6 ∨ kd = 54 ∧ C0 = RX3) (h1 : Cond.classLink M.1.cls idx C0 ∈ xTB) (h2 : Cond.arrayOver (.object C0) ∈ xNL) (hv : ¬ v < 0) (hn : v.toNatClampNeg = cnt) (hsm : cnt * 4 ≤ 536870912) (b : Nat) (hb : n + 1 = b) (hs : xSH b = (kd, cnt)) (hm : mo b = false) (ok : mOK n i F) (h : mOK b i F → xE M (pc + 3) L (.ref b :: st) (MM b i F) Q) : xE M pc L (.int v :: st) (MM n i F) Q := by
  have hz := ok.z (b := b) (by omega) hm
  have ok2 := ok.gr (d := 1)
  subst hb
  exact xe_newref hd hk h1 h2 hv hn hsm _ rfl hs hz (h ok2)
theorem cc_multi {m9 kd ki : Nat} {ty : FieldType} {vn vk : Int32} (hd : decode M.2.1 pc = .ok (.multianewarray idx 2, 4)) (hk : kd = 55 ∧ ki = 50 ∧ ty = .int ∨ kd = 56 ∧ ki = 51 ∧ ty = .long)
    (h1 : Cond.classLink M.1.cls idx ("[" ++ (FieldType.array ty).toString) ∈ xTB) (h2 : Cond.arrayOver (.array ty) ∈ xNL) (h3 : Cond.arrayClass ty ∈ xTB) (hvn : ¬ vn < 0) (hn : vn.toNatClampNeg = cnt) (hvk : ¬ vk < 0) (hkk : vk.toNatClampNeg = m9) (hsm : cnt * 4 ≤ 536870912) (hsm2 : m9 * 8 ≤ 536870912)
    (b e : Nat) (hb : n + 1 = b) (he : n + (1 + cnt) = e) (hs : xSH b = (kd, cnt)) (hsi : ∀ j, j < cnt → xSH (b + 1 + j) = (ki, m9)) (hm : ∀ j, j < cnt → mo (b + 1 + j) = false) (hmb : mo b = true) (hr : ∀ j, xRR none b j = if j < cnt then some (b + 1 + j) else none) (ht : xtot (n + (1 + cnt)) - xtot n = cnt + cnt * m9) (ok : mOK n i F)
    (h : mOK e i F → xE M (pc + 4) L (.ref b :: st) (MM e i F) Q) : xE M pc L (.int vk :: .int vn :: st) (MM n i F) Q := by
  have hz : ∀ j, j < cnt → xz (MM n i F) (b + 1 + j) := fun j hj => ok.z (by omega) (hm j hj)
  have ok2 := ok.gr (d := 1 + cnt)
  subst hb he
  refine xe_multi hd hk h1 h2 h3 hvn hn hvk hkk hsm hsm2 _ rfl hs hsi hz (fun j => ?_) ht (h ok2)
  show (if F (n + 1) j then xRR none (n + 1) j else none) = _
  rw [ok.2.1 _ j hmb, if_pos rfl, hr]; rfl
theorem cc_putFO {b : Nat} {D0 : String} (hd : decode M.2.1 pc = .ok (.putfield idx, 3)) (hF : xFld M.1.cls idx ci N k (.object D0) true) (hini : M.1.name = "<init>") (hown : ∃ (C0 : String) (T : u_T), xCl[ci]? = some (C0, T, N) ∧ C0 = M.1.cls) (hs : xSH a = (ci, N)) (ha : 0 < a) (han : a ≤ n) (hr : xRR none a k = some b) (ok : mOK n i F) (h : ∀ G, mOK n i G → mLe F G → G a k = true → xE M (pc + 3) L st (MM n i G) Q) : xE M pc L (.ref b :: .ref a :: st) (MM n i F) Q :=
  xe_putFO hd hF hini hown hs ⟨by show a - 1 < n; omega, ha⟩ (by rw [mm_wr hr]; exact h _ (ok.wr han) fS_le fS_at)
theorem cc_putFA {b : Nat} {D0 : FieldType} (hd : decode M.2.1 pc = .ok (.putfield idx, 3)) (hF : xFld M.1.cls idx ci N k (.array D0) true) (hini : M.1.name = "<init>") (hown : ∃ (C0 : String) (T : u_T), xCl[ci]? = some (C0, T, N) ∧ C0 = M.1.cls) (hs : xSH a = (ci, N)) (ha : 0 < a) (han : a ≤ n) (hr : xRR none a k = some b) (ok : mOK n i F) (h : ∀ G, mOK n i G → mLe F G → G a k = true → xE M (pc + 3) L st (MM n i G) Q) : xE M pc L (.ref b :: .ref a :: st) (MM n i F) Q :=
  xe_putFA hd hF hini hown hs ⟨by show a - 1 < n; omega, ha⟩ (by rw [mm_wr hr]; exact h _ (ok.wr han) fS_le fS_at)
theorem cc_putI {v : Int32} (hd : decode M.2.1 pc = .ok (.putfield idx, 3)) (hF : xFld M.1.cls idx ci N k .int false) (hs : xSH a = (ci, N)) (ha : 0 < a) (han : a ≤ n) (ok : mOK n i F) (h : mOK n (up2 i a k v) F → xE M (pc + 3) L st (MM n (up2 i a k v) F) Q) : xE M pc L (.int v :: .ref a :: st) (MM n i F) Q :=
  xe_putI hd hF hs ⟨by show a - 1 < n; omega, ha⟩ (h (ok.wi han))
theorem cc_aastore {kd b N2 : Nat} {r : vw_C} (hd : decode M.2.1 pc = .ok (.aastore, 1)) (hs : xSH a = (kd, cnt)) (h1 : 52 < kd) (h2 : kd < 55) (ha : 0 < a) (han : a ≤ n) (hk : k < cnt) (hcn : cnt ≤ 10000) (hb : 0 < b) (hbn : b ≤ n) (hsb : xSH b = (ci, N2)) (hc : xCl[ci]? = some r) (hr : xET kd = .object r.1) (hrr : xRR none a k = some b) (ok : mOK n i F) (h : ∀ G, mOK n i G → mLe F G → G a k = true → xE M (pc + 1) L st (MM n i G) Q) : xE M pc L (.ref b :: .int (nI k) :: .ref a :: st) (MM n i F) Q :=
  xe_aastore hd hs h1 h2 ⟨by show a - 1 < n; omega, ha⟩ (nI_ix hk hcn) ⟨by show b - 1 < n; omega, hb⟩ hsb hc hr (by rw [nI_nat (by omega), mm_wr hrr]; exact h _ (ok.wr han) fS_le fS_at)
theorem cc_getR {ty : FieldType} {b : Nat} {fin : Bool} (hd : decode M.2.1 pc = .ok (.getfield idx, 3)) (hF : xFld M.1.cls idx ci N k ty fin) (hr : refKind ty = true) (hs : xSH a = (ci, N)) (ha : 0 < a) (han : a ≤ n) (hf : F a k = true) (hrr : xRR none a k = some b) (h : xE M (pc + 3) L (.ref b :: st) (MM n i F) Q) : xE M pc L (.ref a :: st) (MM n i F) Q :=
  xe_getR hd hF hr hs ⟨by show a - 1 < n; omega, ha⟩ (by show (if F a k then xRR none a k else none) = _; rw [hf, if_pos rfl, hrr]) h
end CC
/-- the references of the cells lo .. hi all stand -/
def mDn (F : Nat → Nat → Bool) (lo hi : Nat) : Prop := ∀ c k, lo ≤ c → c ≤ hi → (xRR none c k).isSome = true → F c k = true
theorem mDn.le {F G : Nat → Nat → Bool} {lo hi : Nat} (h : mDn F lo hi) (l : mLe F G) : mDn G lo hi := fun c k h1 h2 h3 => l c k (h c k h1 h2 h3)
/-- a constructor's end -/
def mCP (m : Nat) (j : Nat → Nat → Int32) (F : Nat → Nat → Bool) (a : Nat) (r : Option Value) (μ : xM) : Prop := r = none ∧ ∃ G, μ = MM m j G ∧ mOK m j G ∧ mLe F G ∧ mDn G a m
theorem cc_call {M M' : xD} {pc : Nat} {L : List (Nat × Value)} {st rest : List Value} {n m a : Nat} {i j : Nat → Nat → Int32} {F : Nat → Nat → Bool} {Q : Option Value → xM → Prop} (c : xC M' [.ref a] (MM n i F) (mCP m j F a)) (g : xC M' [.ref a] (MM n i F) (fun r μ1 => xE M (pc + 3) L (r.toList ++ rest) μ1 Q) → xE M pc L st (MM n i F) Q) (h : ∀ G, mOK m j G → mLe F G → mDn G a m → xE M (pc + 3) L rest (MM m j G) Q) : xE M pc L st (MM n i F) Q := by
  refine g (c.mono fun r μ ⟨e, G, e2, h1, h2, h3⟩ => ?_)
  subst e e2
  exact h G h1 h2 h3

def mPL : List (Nat × Nat) := [(1, 0), (1, 1), (1, 2), (1, 3), (1, 4), (1, 5), (1, 6), (1, 7), (2, 0), (2, 1), (2, 2), (2, 3), (2, 4), (2, 5), (2, 6), (2, 7), (3, 2), (3, 3), (4, 0), (4, 1), (4, 2), (4, 3), (4, 4), (4, 5), (4, 6), (4, 7), (4, 8), (4, 9), (6, 5), (6, 6), (6, 7), (10, 5), (10, 6), (10, 7), (14, 5), (14, 6), (14, 7), (18, 5), (18, 6), (18, 7), (22, 5), (22, 6), (22, 7), (26, 5), (26, 6), (26, 7), (30, 5), (30, 6), (30, 7), (34, 5), (34, 6), (34, 7), (38, 5), (38, 6), (38, 7), (42, 5), (42, 6), (42, 7), (46, 0), (46, 2), (46, 3), (46, 4), (47, 2), (47, 3), (59, 2), (59, 3), (68, 2), (71, 2), (71, 3), (74, 0), (74, 1), (74, 2), (74, 3), (74, 4), (74, 5), (74, 6), (74, 7), (74, 8), (74, 9), (74, 10), (74, 11), (74, 12), (156, 2), (158, 2), (160, 2), (162, 2), (164, 2), (166, 2), (168, 2), (170, 2), (172, 0), (172, 1), (172, 2), (172, 5), (172, 6), (172, 7), (172, 8), (172, 9), (172, 10), (172, 11), (172, 12), (172, 14), (172, 18), (172, 19), (172, 20), (172, 21), (172, 24), (172, 25), (172, 26), (172, 27), (172, 28), (172, 29), (172, 30)]

theorem rr_bd {c k : Nat} (h : (xRR none c k).isSome = true) : 0 < c ∧ c < 196 ∧ k < 31 := by
  unfold xRR at h
  split at h
  · split at h <;> first | omega | cases h
  split at h
  · split at h <;> first | omega | cases h
  split at h
  · split at h <;> first | omega | cases h
  split at h
  · split at h
    · omega
    · split at h <;> first | omega | cases h
  split at h
  · split at h <;> first | omega | cases h
  split at h
  · split at h
    · cases h
    · split at h <;> first | omega | cases h
  split at h
  · split at h <;> first | omega | cases h
  split at h
  · split at h <;> first | omega | cases h
  split at h
  · split at h <;> first | omega | cases h
  split at h
  · split at h <;> first | omega | cases h
  unfold xRR.xR1 at h
  rw [Option.isSome_map, List.find?_isSome] at h
  obtain ⟨q, hq, hp⟩ := h
  simp only [Bool.and_eq_true, beq_iff_eq] at hp
  have key : ∀ q ∈ ([(1, 0, 2), (1, 1, 3), (1, 2, 46), (1, 3, 59), (1, 4, 68), (1, 5, 70), (1, 6, 71), (1, 7, 74), (3, 2, 4), (3, 3, 5), (46, 0, 47), (46, 2, 56), (46, 3, 57), (46, 4, 58), (71, 2, 72), (71, 3, 73), (74, 0, 75), (74, 1, 76), (74, 2, 83), (74, 3, 84), (74, 4, 115), (74, 5, 146), (74, 6, 147), (74, 7, 150), (74, 8, 151), (74, 9, 152), (74, 10, 153), (74, 11, 154), (74, 12, 155), (172, 0, 173), (172, 1, 174), (172, 2, 175), (172, 5, 176), (172, 6, 177), (172, 7, 178), (172, 8, 179), (172, 9, 180), (172, 10, 181), (172, 11, 182), (172, 12, 183), (172, 14, 184), (172, 18, 185), (172, 19, 186), (172, 20, 187), (172, 21, 188), (172, 24, 189), (172, 25, 190), (172, 26, 191), (172, 27, 192), (172, 28, 193), (172, 29, 194), (172, 30, 195)] : List (Nat × Nat × Nat)), 0 < q.1 ∧ q.1 < 196 ∧ q.2.1 < 31 := by decide +kernel
  have := key q hq
  rw [hp.1, hp.2] at this
  exact this
theorem mPL_all : ((List.range 196).all fun c => (List.range 31).all fun k => !(xRR none c k).isSome || mo c || mPL.contains (c, k)) = true := by decide +kernel
theorem mPL_mem {c k : Nat} (h : (xRR none c k).isSome = true) : mo c = true ∨ (c, k) ∈ mPL := by
  obtain ⟨-, h1, h2⟩ := rr_bd h
  have := List.all_eq_true.mp (List.all_eq_true.mp mPL_all c (List.mem_range.mpr h1)) k (List.mem_range.mpr h2)
  rw [h] at this
  simp only [Bool.not_true, Bool.false_or, Bool.or_eq_true, List.contains_iff_mem] at this
  exact this
theorem mDn.mk {n : Nat} {i : Nat → Nat → Int32} {F : Nat → Nat → Bool} {lo hi : Nat} (ok : mOK n i F) (L S : List (Nat × Nat)) (hd : (mPL.all fun q => !(decide (lo ≤ q.1) && decide (q.1 ≤ hi)) || L.contains q || S.any fun s => decide (s.1 ≤ q.1) && decide (q.1 ≤ s.2)) = true) (hL : ∀ q ∈ L, F q.1 q.2 = true) (hS : ∀ s ∈ S, mDn F s.1 s.2) : mDn F lo hi := fun c k h1 h2 h3 => by
  rcases mPL_mem h3 with h | h
  · exact ok.2.1 c k h
  · have := List.all_eq_true.mp hd _ h
    simp only [h1, h2, decide_true, Bool.and_self, Bool.not_true, Bool.false_or, Bool.or_eq_true, List.contains_iff_mem, List.any_eq_true, Bool.and_eq_true, decide_eq_true_eq] at this
    rcases this with h | ⟨s, hs, h4, h5⟩
    · exact hL _ h
    · exact hS s hs c k h4 h5 h3
theorem fn0 {P : Nat × Nat → Prop} : ∀ q ∈ ([] : List (Nat × Nat)), P q := fun _ h => absurd h List.not_mem_nil
theorem fn1 {P : Nat × Nat → Prop} {a : Nat × Nat} {l : List (Nat × Nat)} (h : P a) (h2 : ∀ q ∈ l, P q) : ∀ q ∈ a :: l, P q := List.forall_mem_cons.mpr ⟨h, h2⟩
/-- all stands: the memory of the calls -/
theorem MM_xmm {i : Nat → Nat → Int32} {F : Nat → Nat → Bool} (h : mDn F 1 195) : MM 195 i F = xmm (i, fun _ _ => 0, none) := by
  unfold MM xmm
  refine congrArg (fun q => ((195, i, (fun _ _ => 0), q) : xM)) ?_
  funext c k
  by_cases hs : (xRR none c k).isSome = true
  · obtain ⟨h1, h2, -⟩ := rr_bd hs
    rw [h c k h1 (by omega) hs, if_pos rfl]
  · have : xRR none c k = none := by
      cases e : xRR none c k with
      | none => rfl
      | some v => rw [e] at hs; exact absurd rfl hs
    rw [this]
    exact ite_self _

