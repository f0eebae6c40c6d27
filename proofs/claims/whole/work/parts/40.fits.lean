theorem gX3_fits_0 (u : xU) (p t i : Nat) {Q : Option Value → xM → Prop}  
    (k1 : xE mX3_fits 2 [(0, .ref (6 + 4 * p)), (1, .ref (156 + 2 * t)), (2, .int (nI (i))), (3, .int (nI (0)))] [] (xmm u) Q) : xE mX3_fits 0 [(0, .ref (6 + 4 * p)), (1, .ref (156 + 2 * t)), (2, .int (nI (i)))] [] (xmm u) Q := by
  refine xe_iconst (v := nI (0)) dX3_fits_0 xc0 ?_
  refine xe_istore_n (L2 := [(0, .ref (6 + 4 * p)), (1, .ref (156 + 2 * t)), (2, .int (nI (i))), (3, .int (nI (0)))]) dX3_fits_1 rfl (by decide) rfl ?_
  exact k1

theorem gX3_fits_n (u : xU) (p t i c l cols n : Nat) (tv x : Int32) {Q : Option Value → xM → Prop} (hp : p < 10) (ht : t < 8) (hcols : cols ≤ 3) (hn : n ≤ 40) (hi : i < n) (hl : l ≤ cols) (hc : c < l) (v1 : u.1 (6 + 4 * p) 2 = nI (l)) (v2 : u.1 (156 + 2 * t) 0 = nI (cols)) (v3 : u.1 (156 + 2 * t) 1 = nI (n)) (v4 : u.1 (7 + 4 * p) c = (-1)) (v5 : u.1 (8 + 4 * p) c = tv) (v6 : u.1 (157 + 2 * t) (i * 3 + c) = x)
    (k1 : l ≤ c → Q (some (.int (nI (1)))) (xmm u))
    (k2 : ¬ l ≤ c → x = tv → xE mX3_fits 2 [(0, .ref (6 + 4 * p)), (1, .ref (156 + 2 * t)), (2, .int (nI (i))), (3, .int (nI (c + 1)))] [] (xmm u) Q)
    (k3 : ¬ l ≤ c → ¬ x = tv → Q (some (.int (nI (0)))) (xmm u)) : xE mX3_fits 2 [(0, .ref (6 + 4 * p)), (1, .ref (156 + 2 * t)), (2, .int (nI (i))), (3, .int (nI (c)))] [] (xmm u) Q := by
  refine xe_iload_n 3 dX3_fits_2 rfl rfl ?_
  refine xe_aload_n 0 dX3_fits_3 rfl rfl ?_
  refine xr_getI (v := nI (l)) dX3_fits_4 fX3_28 (shP _ (by omega)) (by omega) v1 ?_
  refine xn_icmp_ge 66 dX3_fits_7 (by decide) (by omega) (by omega) (fun c1 => ?_) (fun c1 => ?_)
  · refine xe_iconst (v := nI (1)) dX3_fits_66 xc1 ?_
    exact xe_ret (r := (some (.int (nI (1))))) dX3_fits_67 (Or.inr rfl) (k1 c1)
  · refine xe_aload_n 0 dX3_fits_10 rfl rfl ?_
    refine xr_getR (b := (7 + 4 * p)) dX3_fits_11 fX3_9 rfl (shP _ (by omega)) (by omega) (rPN (by omega)) ?_
    refine xe_iload_n 3 dX3_fits_14 rfl rfl ?_
    refine xr_iald (k := c) (v := (-1)) dX3_fits_15 (shPN _ (by omega)) (by omega) (by omega) (by decide) v4 ?_
    refine xe_iconst (v := -1) dX3_fits_16 xcm1 ?_
    refine xe_icmp_ne 29 dX3_fits_17 (by decide) (fun q => absurd rfl q) (fun _ => ?_)
    refine xe_aload_n 0 dX3_fits_20 rfl rfl ?_
    refine xr_getR (b := (8 + 4 * p)) dX3_fits_21 fX3_15 rfl (shP _ (by omega)) (by omega) (rPT (by omega)) ?_
    refine xe_iload_n 3 dX3_fits_24 rfl rfl ?_
    refine xr_iald (k := c) (v := tv) dX3_fits_25 (shPT _ (by omega)) (by omega) (by omega) (by decide) v5 ?_
    refine xe_goto 45 dX3_fits_26 (by decide) ?_
    refine xe_istore (L2 := [(0, .ref (6 + 4 * p)), (1, .ref (156 + 2 * t)), (2, .int (nI (i))), (3, .int (nI (c))), (4, .int (tv))]) dX3_fits_45 (by decide) rfl ?_
    refine xe_aload_n 1 dX3_fits_47 rfl rfl ?_
    refine xe_iload_n 2 dX3_fits_48 rfl rfl ?_
    refine xe_iload_n 3 dX3_fits_49 rfl rfl ?_
    refine xe_callV (As := [.int (nI (i)), .int (nI (c))]) (rest := []) dX3_fits_50 wX6_cell lX3_45 iX6_cell sX6_cell ⟨by decide, by decide⟩ (shT _ (by omega)) rfl (xin_mm (by omega)) rfl rfl (by simp [Value.category]) (xC.pure (v := .int (x)) (qX6_cellV u t n cols i c x (by omega) (by omega) (by omega) (by omega) (by omega) v2 v3 v6) ?_)
    refine xe_iload 4 dX3_fits_53 rfl ?_
    refine xe_icmp_eq 60 dX3_fits_55 (by decide) (fun c2 => ?_) (fun c2 => ?_)
    · refine xn_iinc (c := 1) (L2 := [(0, .ref (6 + 4 * p)), (1, .ref (156 + 2 * t)), (2, .int (nI (i))), (3, .int (nI (c + 1))), (4, .int (tv))]) 3 dX3_fits_60 rfl (by decide) rfl ?_
      refine xe_goto 2 dX3_fits_63 (by decide) ?_
      refine xE.sub [0, 1, 2, 3] rfl ?_
      exact k2 c1 c2
    · refine xe_iconst (v := nI (0)) dX3_fits_58 xc0 ?_
      exact xe_ret (r := (some (.int (nI (0))))) dX3_fits_59 (Or.inl rfl) (k3 c1 c2)

theorem gX3_fits_s (u : xU) (p t i c l cols n : Nat) (k f : Nat) (x y : Int32) {Q : Option Value → xM → Prop} (hp : p < 10) (ht : t < 8) (hcols : cols ≤ 3) (hn : n ≤ 40) (hi : i < n) (hl : l ≤ cols) (hc : c < l) (hk : k < 6) (hf : f < l) (v1 : u.1 (6 + 4 * p) 2 = nI (l)) (v2 : u.1 (156 + 2 * t) 0 = nI (cols)) (v3 : u.1 (156 + 2 * t) 1 = nI (n)) (v4 : u.1 (7 + 4 * p) c = nI (k)) (v5 : u.1 (9 + 4 * p) k = nI (f)) (v6 : u.1 (157 + 2 * t) (i * 3 + c) = x) (v7 : u.1 (157 + 2 * t) (i * 3 + f) = y)
    (k1 : l ≤ c → Q (some (.int (nI (1)))) (xmm u))
    (k2 : ¬ l ≤ c → ¬ (nI (k)) = (-1) → x = y → xE mX3_fits 2 [(0, .ref (6 + 4 * p)), (1, .ref (156 + 2 * t)), (2, .int (nI (i))), (3, .int (nI (c + 1)))] [] (xmm u) Q)
    (k3 : ¬ l ≤ c → ¬ (nI (k)) = (-1) → ¬ x = y → Q (some (.int (nI (0)))) (xmm u))
    (k4 : ¬ l ≤ c → (nI (k)) = (-1) → x = (u.1 (8 + 4 * p) c) → xE mX3_fits 2 [(0, .ref (6 + 4 * p)), (1, .ref (156 + 2 * t)), (2, .int (nI (i))), (3, .int (nI (c + 1)))] [] (xmm u) Q)
    (k5 : ¬ l ≤ c → (nI (k)) = (-1) → ¬ x = (u.1 (8 + 4 * p) c) → Q (some (.int (nI (0)))) (xmm u)) : xE mX3_fits 2 [(0, .ref (6 + 4 * p)), (1, .ref (156 + 2 * t)), (2, .int (nI (i))), (3, .int (nI (c)))] [] (xmm u) Q := by
  refine xe_iload_n 3 dX3_fits_2 rfl rfl ?_
  refine xe_aload_n 0 dX3_fits_3 rfl rfl ?_
  refine xr_getI (v := nI (l)) dX3_fits_4 fX3_28 (shP _ (by omega)) (by omega) v1 ?_
  refine xn_icmp_ge 66 dX3_fits_7 (by decide) (by omega) (by omega) (fun c1 => ?_) (fun c1 => ?_)
  · refine xe_iconst (v := nI (1)) dX3_fits_66 xc1 ?_
    exact xe_ret (r := (some (.int (nI (1))))) dX3_fits_67 (Or.inr rfl) (k1 c1)
  · refine xe_aload_n 0 dX3_fits_10 rfl rfl ?_
    refine xr_getR (b := (7 + 4 * p)) dX3_fits_11 fX3_9 rfl (shP _ (by omega)) (by omega) (rPN (by omega)) ?_
    refine xe_iload_n 3 dX3_fits_14 rfl rfl ?_
    refine xr_iald (k := c) (v := nI (k)) dX3_fits_15 (shPN _ (by omega)) (by omega) (by omega) (by decide) v4 ?_
    refine xe_iconst (v := -1) dX3_fits_16 xcm1 ?_
    refine xe_icmp_ne 29 dX3_fits_17 (by decide) (fun c2 => ?_) (fun c2 => ?_)
    · refine xe_aload_n 1 dX3_fits_29 rfl rfl ?_
      refine xe_iload_n 2 dX3_fits_30 rfl rfl ?_
      refine xe_aload_n 0 dX3_fits_31 rfl rfl ?_
      refine xr_getR (b := (9 + 4 * p)) dX3_fits_32 fX3_18 rfl (shP _ (by omega)) (by omega) (rPO (by omega)) ?_
      refine xe_aload_n 0 dX3_fits_35 rfl rfl ?_
      refine xr_getR (b := (7 + 4 * p)) dX3_fits_36 fX3_9 rfl (shP _ (by omega)) (by omega) (rPN (by omega)) ?_
      refine xe_iload_n 3 dX3_fits_39 rfl rfl ?_
      refine xr_iald (k := c) (v := nI (k)) dX3_fits_40 (shPN _ (by omega)) (by omega) (by omega) (by decide) v4 ?_
      refine xr_iald (k := k) (v := nI (f)) dX3_fits_41 (shPO _ (by omega)) (by omega) (by omega) (by decide) v5 ?_
      refine xe_callV (As := [.int (nI (i)), .int (nI (f))]) (rest := []) dX3_fits_42 wX6_cell lX3_45 iX6_cell sX6_cell ⟨by decide, by decide⟩ (shT _ (by omega)) rfl (xin_mm (by omega)) rfl rfl (by simp [Value.category]) (xC.pure (v := .int (y)) (qX6_cellV u t n cols i f y (by omega) (by omega) (by omega) (by omega) (by omega) v2 v3 v7) ?_)
      refine xe_istore (L2 := [(0, .ref (6 + 4 * p)), (1, .ref (156 + 2 * t)), (2, .int (nI (i))), (3, .int (nI (c))), (4, .int (y))]) dX3_fits_45 (by decide) rfl ?_
      refine xe_aload_n 1 dX3_fits_47 rfl rfl ?_
      refine xe_iload_n 2 dX3_fits_48 rfl rfl ?_
      refine xe_iload_n 3 dX3_fits_49 rfl rfl ?_
      refine xe_callV (As := [.int (nI (i)), .int (nI (c))]) (rest := []) dX3_fits_50 wX6_cell lX3_45 iX6_cell sX6_cell ⟨by decide, by decide⟩ (shT _ (by omega)) rfl (xin_mm (by omega)) rfl rfl (by simp [Value.category]) (xC.pure (v := .int (x)) (qX6_cellV u t n cols i c x (by omega) (by omega) (by omega) (by omega) (by omega) v2 v3 v6) ?_)
      refine xe_iload 4 dX3_fits_53 rfl ?_
      refine xe_icmp_eq 60 dX3_fits_55 (by decide) (fun c3 => ?_) (fun c3 => ?_)
      · refine xn_iinc (c := 1) (L2 := [(0, .ref (6 + 4 * p)), (1, .ref (156 + 2 * t)), (2, .int (nI (i))), (3, .int (nI (c + 1))), (4, .int (y))]) 3 dX3_fits_60 rfl (by decide) rfl ?_
        refine xe_goto 2 dX3_fits_63 (by decide) ?_
        refine xE.sub [0, 1, 2, 3] rfl ?_
        exact k2 c1 c2 c3
      · refine xe_iconst (v := nI (0)) dX3_fits_58 xc0 ?_
        exact xe_ret (r := (some (.int (nI (0))))) dX3_fits_59 (Or.inl rfl) (k3 c1 c2 c3)
    · refine xe_aload_n 0 dX3_fits_20 rfl rfl ?_
      refine xr_getR (b := (8 + 4 * p)) dX3_fits_21 fX3_15 rfl (shP _ (by omega)) (by omega) (rPT (by omega)) ?_
      refine xe_iload_n 3 dX3_fits_24 rfl rfl ?_
      refine xr_iald (k := c) (v := u.1 (8 + 4 * p) c) dX3_fits_25 (shPT _ (by omega)) (by omega) (by omega) (by decide) rfl ?_
      refine xe_goto 45 dX3_fits_26 (by decide) ?_
      refine xe_istore (L2 := [(0, .ref (6 + 4 * p)), (1, .ref (156 + 2 * t)), (2, .int (nI (i))), (3, .int (nI (c))), (4, .int (u.1 (8 + 4 * p) c))]) dX3_fits_45 (by decide) rfl ?_
      refine xe_aload_n 1 dX3_fits_47 rfl rfl ?_
      refine xe_iload_n 2 dX3_fits_48 rfl rfl ?_
      refine xe_iload_n 3 dX3_fits_49 rfl rfl ?_
      refine xe_callV (As := [.int (nI (i)), .int (nI (c))]) (rest := []) dX3_fits_50 wX6_cell lX3_45 iX6_cell sX6_cell ⟨by decide, by decide⟩ (shT _ (by omega)) rfl (xin_mm (by omega)) rfl rfl (by simp [Value.category]) (xC.pure (v := .int (x)) (qX6_cellV u t n cols i c x (by omega) (by omega) (by omega) (by omega) (by omega) v2 v3 v6) ?_)
      refine xe_iload 4 dX3_fits_53 rfl ?_
      refine xe_icmp_eq 60 dX3_fits_55 (by decide) (fun c4 => ?_) (fun c4 => ?_)
      · refine xn_iinc (c := 1) (L2 := [(0, .ref (6 + 4 * p)), (1, .ref (156 + 2 * t)), (2, .int (nI (i))), (3, .int (nI (c + 1))), (4, .int (u.1 (8 + 4 * p) c))]) 3 dX3_fits_60 rfl (by decide) rfl ?_
        refine xe_goto 2 dX3_fits_63 (by decide) ?_
        refine xE.sub [0, 1, 2, 3] rfl ?_
        exact k4 c1 c2 c4
      · refine xe_iconst (v := nI (0)) dX3_fits_58 xc0 ?_
        exact xe_ret (r := (some (.int (nI (0))))) dX3_fits_59 (Or.inl rfl) (k5 c1 c2 c4)

theorem gX3_fits_e (u : xU) (p t i c l cols n : Nat) {Q : Option Value → xM → Prop} (hp : p < 10) (ht : t < 8) (hcols : cols ≤ 3) (hn : n ≤ 40) (hi : i < n) (hl : l ≤ cols) (hc : c = l) (v1 : u.1 (6 + 4 * p) 2 = nI (l)) (v2 : u.1 (156 + 2 * t) 0 = nI (cols)) (v3 : u.1 (156 + 2 * t) 1 = nI (n))
    (k1 : l ≤ c → Q (some (.int (nI (1)))) (xmm u))
    (k2 : ¬ l ≤ c → ¬ (u.1 (7 + 4 * p) c) = (-1) → False)
    (k3 : ¬ l ≤ c → (u.1 (7 + 4 * p) c) = (-1) → (u.1 (157 + 2 * t) (i * 3 + c)) = (u.1 (8 + 4 * p) c) → xE mX3_fits 2 [(0, .ref (6 + 4 * p)), (1, .ref (156 + 2 * t)), (2, .int (nI (i))), (3, .int (nI (c + 1)))] [] (xmm u) Q)
    (k4 : ¬ l ≤ c → (u.1 (7 + 4 * p) c) = (-1) → ¬ (u.1 (157 + 2 * t) (i * 3 + c)) = (u.1 (8 + 4 * p) c) → Q (some (.int (nI (0)))) (xmm u)) : xE mX3_fits 2 [(0, .ref (6 + 4 * p)), (1, .ref (156 + 2 * t)), (2, .int (nI (i))), (3, .int (nI (c)))] [] (xmm u) Q := by
  refine xe_iload_n 3 dX3_fits_2 rfl rfl ?_
  refine xe_aload_n 0 dX3_fits_3 rfl rfl ?_
  refine xr_getI (v := nI (l)) dX3_fits_4 fX3_28 (shP _ (by omega)) (by omega) v1 ?_
  refine xn_icmp_ge 66 dX3_fits_7 (by decide) (by omega) (by omega) (fun c1 => ?_) (fun c1 => ?_)
  · refine xe_iconst (v := nI (1)) dX3_fits_66 xc1 ?_
    exact xe_ret (r := (some (.int (nI (1))))) dX3_fits_67 (Or.inr rfl) (k1 c1)
  · refine xe_aload_n 0 dX3_fits_10 rfl rfl ?_
    refine xr_getR (b := (7 + 4 * p)) dX3_fits_11 fX3_9 rfl (shP _ (by omega)) (by omega) (rPN (by omega)) ?_
    refine xe_iload_n 3 dX3_fits_14 rfl rfl ?_
    refine xr_iald (k := c) (v := u.1 (7 + 4 * p) c) dX3_fits_15 (shPN _ (by omega)) (by omega) (by omega) (by decide) rfl ?_
    refine xe_iconst (v := -1) dX3_fits_16 xcm1 ?_
    refine xe_icmp_ne 29 dX3_fits_17 (by decide) (fun c2 => ?_) (fun c2 => ?_)
    · refine xe_aload_n 1 dX3_fits_29 rfl rfl ?_
      refine xe_iload_n 2 dX3_fits_30 rfl rfl ?_
      refine xe_aload_n 0 dX3_fits_31 rfl rfl ?_
      refine xr_getR (b := (9 + 4 * p)) dX3_fits_32 fX3_18 rfl (shP _ (by omega)) (by omega) (rPO (by omega)) ?_
      refine xe_aload_n 0 dX3_fits_35 rfl rfl ?_
      refine xr_getR (b := (7 + 4 * p)) dX3_fits_36 fX3_9 rfl (shP _ (by omega)) (by omega) (rPN (by omega)) ?_
      refine xe_iload_n 3 dX3_fits_39 rfl rfl ?_
      refine xr_iald (k := c) (v := u.1 (7 + 4 * p) c) dX3_fits_40 (shPN _ (by omega)) (by omega) (by omega) (by decide) rfl ?_
      exact (k2 c1 c2).elim
    · refine xe_aload_n 0 dX3_fits_20 rfl rfl ?_
      refine xr_getR (b := (8 + 4 * p)) dX3_fits_21 fX3_15 rfl (shP _ (by omega)) (by omega) (rPT (by omega)) ?_
      refine xe_iload_n 3 dX3_fits_24 rfl rfl ?_
      refine xr_iald (k := c) (v := u.1 (8 + 4 * p) c) dX3_fits_25 (shPT _ (by omega)) (by omega) (by omega) (by decide) rfl ?_
      refine xe_goto 45 dX3_fits_26 (by decide) ?_
      refine xe_istore (L2 := [(0, .ref (6 + 4 * p)), (1, .ref (156 + 2 * t)), (2, .int (nI (i))), (3, .int (nI (c))), (4, .int (u.1 (8 + 4 * p) c))]) dX3_fits_45 (by decide) rfl ?_
      refine xe_aload_n 1 dX3_fits_47 rfl rfl ?_
      refine xe_iload_n 2 dX3_fits_48 rfl rfl ?_
      refine xe_iload_n 3 dX3_fits_49 rfl rfl ?_
      refine xe_callV (As := [.int (nI (i)), .int (nI (c))]) (rest := []) dX3_fits_50 wX6_cell lX3_45 iX6_cell sX6_cell ⟨by decide, by decide⟩ (shT _ (by omega)) rfl (xin_mm (by omega)) rfl rfl (by simp [Value.category]) (xC.pure (v := .int (u.1 (157 + 2 * t) (i * 3 + c))) (qX6_cellV u t n cols i c (u.1 (157 + 2 * t) (i * 3 + c)) (by omega) (by omega) (by omega) (by omega) (by omega) v2 v3 rfl) ?_)
      refine xe_iload 4 dX3_fits_53 rfl ?_
      refine xe_icmp_eq 60 dX3_fits_55 (by decide) (fun c3 => ?_) (fun c3 => ?_)
      · refine xn_iinc (c := 1) (L2 := [(0, .ref (6 + 4 * p)), (1, .ref (156 + 2 * t)), (2, .int (nI (i))), (3, .int (nI (c + 1))), (4, .int (u.1 (8 + 4 * p) c))]) 3 dX3_fits_60 rfl (by decide) rfl ?_
        refine xe_goto 2 dX3_fits_63 (by decide) ?_
        refine xE.sub [0, 1, 2, 3] rfl ?_
        exact k3 c1 c2 c3
      · refine xe_iconst (v := nI (0)) dX3_fits_58 xc0 ?_
        exact xe_ret (r := (some (.int (nI (0))))) dX3_fits_59 (Or.inl rfl) (k4 c1 c2 c3)

theorem gX7_fittingRows_0 (u : xU) (p t : Nat) {Q : Option Value → xM → Prop}  
    (k1 : xE mX7_fittingRows 5 [(0, .ref (156 + 2 * t)), (1, .ref (6 + 4 * p)), (2, .long (0)), (4, .int (nI (0)))] [] (xmm u) Q) : xE mX7_fittingRows 0 [(0, .ref (156 + 2 * t)), (1, .ref (6 + 4 * p))] [] (xmm u) Q := by
  refine xe_lconst (v := 0) dX7_fittingRows_0 (by decide) ?_
  refine xe_lstore_n (L2 := [(0, .ref (156 + 2 * t)), (1, .ref (6 + 4 * p)), (2, .long (0))]) dX7_fittingRows_1 rfl (by decide) rfl ?_
  refine xe_iconst (v := nI (0)) dX7_fittingRows_2 xc0 ?_
  refine xe_istore (L2 := [(0, .ref (156 + 2 * t)), (1, .ref (6 + 4 * p)), (2, .long (0)), (4, .int (nI (0)))]) dX7_fittingRows_3 (by decide) rfl ?_
  exact k1

theorem gX7_fittingRows_5 (u : xU) (p t i n : Nat) (x : Int64) (b : Bool) {Q : Option Value → xM → Prop} (hp : p < 10) (ht : t < 8) (hn : n ≤ 40) (hi : i < n) (hft : xC mX3_fits [.ref (6 + 4 * p), .ref (156 + 2 * t), .int (nI i)] (xmm u) (fun r μ' => r = some (.int (xb (b = true))) ∧ μ' = xmm u)) (v1 : u.1 (156 + 2 * t) 1 = nI (n))
    (k1 : n ≤ i → Q (some (.long (x))) (xmm u))
    (k2 : ¬ n ≤ i → ¬ (b = true) → xE mX7_fittingRows 5 [(0, .ref (156 + 2 * t)), (1, .ref (6 + 4 * p)), (2, .long (x)), (4, .int (nI (i + 1)))] [] (xmm u) Q)
    (k3 : ¬ n ≤ i → b = true → xE mX7_fittingRows 5 [(0, .ref (156 + 2 * t)), (1, .ref (6 + 4 * p)), (2, .long (x ||| (1 <<< ((nI (i)).toInt64 &&& 63)))), (4, .int (nI (i + 1)))] [] (xmm u) Q) : xE mX7_fittingRows 5 [(0, .ref (156 + 2 * t)), (1, .ref (6 + 4 * p)), (2, .long (x)), (4, .int (nI (i)))] [] (xmm u) Q := by
  refine xe_iload 3 dX7_fittingRows_5 rfl ?_
  refine xe_aload_n 0 dX7_fittingRows_7 rfl rfl ?_
  refine xr_getI (v := nI (n)) dX7_fittingRows_8 fX7_171 (shT _ (by omega)) (by omega) v1 ?_
  refine xn_icmp_ge 37 dX7_fittingRows_11 (by decide) (by omega) (by omega) (fun c1 => ?_) (fun c1 => ?_)
  · refine xe_lload_n 2 dX7_fittingRows_37 rfl rfl ?_
    exact xe_ret (r := (some (.long (x)))) dX7_fittingRows_38 trivial (k1 c1)
  · refine xe_aload_n 1 dX7_fittingRows_14 rfl rfl ?_
    refine xe_aload_n 0 dX7_fittingRows_15 rfl rfl ?_
    refine xe_iload 3 dX7_fittingRows_16 rfl ?_
    refine xe_callV (As := [.ref (156 + 2 * t), .int (nI (i))]) (rest := []) dX7_fittingRows_18 wX3_fits lX7_174 iX3_fits sX3_fits ⟨by decide, by decide⟩ (shP _ (by omega)) rfl (xin_mm (by omega)) rfl rfl (by simp [Value.category]) (xC.pure (v := .int (xb (b = true))) (hft) ?_)
    refine xb_if_eq 31 dX7_fittingRows_21 (by decide) (fun c2 => ?_) (fun c2 => ?_)
    · refine xn_iinc (c := 1) (L2 := [(0, .ref (156 + 2 * t)), (1, .ref (6 + 4 * p)), (2, .long (x)), (4, .int (nI (i + 1)))]) 3 dX7_fittingRows_31 rfl (by decide) rfl ?_
      refine xe_goto 5 dX7_fittingRows_34 (by decide) ?_
      exact k2 c1 c2
    · refine xe_lload_n 2 dX7_fittingRows_24 rfl rfl ?_
      refine xe_lconst (v := 1) dX7_fittingRows_25 (by decide) ?_
      refine xe_iload 3 dX7_fittingRows_26 rfl ?_
      refine xe_lshl dX7_fittingRows_28 ?_
      refine xe_lor dX7_fittingRows_29 ?_
      refine xe_lstore_n (L2 := [(0, .ref (156 + 2 * t)), (1, .ref (6 + 4 * p)), (2, .long (x ||| (1 <<< ((nI (i)).toInt64 &&& 63)))), (4, .int (nI (i)))]) dX7_fittingRows_30 rfl (by decide) rfl ?_
      refine xn_iinc (c := 1) (L2 := [(0, .ref (156 + 2 * t)), (1, .ref (6 + 4 * p)), (2, .long (x ||| (1 <<< ((nI (i)).toInt64 &&& 63)))), (4, .int (nI (i + 1)))]) 3 dX7_fittingRows_31 rfl (by decide) rfl ?_
      refine xe_goto 5 dX7_fittingRows_34 (by decide) ?_
      exact k3 c1 c2

theorem gX7_fittingRows_e (u : xU) (p t i n : Nat) (x : Int64) {Q : Option Value → xM → Prop} (hp : p < 10) (ht : t < 8) (hn : n ≤ 40) (hi : i = n) (v1 : u.1 (156 + 2 * t) 1 = nI (n))
    (k1 : n ≤ i → Q (some (.long (x))) (xmm u))
    (k2 : ¬ n ≤ i → xC mX3_fits [.ref (6 + 4 * p), .ref (156 + 2 * t), .int (nI (i))] (xmm u) (fun r μ1 => xE mX7_fittingRows 21 [(0, .ref (156 + 2 * t)), (1, .ref (6 + 4 * p)), (2, .long (x)), (4, .int (nI (i)))] (r.toList ++ []) μ1 Q)) : xE mX7_fittingRows 5 [(0, .ref (156 + 2 * t)), (1, .ref (6 + 4 * p)), (2, .long (x)), (4, .int (nI (i)))] [] (xmm u) Q := by
  refine xe_iload 3 dX7_fittingRows_5 rfl ?_
  refine xe_aload_n 0 dX7_fittingRows_7 rfl rfl ?_
  refine xr_getI (v := nI (n)) dX7_fittingRows_8 fX7_171 (shT _ (by omega)) (by omega) v1 ?_
  refine xn_icmp_ge 37 dX7_fittingRows_11 (by decide) (by omega) (by omega) (fun c1 => ?_) (fun c1 => ?_)
  · refine xe_lload_n 2 dX7_fittingRows_37 rfl rfl ?_
    exact xe_ret (r := (some (.long (x)))) dX7_fittingRows_38 trivial (k1 c1)
  · refine xe_aload_n 1 dX7_fittingRows_14 rfl rfl ?_
    refine xe_aload_n 0 dX7_fittingRows_15 rfl rfl ?_
    refine xe_iload 3 dX7_fittingRows_16 rfl ?_
    refine xe_callV (As := [.ref (156 + 2 * t), .int (nI (i))]) (rest := []) dX7_fittingRows_18 wX3_fits lX7_174 iX3_fits sX3_fits ⟨by decide, by decide⟩ (shP _ (by omega)) rfl (xin_mm (by omega)) rfl rfl (by simp [Value.category]) ?_
    exact k2 c1

theorem nIm1 {k : Nat} (hk : k < 2147483648) : ¬ nI k = -1 := fun z => by
  have := congrArg Int32.toInt z
  rw [nI_toI hk, show (-1 : Int32).toInt = -1 from by decide] at this
  omega
noncomputable def bP (P : Prop) : Bool := @decide P (Classical.propDecidable P)
theorem bP_iff {P : Prop} : bP P = true ↔ P := @decide_eq_true_iff P (Classical.propDecidable P)
/-- the class's look at a row is fitR -/
theorem fitR_iff {T : TBL} {Q : QST} {p r : Nat} : fitR T Q p r ↔ ∀ i, i < qL Q p → (qM Q p i = none → cel T Q p r i = qV Q p i) ∧ ∀ n, qM Q p i = some n → cel T Q p r i = cel T Q p r (fC Q p n) := by
  have fle : ∀ i n, i < qL Q p → qM Q p i = some n → fC Q p n ≤ i ∧ fC Q p n < qL Q p ∧ qM Q p (fC Q p n) = some n := fun i n hi hn => by
    obtain ⟨a, b⟩ := fC_lt (pHas_iff.mpr ⟨i, hi, hn⟩)
    refine ⟨?_, a, b⟩
    have : ∀ l, i < l → pOf (qM Q p) n l ≤ i := by
      intro l
      induction l with
      | zero => intro z; omega
      | succ l ih =>
        intro z
        unfold pOf
        by_cases e : i = l
        · split
          · rename_i hb
            obtain ⟨c, -⟩ := pOf_spec hb
            omega
          · omega
        · rw [if_pos (msk_bit.mpr ⟨i, by omega, hn⟩)]
          exact ih (by omega)
    exact this _ hi
  constructor
  · intro h i hi
    refine ⟨(h i hi).1, fun n hn => ?_⟩
    obtain ⟨a, b, c⟩ := fle i n hi hn
    by_cases e : fC Q p n = i
    · rw [e]
    · exact ((h i hi).2 n hn _ (by omega) c).symm
  · intro h i hi
    refine ⟨(h i hi).1, fun n hn k hk hkn => ?_⟩
    rw [(h i hi).2 n hn, (h k (by omega)).2 n hkn]
theorem qX3_fits {u : xU} {T : TBL} {Q : QST} (hT : TI T) (hQ : QI T Q) (hC : CT T u) (h : CQ T Q u) {p i : Nat} (hp : p < qP Q) (hk : qK Q p ≤ 1) (hi : i < rwN T Q p) : xC mX3_fits [.ref (6 + 4 * p), .ref (156 + 2 * qOf Q p), .int (nI i)] (xmm u) (fun r μ' => r = some (.int (xb (bP (fitR T Q p i) = true))) ∧ μ' = xmm u) := by
  have hp10 := hQ.2.1
  obtain ⟨o1, o2, o3⟩ := (hQ.2.2.2.2.1 _ hp).2.1 hk
  obtain ⟨i1, i2, -⟩ := hT _ o1
  obtain ⟨g1, g2, g3⟩ := hC _ o1
  obtain ⟨c0, c1, c2, c3, c4, c5, c6, c7⟩ := h.2.2.2.2 p hp
  have hi' : i < T.2.1 (qOf Q p) := hi
  refine xC.of xpl3 (Nat.le_of_ble_eq_true rfl) (gX3_fits_0 u p (qOf Q p) i ?_)
  have loop : ∀ d c, qL Q p - c = d → c ≤ qL Q p → (∀ j, j < c → (qM Q p j = none → cel T Q p i j = qV Q p j) ∧ ∀ n, qM Q p j = some n → cel T Q p i j = cel T Q p i (fC Q p n)) → xE mX3_fits 2 [(0, .ref (6 + 4 * p)), (1, .ref (156 + 2 * qOf Q p)), (2, .int (nI i)), (3, .int (nI c))] [] (xmm u) (fun r μ' => r = some (.int (xb (bP (fitR T Q p i) = true))) ∧ μ' = xmm u) := by
    intro d
    induction d with
    | zero =>
      intro c hd hc hj
      exact gX3_fits_e u p (qOf Q p) i c (qL Q p) (T.1 (qOf Q p)) (T.2.1 (qOf Q p)) (by omega) o1 i1 i2 hi' o3 (by omega) c2 g1 g2 (fun _ => ⟨ret_t (bP_iff.mpr (fitR_iff.mpr (fun j hjl => hj j (by omega)))), rfl⟩) (fun z => by omega) (fun z => by omega) (fun z => by omega)
    | succ d ih =>
      intro c hd hc hj
      have hcl : c < qL Q p := by omega
      have nx : ((qM Q p c = none → cel T Q p i c = qV Q p c) ∧ ∀ n, qM Q p c = some n → cel T Q p i c = cel T Q p i (fC Q p n)) → xE mX3_fits 2 [(0, .ref (6 + 4 * p)), (1, .ref (156 + 2 * qOf Q p)), (2, .int (nI i)), (3, .int (nI (c + 1)))] [] (xmm u) (fun r μ' => r = some (.int (xb (bP (fitR T Q p i) = true))) ∧ μ' = xmm u) := fun z => ih (c + 1) (by omega) hcl (fun j hjc => by
        by_cases e : j = c
        · subst e; exact z
        · exact hj j (by omega))
      have hv : u.1 (157 + 2 * qOf Q p) (i * 3 + c) = cel T Q p i c := g3 i c hi' (by omega)
      cases hm : qM Q p c with
      | none =>
        have n5 := c5 c hcl
        rw [hm] at n5
        refine gX3_fits_n u p (qOf Q p) i c (qL Q p) (T.1 (qOf Q p)) (T.2.1 (qOf Q p)) (qV Q p c) (cel T Q p i c) (by omega) o1 i1 i2 hi' o3 hcl c2 g1 g2 n5 (c6 c hcl hm) hv (fun z => by omega) (fun _ z => nx ⟨fun _ => z, fun n hn => by rw [hm] at hn; cases hn⟩) (fun _ z => ⟨ret_f (fun y => z ?_), rfl⟩)
        exact (fitR_iff.mp (bP_iff.mp y) c hcl).1 hm
      | some n =>
        have n5 := c5 c hcl
        rw [hm] at n5
        have hn6 := qM_lt hQ hp hcl hm
        have hq6 := hQ.1
        obtain ⟨f1, f2⟩ := fC_lt (pHas_iff.mpr ⟨c, hcl, hm⟩)
        have fv := c7 n (pHas_msk.mp (pHas_iff.mpr ⟨c, hcl, hm⟩))
        have hy : u.1 (157 + 2 * qOf Q p) (i * 3 + fC Q p n) = cel T Q p i (fC Q p n) := g3 i _ hi' (by omega)
        have m1 : ¬ nI n = -1 := nIm1 (by omega)
        refine gX3_fits_s u p (qOf Q p) i c (qL Q p) (T.1 (qOf Q p)) (T.2.1 (qOf Q p)) n (fC Q p n) (cel T Q p i c) _ (by omega) o1 i1 i2 hi' o3 hcl (by omega) f1 c2 g1 g2 n5 fv hv hy (fun z => by omega) (fun _ _ z => nx ⟨fun e => (by rw [hm] at e; cases e), fun m e => ?_⟩) (fun _ _ z => ⟨ret_f (fun y => z ?_), rfl⟩) (fun _ z => absurd z m1) (fun _ z => absurd z m1)
        · rw [hm] at e
          cases e
          exact z
        · exact (fitR_iff.mp (bP_iff.mp y) c hcl).2 n hm
  exact loop _ 0 rfl (Nat.zero_le _) (fun j hj => absurd hj (Nat.not_lt_zero j))
/-- the rows below n that are well, as bits -/
def BO (P : Nat → Prop) (n m : Nat) : Prop := m < 2 ^ n ∧ ∀ i, m.testBit i = true ↔ i < n ∧ P i
theorem BO_zero {P : Nat → Prop} : BO P 0 0 := ⟨by decide, fun i => by simp⟩
theorem BO_f {P : Nat → Prop} {n m : Nat} (h : BO P n m) (hp : ¬ P n) : BO P (n + 1) m := ⟨Nat.lt_of_lt_of_le h.1 (Nat.pow_le_pow_right (by decide) (by omega)), fun i => by
  rw [h.2 i]
  constructor
  · rintro ⟨a, b⟩
    exact ⟨by omega, b⟩
  · rintro ⟨a, b⟩
    by_cases e : i = n
    · rw [e] at b; exact absurd b hp
    · exact ⟨by omega, b⟩⟩
theorem BO_t {P : Nat → Prop} {n m : Nat} (h : BO P n m) (hp : P n) : BO P (n + 1) (m ||| 2 ^ n) := ⟨Nat.or_lt_two_pow (Nat.lt_of_lt_of_le h.1 (Nat.pow_le_pow_right (by decide) (by omega))) (Nat.pow_lt_pow_right (by decide) (by omega)), fun i => by
  rw [bit_add, h.2 i]
  constructor
  · rintro (⟨a, b⟩ | e)
    · exact ⟨by omega, b⟩
    · exact ⟨by omega, by rw [e]; exact hp⟩
  · rintro ⟨a, b⟩
    by_cases e : i = n
    · exact Or.inr e
    · exact Or.inl ⟨by omega, b⟩⟩
theorem one_shl {k : Nat} (hk : k < 64) : (1 : Int64) <<< ((nI k).toInt64 &&& 63) = nL (2 ^ k) := by
  have := nL_shl (a := 1) hk
  rw [Nat.one_mul] at this
  exact this
theorem qX7_fittingRows {u : xU} {T : TBL} {Q : QST} (hT : TI T) (hQ : QI T Q) (hC : CT T u) (h : CQ T Q u) {p : Nat} (hp : p < qP Q) (hk : qK Q p ≤ 1) : xC mX7_fittingRows [.ref (156 + 2 * qOf Q p), .ref (6 + 4 * p)] (xmm u) (fun r μ' => ∃ m, BO (fitR T Q p) (rwN T Q p) m ∧ r = some (.long (nL m)) ∧ μ' = xmm u) := by
  have hp10 := hQ.2.1
  obtain ⟨o1, o2, o3⟩ := (hQ.2.2.2.2.1 _ hp).2.1 hk
  obtain ⟨i1, i2, -⟩ := hT _ o1
  obtain ⟨g1, g2, g3⟩ := hC _ o1
  refine xC.of xpl7 (Nat.le_of_ble_eq_true rfl) (gX7_fittingRows_0 u p (qOf Q p) ?_)
  have loop : ∀ d i m, rwN T Q p - i = d → i ≤ rwN T Q p → BO (fitR T Q p) i m → xE mX7_fittingRows 5 [(0, .ref (156 + 2 * qOf Q p)), (1, .ref (6 + 4 * p)), (2, .long (nL m)), (4, .int (nI i))] [] (xmm u) (fun r μ' => ∃ m, BO (fitR T Q p) (rwN T Q p) m ∧ r = some (.long (nL m)) ∧ μ' = xmm u) := by
    intro d
    induction d with
    | zero =>
      intro i m hd hi hb
      have hie : i = rwN T Q p := by omega
      exact gX7_fittingRows_e u p (qOf Q p) i (T.2.1 (qOf Q p)) _ (by omega) o1 i2 hie g2 (fun _ => ⟨m, by rw [← hie]; exact hb, rfl, rfl⟩) (fun z => absurd (Nat.le_of_eq hie.symm) z)
    | succ d ih =>
      intro i m hd hi hb
      have hil : i < rwN T Q p := by omega
      have hil' : i < T.2.1 (qOf Q p) := hil
      refine gX7_fittingRows_5 u p (qOf Q p) i (T.2.1 (qOf Q p)) _ (bP (fitR T Q p i)) (by omega) o1 i2 hil (qX3_fits hT hQ hC h hp hk hil) g2 (fun z => by omega) (fun _ z => ih (i + 1) m (by omega) hil (BO_f hb (fun y => z (bP_iff.mpr y)))) (fun _ z => ?_)
      have hm := hb.1
      have h1 : 2 ^ i ≤ 2 ^ 40 := Nat.pow_le_pow_right (by decide) (by omega)
      rw [one_shl (by omega), nL_or (by omega) (by omega)]
      exact ih (i + 1) _ (by omega) hil (BO_t hb (bP_iff.mp z))
  exact loop _ 0 0 rfl (Nat.zero_le _) BO_zero

