theorem gX7_codedName_0 (u : xU) (c i : Nat) {Q : Option Value → xM → Prop} (hi : i < 4) 
    (k1 : Q (some (.int (((nI (c)) >>> ((nI (2 * (3 - i))) &&& 31)) &&& 3))) (xmm u)) : xE mX7_codedName 0 [(0, .int (nI (c))), (1, .int (nI (i)))] [] (xmm u) Q := by
  refine xe_iload_n 0 dX7_codedName_0 rfl rfl ?_
  refine xe_iconst (v := nI (2)) dX7_codedName_1 xc2 ?_
  refine xe_iconst (v := nI (3)) dX7_codedName_2 xc3 ?_
  refine xe_iload_n 1 dX7_codedName_3 rfl rfl ?_
  refine xn_isub dX7_codedName_4 (by omega) ?_
  refine xn_imul dX7_codedName_5 ?_
  refine xe_ishr dX7_codedName_6 ?_
  refine xe_iconst (v := nI (3)) dX7_codedName_7 xc3 ?_
  refine xe_iand dX7_codedName_8 ?_
  exact xe_ret (r := (some (.int (((nI (c)) >>> ((nI (2 * (3 - i))) &&& 31)) &&& 3)))) dX7_codedName_9 trivial (k1)

theorem gX7_meetingsTogether_0 (u : xU) (c : Nat) {Q : Option Value → xM → Prop}  
    (k1 : xE mX7_meetingsTogether 8 [(0, .ref 74), (1, .ref 3), (2, .int (nI (c))), (3, .int (nI (0))), (4, .int (nI (0))), (5, .int (nI (0)))] [] (xmm u) Q) : xE mX7_meetingsTogether 0 [(0, .ref 74), (1, .ref 3), (2, .int (nI (c)))] [] (xmm u) Q := by
  refine xe_iconst (v := nI (0)) dX7_meetingsTogether_0 xc0 ?_
  refine xe_istore_n (L2 := [(0, .ref 74), (1, .ref 3), (2, .int (nI (c))), (3, .int (nI (0)))]) dX7_meetingsTogether_1 rfl (by decide) rfl ?_
  refine xe_iconst (v := nI (0)) dX7_meetingsTogether_2 xc0 ?_
  refine xe_istore (L2 := [(0, .ref 74), (1, .ref 3), (2, .int (nI (c))), (3, .int (nI (0))), (4, .int (nI (0)))]) dX7_meetingsTogether_3 (by decide) rfl ?_
  refine xe_iconst (v := nI (0)) dX7_meetingsTogether_5 xc0 ?_
  refine xe_istore (L2 := [(0, .ref 74), (1, .ref 3), (2, .int (nI (c))), (3, .int (nI (0))), (4, .int (nI (0))), (5, .int (nI (0)))]) dX7_meetingsTogether_6 (by decide) rfl ?_
  exact k1

theorem gX7_meetingsTogether_8 (u : xU) (c tg S i n nm : Nat) {Q : Option Value → xM → Prop} (hn : n ≤ 4) (hi : i < n) (hcn : xC mX7_codedName [.int (nI c), .int (nI i)] (xmm u) (fun r μ' => r = some (.int (nI nm)) ∧ μ' = xmm u)) (v1 : u.1 3 0 = nI (n))
    (k1 : n ≤ i → Q (some (.int (nI (tg)))) (xmm u))
    (k2 : ¬ n ≤ i → xE mX7_meetingsTogether 34 [(0, .ref 74), (1, .ref 3), (2, .int (nI (c))), (3, .int (nI (tg))), (4, .int (nI (S))), (5, .int (nI (i))), (6, .int (nI (nm))), (7, .int ((nI (S)) ||| (1 <<< ((nI (nm)) &&& 31))))] [] (xmm u) Q) : xE mX7_meetingsTogether 8 [(0, .ref 74), (1, .ref 3), (2, .int (nI (c))), (3, .int (nI (tg))), (4, .int (nI (S))), (5, .int (nI (i)))] [] (xmm u) Q := by
  refine xe_iload 5 dX7_meetingsTogether_8 rfl ?_
  refine xe_aload_n 1 dX7_meetingsTogether_10 rfl rfl ?_
  refine xr_getI (v := nI (n)) dX7_meetingsTogether_11 fX7_85 sh3 (by decide) v1 ?_
  refine xn_icmp_ge 85 dX7_meetingsTogether_14 (by decide) (by omega) (by omega) (fun c1 => ?_) (fun c1 => ?_)
  · refine xe_iload_n 3 dX7_meetingsTogether_85 rfl rfl ?_
    exact xe_ret (r := (some (.int (nI (tg))))) dX7_meetingsTogether_86 trivial (k1 c1)
  · refine xe_iload_n 2 dX7_meetingsTogether_17 rfl rfl ?_
    refine xe_iload 5 dX7_meetingsTogether_18 rfl ?_
    refine xe_callS (As := [.int (nI (c)), .int (nI (i))]) (rest := []) dX7_meetingsTogether_20 wX7_codedName lX7_163 tX7_codedName ⟨by decide, by decide⟩ rfl rfl (by simp [Value.category]) (xC.pure (v := .int (nI (nm))) (hcn) ?_)
    refine xe_istore (L2 := [(0, .ref 74), (1, .ref 3), (2, .int (nI (c))), (3, .int (nI (tg))), (4, .int (nI (S))), (5, .int (nI (i))), (6, .int (nI (nm)))]) dX7_meetingsTogether_23 (by decide) rfl ?_
    refine xe_iload 4 dX7_meetingsTogether_25 rfl ?_
    refine xe_iconst (v := nI (1)) dX7_meetingsTogether_27 xc1 ?_
    refine xe_iload 6 dX7_meetingsTogether_28 rfl ?_
    refine xe_ishl dX7_meetingsTogether_30 ?_
    refine xe_ior dX7_meetingsTogether_31 ?_
    refine xe_istore (L2 := [(0, .ref 74), (1, .ref 3), (2, .int (nI (c))), (3, .int (nI (tg))), (4, .int (nI (S))), (5, .int (nI (i))), (6, .int (nI (nm))), (7, .int ((nI (S)) ||| (1 <<< ((nI (nm)) &&& 31))))]) dX7_meetingsTogether_32 (by decide) rfl ?_
    exact k2 c1

theorem gX7_meetingsTogether_e (u : xU) (c tg S i n : Nat) {Q : Option Value → xM → Prop} (hn : n ≤ 4) (hi : i = n) (v1 : u.1 3 0 = nI (n))
    (k1 : n ≤ i → Q (some (.int (nI (tg)))) (xmm u))
    (k2 : ¬ n ≤ i → xE mX7_meetingsTogether 20 [(0, .ref 74), (1, .ref 3), (2, .int (nI (c))), (3, .int (nI (tg))), (4, .int (nI (S))), (5, .int (nI (i)))] [.int (nI (i)), .int (nI (c))] (xmm u) Q) : xE mX7_meetingsTogether 8 [(0, .ref 74), (1, .ref 3), (2, .int (nI (c))), (3, .int (nI (tg))), (4, .int (nI (S))), (5, .int (nI (i)))] [] (xmm u) Q := by
  refine xe_iload 5 dX7_meetingsTogether_8 rfl ?_
  refine xe_aload_n 1 dX7_meetingsTogether_10 rfl rfl ?_
  refine xr_getI (v := nI (n)) dX7_meetingsTogether_11 fX7_85 sh3 (by decide) v1 ?_
  refine xn_icmp_ge 85 dX7_meetingsTogether_14 (by decide) (by omega) (by omega) (fun c1 => ?_) (fun c1 => ?_)
  · refine xe_iload_n 3 dX7_meetingsTogether_85 rfl rfl ?_
    exact xe_ret (r := (some (.int (nI (tg))))) dX7_meetingsTogether_86 trivial (k1 c1)
  · refine xe_iload_n 2 dX7_meetingsTogether_17 rfl rfl ?_
    refine xe_iload 5 dX7_meetingsTogether_18 rfl ?_
    exact k2 c1

theorem gX7_meetingsTogether_f (u : xU) (c tg S i n nm mo : Nat) {Q : Option Value → xM → Prop} (hn : n ≤ 4) (hi : i < n) (hnm : nm < 4) (hS : S < 16) (hmo : mo < 16) (htg : tg ≤ 2000) (v1 : u.1 3 0 = nI (n)) (v2 : u.1 153 mo = (-2))
    (k1 : n ≤ nm → Q (some (.int (-2))) (xmm u))
    (k2 : ¬ n ≤ nm → mo = S → Q (some (.int (-2))) (xmm u))
    (k3 : ¬ n ≤ nm → ¬ mo = S → Q (some (.int (-2))) (xmm u)) : xE mX7_meetingsTogether 34 [(0, .ref 74), (1, .ref 3), (2, .int (nI (c))), (3, .int (nI (tg))), (4, .int (nI (S))), (5, .int (nI (i))), (6, .int (nI (nm))), (7, .int (nI (mo)))] [] (xmm u) Q := by
  refine xe_iload 6 dX7_meetingsTogether_34 rfl ?_
  refine xe_aload_n 1 dX7_meetingsTogether_36 rfl rfl ?_
  refine xr_getI (v := nI (n)) dX7_meetingsTogether_37 fX7_85 sh3 (by decide) v1 ?_
  refine xn_icmp_ge 62 dX7_meetingsTogether_40 (by decide) (by omega) (by omega) (fun c1 => ?_) (fun c1 => ?_)
  · refine xe_bipush (v := -2) dX7_meetingsTogether_62 xcbm2 ?_
    exact xe_ret (r := (some (.int (-2)))) dX7_meetingsTogether_64 trivial (k1 c1)
  · refine xe_iload 7 dX7_meetingsTogether_43 rfl ?_
    refine xe_iload 4 dX7_meetingsTogether_45 rfl ?_
    refine xn_icmp_eq 62 dX7_meetingsTogether_47 (by decide) (by omega) (by omega) (fun c2 => ?_) (fun c2 => ?_)
    · refine xe_bipush (v := -2) dX7_meetingsTogether_62 xcbm2 ?_
      exact xe_ret (r := (some (.int (-2)))) dX7_meetingsTogether_64 trivial (k2 c1 c2)
    · refine xe_aload_n 0 dX7_meetingsTogether_50 rfl rfl ?_
      refine xr_getR (b := 153) dX7_meetingsTogether_51 fX7_47 rfl sh74 (by decide) rfl ?_
      refine xe_iload 7 dX7_meetingsTogether_54 rfl ?_
      refine xr_iald (k := mo) (v := (-2)) dX7_meetingsTogether_56 sh153 (by decide) (by omega) (by decide) v2 ?_
      refine xe_bipush (v := -2) dX7_meetingsTogether_57 xcbm2 ?_
      refine xe_icmp_ne 65 dX7_meetingsTogether_59 (by decide) (fun q => absurd rfl q) (fun _ => ?_)
      refine xe_bipush (v := -2) dX7_meetingsTogether_62 xcbm2 ?_
      exact xe_ret (r := (some (.int (-2)))) dX7_meetingsTogether_64 trivial (k3 c1 c2)

theorem gX7_meetingsTogether_t (u : xU) (c tg S i n nm mo : Nat) (k : Nat) {Q : Option Value → xM → Prop} (hn : n ≤ 4) (hi : i < n) (hnm : nm < 4) (hS : S < 16) (hmo : mo < 16) (htg : tg ≤ 2000) (v1 : u.1 3 0 = nI (n)) (v2 : u.1 153 mo = nI (k))
    (k1 : n ≤ nm → Q (some (.int (-2))) (xmm u))
    (k2 : ¬ n ≤ nm → mo = S → Q (some (.int (-2))) (xmm u))
    (k3 : ¬ n ≤ nm → ¬ mo = S → ¬ (nI (k)) = (-2) → xE mX7_meetingsTogether 8 [(0, .ref 74), (1, .ref 3), (2, .int (nI (c))), (3, .int (nI (tg + k))), (4, .int (nI (mo))), (5, .int (nI (i + 1)))] [] (xmm u) Q)
    (k4 : ¬ n ≤ nm → ¬ mo = S → (nI (k)) = (-2) → Q (some (.int (-2))) (xmm u)) : xE mX7_meetingsTogether 34 [(0, .ref 74), (1, .ref 3), (2, .int (nI (c))), (3, .int (nI (tg))), (4, .int (nI (S))), (5, .int (nI (i))), (6, .int (nI (nm))), (7, .int (nI (mo)))] [] (xmm u) Q := by
  refine xe_iload 6 dX7_meetingsTogether_34 rfl ?_
  refine xe_aload_n 1 dX7_meetingsTogether_36 rfl rfl ?_
  refine xr_getI (v := nI (n)) dX7_meetingsTogether_37 fX7_85 sh3 (by decide) v1 ?_
  refine xn_icmp_ge 62 dX7_meetingsTogether_40 (by decide) (by omega) (by omega) (fun c1 => ?_) (fun c1 => ?_)
  · refine xe_bipush (v := -2) dX7_meetingsTogether_62 xcbm2 ?_
    exact xe_ret (r := (some (.int (-2)))) dX7_meetingsTogether_64 trivial (k1 c1)
  · refine xe_iload 7 dX7_meetingsTogether_43 rfl ?_
    refine xe_iload 4 dX7_meetingsTogether_45 rfl ?_
    refine xn_icmp_eq 62 dX7_meetingsTogether_47 (by decide) (by omega) (by omega) (fun c2 => ?_) (fun c2 => ?_)
    · refine xe_bipush (v := -2) dX7_meetingsTogether_62 xcbm2 ?_
      exact xe_ret (r := (some (.int (-2)))) dX7_meetingsTogether_64 trivial (k2 c1 c2)
    · refine xe_aload_n 0 dX7_meetingsTogether_50 rfl rfl ?_
      refine xr_getR (b := 153) dX7_meetingsTogether_51 fX7_47 rfl sh74 (by decide) rfl ?_
      refine xe_iload 7 dX7_meetingsTogether_54 rfl ?_
      refine xr_iald (k := mo) (v := nI (k)) dX7_meetingsTogether_56 sh153 (by decide) (by omega) (by decide) v2 ?_
      refine xe_bipush (v := -2) dX7_meetingsTogether_57 xcbm2 ?_
      refine xe_icmp_ne 65 dX7_meetingsTogether_59 (by decide) (fun c3 => ?_) (fun c3 => ?_)
      · refine xe_iload 7 dX7_meetingsTogether_65 rfl ?_
        refine xe_istore (L2 := [(0, .ref 74), (1, .ref 3), (2, .int (nI (c))), (3, .int (nI (tg))), (4, .int (nI (mo))), (5, .int (nI (i))), (6, .int (nI (nm))), (7, .int (nI (mo)))]) dX7_meetingsTogether_67 (by decide) rfl ?_
        refine xe_iload_n 3 dX7_meetingsTogether_69 rfl rfl ?_
        refine xe_aload_n 0 dX7_meetingsTogether_70 rfl rfl ?_
        refine xr_getR (b := 153) dX7_meetingsTogether_71 fX7_47 rfl sh74 (by decide) rfl ?_
        refine xe_iload 4 dX7_meetingsTogether_74 rfl ?_
        refine xr_iald (k := mo) (v := nI (k)) dX7_meetingsTogether_76 sh153 (by decide) (by omega) (by decide) v2 ?_
        refine xn_iadd dX7_meetingsTogether_77 ?_
        refine xe_istore_n (L2 := [(0, .ref 74), (1, .ref 3), (2, .int (nI (c))), (3, .int (nI (tg + k))), (4, .int (nI (mo))), (5, .int (nI (i))), (6, .int (nI (nm))), (7, .int (nI (mo)))]) dX7_meetingsTogether_78 rfl (by decide) rfl ?_
        refine xn_iinc (c := 1) (L2 := [(0, .ref 74), (1, .ref 3), (2, .int (nI (c))), (3, .int (nI (tg + k))), (4, .int (nI (mo))), (5, .int (nI (i + 1))), (6, .int (nI (nm))), (7, .int (nI (mo)))]) 5 dX7_meetingsTogether_79 rfl (by decide) rfl ?_
        refine xe_goto 8 dX7_meetingsTogether_82 (by decide) ?_
        refine xE.sub [0, 1, 2, 3, 4, 5] rfl ?_
        exact k3 c1 c2 c3
      · refine xe_bipush (v := -2) dX7_meetingsTogether_62 xcbm2 ?_
        exact xe_ret (r := (some (.int (-2)))) dX7_meetingsTogether_64 trivial (k4 c1 c2 c3)

theorem gX7_meetingsTogether_g (u : xU) (c tg S i n nm mo : Nat) (x : Int32) {Q : Option Value → xM → Prop} (hn : n ≤ 4) (hi : i < n) (hnm : nm < 4) (hS : S < 16) (hmo : mo < 16) (htg : tg ≤ 2000) (v1 : u.1 3 0 = nI (n)) (v2 : u.1 153 mo = x)
    (k1 : n ≤ nm → Q (some (.int (-2))) (xmm u))
    (k2 : ¬ n ≤ nm → mo = S → Q (some (.int (-2))) (xmm u))
    (k3 : ¬ n ≤ nm → ¬ mo = S → ¬ x = (-2) → xE mX7_meetingsTogether 8 [(0, .ref 74), (1, .ref 3), (2, .int (nI (c))), (3, .int ((nI (tg)) + x)), (4, .int (nI (mo))), (5, .int (nI (i + 1)))] [] (xmm u) Q)
    (k4 : ¬ n ≤ nm → ¬ mo = S → x = (-2) → Q (some (.int (-2))) (xmm u)) : xE mX7_meetingsTogether 34 [(0, .ref 74), (1, .ref 3), (2, .int (nI (c))), (3, .int (nI (tg))), (4, .int (nI (S))), (5, .int (nI (i))), (6, .int (nI (nm))), (7, .int (nI (mo)))] [] (xmm u) Q := by
  refine xe_iload 6 dX7_meetingsTogether_34 rfl ?_
  refine xe_aload_n 1 dX7_meetingsTogether_36 rfl rfl ?_
  refine xr_getI (v := nI (n)) dX7_meetingsTogether_37 fX7_85 sh3 (by decide) v1 ?_
  refine xn_icmp_ge 62 dX7_meetingsTogether_40 (by decide) (by omega) (by omega) (fun c1 => ?_) (fun c1 => ?_)
  · refine xe_bipush (v := -2) dX7_meetingsTogether_62 xcbm2 ?_
    exact xe_ret (r := (some (.int (-2)))) dX7_meetingsTogether_64 trivial (k1 c1)
  · refine xe_iload 7 dX7_meetingsTogether_43 rfl ?_
    refine xe_iload 4 dX7_meetingsTogether_45 rfl ?_
    refine xn_icmp_eq 62 dX7_meetingsTogether_47 (by decide) (by omega) (by omega) (fun c2 => ?_) (fun c2 => ?_)
    · refine xe_bipush (v := -2) dX7_meetingsTogether_62 xcbm2 ?_
      exact xe_ret (r := (some (.int (-2)))) dX7_meetingsTogether_64 trivial (k2 c1 c2)
    · refine xe_aload_n 0 dX7_meetingsTogether_50 rfl rfl ?_
      refine xr_getR (b := 153) dX7_meetingsTogether_51 fX7_47 rfl sh74 (by decide) rfl ?_
      refine xe_iload 7 dX7_meetingsTogether_54 rfl ?_
      refine xr_iald (k := mo) (v := x) dX7_meetingsTogether_56 sh153 (by decide) (by omega) (by decide) v2 ?_
      refine xe_bipush (v := -2) dX7_meetingsTogether_57 xcbm2 ?_
      refine xe_icmp_ne 65 dX7_meetingsTogether_59 (by decide) (fun c3 => ?_) (fun c3 => ?_)
      · refine xe_iload 7 dX7_meetingsTogether_65 rfl ?_
        refine xe_istore (L2 := [(0, .ref 74), (1, .ref 3), (2, .int (nI (c))), (3, .int (nI (tg))), (4, .int (nI (mo))), (5, .int (nI (i))), (6, .int (nI (nm))), (7, .int (nI (mo)))]) dX7_meetingsTogether_67 (by decide) rfl ?_
        refine xe_iload_n 3 dX7_meetingsTogether_69 rfl rfl ?_
        refine xe_aload_n 0 dX7_meetingsTogether_70 rfl rfl ?_
        refine xr_getR (b := 153) dX7_meetingsTogether_71 fX7_47 rfl sh74 (by decide) rfl ?_
        refine xe_iload 4 dX7_meetingsTogether_74 rfl ?_
        refine xr_iald (k := mo) (v := x) dX7_meetingsTogether_76 sh153 (by decide) (by omega) (by decide) v2 ?_
        refine xe_iadd dX7_meetingsTogether_77 ?_
        refine xe_istore_n (L2 := [(0, .ref 74), (1, .ref 3), (2, .int (nI (c))), (3, .int ((nI (tg)) + x)), (4, .int (nI (mo))), (5, .int (nI (i))), (6, .int (nI (nm))), (7, .int (nI (mo)))]) dX7_meetingsTogether_78 rfl (by decide) rfl ?_
        refine xn_iinc (c := 1) (L2 := [(0, .ref 74), (1, .ref 3), (2, .int (nI (c))), (3, .int ((nI (tg)) + x)), (4, .int (nI (mo))), (5, .int (nI (i + 1))), (6, .int (nI (nm))), (7, .int (nI (mo)))]) 5 dX7_meetingsTogether_79 rfl (by decide) rfl ?_
        refine xe_goto 8 dX7_meetingsTogether_82 (by decide) ?_
        refine xE.sub [0, 1, 2, 3, 4, 5] rfl ?_
        exact k3 c1 c2 c3
      · refine xe_bipush (v := -2) dX7_meetingsTogether_62 xcbm2 ?_
        exact xe_ret (r := (some (.int (-2)))) dX7_meetingsTogether_64 trivial (k4 c1 c2 c3)

theorem gX7_takeBestOrder_0 (u : xU) {Q : Option Value → xM → Prop}  
    (k1 : xE mX7_takeBestOrder 13 [(0, .ref 74), (1, .ref 3), (2, .int (-2)), (3, .int (nI (0))), (4, .int (nI (256))), (5, .int (nI (0)))] [] (xmm u) Q) : xE mX7_takeBestOrder 0 [(0, .ref 74), (1, .ref 3)] [] (xmm u) Q := by
  refine xe_bipush (v := -2) dX7_takeBestOrder_0 xcbm2 ?_
  refine xe_istore_n (L2 := [(0, .ref 74), (1, .ref 3), (2, .int (-2))]) dX7_takeBestOrder_2 rfl (by decide) rfl ?_
  refine xe_iconst (v := nI (0)) dX7_takeBestOrder_3 xc0 ?_
  refine xe_istore_n (L2 := [(0, .ref 74), (1, .ref 3), (2, .int (-2)), (3, .int (nI (0)))]) dX7_takeBestOrder_4 rfl (by decide) rfl ?_
  refine xe_sipush (v := nI (256)) dX7_takeBestOrder_5 xcs256 ?_
  refine xe_istore (L2 := [(0, .ref 74), (1, .ref 3), (2, .int (-2)), (3, .int (nI (0))), (4, .int (nI (256)))]) dX7_takeBestOrder_8 (by decide) rfl ?_
  refine xe_iconst (v := nI (0)) dX7_takeBestOrder_10 xc0 ?_
  refine xe_istore (L2 := [(0, .ref 74), (1, .ref 3), (2, .int (-2)), (3, .int (nI (0))), (4, .int (nI (256))), (5, .int (nI (0)))]) dX7_takeBestOrder_11 (by decide) rfl ?_
  exact k1

theorem gX7_takeBestOrder_s (u : xU) (b c : Nat) (f : Int32) {Q : Option Value → xM → Prop} (hc : c < 256) (hmt : xC mX7_meetingsTogether [.ref 74, .ref 3, .int (nI c)] (xmm u) (fun r μ' => r = some (.int (-2)) ∧ μ' = xmm u)) 
    (k1 : 256 ≤ c → xE mX7_takeBestOrder 63 [(1, .ref 3), (2, .int (f)), (3, .int (nI (b))), (5, .int (nI (0)))] [] (xmm u) Q)
    (k2 : ¬ 256 ≤ c → xE mX7_takeBestOrder 13 [(0, .ref 74), (1, .ref 3), (2, .int (f)), (3, .int (nI (b))), (4, .int (nI (256))), (5, .int (nI (c + 1)))] [] (xmm u) Q) : xE mX7_takeBestOrder 13 [(0, .ref 74), (1, .ref 3), (2, .int (f)), (3, .int (nI (b))), (4, .int (nI (256))), (5, .int (nI (c)))] [] (xmm u) Q := by
  refine xe_iload 5 dX7_takeBestOrder_13 rfl ?_
  refine xe_iload 4 dX7_takeBestOrder_15 rfl ?_
  refine xn_icmp_ge 60 dX7_takeBestOrder_17 (by decide) (by omega) (by omega) (fun c1 => ?_) (fun c1 => ?_)
  · refine xe_iconst (v := nI (0)) dX7_takeBestOrder_60 xc0 ?_
    refine xe_istore (L2 := [(0, .ref 74), (1, .ref 3), (2, .int (f)), (3, .int (nI (b))), (4, .int (nI (256))), (5, .int (nI (0)))]) dX7_takeBestOrder_61 (by decide) rfl ?_
    refine xE.sub [1, 2, 3, 5] rfl ?_
    exact k1 c1
  · refine xe_aload_n 0 dX7_takeBestOrder_20 rfl rfl ?_
    refine xe_aload_n 1 dX7_takeBestOrder_21 rfl rfl ?_
    refine xe_iload 5 dX7_takeBestOrder_22 rfl ?_
    refine xe_callV (As := [.ref 3, .int (nI (c))]) (rest := []) dX7_takeBestOrder_24 wX7_meetingsTogether lX7_160 iX7_meetingsTogether sX7_meetingsTogether ⟨by decide, by decide⟩ sh74 rfl (xin_mm (by decide)) rfl rfl (by simp [Value.category]) (xC.pure (v := .int ((-2))) (hmt) ?_)
    refine xe_istore (L2 := [(0, .ref 74), (1, .ref 3), (2, .int (f)), (3, .int (nI (b))), (4, .int (nI (256))), (5, .int (nI (c))), (6, .int ((-2)))]) dX7_takeBestOrder_27 (by decide) rfl ?_
    refine xe_iload 6 dX7_takeBestOrder_29 rfl ?_
    refine xe_bipush (v := -2) dX7_takeBestOrder_31 xcbm2 ?_
    refine xe_icmp_eq 54 dX7_takeBestOrder_33 (by decide) (fun _ => ?_) (fun q => absurd rfl q)
    refine xn_iinc (c := 1) (L2 := [(0, .ref 74), (1, .ref 3), (2, .int (f)), (3, .int (nI (b))), (4, .int (nI (256))), (5, .int (nI (c + 1))), (6, .int ((-2)))]) 5 dX7_takeBestOrder_54 rfl (by decide) rfl ?_
    refine xe_goto 13 dX7_takeBestOrder_57 (by decide) ?_
    refine xE.sub [0, 1, 2, 3, 4, 5] rfl ?_
    exact k2 c1

theorem gX7_takeBestOrder_a (u : xU) (b c t : Nat) {Q : Option Value → xM → Prop} (hc : c < 256) (hmt : xC mX7_meetingsTogether [.ref 74, .ref 3, .int (nI c)] (xmm u) (fun r μ' => r = some (.int (nI t)) ∧ μ' = xmm u)) 
    (k1 : 256 ≤ c → xE mX7_takeBestOrder 63 [(1, .ref 3), (2, .int ((-2))), (3, .int (nI (b))), (5, .int (nI (0)))] [] (xmm u) Q)
    (k2 : ¬ 256 ≤ c → (nI (t)) = (-2) → xE mX7_takeBestOrder 13 [(0, .ref 74), (1, .ref 3), (2, .int ((-2))), (3, .int (nI (b))), (4, .int (nI (256))), (5, .int (nI (c + 1)))] [] (xmm u) Q)
    (k3 : ¬ 256 ≤ c → ¬ (nI (t)) = (-2) → xE mX7_takeBestOrder 13 [(0, .ref 74), (1, .ref 3), (2, .int (nI (t))), (3, .int (nI (c))), (4, .int (nI (256))), (5, .int (nI (c + 1)))] [] (xmm u) Q) : xE mX7_takeBestOrder 13 [(0, .ref 74), (1, .ref 3), (2, .int ((-2))), (3, .int (nI (b))), (4, .int (nI (256))), (5, .int (nI (c)))] [] (xmm u) Q := by
  refine xe_iload 5 dX7_takeBestOrder_13 rfl ?_
  refine xe_iload 4 dX7_takeBestOrder_15 rfl ?_
  refine xn_icmp_ge 60 dX7_takeBestOrder_17 (by decide) (by omega) (by omega) (fun c1 => ?_) (fun c1 => ?_)
  · refine xe_iconst (v := nI (0)) dX7_takeBestOrder_60 xc0 ?_
    refine xe_istore (L2 := [(0, .ref 74), (1, .ref 3), (2, .int ((-2))), (3, .int (nI (b))), (4, .int (nI (256))), (5, .int (nI (0)))]) dX7_takeBestOrder_61 (by decide) rfl ?_
    refine xE.sub [1, 2, 3, 5] rfl ?_
    exact k1 c1
  · refine xe_aload_n 0 dX7_takeBestOrder_20 rfl rfl ?_
    refine xe_aload_n 1 dX7_takeBestOrder_21 rfl rfl ?_
    refine xe_iload 5 dX7_takeBestOrder_22 rfl ?_
    refine xe_callV (As := [.ref 3, .int (nI (c))]) (rest := []) dX7_takeBestOrder_24 wX7_meetingsTogether lX7_160 iX7_meetingsTogether sX7_meetingsTogether ⟨by decide, by decide⟩ sh74 rfl (xin_mm (by decide)) rfl rfl (by simp [Value.category]) (xC.pure (v := .int (nI (t))) (hmt) ?_)
    refine xe_istore (L2 := [(0, .ref 74), (1, .ref 3), (2, .int ((-2))), (3, .int (nI (b))), (4, .int (nI (256))), (5, .int (nI (c))), (6, .int (nI (t)))]) dX7_takeBestOrder_27 (by decide) rfl ?_
    refine xe_iload 6 dX7_takeBestOrder_29 rfl ?_
    refine xe_bipush (v := -2) dX7_takeBestOrder_31 xcbm2 ?_
    refine xe_icmp_eq 54 dX7_takeBestOrder_33 (by decide) (fun c2 => ?_) (fun c2 => ?_)
    · refine xn_iinc (c := 1) (L2 := [(0, .ref 74), (1, .ref 3), (2, .int ((-2))), (3, .int (nI (b))), (4, .int (nI (256))), (5, .int (nI (c + 1))), (6, .int (nI (t)))]) 5 dX7_takeBestOrder_54 rfl (by decide) rfl ?_
      refine xe_goto 13 dX7_takeBestOrder_57 (by decide) ?_
      refine xE.sub [0, 1, 2, 3, 4, 5] rfl ?_
      exact k2 c1 c2
    · refine xe_iload_n 2 dX7_takeBestOrder_36 rfl rfl ?_
      refine xe_bipush (v := -2) dX7_takeBestOrder_37 xcbm2 ?_
      refine xe_icmp_eq 48 dX7_takeBestOrder_39 (by decide) (fun _ => ?_) (fun q => absurd rfl q)
      refine xe_iload 6 dX7_takeBestOrder_48 rfl ?_
      refine xe_istore_n (L2 := [(0, .ref 74), (1, .ref 3), (2, .int (nI (t))), (3, .int (nI (b))), (4, .int (nI (256))), (5, .int (nI (c))), (6, .int (nI (t)))]) dX7_takeBestOrder_50 rfl (by decide) rfl ?_
      refine xe_iload 5 dX7_takeBestOrder_51 rfl ?_
      refine xe_istore_n (L2 := [(0, .ref 74), (1, .ref 3), (2, .int (nI (t))), (3, .int (nI (c))), (4, .int (nI (256))), (5, .int (nI (c))), (6, .int (nI (t)))]) dX7_takeBestOrder_53 rfl (by decide) rfl ?_
      refine xn_iinc (c := 1) (L2 := [(0, .ref 74), (1, .ref 3), (2, .int (nI (t))), (3, .int (nI (c))), (4, .int (nI (256))), (5, .int (nI (c + 1))), (6, .int (nI (t)))]) 5 dX7_takeBestOrder_54 rfl (by decide) rfl ?_
      refine xe_goto 13 dX7_takeBestOrder_57 (by decide) ?_
      refine xE.sub [0, 1, 2, 3, 4, 5] rfl ?_
      exact k3 c1 c2

theorem gX7_takeBestOrder_b (u : xU) (b c t f : Nat) {Q : Option Value → xM → Prop} (hc : c < 256) (ht : t ≤ 2000) (hf : f ≤ 2000) (hmt : xC mX7_meetingsTogether [.ref 74, .ref 3, .int (nI c)] (xmm u) (fun r μ' => r = some (.int (nI t)) ∧ μ' = xmm u)) 
    (k1 : 256 ≤ c → xE mX7_takeBestOrder 63 [(1, .ref 3), (2, .int (nI (f))), (3, .int (nI (b))), (5, .int (nI (0)))] [] (xmm u) Q)
    (k2 : ¬ 256 ≤ c → (nI (t)) = (-2) → xE mX7_takeBestOrder 13 [(0, .ref 74), (1, .ref 3), (2, .int (nI (f))), (3, .int (nI (b))), (4, .int (nI (256))), (5, .int (nI (c + 1)))] [] (xmm u) Q)
    (k3 : ¬ 256 ≤ c → ¬ (nI (t)) = (-2) → (nI (f)) = (-2) → xE mX7_takeBestOrder 13 [(0, .ref 74), (1, .ref 3), (2, .int (nI (t))), (3, .int (nI (c))), (4, .int (nI (256))), (5, .int (nI (c + 1)))] [] (xmm u) Q)
    (k4 : ¬ 256 ≤ c → ¬ (nI (t)) = (-2) → ¬ (nI (f)) = (-2) → f ≤ t → xE mX7_takeBestOrder 13 [(0, .ref 74), (1, .ref 3), (2, .int (nI (f))), (3, .int (nI (b))), (4, .int (nI (256))), (5, .int (nI (c + 1)))] [] (xmm u) Q)
    (k5 : ¬ 256 ≤ c → ¬ (nI (t)) = (-2) → ¬ (nI (f)) = (-2) → ¬ f ≤ t → xE mX7_takeBestOrder 13 [(0, .ref 74), (1, .ref 3), (2, .int (nI (t))), (3, .int (nI (c))), (4, .int (nI (256))), (5, .int (nI (c + 1)))] [] (xmm u) Q) : xE mX7_takeBestOrder 13 [(0, .ref 74), (1, .ref 3), (2, .int (nI (f))), (3, .int (nI (b))), (4, .int (nI (256))), (5, .int (nI (c)))] [] (xmm u) Q := by
  refine xe_iload 5 dX7_takeBestOrder_13 rfl ?_
  refine xe_iload 4 dX7_takeBestOrder_15 rfl ?_
  refine xn_icmp_ge 60 dX7_takeBestOrder_17 (by decide) (by omega) (by omega) (fun c1 => ?_) (fun c1 => ?_)
  · refine xe_iconst (v := nI (0)) dX7_takeBestOrder_60 xc0 ?_
    refine xe_istore (L2 := [(0, .ref 74), (1, .ref 3), (2, .int (nI (f))), (3, .int (nI (b))), (4, .int (nI (256))), (5, .int (nI (0)))]) dX7_takeBestOrder_61 (by decide) rfl ?_
    refine xE.sub [1, 2, 3, 5] rfl ?_
    exact k1 c1
  · refine xe_aload_n 0 dX7_takeBestOrder_20 rfl rfl ?_
    refine xe_aload_n 1 dX7_takeBestOrder_21 rfl rfl ?_
    refine xe_iload 5 dX7_takeBestOrder_22 rfl ?_
    refine xe_callV (As := [.ref 3, .int (nI (c))]) (rest := []) dX7_takeBestOrder_24 wX7_meetingsTogether lX7_160 iX7_meetingsTogether sX7_meetingsTogether ⟨by decide, by decide⟩ sh74 rfl (xin_mm (by decide)) rfl rfl (by simp [Value.category]) (xC.pure (v := .int (nI (t))) (hmt) ?_)
    refine xe_istore (L2 := [(0, .ref 74), (1, .ref 3), (2, .int (nI (f))), (3, .int (nI (b))), (4, .int (nI (256))), (5, .int (nI (c))), (6, .int (nI (t)))]) dX7_takeBestOrder_27 (by decide) rfl ?_
    refine xe_iload 6 dX7_takeBestOrder_29 rfl ?_
    refine xe_bipush (v := -2) dX7_takeBestOrder_31 xcbm2 ?_
    refine xe_icmp_eq 54 dX7_takeBestOrder_33 (by decide) (fun c2 => ?_) (fun c2 => ?_)
    · refine xn_iinc (c := 1) (L2 := [(0, .ref 74), (1, .ref 3), (2, .int (nI (f))), (3, .int (nI (b))), (4, .int (nI (256))), (5, .int (nI (c + 1))), (6, .int (nI (t)))]) 5 dX7_takeBestOrder_54 rfl (by decide) rfl ?_
      refine xe_goto 13 dX7_takeBestOrder_57 (by decide) ?_
      refine xE.sub [0, 1, 2, 3, 4, 5] rfl ?_
      exact k2 c1 c2
    · refine xe_iload_n 2 dX7_takeBestOrder_36 rfl rfl ?_
      refine xe_bipush (v := -2) dX7_takeBestOrder_37 xcbm2 ?_
      refine xe_icmp_eq 48 dX7_takeBestOrder_39 (by decide) (fun c3 => ?_) (fun c3 => ?_)
      · refine xe_iload 6 dX7_takeBestOrder_48 rfl ?_
        refine xe_istore_n (L2 := [(0, .ref 74), (1, .ref 3), (2, .int (nI (t))), (3, .int (nI (b))), (4, .int (nI (256))), (5, .int (nI (c))), (6, .int (nI (t)))]) dX7_takeBestOrder_50 rfl (by decide) rfl ?_
        refine xe_iload 5 dX7_takeBestOrder_51 rfl ?_
        refine xe_istore_n (L2 := [(0, .ref 74), (1, .ref 3), (2, .int (nI (t))), (3, .int (nI (c))), (4, .int (nI (256))), (5, .int (nI (c))), (6, .int (nI (t)))]) dX7_takeBestOrder_53 rfl (by decide) rfl ?_
        refine xn_iinc (c := 1) (L2 := [(0, .ref 74), (1, .ref 3), (2, .int (nI (t))), (3, .int (nI (c))), (4, .int (nI (256))), (5, .int (nI (c + 1))), (6, .int (nI (t)))]) 5 dX7_takeBestOrder_54 rfl (by decide) rfl ?_
        refine xe_goto 13 dX7_takeBestOrder_57 (by decide) ?_
        refine xE.sub [0, 1, 2, 3, 4, 5] rfl ?_
        exact k3 c1 c2 c3
      · refine xe_iload 6 dX7_takeBestOrder_42 rfl ?_
        refine xe_iload_n 2 dX7_takeBestOrder_44 rfl rfl ?_
        refine xn_icmp_ge 54 dX7_takeBestOrder_45 (by decide) (by omega) (by omega) (fun c4 => ?_) (fun c4 => ?_)
        · refine xn_iinc (c := 1) (L2 := [(0, .ref 74), (1, .ref 3), (2, .int (nI (f))), (3, .int (nI (b))), (4, .int (nI (256))), (5, .int (nI (c + 1))), (6, .int (nI (t)))]) 5 dX7_takeBestOrder_54 rfl (by decide) rfl ?_
          refine xe_goto 13 dX7_takeBestOrder_57 (by decide) ?_
          refine xE.sub [0, 1, 2, 3, 4, 5] rfl ?_
          exact k4 c1 c2 c3 c4
        · refine xe_iload 6 dX7_takeBestOrder_48 rfl ?_
          refine xe_istore_n (L2 := [(0, .ref 74), (1, .ref 3), (2, .int (nI (t))), (3, .int (nI (b))), (4, .int (nI (256))), (5, .int (nI (c))), (6, .int (nI (t)))]) dX7_takeBestOrder_50 rfl (by decide) rfl ?_
          refine xe_iload 5 dX7_takeBestOrder_51 rfl ?_
          refine xe_istore_n (L2 := [(0, .ref 74), (1, .ref 3), (2, .int (nI (t))), (3, .int (nI (c))), (4, .int (nI (256))), (5, .int (nI (c))), (6, .int (nI (t)))]) dX7_takeBestOrder_53 rfl (by decide) rfl ?_
          refine xn_iinc (c := 1) (L2 := [(0, .ref 74), (1, .ref 3), (2, .int (nI (t))), (3, .int (nI (c))), (4, .int (nI (256))), (5, .int (nI (c + 1))), (6, .int (nI (t)))]) 5 dX7_takeBestOrder_54 rfl (by decide) rfl ?_
          refine xe_goto 13 dX7_takeBestOrder_57 (by decide) ?_
          refine xE.sub [0, 1, 2, 3, 4, 5] rfl ?_
          exact k5 c1 c2 c3 c4

theorem gX7_takeBestOrder_e (u : xU) (b c : Nat) (f : Int32) {Q : Option Value → xM → Prop} (hc : c = 256) 
    (k1 : 256 ≤ c → xE mX7_takeBestOrder 63 [(1, .ref 3), (2, .int (f)), (3, .int (nI (b))), (5, .int (nI (0)))] [] (xmm u) Q)
    (k2 : ¬ 256 ≤ c → xE mX7_takeBestOrder 20 [(0, .ref 74), (1, .ref 3), (2, .int (f)), (3, .int (nI (b))), (4, .int (nI (256))), (5, .int (nI (c)))] [] (xmm u) Q) : xE mX7_takeBestOrder 13 [(0, .ref 74), (1, .ref 3), (2, .int (f)), (3, .int (nI (b))), (4, .int (nI (256))), (5, .int (nI (c)))] [] (xmm u) Q := by
  refine xe_iload 5 dX7_takeBestOrder_13 rfl ?_
  refine xe_iload 4 dX7_takeBestOrder_15 rfl ?_
  refine xn_icmp_ge 60 dX7_takeBestOrder_17 (by decide) (by omega) (by omega) (fun c1 => ?_) (fun c1 => ?_)
  · refine xe_iconst (v := nI (0)) dX7_takeBestOrder_60 xc0 ?_
    refine xe_istore (L2 := [(0, .ref 74), (1, .ref 3), (2, .int (f)), (3, .int (nI (b))), (4, .int (nI (256))), (5, .int (nI (0)))]) dX7_takeBestOrder_61 (by decide) rfl ?_
    refine xE.sub [1, 2, 3, 5] rfl ?_
    exact k1 c1
  · exact k2 c1

theorem gX7_takeBestOrder_n (u : xU) (b i : Nat) {Q : Option Value → xM → Prop}  
    (k1 : Q (some (.int ((-2)))) (xmm u)) : xE mX7_takeBestOrder 63 [(1, .ref 3), (2, .int ((-2))), (3, .int (nI (b))), (5, .int (nI (i)))] [] (xmm u) Q := by
  refine xe_iload_n 1 dX7_takeBestOrder_63 rfl rfl ?_
  refine xe_bipush (v := -2) dX7_takeBestOrder_64 xcbm2 ?_
  refine xe_icmp_eq 97 dX7_takeBestOrder_66 (by decide) (fun _ => ?_) (fun q => absurd rfl q)
  refine xe_iload_n 1 dX7_takeBestOrder_97 rfl rfl ?_
  exact xe_ret (r := (some (.int ((-2))))) dX7_takeBestOrder_98 trivial (k1)

theorem gX7_takeBestOrder_63 (u : xU) (b i f n nm : Nat) {Q : Option Value → xM → Prop} (hn : n ≤ 4) (hi : i < n) (hcn : xC mX7_codedName [.int (nI b), .int (nI i)] (xmm u) (fun r μ' => r = some (.int (nI nm)) ∧ μ' = xmm u)) (v1 : u.1 3 0 = nI (n))
    (k1 : (nI (f)) = (-2) → Q (some (.int (nI (f)))) (xmm u))
    (k2 : ¬ (nI (f)) = (-2) → n ≤ i → Q (some (.int (nI (f)))) (xmm u))
    (k3 : ¬ (nI (f)) = (-2) → ¬ n ≤ i → xE mX7_takeBestOrder 63 [(1, .ref 3), (2, .int (nI (f))), (3, .int (nI (b))), (5, .int (nI (i + 1)))] [] (xmm (wi u 5 i (nI (nm)))) Q) : xE mX7_takeBestOrder 63 [(1, .ref 3), (2, .int (nI (f))), (3, .int (nI (b))), (5, .int (nI (i)))] [] (xmm u) Q := by
  refine xe_iload_n 1 dX7_takeBestOrder_63 rfl rfl ?_
  refine xe_bipush (v := -2) dX7_takeBestOrder_64 xcbm2 ?_
  refine xe_icmp_eq 97 dX7_takeBestOrder_66 (by decide) (fun c1 => ?_) (fun c1 => ?_)
  · refine xe_iload_n 1 dX7_takeBestOrder_97 rfl rfl ?_
    exact xe_ret (r := (some (.int (nI (f))))) dX7_takeBestOrder_98 trivial (k1 c1)
  · refine xe_iload 3 dX7_takeBestOrder_69 rfl ?_
    refine xe_aload_n 0 dX7_takeBestOrder_71 rfl rfl ?_
    refine xr_getI (v := nI (n)) dX7_takeBestOrder_72 fX7_85 sh3 (by decide) v1 ?_
    refine xn_icmp_ge 97 dX7_takeBestOrder_75 (by decide) (by omega) (by omega) (fun c2 => ?_) (fun c2 => ?_)
    · refine xe_iload_n 1 dX7_takeBestOrder_97 rfl rfl ?_
      exact xe_ret (r := (some (.int (nI (f))))) dX7_takeBestOrder_98 trivial (k2 c1 c2)
    · refine xe_aload_n 0 dX7_takeBestOrder_78 rfl rfl ?_
      refine xr_getR (b := 5) dX7_takeBestOrder_79 fX7_106 rfl sh3 (by decide) rfl ?_
      refine xe_iload 3 dX7_takeBestOrder_82 rfl ?_
      refine xe_iload_n 2 dX7_takeBestOrder_84 rfl rfl ?_
      refine xe_iload 3 dX7_takeBestOrder_85 rfl ?_
      refine xe_callS (As := [.int (nI (b)), .int (nI (i))]) (rest := [.int (nI (i)), .ref 5]) dX7_takeBestOrder_87 wX7_codedName lX7_163 tX7_codedName ⟨by decide, by decide⟩ rfl rfl (by simp [Value.category]) (xC.pure (v := .int (nI (nm))) (hcn) ?_)
      refine xr_iast (k := i) dX7_takeBestOrder_90 sh5 (by decide) (by omega) (by decide) ?_
      refine xn_iinc (c := 1) (L2 := [(1, .ref 3), (2, .int (nI (f))), (3, .int (nI (b))), (5, .int (nI (i + 1)))]) 3 dX7_takeBestOrder_91 rfl (by decide) rfl ?_
      refine xe_goto 63 dX7_takeBestOrder_94 (by decide) ?_
      exact k3 c1 c2

theorem gX7_takeBestOrder_63e (u : xU) (b i f n : Nat) {Q : Option Value → xM → Prop} (hn : n ≤ 4) (hi : i = n) (v1 : u.1 3 0 = nI (n))
    (k1 : (nI (f)) = (-2) → Q (some (.int (nI (f)))) (xmm u))
    (k2 : ¬ (nI (f)) = (-2) → n ≤ i → Q (some (.int (nI (f)))) (xmm u))
    (k3 : ¬ (nI (f)) = (-2) → ¬ n ≤ i → xE mX7_takeBestOrder 78 [(1, .ref 3), (2, .int (nI (f))), (3, .int (nI (b))), (5, .int (nI (i)))] [] (xmm u) Q) : xE mX7_takeBestOrder 63 [(1, .ref 3), (2, .int (nI (f))), (3, .int (nI (b))), (5, .int (nI (i)))] [] (xmm u) Q := by
  refine xe_iload_n 1 dX7_takeBestOrder_63 rfl rfl ?_
  refine xe_bipush (v := -2) dX7_takeBestOrder_64 xcbm2 ?_
  refine xe_icmp_eq 97 dX7_takeBestOrder_66 (by decide) (fun c1 => ?_) (fun c1 => ?_)
  · refine xe_iload_n 1 dX7_takeBestOrder_97 rfl rfl ?_
    exact xe_ret (r := (some (.int (nI (f))))) dX7_takeBestOrder_98 trivial (k1 c1)
  · refine xe_iload 3 dX7_takeBestOrder_69 rfl ?_
    refine xe_aload_n 0 dX7_takeBestOrder_71 rfl rfl ?_
    refine xr_getI (v := nI (n)) dX7_takeBestOrder_72 fX7_85 sh3 (by decide) v1 ?_
    refine xn_icmp_ge 97 dX7_takeBestOrder_75 (by decide) (by omega) (by omega) (fun c2 => ?_) (fun c2 => ?_)
    · refine xe_iload_n 1 dX7_takeBestOrder_97 rfl rfl ?_
      exact xe_ret (r := (some (.int (nI (f))))) dX7_takeBestOrder_98 trivial (k2 c1 c2)
    · exact k3 c1 c2

theorem gX7_lastNameFor_0 (u : xU) (S : Nat) {Q : Option Value → xM → Prop}  
    (k1 : xE mX7_lastNameFor 2 [(0, .ref 74), (1, .ref 3), (2, .int (nI (S))), (3, .int (nI (0)))] [] (xmm u) Q) : xE mX7_lastNameFor 0 [(0, .ref 74), (1, .ref 3), (2, .int (nI (S)))] [] (xmm u) Q := by
  refine xe_iconst (v := nI (0)) dX7_lastNameFor_0 xc0 ?_
  refine xe_istore_n (L2 := [(0, .ref 74), (1, .ref 3), (2, .int (nI (S))), (3, .int (nI (0)))]) dX7_lastNameFor_1 rfl (by decide) rfl ?_
  exact k1

theorem gX7_lastNameFor_2 (u : xU) (S k n : Nat) {Q : Option Value → xM → Prop} (hn : n ≤ 4) (hk : k ≤ n) (v1 : u.1 3 0 = nI (n))
    (k1 : n ≤ k → Q (some (.int (-1))) (xmm u))
    (k2 : ¬ n ≤ k → xE mX7_lastNameFor 19 [(0, .ref 74), (1, .ref 3), (2, .int (nI (S))), (3, .int (nI (k))), (4, .int ((nI (S)) &&& ((1 <<< ((nI (k)) &&& 31)) ^^^ (-1))))] [] (xmm u) Q) : xE mX7_lastNameFor 2 [(0, .ref 74), (1, .ref 3), (2, .int (nI (S))), (3, .int (nI (k)))] [] (xmm u) Q := by
  refine xe_iload_n 3 dX7_lastNameFor_2 rfl rfl ?_
  refine xe_aload_n 1 dX7_lastNameFor_3 rfl rfl ?_
  refine xr_getI (v := nI (n)) dX7_lastNameFor_4 fX7_85 sh3 (by decide) v1 ?_
  refine xn_icmp_ge 45 dX7_lastNameFor_7 (by decide) (by omega) (by omega) (fun c1 => ?_) (fun c1 => ?_)
  · refine xe_iconst (v := -1) dX7_lastNameFor_45 xcm1 ?_
    exact xe_ret (r := (some (.int (-1)))) dX7_lastNameFor_46 trivial (k1 c1)
  · refine xe_iload_n 2 dX7_lastNameFor_10 rfl rfl ?_
    refine xe_iconst (v := nI (1)) dX7_lastNameFor_11 xc1 ?_
    refine xe_iload_n 3 dX7_lastNameFor_12 rfl rfl ?_
    refine xe_ishl dX7_lastNameFor_13 ?_
    refine xe_iconst (v := -1) dX7_lastNameFor_14 xcm1 ?_
    refine xe_ixor dX7_lastNameFor_15 ?_
    refine xe_iand dX7_lastNameFor_16 ?_
    refine xe_istore (L2 := [(0, .ref 74), (1, .ref 3), (2, .int (nI (S))), (3, .int (nI (k))), (4, .int ((nI (S)) &&& ((1 <<< ((nI (k)) &&& 31)) ^^^ (-1))))]) dX7_lastNameFor_17 (by decide) rfl ?_
    exact k2 c1

theorem gX7_lastNameFor_19 (u : xU) (S k R : Nat) (x : Int32) {Q : Option Value → xM → Prop} (hS : S < 16) (hk : k < 4) (hR : R < 16) (v1 : u.1 153 R = x)
    (k1 : R = S → xE mX7_lastNameFor 2 [(0, .ref 74), (1, .ref 3), (2, .int (nI (S))), (3, .int (nI (k + 1)))] [] (xmm u) Q)
    (k2 : ¬ R = S → x = (-2) → xE mX7_lastNameFor 2 [(0, .ref 74), (1, .ref 3), (2, .int (nI (S))), (3, .int (nI (k + 1)))] [] (xmm u) Q)
    (k3 : ¬ R = S → ¬ x = (-2) → Q (some (.int (nI (k)))) (xmm u)) : xE mX7_lastNameFor 19 [(0, .ref 74), (1, .ref 3), (2, .int (nI (S))), (3, .int (nI (k))), (4, .int (nI (R)))] [] (xmm u) Q := by
  refine xe_iload 4 dX7_lastNameFor_19 rfl ?_
  refine xe_iload_n 2 dX7_lastNameFor_21 rfl rfl ?_
  refine xn_icmp_eq 39 dX7_lastNameFor_22 (by decide) (by omega) (by omega) (fun c1 => ?_) (fun c1 => ?_)
  · refine xn_iinc (c := 1) (L2 := [(0, .ref 74), (1, .ref 3), (2, .int (nI (S))), (3, .int (nI (k + 1))), (4, .int (nI (R)))]) 3 dX7_lastNameFor_39 rfl (by decide) rfl ?_
    refine xe_goto 2 dX7_lastNameFor_42 (by decide) ?_
    refine xE.sub [0, 1, 2, 3] rfl ?_
    exact k1 c1
  · refine xe_aload_n 0 dX7_lastNameFor_25 rfl rfl ?_
    refine xr_getR (b := 153) dX7_lastNameFor_26 fX7_47 rfl sh74 (by decide) rfl ?_
    refine xe_iload 4 dX7_lastNameFor_29 rfl ?_
    refine xr_iald (k := R) (v := x) dX7_lastNameFor_31 sh153 (by decide) (by omega) (by decide) v1 ?_
    refine xe_bipush (v := -2) dX7_lastNameFor_32 xcbm2 ?_
    refine xe_icmp_eq 39 dX7_lastNameFor_34 (by decide) (fun c2 => ?_) (fun c2 => ?_)
    · refine xn_iinc (c := 1) (L2 := [(0, .ref 74), (1, .ref 3), (2, .int (nI (S))), (3, .int (nI (k + 1))), (4, .int (nI (R)))]) 3 dX7_lastNameFor_39 rfl (by decide) rfl ?_
      refine xe_goto 2 dX7_lastNameFor_42 (by decide) ?_
      refine xE.sub [0, 1, 2, 3] rfl ?_
      exact k2 c1 c2
    · refine xe_iload_n 3 dX7_lastNameFor_37 rfl rfl ?_
      exact xe_ret (r := (some (.int (nI (k))))) dX7_lastNameFor_38 trivial (k3 c1 c2)

theorem gX7_lineUp_0 (u : xU) (S h : Nat) {Q : Option Value → xM → Prop} (hh : 1 ≤ h) (hbi : xC mJ6_bitCount_0f7a4 [.int (nI S)] (xmm u) (fun r μ' => r = some (.int (nI h)) ∧ μ' = xmm u)) 
    (k1 : xE mX7_lineUp 12 [(0, .ref 74), (2, .int (nI (h))), (3, .int (nI (S))), (4, .int (nI (h - 1)))] [] (xmm u) Q) : xE mX7_lineUp 0 [(0, .ref 74), (1, .int (nI (S)))] [] (xmm u) Q := by
  refine xe_iload_n 1 dX7_lineUp_0 rfl rfl ?_
  refine xe_callS (As := [.int (nI (S))]) (rest := []) dX7_lineUp_1 wJ6_bitCount_0f7a4 lX7_166 tJ6_bitCount_0f7a4 ⟨by decide, by decide⟩ rfl rfl (by simp [Value.category]) (xC.pure (v := .int (nI (h))) (hbi) ?_)
  refine xe_istore_n (L2 := [(0, .ref 74), (1, .int (nI (S))), (2, .int (nI (h)))]) dX7_lineUp_4 rfl (by decide) rfl ?_
  refine xe_iload_n 1 dX7_lineUp_5 rfl rfl ?_
  refine xe_istore_n (L2 := [(0, .ref 74), (1, .int (nI (S))), (2, .int (nI (h))), (3, .int (nI (S)))]) dX7_lineUp_6 rfl (by decide) rfl ?_
  refine xe_iload_n 2 dX7_lineUp_7 rfl rfl ?_
  refine xe_iconst (v := nI (1)) dX7_lineUp_8 xc1 ?_
  refine xn_isub dX7_lineUp_9 (by omega) ?_
  refine xe_istore (L2 := [(0, .ref 74), (1, .int (nI (S))), (2, .int (nI (h))), (3, .int (nI (S))), (4, .int (nI (h - 1)))]) dX7_lineUp_10 (by decide) rfl ?_
  refine xE.sub [0, 2, 3, 4] rfl ?_
  exact k1

theorem gX7_lineUp_12 (u : xU) (h S i k : Nat) {Q : Option Value → xM → Prop} (hi : i < 4) (hS : S < 16) (hk : k < 4) (v1 : u.1 154 S = nI (k))
    (k1 : xE mX7_lineUp 43 [(0, .ref 74), (2, .int (nI (h))), (3, .int ((nI (S)) &&& ((1 <<< ((nI (k)) &&& 31)) ^^^ (-1)))), (4, .int (nI (i)))] [] (xmm (wi u 155 i (nI (k)))) Q) : xE mX7_lineUp 12 [(0, .ref 74), (2, .int (nI (h))), (3, .int (nI (S))), (4, .int (nI (i)))] [] (xmm u) Q := by
  refine xe_iload 3 dX7_lineUp_12 rfl ?_
  refine xn_if_lt 49 dX7_lineUp_14 (by decide) (by omega) (fun q => absurd q (by omega)) (fun _ => ?_)
  refine xe_aload_n 0 dX7_lineUp_17 rfl rfl ?_
  refine xr_getR (b := 155) dX7_lineUp_18 fX7_53 rfl sh74 (by decide) rfl ?_
  refine xe_iload 3 dX7_lineUp_21 rfl ?_
  refine xe_aload_n 0 dX7_lineUp_23 rfl rfl ?_
  refine xr_getR (b := 154) dX7_lineUp_24 fX7_50 rfl sh74 (by decide) rfl ?_
  refine xe_iload_n 2 dX7_lineUp_27 rfl rfl ?_
  refine xr_iald (k := S) (v := nI (k)) dX7_lineUp_28 sh154 (by decide) (by omega) (by decide) v1 ?_
  refine xr_iast (k := i) dX7_lineUp_29 sh155 (by decide) (by omega) (by decide) ?_
  refine xe_iload_n 2 dX7_lineUp_30 rfl rfl ?_
  refine xe_iconst (v := nI (1)) dX7_lineUp_31 xc1 ?_
  refine xe_aload_n 0 dX7_lineUp_32 rfl rfl ?_
  refine xr_getR (b := 154) dX7_lineUp_33 fX7_50 rfl sh74 (by decide) rfl ?_
  refine xe_iload_n 2 dX7_lineUp_36 rfl rfl ?_
  refine xr_iald (k := S) (v := nI (k)) dX7_lineUp_37 sh154 (by decide) (by omega) (by decide) ((wi_ne (by omega)).trans v1) ?_
  refine xe_ishl dX7_lineUp_38 ?_
  refine xe_iconst (v := -1) dX7_lineUp_39 xcm1 ?_
  refine xe_ixor dX7_lineUp_40 ?_
  refine xe_iand dX7_lineUp_41 ?_
  refine xe_istore_n (L2 := [(0, .ref 74), (2, .int (nI (h))), (3, .int ((nI (S)) &&& ((1 <<< ((nI (k)) &&& 31)) ^^^ (-1)))), (4, .int (nI (i)))]) dX7_lineUp_42 rfl (by decide) rfl ?_
  exact k1

theorem gX7_lineUp_43 (u : xU) (h S i : Nat) {Q : Option Value → xM → Prop} (hi : 1 ≤ i) 
    (k1 : xE mX7_lineUp 12 [(0, .ref 74), (2, .int (nI (h))), (3, .int (nI (S))), (4, .int (nI (i - 1)))] [] (xmm u) Q) : xE mX7_lineUp 43 [(0, .ref 74), (2, .int (nI (h))), (3, .int (nI (S))), (4, .int (nI (i)))] [] (xmm u) Q := by
  refine xn_idec (L2 := [(0, .ref 74), (2, .int (nI (h))), (3, .int (nI (S))), (4, .int (nI (i - 1)))]) 3 dX7_lineUp_43 rfl (by omega) (by decide) rfl ?_
  refine xe_goto 12 dX7_lineUp_46 (by decide) ?_
  exact k1

theorem gX7_lineUp_z (u : xU) (h S : Nat) {Q : Option Value → xM → Prop}  
    (k1 : xE mX7_lineUp 12 [(0, .ref 74), (2, .int (nI (h))), (3, .int (nI (S))), (4, .int ((-1)))] [] (xmm u) Q) : xE mX7_lineUp 43 [(0, .ref 74), (2, .int (nI (h))), (3, .int (nI (S))), (4, .int (nI (0)))] [] (xmm u) Q := by
  refine xe_iinc (v := (-1)) (L2 := [(0, .ref 74), (2, .int (nI (h))), (3, .int (nI (S))), (4, .int ((-1)))]) 3 dX7_lineUp_43 rfl (by decide) (by decide) rfl ?_
  refine xe_goto 12 dX7_lineUp_46 (by decide) ?_
  exact k1

theorem gX7_lineUp_e (u : xU) (h S : Nat) {Q : Option Value → xM → Prop}  
    (k1 : Q (some (.int (nI (h)))) (xmm u)) : xE mX7_lineUp 12 [(0, .ref 74), (2, .int (nI (h))), (3, .int (nI (S))), (4, .int ((-1)))] [] (xmm u) Q := by
  refine xe_iload 3 dX7_lineUp_12 rfl ?_
  refine xe_if_lt 49 dX7_lineUp_14 (by decide) (fun _ => ?_) (fun q => absurd (by decide) q)
  refine xe_iload_n 1 dX7_lineUp_49 rfl rfl ?_
  exact xe_ret (r := (some (.int (nI (h))))) dX7_lineUp_50 trivial (k1)

theorem gX7_meetEachSet_0 (u : xU) (n : Nat) {Q : Option Value → xM → Prop} (hn : n ≤ 4) (v1 : u.1 3 0 = nI (n))
    (k1 : xE mX7_meetEachSet 12 [(0, .ref 74), (1, .ref 3), (2, .int (if 1 <<< ((nI (n)) &&& 31) < 16 then 1 <<< ((nI (n)) &&& 31) else 16))] [] (xmm u) Q) : xE mX7_meetEachSet 0 [(0, .ref 74), (1, .ref 3)] [] (xmm u) Q := by
  refine xe_bipush (v := nI (16)) dX7_meetEachSet_0 xcb16 ?_
  refine xe_iconst (v := nI (1)) dX7_meetEachSet_2 xc1 ?_
  refine xe_aload_n 1 dX7_meetEachSet_3 rfl rfl ?_
  refine xr_getI (v := nI (n)) dX7_meetEachSet_4 fX7_85 sh3 (by decide) v1 ?_
  refine xe_ishl dX7_meetEachSet_7 ?_
  refine xe_mmin dX7_meetEachSet_8 lX7_147 xmath_min xmathi xmathc_min (by decide) ?_
  refine xe_istore_n (L2 := [(0, .ref 74), (1, .ref 3), (2, .int (if 1 <<< ((nI (n)) &&& 31) < 16 then 1 <<< ((nI (n)) &&& 31) else 16))]) dX7_meetEachSet_11 rfl (by decide) rfl ?_
  exact k1

theorem gX7_meetEachSet_12 (u : xU) (ss : Nat) (x : Int32) {Q : Option Value → xM → Prop}  (v1 : u.1 146 0 = x)
    (k1 : xE mX7_meetEachSet 26 [(0, .ref 74), (1, .ref 3), (2, .int (nI (ss))), (3, .int (nI (1)))] [] (xmm (wi u 153 0 (x))) Q) : xE mX7_meetEachSet 12 [(0, .ref 74), (1, .ref 3), (2, .int (nI (ss)))] [] (xmm u) Q := by
  refine xe_aload_n 0 dX7_meetEachSet_12 rfl rfl ?_
  refine xr_getR (b := 153) dX7_meetEachSet_13 fX7_47 rfl sh74 (by decide) rfl ?_
  refine xe_iconst (v := nI (0)) dX7_meetEachSet_16 xc0 ?_
  refine xe_aload_n 0 dX7_meetEachSet_17 rfl rfl ?_
  refine xr_getR (b := 146) dX7_meetEachSet_18 fX7_32 rfl sh74 (by decide) rfl ?_
  refine xe_iconst (v := nI (0)) dX7_meetEachSet_21 xc0 ?_
  refine xr_iald (k := 0) (v := x) dX7_meetEachSet_22 sh146 (by decide) (by omega) (by decide) v1 ?_
  refine xr_iast (k := 0) dX7_meetEachSet_23 sh153 (by decide) (by omega) (by decide) ?_
  refine xe_iconst (v := nI (1)) dX7_meetEachSet_24 xc1 ?_
  refine xe_istore_n (L2 := [(0, .ref 74), (1, .ref 3), (2, .int (nI (ss))), (3, .int (nI (1)))]) dX7_meetEachSet_25 rfl (by decide) rfl ?_
  exact k1

theorem gX7_meetEachSet_n (u : xU) (ss S : Nat) {Q : Option Value → xM → Prop} (hss : ss ≤ 16) (hS : S < ss) (hln : xC mX7_lastNameFor [.ref 74, .ref 3, .int (nI S)] (xmm u) (fun r μ' => r = some (.int (-1)) ∧ μ' = xmm u)) 
    (k1 : ss ≤ S → Q none (xmm u))
    (k2 : ¬ ss ≤ S → xE mX7_meetEachSet 26 [(0, .ref 74), (1, .ref 3), (2, .int (nI (ss))), (3, .int (nI (S + 1)))] [] (xmm (wi (wi u 154 S ((-1))) 153 S (-2))) Q) : xE mX7_meetEachSet 26 [(0, .ref 74), (1, .ref 3), (2, .int (nI (ss))), (3, .int (nI (S)))] [] (xmm u) Q := by
  refine xe_iload_n 3 dX7_meetEachSet_26 rfl rfl ?_
  refine xe_iload_n 2 dX7_meetEachSet_27 rfl rfl ?_
  refine xn_icmp_ge 84 dX7_meetEachSet_28 (by decide) (by omega) (by omega) (fun c1 => ?_) (fun c1 => ?_)
  · exact xe_ret (r := none) dX7_meetEachSet_84 trivial (k1 c1)
  · refine xe_aload_n 0 dX7_meetEachSet_31 rfl rfl ?_
    refine xr_getR (b := 154) dX7_meetEachSet_32 fX7_50 rfl sh74 (by decide) rfl ?_
    refine xe_iload_n 3 dX7_meetEachSet_35 rfl rfl ?_
    refine xe_aload_n 0 dX7_meetEachSet_36 rfl rfl ?_
    refine xe_aload_n 1 dX7_meetEachSet_37 rfl rfl ?_
    refine xe_iload_n 3 dX7_meetEachSet_38 rfl rfl ?_
    refine xe_callV (As := [.ref 3, .int (nI (S))]) (rest := [.int (nI (S)), .ref 154]) dX7_meetEachSet_39 wX7_lastNameFor lX7_152 iX7_lastNameFor sX7_lastNameFor ⟨by decide, by decide⟩ sh74 rfl (xin_mm (by decide)) rfl rfl (by simp [Value.category]) (xC.pure (v := .int ((-1))) (hln) ?_)
    refine xr_iast (k := S) dX7_meetEachSet_42 sh154 (by decide) (by omega) (by decide) ?_
    refine xe_aload_n 0 dX7_meetEachSet_43 rfl rfl ?_
    refine xr_getR (b := 153) dX7_meetEachSet_44 fX7_47 rfl sh74 (by decide) rfl ?_
    refine xe_iload_n 3 dX7_meetEachSet_47 rfl rfl ?_
    refine xe_aload_n 0 dX7_meetEachSet_48 rfl rfl ?_
    refine xr_getR (b := 154) dX7_meetEachSet_49 fX7_50 rfl sh74 (by decide) rfl ?_
    refine xe_iload_n 3 dX7_meetEachSet_52 rfl rfl ?_
    refine xr_iald (k := S) (v := (-1)) dX7_meetEachSet_53 sh154 (by decide) (by omega) (by decide) wi_self ?_
    refine xe_iconst (v := -1) dX7_meetEachSet_54 xcm1 ?_
    refine xe_icmp_ne 63 dX7_meetEachSet_55 (by decide) (fun q => absurd rfl q) (fun _ => ?_)
    refine xe_bipush (v := -2) dX7_meetEachSet_58 xcbm2 ?_
    refine xe_goto 77 dX7_meetEachSet_60 (by decide) ?_
    refine xr_iast (k := S) dX7_meetEachSet_77 sh153 (by decide) (by omega) (by decide) ?_
    refine xn_iinc (c := 1) (L2 := [(0, .ref 74), (1, .ref 3), (2, .int (nI (ss))), (3, .int (nI (S + 1)))]) 3 dX7_meetEachSet_78 rfl (by decide) rfl ?_
    refine xe_goto 26 dX7_meetEachSet_81 (by decide) ?_
    exact k2 c1

theorem gX7_meetEachSet_t (u : xU) (ss S k : Nat) {Q : Option Value → xM → Prop} (hss : ss ≤ 16) (hS : S < ss) (hk : k < 4) (hln : xC mX7_lastNameFor [.ref 74, .ref 3, .int (nI S)] (xmm u) (fun r μ' => r = some (.int (nI k)) ∧ μ' = xmm u)) 
    (k1 : ss ≤ S → Q none (xmm u))
    (k2 : ¬ ss ≤ S → ¬ (nI (k)) = (-1) → xC mX7_lineUp [.ref 74, .int (nI (S))] (xmm (wi u 154 S (nI (k)))) (fun r μ1 => xE mX7_meetEachSet 74 [(0, .ref 74), (1, .ref 3), (2, .int (nI (ss))), (3, .int (nI (S)))] (r.toList ++ [.ref 155, .ref 3, .ref 74, .int (nI (S)), .ref 153]) μ1 Q))
    (k3 : ¬ ss ≤ S → (nI (k)) = (-1) → xE mX7_meetEachSet 26 [(0, .ref 74), (1, .ref 3), (2, .int (nI (ss))), (3, .int (nI (S + 1)))] [] (xmm (wi (wi u 154 S (nI (k))) 153 S (-2))) Q) : xE mX7_meetEachSet 26 [(0, .ref 74), (1, .ref 3), (2, .int (nI (ss))), (3, .int (nI (S)))] [] (xmm u) Q := by
  refine xe_iload_n 3 dX7_meetEachSet_26 rfl rfl ?_
  refine xe_iload_n 2 dX7_meetEachSet_27 rfl rfl ?_
  refine xn_icmp_ge 84 dX7_meetEachSet_28 (by decide) (by omega) (by omega) (fun c1 => ?_) (fun c1 => ?_)
  · exact xe_ret (r := none) dX7_meetEachSet_84 trivial (k1 c1)
  · refine xe_aload_n 0 dX7_meetEachSet_31 rfl rfl ?_
    refine xr_getR (b := 154) dX7_meetEachSet_32 fX7_50 rfl sh74 (by decide) rfl ?_
    refine xe_iload_n 3 dX7_meetEachSet_35 rfl rfl ?_
    refine xe_aload_n 0 dX7_meetEachSet_36 rfl rfl ?_
    refine xe_aload_n 1 dX7_meetEachSet_37 rfl rfl ?_
    refine xe_iload_n 3 dX7_meetEachSet_38 rfl rfl ?_
    refine xe_callV (As := [.ref 3, .int (nI (S))]) (rest := [.int (nI (S)), .ref 154]) dX7_meetEachSet_39 wX7_lastNameFor lX7_152 iX7_lastNameFor sX7_lastNameFor ⟨by decide, by decide⟩ sh74 rfl (xin_mm (by decide)) rfl rfl (by simp [Value.category]) (xC.pure (v := .int (nI (k))) (hln) ?_)
    refine xr_iast (k := S) dX7_meetEachSet_42 sh154 (by decide) (by omega) (by decide) ?_
    refine xe_aload_n 0 dX7_meetEachSet_43 rfl rfl ?_
    refine xr_getR (b := 153) dX7_meetEachSet_44 fX7_47 rfl sh74 (by decide) rfl ?_
    refine xe_iload_n 3 dX7_meetEachSet_47 rfl rfl ?_
    refine xe_aload_n 0 dX7_meetEachSet_48 rfl rfl ?_
    refine xr_getR (b := 154) dX7_meetEachSet_49 fX7_50 rfl sh74 (by decide) rfl ?_
    refine xe_iload_n 3 dX7_meetEachSet_52 rfl rfl ?_
    refine xr_iald (k := S) (v := nI (k)) dX7_meetEachSet_53 sh154 (by decide) (by omega) (by decide) wi_self ?_
    refine xe_iconst (v := -1) dX7_meetEachSet_54 xcm1 ?_
    refine xe_icmp_ne 63 dX7_meetEachSet_55 (by decide) (fun c2 => ?_) (fun c2 => ?_)
    · refine xe_aload_n 0 dX7_meetEachSet_63 rfl rfl ?_
      refine xe_aload_n 1 dX7_meetEachSet_64 rfl rfl ?_
      refine xe_aload_n 0 dX7_meetEachSet_65 rfl rfl ?_
      refine xr_getR (b := 155) dX7_meetEachSet_66 fX7_53 rfl sh74 (by decide) rfl ?_
      refine xe_aload_n 0 dX7_meetEachSet_69 rfl rfl ?_
      refine xe_iload_n 3 dX7_meetEachSet_70 rfl rfl ?_
      refine xe_callV (As := [.int (nI (S))]) (rest := [.ref 155, .ref 3, .ref 74, .int (nI (S)), .ref 153]) dX7_meetEachSet_71 wX7_lineUp lX7_156 iX7_lineUp sX7_lineUp ⟨by decide, by decide⟩ sh74 rfl (xin_mm (by decide)) rfl rfl (by simp [Value.category]) ?_
      exact k2 c1 c2
    · refine xe_bipush (v := -2) dX7_meetEachSet_58 xcbm2 ?_
      refine xe_goto 77 dX7_meetEachSet_60 (by decide) ?_
      refine xr_iast (k := S) dX7_meetEachSet_77 sh153 (by decide) (by omega) (by decide) ?_
      refine xn_iinc (c := 1) (L2 := [(0, .ref 74), (1, .ref 3), (2, .int (nI (ss))), (3, .int (nI (S + 1)))]) 3 dX7_meetEachSet_78 rfl (by decide) rfl ?_
      refine xe_goto 26 dX7_meetEachSet_81 (by decide) ?_
      exact k3 c1 c2

theorem gX7_meetEachSet_e (u : xU) (ss S : Nat) {Q : Option Value → xM → Prop} (hss : ss ≤ 16) (hS : S = ss) 
    (k1 : ss ≤ S → Q none (xmm u))
    (k2 : ¬ ss ≤ S → xE mX7_meetEachSet 31 [(0, .ref 74), (1, .ref 3), (2, .int (nI (ss))), (3, .int (nI (S)))] [] (xmm u) Q) : xE mX7_meetEachSet 26 [(0, .ref 74), (1, .ref 3), (2, .int (nI (ss))), (3, .int (nI (S)))] [] (xmm u) Q := by
  refine xe_iload_n 3 dX7_meetEachSet_26 rfl rfl ?_
  refine xe_iload_n 2 dX7_meetEachSet_27 rfl rfl ?_
  refine xn_icmp_ge 84 dX7_meetEachSet_28 (by decide) (by omega) (by omega) (fun c1 => ?_) (fun c1 => ?_)
  · exact xe_ret (r := none) dX7_meetEachSet_84 trivial (k1 c1)
  · exact k2 c1

theorem gX7_meetEachSet_74 (u : xU) (ss S h : Nat) {Q : Option Value → xM → Prop} (hss : ss ≤ 16) (hS : S < ss) 
    (k1 : xC mX7_meetAlong [.ref 74, .ref 3, .ref 155, .int (nI (h))] (xmm u) (fun r μ1 => xE mX7_meetEachSet 77 [(0, .ref 74), (1, .ref 3), (2, .int (nI (ss))), (3, .int (nI (S)))] (r.toList ++ [.int (nI (S)), .ref 153]) μ1 Q)) : xE mX7_meetEachSet 74 [(0, .ref 74), (1, .ref 3), (2, .int (nI (ss))), (3, .int (nI (S)))] [.int (nI (h)), .ref 155, .ref 3, .ref 74, .int (nI (S)), .ref 153] (xmm u) Q := by
  refine xe_callV (As := [.ref 3, .ref 155, .int (nI (h))]) (rest := [.int (nI (S)), .ref 153]) dX7_meetEachSet_74 wX7_meetAlong lX7_109 iX7_meetAlong sX7_meetAlong ⟨by decide, by decide⟩ sh74 rfl (xin_mm (by decide)) rfl rfl (by simp [Value.category]) ?_
  exact k1

theorem gX7_meetEachSet_77 (u : xU) (ss S : Nat) (x : Int32) {Q : Option Value → xM → Prop} (hss : ss ≤ 16) (hS : S < ss) 
    (k1 : xE mX7_meetEachSet 26 [(0, .ref 74), (1, .ref 3), (2, .int (nI (ss))), (3, .int (nI (S + 1)))] [] (xmm (wi u 153 S (x))) Q) : xE mX7_meetEachSet 77 [(0, .ref 74), (1, .ref 3), (2, .int (nI (ss))), (3, .int (nI (S)))] [.int (x), .int (nI (S)), .ref 153] (xmm u) Q := by
  refine xr_iast (k := S) dX7_meetEachSet_77 sh153 (by decide) (by omega) (by decide) ?_
  refine xn_iinc (c := 1) (L2 := [(0, .ref 74), (1, .ref 3), (2, .int (nI (ss))), (3, .int (nI (S + 1)))]) 3 dX7_meetEachSet_78 rfl (by decide) rfl ?_
  refine xe_goto 26 dX7_meetEachSet_81 (by decide) ?_
  exact k1

theorem gX9_best_0 (u : xU) (b : Bool) (n : Nat) {Q : Option Value → xM → Prop} (hn : n ≤ 6) (hst : xC mX4_stands [.ref 3] (xmm u) (fun r μ' => r = some (.int (xb (b = true))) ∧ μ' = xmm u)) (v1 : u.1 3 0 = nI (n))
    (k1 : ¬ (b = true) → Q (some (.int (-1))) (xmm u))
    (k2 : b = true → n ≤ 4 → xC mX7_prepare [.ref 74, .ref 2, .ref 3] (xmm u) (fun r μ1 => xE mX9_best 38 [(0, .ref 1)] (r.toList ++ []) μ1 Q))
    (k3 : b = true → ¬ n ≤ 4 → Q (some (.int (-1))) (xmm u)) : xE mX9_best 0 [(0, .ref 1)] [] (xmm u) Q := by
  refine xe_aload_n 0 dX9_best_0 rfl rfl ?_
  refine xr_getR (b := 3) dX9_best_1 fX9_18 rfl sh1 (by decide) rfl ?_
  refine xe_callV (As := []) (rest := []) dX9_best_4 wX4_stands lX9_127 iX4_stands sX4_stands ⟨by decide, by decide⟩ sh3 rfl (xin_mm (by decide)) rfl rfl (by simp [Value.category]) (xC.pure (v := .int (xb (b = true))) (hst) ?_)
  refine xb_if_eq 21 dX9_best_7 (by decide) (fun c1 => ?_) (fun c1 => ?_)
  · refine xe_iconst (v := -1) dX9_best_21 xcm1 ?_
    exact xe_ret (r := (some (.int (-1)))) dX9_best_22 trivial (k1 c1)
  · refine xe_aload_n 0 dX9_best_10 rfl rfl ?_
    refine xr_getR (b := 3) dX9_best_11 fX9_18 rfl sh1 (by decide) rfl ?_
    refine xr_getI (v := nI (n)) dX9_best_14 fX9_200 sh3 (by decide) v1 ?_
    refine xe_iconst (v := nI (4)) dX9_best_17 xc4 ?_
    refine xn_icmp_le 23 dX9_best_18 (by decide) (by omega) (by omega) (fun c2 => ?_) (fun c2 => ?_)
    · refine xe_aload_n 0 dX9_best_23 rfl rfl ?_
      refine xr_getR (b := 74) dX9_best_24 fX9_60 rfl sh1 (by decide) rfl ?_
      refine xe_aload_n 0 dX9_best_27 rfl rfl ?_
      refine xr_getR (b := 2) dX9_best_28 fX9_11 rfl sh1 (by decide) rfl ?_
      refine xe_aload_n 0 dX9_best_31 rfl rfl ?_
      refine xr_getR (b := 3) dX9_best_32 fX9_18 rfl sh1 (by decide) rfl ?_
      refine xe_callV (As := [.ref 2, .ref 3]) (rest := []) dX9_best_35 wX7_prepare lX9_131 iX7_prepare sX7_prepare ⟨by decide, by decide⟩ sh74 rfl (xin_mm (by decide)) rfl rfl (by simp [Value.category]) ?_
      exact k2 c1 c2
    · refine xe_iconst (v := -1) dX9_best_21 xcm1 ?_
      exact xe_ret (r := (some (.int (-1)))) dX9_best_22 trivial (k3 c1 c2)

theorem gX9_best_38 (u : xU) {Q : Option Value → xM → Prop}  
    (k1 : xC mX7_meetEachSet [.ref 74, .ref 3] (xmm u) (fun r μ1 => xE mX9_best 49 [(0, .ref 1)] (r.toList ++ []) μ1 Q)) : xE mX9_best 38 [(0, .ref 1)] [] (xmm u) Q := by
  refine xe_aload_n 0 dX9_best_38 rfl rfl ?_
  refine xr_getR (b := 74) dX9_best_39 fX9_60 rfl sh1 (by decide) rfl ?_
  refine xe_aload_n 0 dX9_best_42 rfl rfl ?_
  refine xr_getR (b := 3) dX9_best_43 fX9_18 rfl sh1 (by decide) rfl ?_
  refine xe_callV (As := [.ref 3]) (rest := []) dX9_best_46 wX7_meetEachSet lX9_203 iX7_meetEachSet sX7_meetEachSet ⟨by decide, by decide⟩ sh74 rfl (xin_mm (by decide)) rfl rfl (by simp [Value.category]) ?_
  exact k1

theorem gX9_best_49 (u : xU) {Q : Option Value → xM → Prop}  
    (k1 : xC mX7_takeBestOrder [.ref 74, .ref 3] (xmm u) (fun r μ1 => xE mX9_best 60 [] (r.toList ++ []) μ1 Q)) : xE mX9_best 49 [(0, .ref 1)] [] (xmm u) Q := by
  refine xe_aload_n 0 dX9_best_49 rfl rfl ?_
  refine xr_getR (b := 74) dX9_best_50 fX9_60 rfl sh1 (by decide) rfl ?_
  refine xe_aload_n 0 dX9_best_53 rfl rfl ?_
  refine xr_getR (b := 3) dX9_best_54 fX9_18 rfl sh1 (by decide) rfl ?_
  refine xE.sub [] rfl ?_
  refine xe_callV (As := [.ref 3]) (rest := []) dX9_best_57 wX7_takeBestOrder lX9_207 iX7_takeBestOrder sX7_takeBestOrder ⟨by decide, by decide⟩ sh74 rfl (xin_mm (by decide)) rfl rfl (by simp [Value.category]) ?_
  exact k1

theorem gX9_best_60 (u : xU) (x : Int32) {Q : Option Value → xM → Prop}  
    (k1 : Q (some (.int (x))) (xmm u)) : xE mX9_best 60 [] [.int (x)] (xmm u) Q := by
  exact xe_ret (r := (some (.int (x)))) dX9_best_60 trivial (k1)

