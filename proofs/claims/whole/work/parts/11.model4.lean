noncomputable def st_X8_kindsOf_in (wf : Nat → Int32) (i : Int32) (v : Nat) (u : Nat) (s : Bool) : Bool := (s && decide ((¬ (wf (32 + 4 * u)) = i) ∨ (f_X8_showOf (nI v) (wf (33 + 4 * u)) (wf (34 + 4 * u))) = (wf (35 + 4 * u))))
theorem L_X8_kindsOf_in {x : vv_X} (F : vv_F x cX8_kindsOf 7 RX8 4) (qm qw qk qt : Nat) (txd : Int32) (abv blw : Int64) (qs : Nat) (atp stp nbr : Int32) (qi qp qh qb : Nat) (bmy : Int32) (qa q6 : Nat) (hsh : Int64) (wf : Nat → Int32) (i sa : Int32) (v : Nat) (cO : Nat) (hcO : ((wf 31)).toInt = (cO : Int)) (hcO6 : cO ≤ 6) (hv6 : v < 6) : ∀ (n : Nat) (u : Nat) (b : Bool), u + n = cO → vv_V x 7 100 [(5, .int (nI cO)), (4, .int (vv_b ((itr (st_X8_kindsOf_in wf i v) n u b) = true))), (0, .ref qm), (1, .int i), (2, .int sa), (3, .int (nI v))] [] [(qm, .inr (7, [.ref qw, .ref qk, .ref qt, .int txd, .long abv, .long blw, .ref qs, .int atp, .int stp, .int nbr, .ref qi, .ref qp, .ref qh, .ref qb, .int bmy, .ref qa, .ref q6, .long hsh])), (qw, .inl ((vv_k x).2.1.1, 456, .inl wf))] → vv_V x 7 16 [(5, .int (nI u)), (4, .int (vv_b (b = true))), (0, .ref qm), (1, .int i), (2, .int sa), (3, .int (nI v))] [] [(qm, .inr (7, [.ref qw, .ref qk, .ref qt, .int txd, .long abv, .long blw, .ref qs, .int atp, .int stp, .int nbr, .ref qi, .ref qp, .ref qh, .ref qb, .int bmy, .ref qa, .ref q6, .long hsh])), (qw, .inl ((vv_k x).2.1.1, 456, .inl wf))] := by
  intro n
  induction n with
  | zero =>
    intro u b hu  kx
    refine vv_iload F dX8_kindsOf_16 rfl ?_
    refine vv_aload_n F dX8_kindsOf_18 rfl rfl ?_
    refine vv_get 0 F fl_X8_7 dX8_kindsOf_19 rfl rfl ?_
    refine vv_bipush (v := 31) F dX8_kindsOf_22 (by decide) ?_
    refine vv_iald 1 F dX8_kindsOf_24 rfl (vv_ixP (j := 31) (by decide) (by decide)) ?_
    refine vv_icmp_ge (tgt := 100) F dX8_kindsOf_25 (by decide) (fun h_1 => ?_) (fun h_1 => absurd ((c_le hcO (nI_toInt (n := u) (by omega))).mpr (by omega)) h_1)
    obtain rfl : u = cO := by omega
    rw [itr_0] at kx
    exact vv_lv [0, 1, 2, 3, 4, 5] rfl kx
  | succ n ih =>
    intro u b hu  kx
    refine vv_iload F dX8_kindsOf_16 rfl ?_
    refine vv_aload_n F dX8_kindsOf_18 rfl rfl ?_
    refine vv_get 0 F fl_X8_7 dX8_kindsOf_19 rfl rfl ?_
    refine vv_bipush (v := 31) F dX8_kindsOf_22 (by decide) ?_
    refine vv_iald 1 F dX8_kindsOf_24 rfl (vv_ixP (j := 31) (by decide) (by decide)) ?_
    refine vv_icmp_ge (tgt := 100) F dX8_kindsOf_25 (by decide) (fun h_1 => absurd ((c_le hcO (nI_toInt (n := u) (by omega))).mp h_1) (by omega)) (fun h_1 => ?_)
    refine vv_bipush (v := 32) F dX8_kindsOf_28 (by decide) ?_
    refine vv_iconst (v := 4) F dX8_kindsOf_30 (by decide) ?_
    refine vv_iload F dX8_kindsOf_31 rfl ?_
    refine vv_imul F dX8_kindsOf_33 ?_
    refine vv_iadd F dX8_kindsOf_34 ?_
    refine vv_istore (lv' := [(6, .int (32 + (4 * (nI u)))), (5, .int (nI u)), (4, .int (vv_b (b = true))), (0, .ref qm), (1, .int i), (2, .int sa), (3, .int (nI v))]) F dX8_kindsOf_35 (by decide) rfl ?_
    refine vv_iload F dX8_kindsOf_37 rfl ?_
    refine vv_ifz_eq (tgt := 91) F dX8_kindsOf_39 (by decide) (fun h_2 => ?_) (fun h_2 => ?_)
    · refine vv_iconst (v := 0) F dX8_kindsOf_91 (by decide) ?_
      refine vv_istore (lv' := [(4, .int 0), (6, .int (32 + (4 * (nI u)))), (5, .int (nI u)), (0, .ref qm), (1, .int i), (2, .int sa), (3, .int (nI v))]) F dX8_kindsOf_92 (by decide) rfl ?_
      refine vv_iinc (v := (nI (u + 1))) (lv' := [(5, .int (nI (u + 1))), (4, .int 0), (6, .int (32 + (4 * (nI u)))), (0, .ref qm), (1, .int i), (2, .int sa), (3, .int (nI v))]) 2 F dX8_kindsOf_94 rfl (nI_1 u) (by decide) rfl ?_
      refine vv_goto (tgt := 16) F dX8_kindsOf_97 (by decide) ?_
      refine vv_lv (lv' := [(5, .int (nI (u + 1))), (4, .int 0), (0, .ref qm), (1, .int i), (2, .int sa), (3, .int (nI v))]) [0, 1, 3, 4, 5, 6] rfl ?_
      refine vv_lvE (lv' := [(5, .int (nI (u + 1))), (4, .int (vv_b ((b && decide ((¬ (wf (32 + 4 * u)) = i) ∨ (f_X8_showOf (nI v) (wf (33 + 4 * u)) (wf (34 + 4 * u))) = (wf (35 + 4 * u)))) = true))), (0, .ref qm), (1, .int i), (2, .int sa), (3, .int (nI v))]) (by first | (simp only [if_neg h_2]; done) | (simp [vv_b, h_2]; done)) ?_
      exact ih (u + 1) (b && decide ((¬ (wf (32 + 4 * u)) = i) ∨ (f_X8_showOf (nI v) (wf (33 + 4 * u)) (wf (34 + 4 * u))) = (wf (35 + 4 * u)))) (by omega) (by rw [itr_s] at kx; exact kx)
    · refine vv_aload_n F dX8_kindsOf_42 rfl rfl ?_
      refine vv_get 0 F fl_X8_7 dX8_kindsOf_43 rfl rfl ?_
      refine vv_iload F dX8_kindsOf_46 rfl ?_
      refine vv_iald 1 F dX8_kindsOf_48 rfl (vv_ixP (j := (32 + 4 * u)) (by have hz := (nn_add (by decide : (32 : Int32).toInt = ((32 : Nat) : Int)) (nn_mul (by decide : (4 : Int32).toInt = ((4 : Nat) : Int)) (nI_toInt (n := u) (by omega)) (by omega)) (by omega)); omega) (by omega)) ?_
      refine vv_iload_n F dX8_kindsOf_49 rfl rfl ?_
      refine vv_icmp_ne (tgt := 87) F dX8_kindsOf_50 (by decide) (fun h_3 => ?_) (fun h_3 => ?_)
      · refine vv_iconst (v := 1) F dX8_kindsOf_87 (by decide) ?_
        refine vv_goto (tgt := 92) F dX8_kindsOf_88 (by decide) ?_
        refine vv_istore (lv' := [(4, .int 1), (6, .int (32 + (4 * (nI u)))), (5, .int (nI u)), (0, .ref qm), (1, .int i), (2, .int sa), (3, .int (nI v))]) F dX8_kindsOf_92 (by decide) rfl ?_
        refine vv_iinc (v := (nI (u + 1))) (lv' := [(5, .int (nI (u + 1))), (4, .int 1), (6, .int (32 + (4 * (nI u)))), (0, .ref qm), (1, .int i), (2, .int sa), (3, .int (nI v))]) 2 F dX8_kindsOf_94 rfl (nI_1 u) (by decide) rfl ?_
        refine vv_goto (tgt := 16) F dX8_kindsOf_97 (by decide) ?_
        refine vv_lv (lv' := [(5, .int (nI (u + 1))), (4, .int 1), (0, .ref qm), (1, .int i), (2, .int sa), (3, .int (nI v))]) [0, 1, 3, 4, 5, 6] rfl ?_
        refine vv_lvE (lv' := [(5, .int (nI (u + 1))), (4, .int (vv_b ((b && decide ((¬ (wf (32 + 4 * u)) = i) ∨ (f_X8_showOf (nI v) (wf (33 + 4 * u)) (wf (34 + 4 * u))) = (wf (35 + 4 * u)))) = true))), (0, .ref qm), (1, .int i), (2, .int sa), (3, .int (nI v))]) (by first | (simp only [if_pos h_2, if_neg h_3]; done) | (simp [vv_b, h_2, h_3]; done)) ?_
        exact ih (u + 1) (b && decide ((¬ (wf (32 + 4 * u)) = i) ∨ (f_X8_showOf (nI v) (wf (33 + 4 * u)) (wf (34 + 4 * u))) = (wf (35 + 4 * u)))) (by omega) (by rw [itr_s] at kx; exact kx)
      · refine vv_iload_n F dX8_kindsOf_53 rfl rfl ?_
        refine vv_aload_n F dX8_kindsOf_54 rfl rfl ?_
        refine vv_get 0 F fl_X8_7 dX8_kindsOf_55 rfl rfl ?_
        refine vv_iload F dX8_kindsOf_58 rfl ?_
        refine vv_iconst (v := 1) F dX8_kindsOf_60 (by decide) ?_
        refine vv_iadd F dX8_kindsOf_61 ?_
        refine vv_iald 1 F dX8_kindsOf_62 rfl (vv_ixP (j := (33 + 4 * u)) (by have hz := (nn_add (nn_add (by decide : (32 : Int32).toInt = ((32 : Nat) : Int)) (nn_mul (by decide : (4 : Int32).toInt = ((4 : Nat) : Int)) (nI_toInt (n := u) (by omega)) (by omega)) (by omega)) (by decide : (1 : Int32).toInt = ((1 : Nat) : Int)) (by omega)); omega) (by omega)) ?_
        refine vv_aload_n F dX8_kindsOf_63 rfl rfl ?_
        refine vv_get 0 F fl_X8_7 dX8_kindsOf_64 rfl rfl ?_
        refine vv_iload F dX8_kindsOf_67 rfl ?_
        refine vv_iconst (v := 2) F dX8_kindsOf_69 (by decide) ?_
        refine vv_iadd F dX8_kindsOf_70 ?_
        refine vv_iald 1 F dX8_kindsOf_71 rfl (vv_ixP (j := (34 + 4 * u)) (by have hz := (nn_add (nn_add (by decide : (32 : Int32).toInt = ((32 : Nat) : Int)) (nn_mul (by decide : (4 : Int32).toInt = ((4 : Nat) : Int)) (nI_toInt (n := u) (by omega)) (by omega)) (by omega)) (by decide : (2 : Int32).toInt = ((2 : Nat) : Int)) (by omega)); omega) (by omega)) ?_
        refine vv_callSp (As := [.int (nI v), .int (wf (33 + 4 * u)), .int (wf (34 + 4 * u))]) (rest := []) [] F (c_X8_showOf (vv_l x) (vv_k x) (nI v) (wf (33 + 4 * u)) (wf (34 + 4 * u))) ms_X8_178 dX8_kindsOf_72 (by decide) rfl rfl (Nat.le_of_ble_eq_true rfl) rfl (by decide) ?_
        refine vv_aload_n F dX8_kindsOf_75 rfl rfl ?_
        refine vv_get 0 F fl_X8_7 dX8_kindsOf_76 rfl rfl ?_
        refine vv_iload F dX8_kindsOf_79 rfl ?_
        refine vv_iconst (v := 3) F dX8_kindsOf_81 (by decide) ?_
        refine vv_iadd F dX8_kindsOf_82 ?_
        refine vv_iald 1 F dX8_kindsOf_83 rfl (vv_ixP (j := (35 + 4 * u)) (by have hz := (nn_add (nn_add (by decide : (32 : Int32).toInt = ((32 : Nat) : Int)) (nn_mul (by decide : (4 : Int32).toInt = ((4 : Nat) : Int)) (nI_toInt (n := u) (by omega)) (by omega)) (by omega)) (by decide : (3 : Int32).toInt = ((3 : Nat) : Int)) (by omega)); omega) (by omega)) ?_
        refine vv_icmp_ne (tgt := 91) F dX8_kindsOf_84 (by decide) (fun h_4 => ?_) (fun h_4 => ?_)
        · refine vv_iconst (v := 0) F dX8_kindsOf_91 (by decide) ?_
          refine vv_istore (lv' := [(4, .int 0), (6, .int (32 + (4 * (nI u)))), (5, .int (nI u)), (0, .ref qm), (1, .int i), (2, .int sa), (3, .int (nI v))]) F dX8_kindsOf_92 (by decide) rfl ?_
          refine vv_iinc (v := (nI (u + 1))) (lv' := [(5, .int (nI (u + 1))), (4, .int 0), (6, .int (32 + (4 * (nI u)))), (0, .ref qm), (1, .int i), (2, .int sa), (3, .int (nI v))]) 2 F dX8_kindsOf_94 rfl (nI_1 u) (by decide) rfl ?_
          refine vv_goto (tgt := 16) F dX8_kindsOf_97 (by decide) ?_
          refine vv_lv (lv' := [(5, .int (nI (u + 1))), (4, .int 0), (0, .ref qm), (1, .int i), (2, .int sa), (3, .int (nI v))]) [0, 1, 3, 4, 5, 6] rfl ?_
          refine vv_lvE (lv' := [(5, .int (nI (u + 1))), (4, .int (vv_b ((b && decide ((¬ (wf (32 + 4 * u)) = i) ∨ (f_X8_showOf (nI v) (wf (33 + 4 * u)) (wf (34 + 4 * u))) = (wf (35 + 4 * u)))) = true))), (0, .ref qm), (1, .int i), (2, .int sa), (3, .int (nI v))]) (by first | (simp only [if_pos h_2, if_pos h_3, if_neg h_4]; done) | (simp [vv_b, h_2, h_3, h_4]; done)) ?_
          exact ih (u + 1) (b && decide ((¬ (wf (32 + 4 * u)) = i) ∨ (f_X8_showOf (nI v) (wf (33 + 4 * u)) (wf (34 + 4 * u))) = (wf (35 + 4 * u)))) (by omega) (by rw [itr_s] at kx; exact kx)
        · refine vv_iconst (v := 1) F dX8_kindsOf_87 (by decide) ?_
          refine vv_goto (tgt := 92) F dX8_kindsOf_88 (by decide) ?_
          refine vv_istore (lv' := [(4, .int 1), (6, .int (32 + (4 * (nI u)))), (5, .int (nI u)), (0, .ref qm), (1, .int i), (2, .int sa), (3, .int (nI v))]) F dX8_kindsOf_92 (by decide) rfl ?_
          refine vv_iinc (v := (nI (u + 1))) (lv' := [(5, .int (nI (u + 1))), (4, .int 1), (6, .int (32 + (4 * (nI u)))), (0, .ref qm), (1, .int i), (2, .int sa), (3, .int (nI v))]) 2 F dX8_kindsOf_94 rfl (nI_1 u) (by decide) rfl ?_
          refine vv_goto (tgt := 16) F dX8_kindsOf_97 (by decide) ?_
          refine vv_lv (lv' := [(5, .int (nI (u + 1))), (4, .int 1), (0, .ref qm), (1, .int i), (2, .int sa), (3, .int (nI v))]) [0, 1, 3, 4, 5, 6] rfl ?_
          refine vv_lvE (lv' := [(5, .int (nI (u + 1))), (4, .int (vv_b ((b && decide ((¬ (wf (32 + 4 * u)) = i) ∨ (f_X8_showOf (nI v) (wf (33 + 4 * u)) (wf (34 + 4 * u))) = (wf (35 + 4 * u)))) = true))), (0, .ref qm), (1, .int i), (2, .int sa), (3, .int (nI v))]) (by first | (simp only [if_pos h_2, if_pos h_3, if_pos h_4]; done) | (simp [vv_b, h_2, h_3, h_4]; done)) ?_
          exact ih (u + 1) (b && decide ((¬ (wf (32 + 4 * u)) = i) ∨ (f_X8_showOf (nI v) (wf (33 + 4 * u)) (wf (34 + 4 * u))) = (wf (35 + 4 * u)))) (by omega) (by rw [itr_s] at kx; exact kx)
noncomputable def st_X8_kindsOf (wf : Nat → Int32) (i : Int32) (cO : Nat) (u : Nat) (s : Int32) : Int32 := (s ||| (if (itr (st_X8_kindsOf_in wf i u) cO 0 true) = true then (1 <<< ((nI u) &&& 31)) else 0))
theorem L_X8_kindsOf {x : vv_X} (F : vv_F x cX8_kindsOf 7 RX8 4) (qm qw qk qt : Nat) (txd : Int32) (abv blw : Int64) (qs : Nat) (atp stp nbr : Int32) (qi qp qh qb : Nat) (bmy : Int32) (qa q6 : Nat) (hsh : Int64) (wf : Nat → Int32) (i : Int32) (cO : Nat) (hcO : ((wf 31)).toInt = (cO : Int)) (hcO6 : cO ≤ 6) : ∀ (n : Nat) (u : Nat) (sa : Int32), u + n = 6 → vv_V x 7 121 [(3, .int (nI 6)), (2, .int (itr (st_X8_kindsOf wf i cO) n u sa)), (0, .ref qm), (1, .int i)] [] [(qm, .inr (7, [.ref qw, .ref qk, .ref qt, .int txd, .long abv, .long blw, .ref qs, .int atp, .int stp, .int nbr, .ref qi, .ref qp, .ref qh, .ref qb, .int bmy, .ref qa, .ref q6, .long hsh])), (qw, .inl ((vv_k x).2.1.1, 456, .inl wf))] → vv_V x 7 4 [(3, .int (nI u)), (2, .int sa), (0, .ref qm), (1, .int i)] [] [(qm, .inr (7, [.ref qw, .ref qk, .ref qt, .int txd, .long abv, .long blw, .ref qs, .int atp, .int stp, .int nbr, .ref qi, .ref qp, .ref qh, .ref qb, .int bmy, .ref qa, .ref q6, .long hsh])), (qw, .inl ((vv_k x).2.1.1, 456, .inl wf))] := by
  intro n
  induction n with
  | zero =>
    intro u sa hu  kx
    refine vv_iload_n F dX8_kindsOf_4 rfl rfl ?_
    refine vv_bipush (v := 6) F dX8_kindsOf_5 (by decide) ?_
    refine vv_icmp_ge (tgt := 121) F dX8_kindsOf_7 (by decide) (fun h_1 => ?_) (fun h_1 => absurd ((c_le (by decide : (6 : Int32).toInt = ((6 : Nat) : Int)) (nI_toInt (n := u) (by omega))).mpr (by omega)) h_1)
    obtain rfl : u = 6 := by omega
    rw [itr_0] at kx
    exact vv_lv [0, 1, 2, 3] rfl kx
  | succ n ih =>
    intro u sa hu  kx
    refine vv_iload_n F dX8_kindsOf_4 rfl rfl ?_
    refine vv_bipush (v := 6) F dX8_kindsOf_5 (by decide) ?_
    refine vv_icmp_ge (tgt := 121) F dX8_kindsOf_7 (by decide) (fun h_1 => absurd ((c_le (by decide : (6 : Int32).toInt = ((6 : Nat) : Int)) (nI_toInt (n := u) (by omega))).mp h_1) (by omega)) (fun h_1 => ?_)
    refine vv_iconst (v := 1) F dX8_kindsOf_10 (by decide) ?_
    refine vv_istore (lv' := [(4, .int 1), (3, .int (nI u)), (2, .int sa), (0, .ref qm), (1, .int i)]) F dX8_kindsOf_11 (by decide) rfl ?_
    refine vv_iconst (v := 0) F dX8_kindsOf_13 (by decide) ?_
    refine vv_istore (lv' := [(5, .int 0), (4, .int 1), (3, .int (nI u)), (2, .int sa), (0, .ref qm), (1, .int i)]) F dX8_kindsOf_14 (by decide) rfl ?_
    refine vv_lv (lv' := [(5, .int 0), (4, .int (vv_b (true = true))), (0, .ref qm), (1, .int i), (2, .int sa), (3, .int (nI u))]) [0, 1, 4, 5, 3, 2] rfl ?_
    refine L_X8_kindsOf_in F qm qw qk qt txd abv blw qs atp stp nbr qi qp qh qb bmy qa q6 hsh wf i sa u cO hcO (by omega) (by omega) cO 0 true (by omega) ?_
    refine vv_iload_n F dX8_kindsOf_100 rfl rfl ?_
    refine vv_iload F dX8_kindsOf_101 rfl ?_
    refine vv_ifz_eq (tgt := 112) F dX8_kindsOf_103 (by decide) (fun h_2 => ?_) (fun h_2 => ?_)
    · refine vv_iconst (v := 0) F dX8_kindsOf_112 (by decide) ?_
      refine vv_ior F dX8_kindsOf_113 ?_
      refine vv_istore_n (lv' := [(2, .int (sa ||| 0)), (5, .int (nI cO)), (4, .int (vv_b ((itr (st_X8_kindsOf_in wf i u) cO 0 true) = true))), (0, .ref qm), (1, .int i), (3, .int (nI u))]) F dX8_kindsOf_114 rfl (by decide) rfl ?_
      refine vv_iinc (v := (nI (u + 1))) (lv' := [(3, .int (nI (u + 1))), (2, .int (sa ||| 0)), (5, .int (nI cO)), (4, .int (vv_b ((itr (st_X8_kindsOf_in wf i u) cO 0 true) = true))), (0, .ref qm), (1, .int i)]) 5 F dX8_kindsOf_115 rfl (nI_1 u) (by decide) rfl ?_
      refine vv_goto (tgt := 4) F dX8_kindsOf_118 (by decide) ?_
      refine vv_lv (lv' := [(3, .int (nI (u + 1))), (2, .int (sa ||| 0)), (0, .ref qm), (1, .int i)]) [0, 1, 4, 5] rfl ?_
      refine vv_lvE (lv' := [(3, .int (nI (u + 1))), (2, .int (sa ||| (if (itr (st_X8_kindsOf_in wf i u) cO 0 true) = true then (1 <<< ((nI u) &&& 31)) else 0))), (0, .ref qm), (1, .int i)]) (by first | (simp only [if_neg h_2]; done) | (simp [vv_b, h_2]; done)) ?_
      exact ih (u + 1) (sa ||| (if (itr (st_X8_kindsOf_in wf i u) cO 0 true) = true then (1 <<< ((nI u) &&& 31)) else 0)) (by omega) (by rw [itr_s] at kx; exact kx)
    · refine vv_iconst (v := 1) F dX8_kindsOf_106 (by decide) ?_
      refine vv_iload_n F dX8_kindsOf_107 rfl rfl ?_
      refine vv_ishl F dX8_kindsOf_108 ?_
      refine vv_goto (tgt := 113) F dX8_kindsOf_109 (by decide) ?_
      refine vv_ior F dX8_kindsOf_113 ?_
      refine vv_istore_n (lv' := [(2, .int (sa ||| (1 <<< ((nI u) &&& 31)))), (5, .int (nI cO)), (4, .int (vv_b ((itr (st_X8_kindsOf_in wf i u) cO 0 true) = true))), (0, .ref qm), (1, .int i), (3, .int (nI u))]) F dX8_kindsOf_114 rfl (by decide) rfl ?_
      refine vv_iinc (v := (nI (u + 1))) (lv' := [(3, .int (nI (u + 1))), (2, .int (sa ||| (1 <<< ((nI u) &&& 31)))), (5, .int (nI cO)), (4, .int (vv_b ((itr (st_X8_kindsOf_in wf i u) cO 0 true) = true))), (0, .ref qm), (1, .int i)]) 5 F dX8_kindsOf_115 rfl (nI_1 u) (by decide) rfl ?_
      refine vv_goto (tgt := 4) F dX8_kindsOf_118 (by decide) ?_
      refine vv_lv (lv' := [(3, .int (nI (u + 1))), (2, .int (sa ||| (1 <<< ((nI u) &&& 31)))), (0, .ref qm), (1, .int i)]) [0, 1, 4, 5] rfl ?_
      refine vv_lvE (lv' := [(3, .int (nI (u + 1))), (2, .int (sa ||| (if (itr (st_X8_kindsOf_in wf i u) cO 0 true) = true then (1 <<< ((nI u) &&& 31)) else 0))), (0, .ref qm), (1, .int i)]) (by first | (simp only [if_pos h_2]; done) | (simp [vv_b, h_2]; done)) ?_
      exact ih (u + 1) (sa ||| (if (itr (st_X8_kindsOf_in wf i u) cO 0 true) = true then (1 <<< ((nI u) &&& 31)) else 0)) (by omega) (by rw [itr_s] at kx; exact kx)
theorem c_X8_kindsOf (l : Launch) (K : vv_K) (qm qw qk qt : Nat) (txd : Int32) (abv blw : Int64) (qs : Nat) (atp stp nbr : Int32) (qi qp qh qb : Nat) (bmy : Int32) (qa q6 : Nat) (hsh : Int64) (wf : Nat → Int32) (i : Int32) (cO : Nat) (hcO : ((wf 31)).toInt = (cO : Int)) (hcO6 : cO ≤ 6)  : vv_C l K 4 yX8_kindsOf cX8_kindsOf 7 (some .int) [.ref qm, .int i] [(qm, .inr (7, [.ref qw, .ref qk, .ref qt, .int txd, .long abv, .long blw, .ref qs, .int atp, .int stp, .int nbr, .ref qi, .ref qp, .ref qh, .ref qb, .int bmy, .ref qa, .ref q6, .long hsh])), (qw, .inl (K.2.1.1, 456, .inl wf))] (some (.int (itr (st_X8_kindsOf wf i cO) 6 0 0))) [(qm, .inr (7, [.ref qw, .ref qk, .ref qt, .int txd, .long abv, .long blw, .ref qs, .int atp, .int stp, .int nbr, .ref qi, .ref qp, .ref qh, .ref qb, .int bmy, .ref qa, .ref q6, .long hsh])), (qw, .inl (K.2.1.1, 456, .inl wf))] := by
  refine vv_C.of (lv := [(0, .ref qm), (1, .int i)]) (by decide +kernel) (Nat.le_of_ble_eq_true rfl) rfl ?_
  intro x hl hK F hR; subst hl; obtain rfl := hK
  refine vv_iconst (v := 0) F dX8_kindsOf_0 (by decide) ?_
  refine vv_istore_n (lv' := [(2, .int 0), (0, .ref qm), (1, .int i)]) F dX8_kindsOf_1 rfl (by decide) rfl ?_
  refine vv_iconst (v := 0) F dX8_kindsOf_2 (by decide) ?_
  refine vv_istore_n (lv' := [(3, .int 0), (2, .int 0), (0, .ref qm), (1, .int i)]) F dX8_kindsOf_3 rfl (by decide) rfl ?_
  refine vv_lv (lv' := [(3, .int 0), (2, .int 0), (0, .ref qm), (1, .int i)]) [0, 1, 2, 3] rfl ?_
  refine L_X8_kindsOf F qm qw qk qt txd abv blw qs atp stp nbr qi qp qh qb bmy qa q6 hsh wf i cO hcO (by omega) 6 0 0 (by omega) ?_
  refine vv_iload_n F dX8_kindsOf_121 rfl rfl ?_
  exact vv_iret F hR dX8_kindsOf_122 rfl rfl
noncomputable def st_X8_housesOf_in (wf : Nat → Int32) (i : Int32) (v : Nat) (u : Nat) (s : Bool) : Bool := (s && decide ((¬ (wf (57 + 4 * u)) = i) ∨ (f_X8_chargeOf (nI v) (wf (58 + 4 * u)) (wf (59 + 4 * u))) = (wf (60 + 4 * u))))
theorem L_X8_housesOf_in {x : vv_X} (F : vv_F x cX8_housesOf 7 RX8 4) (qm qw qk qt : Nat) (txd : Int32) (abv blw : Int64) (qs : Nat) (atp stp nbr : Int32) (qi qp qh qb : Nat) (bmy : Int32) (qa q6 : Nat) (hsh : Int64) (wf : Nat → Int32) (i sa : Int32) (v : Nat) (cM : Nat) (hcM : ((wf 56)).toInt = (cM : Int)) (hcM6 : cM ≤ 6) (hv6 : v < 6) : ∀ (n : Nat) (u : Nat) (b : Bool), u + n = cM → vv_V x 7 100 [(5, .int (nI cM)), (4, .int (vv_b ((itr (st_X8_housesOf_in wf i v) n u b) = true))), (0, .ref qm), (1, .int i), (2, .int sa), (3, .int (nI v))] [] [(qm, .inr (7, [.ref qw, .ref qk, .ref qt, .int txd, .long abv, .long blw, .ref qs, .int atp, .int stp, .int nbr, .ref qi, .ref qp, .ref qh, .ref qb, .int bmy, .ref qa, .ref q6, .long hsh])), (qw, .inl ((vv_k x).2.1.1, 456, .inl wf))] → vv_V x 7 16 [(5, .int (nI u)), (4, .int (vv_b (b = true))), (0, .ref qm), (1, .int i), (2, .int sa), (3, .int (nI v))] [] [(qm, .inr (7, [.ref qw, .ref qk, .ref qt, .int txd, .long abv, .long blw, .ref qs, .int atp, .int stp, .int nbr, .ref qi, .ref qp, .ref qh, .ref qb, .int bmy, .ref qa, .ref q6, .long hsh])), (qw, .inl ((vv_k x).2.1.1, 456, .inl wf))] := by
  intro n
  induction n with
  | zero =>
    intro u b hu  kx
    refine vv_iload F dX8_housesOf_16 rfl ?_
    refine vv_aload_n F dX8_housesOf_18 rfl rfl ?_
    refine vv_get 0 F fl_X8_7 dX8_housesOf_19 rfl rfl ?_
    refine vv_bipush (v := 56) F dX8_housesOf_22 (by decide) ?_
    refine vv_iald 1 F dX8_housesOf_24 rfl (vv_ixP (j := 56) (by decide) (by decide)) ?_
    refine vv_icmp_ge (tgt := 100) F dX8_housesOf_25 (by decide) (fun h_1 => ?_) (fun h_1 => absurd ((c_le hcM (nI_toInt (n := u) (by omega))).mpr (by omega)) h_1)
    obtain rfl : u = cM := by omega
    rw [itr_0] at kx
    exact vv_lv [0, 1, 2, 3, 4, 5] rfl kx
  | succ n ih =>
    intro u b hu  kx
    refine vv_iload F dX8_housesOf_16 rfl ?_
    refine vv_aload_n F dX8_housesOf_18 rfl rfl ?_
    refine vv_get 0 F fl_X8_7 dX8_housesOf_19 rfl rfl ?_
    refine vv_bipush (v := 56) F dX8_housesOf_22 (by decide) ?_
    refine vv_iald 1 F dX8_housesOf_24 rfl (vv_ixP (j := 56) (by decide) (by decide)) ?_
    refine vv_icmp_ge (tgt := 100) F dX8_housesOf_25 (by decide) (fun h_1 => absurd ((c_le hcM (nI_toInt (n := u) (by omega))).mp h_1) (by omega)) (fun h_1 => ?_)
    refine vv_bipush (v := 57) F dX8_housesOf_28 (by decide) ?_
    refine vv_iconst (v := 4) F dX8_housesOf_30 (by decide) ?_
    refine vv_iload F dX8_housesOf_31 rfl ?_
    refine vv_imul F dX8_housesOf_33 ?_
    refine vv_iadd F dX8_housesOf_34 ?_
    refine vv_istore (lv' := [(6, .int (57 + (4 * (nI u)))), (5, .int (nI u)), (4, .int (vv_b (b = true))), (0, .ref qm), (1, .int i), (2, .int sa), (3, .int (nI v))]) F dX8_housesOf_35 (by decide) rfl ?_
    refine vv_iload F dX8_housesOf_37 rfl ?_
    refine vv_ifz_eq (tgt := 91) F dX8_housesOf_39 (by decide) (fun h_2 => ?_) (fun h_2 => ?_)
    · refine vv_iconst (v := 0) F dX8_housesOf_91 (by decide) ?_
      refine vv_istore (lv' := [(4, .int 0), (6, .int (57 + (4 * (nI u)))), (5, .int (nI u)), (0, .ref qm), (1, .int i), (2, .int sa), (3, .int (nI v))]) F dX8_housesOf_92 (by decide) rfl ?_
      refine vv_iinc (v := (nI (u + 1))) (lv' := [(5, .int (nI (u + 1))), (4, .int 0), (6, .int (57 + (4 * (nI u)))), (0, .ref qm), (1, .int i), (2, .int sa), (3, .int (nI v))]) 2 F dX8_housesOf_94 rfl (nI_1 u) (by decide) rfl ?_
      refine vv_goto (tgt := 16) F dX8_housesOf_97 (by decide) ?_
      refine vv_lv (lv' := [(5, .int (nI (u + 1))), (4, .int 0), (0, .ref qm), (1, .int i), (2, .int sa), (3, .int (nI v))]) [0, 1, 3, 4, 5, 6] rfl ?_
      refine vv_lvE (lv' := [(5, .int (nI (u + 1))), (4, .int (vv_b ((b && decide ((¬ (wf (57 + 4 * u)) = i) ∨ (f_X8_chargeOf (nI v) (wf (58 + 4 * u)) (wf (59 + 4 * u))) = (wf (60 + 4 * u)))) = true))), (0, .ref qm), (1, .int i), (2, .int sa), (3, .int (nI v))]) (by first | (simp only [if_neg h_2]; done) | (simp [vv_b, h_2]; done)) ?_
      exact ih (u + 1) (b && decide ((¬ (wf (57 + 4 * u)) = i) ∨ (f_X8_chargeOf (nI v) (wf (58 + 4 * u)) (wf (59 + 4 * u))) = (wf (60 + 4 * u)))) (by omega) (by rw [itr_s] at kx; exact kx)
    · refine vv_aload_n F dX8_housesOf_42 rfl rfl ?_
      refine vv_get 0 F fl_X8_7 dX8_housesOf_43 rfl rfl ?_
      refine vv_iload F dX8_housesOf_46 rfl ?_
      refine vv_iald 1 F dX8_housesOf_48 rfl (vv_ixP (j := (57 + 4 * u)) (by have hz := (nn_add (by decide : (57 : Int32).toInt = ((57 : Nat) : Int)) (nn_mul (by decide : (4 : Int32).toInt = ((4 : Nat) : Int)) (nI_toInt (n := u) (by omega)) (by omega)) (by omega)); omega) (by omega)) ?_
      refine vv_iload_n F dX8_housesOf_49 rfl rfl ?_
      refine vv_icmp_ne (tgt := 87) F dX8_housesOf_50 (by decide) (fun h_3 => ?_) (fun h_3 => ?_)
      · refine vv_iconst (v := 1) F dX8_housesOf_87 (by decide) ?_
        refine vv_goto (tgt := 92) F dX8_housesOf_88 (by decide) ?_
        refine vv_istore (lv' := [(4, .int 1), (6, .int (57 + (4 * (nI u)))), (5, .int (nI u)), (0, .ref qm), (1, .int i), (2, .int sa), (3, .int (nI v))]) F dX8_housesOf_92 (by decide) rfl ?_
        refine vv_iinc (v := (nI (u + 1))) (lv' := [(5, .int (nI (u + 1))), (4, .int 1), (6, .int (57 + (4 * (nI u)))), (0, .ref qm), (1, .int i), (2, .int sa), (3, .int (nI v))]) 2 F dX8_housesOf_94 rfl (nI_1 u) (by decide) rfl ?_
        refine vv_goto (tgt := 16) F dX8_housesOf_97 (by decide) ?_
        refine vv_lv (lv' := [(5, .int (nI (u + 1))), (4, .int 1), (0, .ref qm), (1, .int i), (2, .int sa), (3, .int (nI v))]) [0, 1, 3, 4, 5, 6] rfl ?_
        refine vv_lvE (lv' := [(5, .int (nI (u + 1))), (4, .int (vv_b ((b && decide ((¬ (wf (57 + 4 * u)) = i) ∨ (f_X8_chargeOf (nI v) (wf (58 + 4 * u)) (wf (59 + 4 * u))) = (wf (60 + 4 * u)))) = true))), (0, .ref qm), (1, .int i), (2, .int sa), (3, .int (nI v))]) (by first | (simp only [if_pos h_2, if_neg h_3]; done) | (simp [vv_b, h_2, h_3]; done)) ?_
        exact ih (u + 1) (b && decide ((¬ (wf (57 + 4 * u)) = i) ∨ (f_X8_chargeOf (nI v) (wf (58 + 4 * u)) (wf (59 + 4 * u))) = (wf (60 + 4 * u)))) (by omega) (by rw [itr_s] at kx; exact kx)
      · refine vv_iload_n F dX8_housesOf_53 rfl rfl ?_
        refine vv_aload_n F dX8_housesOf_54 rfl rfl ?_
        refine vv_get 0 F fl_X8_7 dX8_housesOf_55 rfl rfl ?_
        refine vv_iload F dX8_housesOf_58 rfl ?_
        refine vv_iconst (v := 1) F dX8_housesOf_60 (by decide) ?_
        refine vv_iadd F dX8_housesOf_61 ?_
        refine vv_iald 1 F dX8_housesOf_62 rfl (vv_ixP (j := (58 + 4 * u)) (by have hz := (nn_add (nn_add (by decide : (57 : Int32).toInt = ((57 : Nat) : Int)) (nn_mul (by decide : (4 : Int32).toInt = ((4 : Nat) : Int)) (nI_toInt (n := u) (by omega)) (by omega)) (by omega)) (by decide : (1 : Int32).toInt = ((1 : Nat) : Int)) (by omega)); omega) (by omega)) ?_
        refine vv_aload_n F dX8_housesOf_63 rfl rfl ?_
        refine vv_get 0 F fl_X8_7 dX8_housesOf_64 rfl rfl ?_
        refine vv_iload F dX8_housesOf_67 rfl ?_
        refine vv_iconst (v := 2) F dX8_housesOf_69 (by decide) ?_
        refine vv_iadd F dX8_housesOf_70 ?_
        refine vv_iald 1 F dX8_housesOf_71 rfl (vv_ixP (j := (59 + 4 * u)) (by have hz := (nn_add (nn_add (by decide : (57 : Int32).toInt = ((57 : Nat) : Int)) (nn_mul (by decide : (4 : Int32).toInt = ((4 : Nat) : Int)) (nI_toInt (n := u) (by omega)) (by omega)) (by omega)) (by decide : (2 : Int32).toInt = ((2 : Nat) : Int)) (by omega)); omega) (by omega)) ?_
        refine vv_callSp (As := [.int (nI v), .int (wf (58 + 4 * u)), .int (wf (59 + 4 * u))]) (rest := []) [] F (c_X8_chargeOf (vv_l x) (vv_k x) (nI v) (wf (58 + 4 * u)) (wf (59 + 4 * u))) ms_X8_185 dX8_housesOf_72 (by decide) rfl rfl (Nat.le_of_ble_eq_true rfl) rfl (by decide) ?_
        refine vv_aload_n F dX8_housesOf_75 rfl rfl ?_
        refine vv_get 0 F fl_X8_7 dX8_housesOf_76 rfl rfl ?_
        refine vv_iload F dX8_housesOf_79 rfl ?_
        refine vv_iconst (v := 3) F dX8_housesOf_81 (by decide) ?_
        refine vv_iadd F dX8_housesOf_82 ?_
        refine vv_iald 1 F dX8_housesOf_83 rfl (vv_ixP (j := (60 + 4 * u)) (by have hz := (nn_add (nn_add (by decide : (57 : Int32).toInt = ((57 : Nat) : Int)) (nn_mul (by decide : (4 : Int32).toInt = ((4 : Nat) : Int)) (nI_toInt (n := u) (by omega)) (by omega)) (by omega)) (by decide : (3 : Int32).toInt = ((3 : Nat) : Int)) (by omega)); omega) (by omega)) ?_
        refine vv_icmp_ne (tgt := 91) F dX8_housesOf_84 (by decide) (fun h_4 => ?_) (fun h_4 => ?_)
        · refine vv_iconst (v := 0) F dX8_housesOf_91 (by decide) ?_
          refine vv_istore (lv' := [(4, .int 0), (6, .int (57 + (4 * (nI u)))), (5, .int (nI u)), (0, .ref qm), (1, .int i), (2, .int sa), (3, .int (nI v))]) F dX8_housesOf_92 (by decide) rfl ?_
          refine vv_iinc (v := (nI (u + 1))) (lv' := [(5, .int (nI (u + 1))), (4, .int 0), (6, .int (57 + (4 * (nI u)))), (0, .ref qm), (1, .int i), (2, .int sa), (3, .int (nI v))]) 2 F dX8_housesOf_94 rfl (nI_1 u) (by decide) rfl ?_
          refine vv_goto (tgt := 16) F dX8_housesOf_97 (by decide) ?_
          refine vv_lv (lv' := [(5, .int (nI (u + 1))), (4, .int 0), (0, .ref qm), (1, .int i), (2, .int sa), (3, .int (nI v))]) [0, 1, 3, 4, 5, 6] rfl ?_
          refine vv_lvE (lv' := [(5, .int (nI (u + 1))), (4, .int (vv_b ((b && decide ((¬ (wf (57 + 4 * u)) = i) ∨ (f_X8_chargeOf (nI v) (wf (58 + 4 * u)) (wf (59 + 4 * u))) = (wf (60 + 4 * u)))) = true))), (0, .ref qm), (1, .int i), (2, .int sa), (3, .int (nI v))]) (by first | (simp only [if_pos h_2, if_pos h_3, if_neg h_4]; done) | (simp [vv_b, h_2, h_3, h_4]; done)) ?_
          exact ih (u + 1) (b && decide ((¬ (wf (57 + 4 * u)) = i) ∨ (f_X8_chargeOf (nI v) (wf (58 + 4 * u)) (wf (59 + 4 * u))) = (wf (60 + 4 * u)))) (by omega) (by rw [itr_s] at kx; exact kx)
        · refine vv_iconst (v := 1) F dX8_housesOf_87 (by decide) ?_
          refine vv_goto (tgt := 92) F dX8_housesOf_88 (by decide) ?_
          refine vv_istore (lv' := [(4, .int 1), (6, .int (57 + (4 * (nI u)))), (5, .int (nI u)), (0, .ref qm), (1, .int i), (2, .int sa), (3, .int (nI v))]) F dX8_housesOf_92 (by decide) rfl ?_
          refine vv_iinc (v := (nI (u + 1))) (lv' := [(5, .int (nI (u + 1))), (4, .int 1), (6, .int (57 + (4 * (nI u)))), (0, .ref qm), (1, .int i), (2, .int sa), (3, .int (nI v))]) 2 F dX8_housesOf_94 rfl (nI_1 u) (by decide) rfl ?_
          refine vv_goto (tgt := 16) F dX8_housesOf_97 (by decide) ?_
          refine vv_lv (lv' := [(5, .int (nI (u + 1))), (4, .int 1), (0, .ref qm), (1, .int i), (2, .int sa), (3, .int (nI v))]) [0, 1, 3, 4, 5, 6] rfl ?_
          refine vv_lvE (lv' := [(5, .int (nI (u + 1))), (4, .int (vv_b ((b && decide ((¬ (wf (57 + 4 * u)) = i) ∨ (f_X8_chargeOf (nI v) (wf (58 + 4 * u)) (wf (59 + 4 * u))) = (wf (60 + 4 * u)))) = true))), (0, .ref qm), (1, .int i), (2, .int sa), (3, .int (nI v))]) (by first | (simp only [if_pos h_2, if_pos h_3, if_pos h_4]; done) | (simp [vv_b, h_2, h_3, h_4]; done)) ?_
          exact ih (u + 1) (b && decide ((¬ (wf (57 + 4 * u)) = i) ∨ (f_X8_chargeOf (nI v) (wf (58 + 4 * u)) (wf (59 + 4 * u))) = (wf (60 + 4 * u)))) (by omega) (by rw [itr_s] at kx; exact kx)
noncomputable def st_X8_housesOf (wf : Nat → Int32) (i : Int32) (cM : Nat) (u : Nat) (s : Int32) : Int32 := (s ||| (if (itr (st_X8_housesOf_in wf i u) cM 0 true) = true then (1 <<< ((nI u) &&& 31)) else 0))
theorem L_X8_housesOf {x : vv_X} (F : vv_F x cX8_housesOf 7 RX8 4) (qm qw qk qt : Nat) (txd : Int32) (abv blw : Int64) (qs : Nat) (atp stp nbr : Int32) (qi qp qh qb : Nat) (bmy : Int32) (qa q6 : Nat) (hsh : Int64) (wf : Nat → Int32) (i : Int32) (cM : Nat) (hcM : ((wf 56)).toInt = (cM : Int)) (hcM6 : cM ≤ 6) : ∀ (n : Nat) (u : Nat) (sa : Int32), u + n = 6 → vv_V x 7 121 [(3, .int (nI 6)), (2, .int (itr (st_X8_housesOf wf i cM) n u sa)), (0, .ref qm), (1, .int i)] [] [(qm, .inr (7, [.ref qw, .ref qk, .ref qt, .int txd, .long abv, .long blw, .ref qs, .int atp, .int stp, .int nbr, .ref qi, .ref qp, .ref qh, .ref qb, .int bmy, .ref qa, .ref q6, .long hsh])), (qw, .inl ((vv_k x).2.1.1, 456, .inl wf))] → vv_V x 7 4 [(3, .int (nI u)), (2, .int sa), (0, .ref qm), (1, .int i)] [] [(qm, .inr (7, [.ref qw, .ref qk, .ref qt, .int txd, .long abv, .long blw, .ref qs, .int atp, .int stp, .int nbr, .ref qi, .ref qp, .ref qh, .ref qb, .int bmy, .ref qa, .ref q6, .long hsh])), (qw, .inl ((vv_k x).2.1.1, 456, .inl wf))] := by
  intro n
  induction n with
  | zero =>
    intro u sa hu  kx
    refine vv_iload_n F dX8_housesOf_4 rfl rfl ?_
    refine vv_bipush (v := 6) F dX8_housesOf_5 (by decide) ?_
    refine vv_icmp_ge (tgt := 121) F dX8_housesOf_7 (by decide) (fun h_1 => ?_) (fun h_1 => absurd ((c_le (by decide : (6 : Int32).toInt = ((6 : Nat) : Int)) (nI_toInt (n := u) (by omega))).mpr (by omega)) h_1)
    obtain rfl : u = 6 := by omega
    rw [itr_0] at kx
    exact vv_lv [0, 1, 2, 3] rfl kx
  | succ n ih =>
    intro u sa hu  kx
    refine vv_iload_n F dX8_housesOf_4 rfl rfl ?_
    refine vv_bipush (v := 6) F dX8_housesOf_5 (by decide) ?_
    refine vv_icmp_ge (tgt := 121) F dX8_housesOf_7 (by decide) (fun h_1 => absurd ((c_le (by decide : (6 : Int32).toInt = ((6 : Nat) : Int)) (nI_toInt (n := u) (by omega))).mp h_1) (by omega)) (fun h_1 => ?_)
    refine vv_iconst (v := 1) F dX8_housesOf_10 (by decide) ?_
    refine vv_istore (lv' := [(4, .int 1), (3, .int (nI u)), (2, .int sa), (0, .ref qm), (1, .int i)]) F dX8_housesOf_11 (by decide) rfl ?_
    refine vv_iconst (v := 0) F dX8_housesOf_13 (by decide) ?_
    refine vv_istore (lv' := [(5, .int 0), (4, .int 1), (3, .int (nI u)), (2, .int sa), (0, .ref qm), (1, .int i)]) F dX8_housesOf_14 (by decide) rfl ?_
    refine vv_lv (lv' := [(5, .int 0), (4, .int (vv_b (true = true))), (0, .ref qm), (1, .int i), (2, .int sa), (3, .int (nI u))]) [0, 1, 4, 5, 3, 2] rfl ?_
    refine L_X8_housesOf_in F qm qw qk qt txd abv blw qs atp stp nbr qi qp qh qb bmy qa q6 hsh wf i sa u cM hcM (by omega) (by omega) cM 0 true (by omega) ?_
    refine vv_iload_n F dX8_housesOf_100 rfl rfl ?_
    refine vv_iload F dX8_housesOf_101 rfl ?_
    refine vv_ifz_eq (tgt := 112) F dX8_housesOf_103 (by decide) (fun h_2 => ?_) (fun h_2 => ?_)
    · refine vv_iconst (v := 0) F dX8_housesOf_112 (by decide) ?_
      refine vv_ior F dX8_housesOf_113 ?_
      refine vv_istore_n (lv' := [(2, .int (sa ||| 0)), (5, .int (nI cM)), (4, .int (vv_b ((itr (st_X8_housesOf_in wf i u) cM 0 true) = true))), (0, .ref qm), (1, .int i), (3, .int (nI u))]) F dX8_housesOf_114 rfl (by decide) rfl ?_
      refine vv_iinc (v := (nI (u + 1))) (lv' := [(3, .int (nI (u + 1))), (2, .int (sa ||| 0)), (5, .int (nI cM)), (4, .int (vv_b ((itr (st_X8_housesOf_in wf i u) cM 0 true) = true))), (0, .ref qm), (1, .int i)]) 5 F dX8_housesOf_115 rfl (nI_1 u) (by decide) rfl ?_
      refine vv_goto (tgt := 4) F dX8_housesOf_118 (by decide) ?_
      refine vv_lv (lv' := [(3, .int (nI (u + 1))), (2, .int (sa ||| 0)), (0, .ref qm), (1, .int i)]) [0, 1, 4, 5] rfl ?_
      refine vv_lvE (lv' := [(3, .int (nI (u + 1))), (2, .int (sa ||| (if (itr (st_X8_housesOf_in wf i u) cM 0 true) = true then (1 <<< ((nI u) &&& 31)) else 0))), (0, .ref qm), (1, .int i)]) (by first | (simp only [if_neg h_2]; done) | (simp [vv_b, h_2]; done)) ?_
      exact ih (u + 1) (sa ||| (if (itr (st_X8_housesOf_in wf i u) cM 0 true) = true then (1 <<< ((nI u) &&& 31)) else 0)) (by omega) (by rw [itr_s] at kx; exact kx)
    · refine vv_iconst (v := 1) F dX8_housesOf_106 (by decide) ?_
      refine vv_iload_n F dX8_housesOf_107 rfl rfl ?_
      refine vv_ishl F dX8_housesOf_108 ?_
      refine vv_goto (tgt := 113) F dX8_housesOf_109 (by decide) ?_
      refine vv_ior F dX8_housesOf_113 ?_
      refine vv_istore_n (lv' := [(2, .int (sa ||| (1 <<< ((nI u) &&& 31)))), (5, .int (nI cM)), (4, .int (vv_b ((itr (st_X8_housesOf_in wf i u) cM 0 true) = true))), (0, .ref qm), (1, .int i), (3, .int (nI u))]) F dX8_housesOf_114 rfl (by decide) rfl ?_
      refine vv_iinc (v := (nI (u + 1))) (lv' := [(3, .int (nI (u + 1))), (2, .int (sa ||| (1 <<< ((nI u) &&& 31)))), (5, .int (nI cM)), (4, .int (vv_b ((itr (st_X8_housesOf_in wf i u) cM 0 true) = true))), (0, .ref qm), (1, .int i)]) 5 F dX8_housesOf_115 rfl (nI_1 u) (by decide) rfl ?_
      refine vv_goto (tgt := 4) F dX8_housesOf_118 (by decide) ?_
      refine vv_lv (lv' := [(3, .int (nI (u + 1))), (2, .int (sa ||| (1 <<< ((nI u) &&& 31)))), (0, .ref qm), (1, .int i)]) [0, 1, 4, 5] rfl ?_
      refine vv_lvE (lv' := [(3, .int (nI (u + 1))), (2, .int (sa ||| (if (itr (st_X8_housesOf_in wf i u) cM 0 true) = true then (1 <<< ((nI u) &&& 31)) else 0))), (0, .ref qm), (1, .int i)]) (by first | (simp only [if_pos h_2]; done) | (simp [vv_b, h_2]; done)) ?_
      exact ih (u + 1) (sa ||| (if (itr (st_X8_housesOf_in wf i u) cM 0 true) = true then (1 <<< ((nI u) &&& 31)) else 0)) (by omega) (by rw [itr_s] at kx; exact kx)
theorem c_X8_housesOf (l : Launch) (K : vv_K) (qm qw qk qt : Nat) (txd : Int32) (abv blw : Int64) (qs : Nat) (atp stp nbr : Int32) (qi qp qh qb : Nat) (bmy : Int32) (qa q6 : Nat) (hsh : Int64) (wf : Nat → Int32) (i : Int32) (cM : Nat) (hcM : ((wf 56)).toInt = (cM : Int)) (hcM6 : cM ≤ 6)  : vv_C l K 4 yX8_housesOf cX8_housesOf 7 (some .int) [.ref qm, .int i] [(qm, .inr (7, [.ref qw, .ref qk, .ref qt, .int txd, .long abv, .long blw, .ref qs, .int atp, .int stp, .int nbr, .ref qi, .ref qp, .ref qh, .ref qb, .int bmy, .ref qa, .ref q6, .long hsh])), (qw, .inl (K.2.1.1, 456, .inl wf))] (some (.int (itr (st_X8_housesOf wf i cM) 6 0 0))) [(qm, .inr (7, [.ref qw, .ref qk, .ref qt, .int txd, .long abv, .long blw, .ref qs, .int atp, .int stp, .int nbr, .ref qi, .ref qp, .ref qh, .ref qb, .int bmy, .ref qa, .ref q6, .long hsh])), (qw, .inl (K.2.1.1, 456, .inl wf))] := by
  refine vv_C.of (lv := [(0, .ref qm), (1, .int i)]) (by decide +kernel) (Nat.le_of_ble_eq_true rfl) rfl ?_
  intro x hl hK F hR; subst hl; obtain rfl := hK
  refine vv_iconst (v := 0) F dX8_housesOf_0 (by decide) ?_
  refine vv_istore_n (lv' := [(2, .int 0), (0, .ref qm), (1, .int i)]) F dX8_housesOf_1 rfl (by decide) rfl ?_
  refine vv_iconst (v := 0) F dX8_housesOf_2 (by decide) ?_
  refine vv_istore_n (lv' := [(3, .int 0), (2, .int 0), (0, .ref qm), (1, .int i)]) F dX8_housesOf_3 rfl (by decide) rfl ?_
  refine vv_lv (lv' := [(3, .int 0), (2, .int 0), (0, .ref qm), (1, .int i)]) [0, 1, 2, 3] rfl ?_
  refine L_X8_housesOf F qm qw qk qt txd abv blw qs atp stp nbr qi qp qh qb bmy qa q6 hsh wf i cM hcM (by omega) 6 0 0 (by omega) ?_
  refine vv_iload_n F dX8_housesOf_121 rfl rfl ?_
  exact vv_iret F hR dX8_housesOf_122 rfl rfl
noncomputable def f_X8_is (wf : Nat → Int32) (i : Int32) (cO : Nat) : Int32 := (if p_X8_in i.toInt64 0 (((wf 0) - 1).toInt64) then (itr (st_X8_kindsOf wf i cO) 6 0 0) else (-2))
noncomputable def g_X8_is_2 (wf ss : Nat → Int32) (i : Int32) : Nat → Int32 := (if p_X8_in i.toInt64 0 (((wf 0) - 1).toInt64) then ss else (upd ss 0 ((ss 0) + 1)))
theorem c_X8_is (l : Launch) (K : vv_K) (qm qw qk qt : Nat) (txd : Int32) (abv blw : Int64) (qs : Nat) (atp stp nbr : Int32) (qi qp qh qb : Nat) (bmy : Int32) (qa q6 : Nat) (hsh : Int64) (wf ss : Nat → Int32) (i : Int32) (cO : Nat) (hcO : ((wf 31)).toInt = (cO : Int)) (hcO6 : cO ≤ 6)  : vv_C l K 5 yX8_is cX8_is 2 (some .int) [.ref qm, .int i] [(qm, .inr (7, [.ref qw, .ref qk, .ref qt, .int txd, .long abv, .long blw, .ref qs, .int atp, .int stp, .int nbr, .ref qi, .ref qp, .ref qh, .ref qb, .int bmy, .ref qa, .ref q6, .long hsh])), (qw, .inl (K.2.1.1, 456, .inl wf)), (qs, .inl (K.2.1.1, 3, .inl ss))] (some (.int (f_X8_is wf i cO))) [(qm, .inr (7, [.ref qw, .ref qk, .ref qt, .int txd, .long abv, .long blw, .ref qs, .int atp, .int stp, .int nbr, .ref qi, .ref qp, .ref qh, .ref qb, .int bmy, .ref qa, .ref q6, .long hsh])), (qw, .inl (K.2.1.1, 456, .inl wf)), (qs, .inl (K.2.1.1, 3, .inl (g_X8_is_2 wf ss i)))] := by
  refine vv_C.of (lv := [(0, .ref qm), (1, .int i)]) (by decide +kernel) (Nat.le_of_ble_eq_true rfl) rfl ?_
  intro x hl hK F hR; subst hl; obtain rfl := hK
  refine vv_aload_n F dX8_is_0 rfl rfl ?_
  refine vv_iload_n F dX8_is_1 rfl rfl ?_
  refine vv_callVp (As := [.int i]) (rest := []) [0, 1] 0 F (c_X8_isString (vv_l x) (vv_k x) qm qw qk qt txd abv blw qs atp stp nbr qi qp qh qb bmy qa q6 hsh wf i) mv_X8_197 dX8_is_2 (by decide) rfl rfl (Nat.le_of_ble_eq_true rfl) rfl (by decide) rfl ?_
  refine vv_ifz_eq (tgt := 16) F dX8_is_5 (by decide) (fun h_1 => ?_) (fun h_1 => ?_)
  · refine vv_aload_n F dX8_is_16 rfl rfl ?_
    refine vv_bipush (v := (-2)) F dX8_is_17 (by decide) ?_
    refine vv_callV (As := [.int (-2)]) (rest := []) [0, 2] 0 (ws' := [(qm, .inr (7, [.ref qw, .ref qk, .ref qt, .int txd, .long abv, .long blw, .ref qs, .int atp, .int stp, .int nbr, .ref qi, .ref qp, .ref qh, .ref qb, .int bmy, .ref qa, .ref q6, .long hsh])), (qw, .inl ((vv_k x).2.1.1, 456, .inl wf)), (qs, .inl ((vv_k x).2.1.1, 3, .inl (upd ss 0 ((ss 0) + 1))))]) F (c_X8_bad (vv_l x) (vv_k x) qm qw qk qt txd abv blw qs atp stp nbr qi qp qh qb bmy qa q6 hsh ss (-2)) mv_X8_78 dX8_is_19 (by decide) rfl rfl (Nat.le_of_ble_eq_true rfl) rfl (by decide) (Eq.trans (b := [qm, qs]) rfl rfl) rfl rfl ?_
    exact vv_iret F hR dX8_is_22 (congrArg (fun z => some (Value.int z)) ((if_neg h_1).trans rfl)) (by simp only [g_X8_is_2, if_neg h_1])
  · refine vv_aload_n F dX8_is_8 rfl rfl ?_
    refine vv_iload_n F dX8_is_9 rfl rfl ?_
    refine vv_callVp (As := [.int i]) (rest := []) [0, 1] 0 F (c_X8_kindsOf (vv_l x) (vv_k x) qm qw qk qt txd abv blw qs atp stp nbr qi qp qh qb bmy qa q6 hsh wf i cO hcO (by omega)) mv_X8_232 dX8_is_10 (by decide) rfl rfl (Nat.le_of_ble_eq_true rfl) rfl (by decide) rfl ?_
    refine vv_goto (tgt := 22) F dX8_is_13 (by decide) ?_
    exact vv_iret F hR dX8_is_22 (congrArg (fun z => some (Value.int z)) ((if_pos h_1).trans rfl)) (by simp only [g_X8_is_2, if_pos h_1])
noncomputable def f_X8_kinds (wf : Nat → Int32) (hs : Int32) (cM : Nat) : Int32 := (if p_X8_in hs.toInt64 0 1 then (itr (st_X8_housesOf wf hs cM) 6 0 0) else (-2))
noncomputable def g_X8_kinds_2 (ss : Nat → Int32) (hs : Int32) : Nat → Int32 := (if p_X8_in hs.toInt64 0 1 then ss else (upd ss 0 ((ss 0) + 1)))
theorem c_X8_kinds (l : Launch) (K : vv_K) (qm qw qk qt : Nat) (txd : Int32) (abv blw : Int64) (qs : Nat) (atp stp nbr : Int32) (qi qp qh qb : Nat) (bmy : Int32) (qa q6 : Nat) (hsh : Int64) (wf ss : Nat → Int32) (hs : Int32) (cM : Nat) (hcM : ((wf 56)).toInt = (cM : Int)) (hcM6 : cM ≤ 6)  : vv_C l K 5 yX8_kinds cX8_kinds 2 (some .int) [.ref qm, .int hs] [(qm, .inr (7, [.ref qw, .ref qk, .ref qt, .int txd, .long abv, .long blw, .ref qs, .int atp, .int stp, .int nbr, .ref qi, .ref qp, .ref qh, .ref qb, .int bmy, .ref qa, .ref q6, .long hsh])), (qw, .inl (K.2.1.1, 456, .inl wf)), (qs, .inl (K.2.1.1, 3, .inl ss))] (some (.int (f_X8_kinds wf hs cM))) [(qm, .inr (7, [.ref qw, .ref qk, .ref qt, .int txd, .long abv, .long blw, .ref qs, .int atp, .int stp, .int nbr, .ref qi, .ref qp, .ref qh, .ref qb, .int bmy, .ref qa, .ref q6, .long hsh])), (qw, .inl (K.2.1.1, 456, .inl wf)), (qs, .inl (K.2.1.1, 3, .inl (g_X8_kinds_2 ss hs)))] := by
  refine vv_C.of (lv := [(0, .ref qm), (1, .int hs)]) (by decide +kernel) (Nat.le_of_ble_eq_true rfl) rfl ?_
  intro x hl hK F hR; subst hl; obtain rfl := hK
  refine vv_iload_n F dX8_kinds_0 rfl rfl ?_
  refine vv_callSp (As := [.int hs]) (rest := []) [] F (c_X8_isHouse (vv_l x) (vv_k x) hs) ms_X8_81 dX8_kinds_1 (by decide) rfl rfl (Nat.le_of_ble_eq_true rfl) rfl (by decide) ?_
  refine vv_ifz_eq (tgt := 15) F dX8_kinds_4 (by decide) (fun h_1 => ?_) (fun h_1 => ?_)
  · refine vv_aload_n F dX8_kinds_15 rfl rfl ?_
    refine vv_bipush (v := (-2)) F dX8_kinds_16 (by decide) ?_
    refine vv_callV (As := [.int (-2)]) (rest := []) [0, 2] 0 (ws' := [(qm, .inr (7, [.ref qw, .ref qk, .ref qt, .int txd, .long abv, .long blw, .ref qs, .int atp, .int stp, .int nbr, .ref qi, .ref qp, .ref qh, .ref qb, .int bmy, .ref qa, .ref q6, .long hsh])), (qw, .inl ((vv_k x).2.1.1, 456, .inl wf)), (qs, .inl ((vv_k x).2.1.1, 3, .inl (upd ss 0 ((ss 0) + 1))))]) F (c_X8_bad (vv_l x) (vv_k x) qm qw qk qt txd abv blw qs atp stp nbr qi qp qh qb bmy qa q6 hsh ss (-2)) mv_X8_78 dX8_kinds_18 (by decide) rfl rfl (Nat.le_of_ble_eq_true rfl) rfl (by decide) (Eq.trans (b := [qm, qs]) rfl rfl) rfl rfl ?_
    exact vv_iret F hR dX8_kinds_21 (congrArg (fun z => some (Value.int z)) ((if_neg h_1).trans rfl)) (by simp only [g_X8_kinds_2, if_neg h_1])
  · have h_1r := in_rng (a := 0) (b := 1) (by decide) (by decide) h_1
    have h_1c := nn_cl (a := hs) (by omega)
    refine vv_aload_n F dX8_kinds_7 rfl rfl ?_
    refine vv_iload_n F dX8_kinds_8 rfl rfl ?_
    refine vv_callVp (As := [.int hs]) (rest := []) [0, 1] 0 F (c_X8_housesOf (vv_l x) (vv_k x) qm qw qk qt txd abv blw qs atp stp nbr qi qp qh qb bmy qa q6 hsh wf hs cM hcM (by omega)) mv_X8_238 dX8_kinds_9 (by decide) rfl rfl (Nat.le_of_ble_eq_true rfl) rfl (by decide) rfl ?_
    refine vv_goto (tgt := 21) F dX8_kinds_12 (by decide) ?_
    exact vv_iret F hR dX8_kinds_21 (congrArg (fun z => some (Value.int z)) ((if_pos h_1).trans rfl)) (by simp only [g_X8_kinds_2, if_pos h_1])
noncomputable def st_X8_greatest_in (sx : Nat → Int32) (se : Int32) (v : Nat) (u : Nat) (s : Int32) : Int32 := (s + (if p_X8_has se (nI v) then (if p_X8_has se (nI u) then (if (sx v) = (sx u) then 1 else 0) else 0) else 0))
theorem L_X8_greatest_in {x : vv_X} (F : vv_F x cX8_greatest 6 RX8 2) (qm qw qk qt : Nat) (txd : Int32) (abv blw : Int64) (qs : Nat) (atp stp nbr : Int32) (qi qp qh qb : Nat) (bmy : Int32) (qa q6 : Nat) (hsh : Int64) (sx : Nat → Int32) (se mo : Int32) (v : Nat) (hv6 : v < 6) : ∀ (n : Nat) (u : Nat) (k : Int32), u + n = 6 → vv_V x 6 72 [(5, .int (nI 6)), (4, .int (itr (st_X8_greatest_in sx se v) n u k)), (0, .ref qm), (1, .int se), (2, .int mo), (3, .int (nI v))] [] [(qm, .inr (7, [.ref qw, .ref qk, .ref qt, .int txd, .long abv, .long blw, .ref qs, .int atp, .int stp, .int nbr, .ref qi, .ref qp, .ref qh, .ref qb, .int bmy, .ref qa, .ref q6, .long hsh])), (q6, .inl ((vv_k x).2.1.1, 6, .inl sx))] → vv_V x 6 16 [(5, .int (nI u)), (4, .int k), (0, .ref qm), (1, .int se), (2, .int mo), (3, .int (nI v))] [] [(qm, .inr (7, [.ref qw, .ref qk, .ref qt, .int txd, .long abv, .long blw, .ref qs, .int atp, .int stp, .int nbr, .ref qi, .ref qp, .ref qh, .ref qb, .int bmy, .ref qa, .ref q6, .long hsh])), (q6, .inl ((vv_k x).2.1.1, 6, .inl sx))] := by
  intro n
  induction n with
  | zero =>
    intro u k hu  kx
    refine vv_iload F dX8_greatest_16 rfl ?_
    refine vv_bipush (v := 6) F dX8_greatest_18 (by decide) ?_
    refine vv_icmp_ge (tgt := 72) F dX8_greatest_20 (by decide) (fun h_1 => ?_) (fun h_1 => absurd ((c_le (by decide : (6 : Int32).toInt = ((6 : Nat) : Int)) (nI_toInt (n := u) (by omega))).mpr (by omega)) h_1)
    obtain rfl : u = 6 := by omega
    rw [itr_0] at kx
    exact vv_lv [0, 1, 2, 3, 4, 5] rfl kx
  | succ n ih =>
    intro u k hu  kx
    refine vv_iload F dX8_greatest_16 rfl ?_
    refine vv_bipush (v := 6) F dX8_greatest_18 (by decide) ?_
    refine vv_icmp_ge (tgt := 72) F dX8_greatest_20 (by decide) (fun h_1 => absurd ((c_le (by decide : (6 : Int32).toInt = ((6 : Nat) : Int)) (nI_toInt (n := u) (by omega))).mp h_1) (by omega)) (fun h_1 => ?_)
    refine vv_iload F dX8_greatest_23 rfl ?_
    refine vv_iload_n F dX8_greatest_25 rfl rfl ?_
    refine vv_iload_n F dX8_greatest_26 rfl rfl ?_
    refine vv_callSp (As := [.int se, .int (nI v)]) (rest := [.int k]) [] F (c_X8_has (vv_l x) (vv_k x) se (nI v)) ms_X8_219 dX8_greatest_27 (by decide) rfl rfl (Nat.le_of_ble_eq_true rfl) rfl (by decide) ?_
    refine vv_ifz_eq (tgt := 62) F dX8_greatest_30 (by decide) (fun h_2 => ?_) (fun h_2 => ?_)
    · refine vv_iconst (v := 0) F dX8_greatest_62 (by decide) ?_
      refine vv_iadd F dX8_greatest_63 ?_
      refine vv_istore (lv' := [(4, .int (k + 0)), (5, .int (nI u)), (0, .ref qm), (1, .int se), (2, .int mo), (3, .int (nI v))]) F dX8_greatest_64 (by decide) rfl ?_
      refine vv_iinc (v := (nI (u + 1))) (lv' := [(5, .int (nI (u + 1))), (4, .int (k + 0)), (0, .ref qm), (1, .int se), (2, .int mo), (3, .int (nI v))]) 1 F dX8_greatest_66 rfl (nI_1 u) (by decide) rfl ?_
      refine vv_goto (tgt := 16) F dX8_greatest_69 (by decide) ?_
      refine vv_lv (lv' := [(5, .int (nI (u + 1))), (4, .int (k + 0)), (0, .ref qm), (1, .int se), (2, .int mo), (3, .int (nI v))]) [0, 1, 2, 3, 4, 5] rfl ?_
      refine vv_lvE (lv' := [(5, .int (nI (u + 1))), (4, .int (k + (if p_X8_has se (nI v) then (if p_X8_has se (nI u) then (if (sx v) = (sx u) then 1 else 0) else 0) else 0))), (0, .ref qm), (1, .int se), (2, .int mo), (3, .int (nI v))]) (by first | (simp only [if_neg h_2]; done) | (simp [vv_b, h_2]; done)) ?_
      exact ih (u + 1) (k + (if p_X8_has se (nI v) then (if p_X8_has se (nI u) then (if (sx v) = (sx u) then 1 else 0) else 0) else 0)) (by omega) (by rw [itr_s] at kx; exact kx)
    · refine vv_iload_n F dX8_greatest_33 rfl rfl ?_
      refine vv_iload F dX8_greatest_34 rfl ?_
      refine vv_callSp (As := [.int se, .int (nI u)]) (rest := [.int k]) [] F (c_X8_has (vv_l x) (vv_k x) se (nI u)) ms_X8_219 dX8_greatest_36 (by decide) rfl rfl (Nat.le_of_ble_eq_true rfl) rfl (by decide) ?_
      refine vv_ifz_eq (tgt := 62) F dX8_greatest_39 (by decide) (fun h_3 => ?_) (fun h_3 => ?_)
      · refine vv_iconst (v := 0) F dX8_greatest_62 (by decide) ?_
        refine vv_iadd F dX8_greatest_63 ?_
        refine vv_istore (lv' := [(4, .int (k + 0)), (5, .int (nI u)), (0, .ref qm), (1, .int se), (2, .int mo), (3, .int (nI v))]) F dX8_greatest_64 (by decide) rfl ?_
        refine vv_iinc (v := (nI (u + 1))) (lv' := [(5, .int (nI (u + 1))), (4, .int (k + 0)), (0, .ref qm), (1, .int se), (2, .int mo), (3, .int (nI v))]) 1 F dX8_greatest_66 rfl (nI_1 u) (by decide) rfl ?_
        refine vv_goto (tgt := 16) F dX8_greatest_69 (by decide) ?_
        refine vv_lv (lv' := [(5, .int (nI (u + 1))), (4, .int (k + 0)), (0, .ref qm), (1, .int se), (2, .int mo), (3, .int (nI v))]) [0, 1, 2, 3, 4, 5] rfl ?_
        refine vv_lvE (lv' := [(5, .int (nI (u + 1))), (4, .int (k + (if p_X8_has se (nI v) then (if p_X8_has se (nI u) then (if (sx v) = (sx u) then 1 else 0) else 0) else 0))), (0, .ref qm), (1, .int se), (2, .int mo), (3, .int (nI v))]) (by first | (simp only [if_pos h_2, if_neg h_3]; done) | (simp [vv_b, h_2, h_3]; done)) ?_
        exact ih (u + 1) (k + (if p_X8_has se (nI v) then (if p_X8_has se (nI u) then (if (sx v) = (sx u) then 1 else 0) else 0) else 0)) (by omega) (by rw [itr_s] at kx; exact kx)
      · refine vv_aload_n F dX8_greatest_42 rfl rfl ?_
        refine vv_get 0 F fl_X8_45 dX8_greatest_43 rfl rfl ?_
        refine vv_iload_n F dX8_greatest_46 rfl rfl ?_
        refine vv_iald 1 F dX8_greatest_47 rfl (vv_ixP (j := v) (by have hz := (nI_toInt (n := v) (by omega)); omega) (by omega)) ?_
        refine vv_aload_n F dX8_greatest_48 rfl rfl ?_
        refine vv_get 0 F fl_X8_45 dX8_greatest_49 rfl rfl ?_
        refine vv_iload F dX8_greatest_52 rfl ?_
        refine vv_iald 1 F dX8_greatest_54 rfl (vv_ixP (j := u) (by have hz := (nI_toInt (n := u) (by omega)); omega) (by omega)) ?_
        refine vv_icmp_ne (tgt := 62) F dX8_greatest_55 (by decide) (fun h_4 => ?_) (fun h_4 => ?_)
        · refine vv_iconst (v := 0) F dX8_greatest_62 (by decide) ?_
          refine vv_iadd F dX8_greatest_63 ?_
          refine vv_istore (lv' := [(4, .int (k + 0)), (5, .int (nI u)), (0, .ref qm), (1, .int se), (2, .int mo), (3, .int (nI v))]) F dX8_greatest_64 (by decide) rfl ?_
          refine vv_iinc (v := (nI (u + 1))) (lv' := [(5, .int (nI (u + 1))), (4, .int (k + 0)), (0, .ref qm), (1, .int se), (2, .int mo), (3, .int (nI v))]) 1 F dX8_greatest_66 rfl (nI_1 u) (by decide) rfl ?_
          refine vv_goto (tgt := 16) F dX8_greatest_69 (by decide) ?_
          refine vv_lv (lv' := [(5, .int (nI (u + 1))), (4, .int (k + 0)), (0, .ref qm), (1, .int se), (2, .int mo), (3, .int (nI v))]) [0, 1, 2, 3, 4, 5] rfl ?_
          refine vv_lvE (lv' := [(5, .int (nI (u + 1))), (4, .int (k + (if p_X8_has se (nI v) then (if p_X8_has se (nI u) then (if (sx v) = (sx u) then 1 else 0) else 0) else 0))), (0, .ref qm), (1, .int se), (2, .int mo), (3, .int (nI v))]) (by first | (simp only [if_pos h_2, if_pos h_3, if_neg h_4]; done) | (simp [vv_b, h_2, h_3, h_4]; done)) ?_
          exact ih (u + 1) (k + (if p_X8_has se (nI v) then (if p_X8_has se (nI u) then (if (sx v) = (sx u) then 1 else 0) else 0) else 0)) (by omega) (by rw [itr_s] at kx; exact kx)
        · refine vv_iconst (v := 1) F dX8_greatest_58 (by decide) ?_
          refine vv_goto (tgt := 63) F dX8_greatest_59 (by decide) ?_
          refine vv_iadd F dX8_greatest_63 ?_
          refine vv_istore (lv' := [(4, .int (k + 1)), (5, .int (nI u)), (0, .ref qm), (1, .int se), (2, .int mo), (3, .int (nI v))]) F dX8_greatest_64 (by decide) rfl ?_
          refine vv_iinc (v := (nI (u + 1))) (lv' := [(5, .int (nI (u + 1))), (4, .int (k + 1)), (0, .ref qm), (1, .int se), (2, .int mo), (3, .int (nI v))]) 1 F dX8_greatest_66 rfl (nI_1 u) (by decide) rfl ?_
          refine vv_goto (tgt := 16) F dX8_greatest_69 (by decide) ?_
          refine vv_lv (lv' := [(5, .int (nI (u + 1))), (4, .int (k + 1)), (0, .ref qm), (1, .int se), (2, .int mo), (3, .int (nI v))]) [0, 1, 2, 3, 4, 5] rfl ?_
          refine vv_lvE (lv' := [(5, .int (nI (u + 1))), (4, .int (k + (if p_X8_has se (nI v) then (if p_X8_has se (nI u) then (if (sx v) = (sx u) then 1 else 0) else 0) else 0))), (0, .ref qm), (1, .int se), (2, .int mo), (3, .int (nI v))]) (by first | (simp only [if_pos h_2, if_pos h_3, if_pos h_4]; done) | (simp [vv_b, h_2, h_3, h_4]; done)) ?_
          exact ih (u + 1) (k + (if p_X8_has se (nI v) then (if p_X8_has se (nI u) then (if (sx v) = (sx u) then 1 else 0) else 0) else 0)) (by omega) (by rw [itr_s] at kx; exact kx)
noncomputable def st_X8_greatest (sx : Nat → Int32) (se : Int32) (u : Nat) (s : Int32) : Int32 := (if (itr (st_X8_greatest_in sx se u) 6 0 0) ≤ s then s else (itr (st_X8_greatest_in sx se u) 6 0 0))
theorem L_X8_greatest {x : vv_X} (F : vv_F x cX8_greatest 6 RX8 2) (qm qw qk qt : Nat) (txd : Int32) (abv blw : Int64) (qs : Nat) (atp stp nbr : Int32) (qi qp qh qb : Nat) (bmy : Int32) (qa q6 : Nat) (hsh : Int64) (sx : Nat → Int32) (se : Int32)  : ∀ (n : Nat) (u : Nat) (mo : Int32), u + n = 6 → vv_V x 6 91 [(3, .int (nI 6)), (2, .int (itr (st_X8_greatest sx se) n u mo)), (0, .ref qm), (1, .int se)] [] [(qm, .inr (7, [.ref qw, .ref qk, .ref qt, .int txd, .long abv, .long blw, .ref qs, .int atp, .int stp, .int nbr, .ref qi, .ref qp, .ref qh, .ref qb, .int bmy, .ref qa, .ref q6, .long hsh])), (q6, .inl ((vv_k x).2.1.1, 6, .inl sx))] → vv_V x 6 4 [(3, .int (nI u)), (2, .int mo), (0, .ref qm), (1, .int se)] [] [(qm, .inr (7, [.ref qw, .ref qk, .ref qt, .int txd, .long abv, .long blw, .ref qs, .int atp, .int stp, .int nbr, .ref qi, .ref qp, .ref qh, .ref qb, .int bmy, .ref qa, .ref q6, .long hsh])), (q6, .inl ((vv_k x).2.1.1, 6, .inl sx))] := by
  intro n
  induction n with
  | zero =>
    intro u mo hu  kx
    refine vv_iload_n F dX8_greatest_4 rfl rfl ?_
    refine vv_bipush (v := 6) F dX8_greatest_5 (by decide) ?_
    refine vv_icmp_ge (tgt := 91) F dX8_greatest_7 (by decide) (fun h_1 => ?_) (fun h_1 => absurd ((c_le (by decide : (6 : Int32).toInt = ((6 : Nat) : Int)) (nI_toInt (n := u) (by omega))).mpr (by omega)) h_1)
    obtain rfl : u = 6 := by omega
    rw [itr_0] at kx
    exact vv_lv [0, 1, 2, 3] rfl kx
  | succ n ih =>
    intro u mo hu  kx
    refine vv_iload_n F dX8_greatest_4 rfl rfl ?_
    refine vv_bipush (v := 6) F dX8_greatest_5 (by decide) ?_
    refine vv_icmp_ge (tgt := 91) F dX8_greatest_7 (by decide) (fun h_1 => absurd ((c_le (by decide : (6 : Int32).toInt = ((6 : Nat) : Int)) (nI_toInt (n := u) (by omega))).mp h_1) (by omega)) (fun h_1 => ?_)
    refine vv_iconst (v := 0) F dX8_greatest_10 (by decide) ?_
    refine vv_istore (lv' := [(4, .int 0), (3, .int (nI u)), (2, .int mo), (0, .ref qm), (1, .int se)]) F dX8_greatest_11 (by decide) rfl ?_
    refine vv_iconst (v := 0) F dX8_greatest_13 (by decide) ?_
    refine vv_istore (lv' := [(5, .int 0), (4, .int 0), (3, .int (nI u)), (2, .int mo), (0, .ref qm), (1, .int se)]) F dX8_greatest_14 (by decide) rfl ?_
    refine vv_lv (lv' := [(5, .int 0), (4, .int 0), (0, .ref qm), (1, .int se), (2, .int mo), (3, .int (nI u))]) [0, 1, 4, 5, 3, 2] rfl ?_
    refine L_X8_greatest_in F qm qw qk qt txd abv blw qs atp stp nbr qi qp qh qb bmy qa q6 hsh sx se mo u (by omega) 6 0 0 (by omega) ?_
    refine vv_iload F dX8_greatest_72 rfl ?_
    refine vv_iload_n F dX8_greatest_74 rfl rfl ?_
    refine vv_icmp_le (tgt := 83) F dX8_greatest_75 (by decide) (fun h_2 => ?_) (fun h_2 => ?_)
    · refine vv_iload_n F dX8_greatest_83 rfl rfl ?_
      refine vv_istore_n (lv' := [(2, .int mo), (5, .int (nI 6)), (4, .int (itr (st_X8_greatest_in sx se u) 6 0 0)), (0, .ref qm), (1, .int se), (3, .int (nI u))]) F dX8_greatest_84 rfl (by decide) rfl ?_
      refine vv_iinc (v := (nI (u + 1))) (lv' := [(3, .int (nI (u + 1))), (2, .int mo), (5, .int (nI 6)), (4, .int (itr (st_X8_greatest_in sx se u) 6 0 0)), (0, .ref qm), (1, .int se)]) 5 F dX8_greatest_85 rfl (nI_1 u) (by decide) rfl ?_
      refine vv_goto (tgt := 4) F dX8_greatest_88 (by decide) ?_
      refine vv_lv (lv' := [(3, .int (nI (u + 1))), (2, .int mo), (0, .ref qm), (1, .int se)]) [0, 1, 4, 5] rfl ?_
      refine vv_lvE (lv' := [(3, .int (nI (u + 1))), (2, .int (if (itr (st_X8_greatest_in sx se u) 6 0 0) ≤ mo then mo else (itr (st_X8_greatest_in sx se u) 6 0 0))), (0, .ref qm), (1, .int se)]) (by first | (simp only [if_pos h_2]; done) | (simp [vv_b, h_2]; done)) ?_
      exact ih (u + 1) (if (itr (st_X8_greatest_in sx se u) 6 0 0) ≤ mo then mo else (itr (st_X8_greatest_in sx se u) 6 0 0)) (by omega) (by rw [itr_s] at kx; exact kx)
    · refine vv_iload F dX8_greatest_78 rfl ?_
      refine vv_goto (tgt := 84) F dX8_greatest_80 (by decide) ?_
      refine vv_istore_n (lv' := [(2, .int (itr (st_X8_greatest_in sx se u) 6 0 0)), (5, .int (nI 6)), (4, .int (itr (st_X8_greatest_in sx se u) 6 0 0)), (0, .ref qm), (1, .int se), (3, .int (nI u))]) F dX8_greatest_84 rfl (by decide) rfl ?_
      refine vv_iinc (v := (nI (u + 1))) (lv' := [(3, .int (nI (u + 1))), (2, .int (itr (st_X8_greatest_in sx se u) 6 0 0)), (5, .int (nI 6)), (4, .int (itr (st_X8_greatest_in sx se u) 6 0 0)), (0, .ref qm), (1, .int se)]) 5 F dX8_greatest_85 rfl (nI_1 u) (by decide) rfl ?_
      refine vv_goto (tgt := 4) F dX8_greatest_88 (by decide) ?_
      refine vv_lv (lv' := [(3, .int (nI (u + 1))), (2, .int (itr (st_X8_greatest_in sx se u) 6 0 0)), (0, .ref qm), (1, .int se)]) [0, 1, 4, 5] rfl ?_
      refine vv_lvE (lv' := [(3, .int (nI (u + 1))), (2, .int (if (itr (st_X8_greatest_in sx se u) 6 0 0) ≤ mo then mo else (itr (st_X8_greatest_in sx se u) 6 0 0))), (0, .ref qm), (1, .int se)]) (by first | (simp only [if_neg h_2]; done) | (simp [vv_b, h_2]; done)) ?_
      exact ih (u + 1) (if (itr (st_X8_greatest_in sx se u) 6 0 0) ≤ mo then mo else (itr (st_X8_greatest_in sx se u) 6 0 0)) (by omega) (by rw [itr_s] at kx; exact kx)
theorem c_X8_greatest (l : Launch) (K : vv_K) (qm qw qk qt : Nat) (txd : Int32) (abv blw : Int64) (qs : Nat) (atp stp nbr : Int32) (qi qp qh qb : Nat) (bmy : Int32) (qa q6 : Nat) (hsh : Int64) (sx : Nat → Int32) (se : Int32)  : vv_C l K 2 yX8_greatest cX8_greatest 6 (some .int) [.ref qm, .int se] [(qm, .inr (7, [.ref qw, .ref qk, .ref qt, .int txd, .long abv, .long blw, .ref qs, .int atp, .int stp, .int nbr, .ref qi, .ref qp, .ref qh, .ref qb, .int bmy, .ref qa, .ref q6, .long hsh])), (q6, .inl (K.2.1.1, 6, .inl sx))] (some (.int (itr (st_X8_greatest sx se) 6 0 0))) [(qm, .inr (7, [.ref qw, .ref qk, .ref qt, .int txd, .long abv, .long blw, .ref qs, .int atp, .int stp, .int nbr, .ref qi, .ref qp, .ref qh, .ref qb, .int bmy, .ref qa, .ref q6, .long hsh])), (q6, .inl (K.2.1.1, 6, .inl sx))] := by
  refine vv_C.of (lv := [(0, .ref qm), (1, .int se)]) (by decide +kernel) (Nat.le_of_ble_eq_true rfl) rfl ?_
  intro x hl hK F hR; subst hl; obtain rfl := hK
  refine vv_iconst (v := 0) F dX8_greatest_0 (by decide) ?_
  refine vv_istore_n (lv' := [(2, .int 0), (0, .ref qm), (1, .int se)]) F dX8_greatest_1 rfl (by decide) rfl ?_
  refine vv_iconst (v := 0) F dX8_greatest_2 (by decide) ?_
  refine vv_istore_n (lv' := [(3, .int 0), (2, .int 0), (0, .ref qm), (1, .int se)]) F dX8_greatest_3 rfl (by decide) rfl ?_
  refine vv_lv (lv' := [(3, .int 0), (2, .int 0), (0, .ref qm), (1, .int se)]) [0, 1, 2, 3] rfl ?_
  refine L_X8_greatest F qm qw qk qt txd abv blw qs atp stp nbr qi qp qh qb bmy qa q6 hsh sx se 6 0 0 (by omega) ?_
  refine vv_iload_n F dX8_greatest_91 rfl rfl ?_
  exact vv_iret F hR dX8_greatest_92 rfl rfl
noncomputable def st_X8_look_in (wf : Nat → Int32) (v ii : Nat) (u : Nat) (s : (Nat → Int32)) : (Nat → Int32) := (upd s u (f_X8_showOf (nI u) (wf (6 + ii)) (nI v)))
theorem L_X8_look_in {x : vv_X} (F : vv_F x cX8_look 7 RX8 5) (qm qw qk qt : Nat) (txd : Int32) (abv blw : Int64) (qs : Nat) (atp stp nbr : Int32) (qi qp qh qb : Nat) (bmy : Int32) (qa q6 : Nat) (hsh : Int64) (wf ss sx : Nat → Int32) (i se be le : Int32) (v : Nat) (ii : Nat) (hi : (i).toInt = (ii : Int)) (hii : ii < 5) (hv : v < 200) : ∀ (n : Nat) (u : Nat) (sx : Nat → Int32), u + n = 6 → vv_V x 7 80 [(6, .int (nI 6)), (0, .ref qm), (1, .int i), (2, .int se), (3, .int be), (4, .int le), (5, .int (nI v))] [] [(qm, .inr (7, [.ref qw, .ref qk, .ref qt, .int txd, .long abv, .long blw, .ref qs, .int atp, .int stp, .int nbr, .ref qi, .ref qp, .ref qh, .ref qb, .int bmy, .ref qa, .ref q6, .long hsh])), (qw, .inl ((vv_k x).2.1.1, 456, .inl wf)), (qs, .inl ((vv_k x).2.1.1, 3, .inl ss)), (q6, .inl ((vv_k x).2.1.1, 6, .inl (itr (st_X8_look_in wf v ii) n u sx)))] → vv_V x 7 44 [(6, .int (nI u)), (0, .ref qm), (1, .int i), (2, .int se), (3, .int be), (4, .int le), (5, .int (nI v))] [] [(qm, .inr (7, [.ref qw, .ref qk, .ref qt, .int txd, .long abv, .long blw, .ref qs, .int atp, .int stp, .int nbr, .ref qi, .ref qp, .ref qh, .ref qb, .int bmy, .ref qa, .ref q6, .long hsh])), (qw, .inl ((vv_k x).2.1.1, 456, .inl wf)), (qs, .inl ((vv_k x).2.1.1, 3, .inl ss)), (q6, .inl ((vv_k x).2.1.1, 6, .inl sx))] := by
  intro n
  induction n with
  | zero =>
    intro u sx hu  kx
    refine vv_iload F dX8_look_44 rfl ?_
    refine vv_bipush (v := 6) F dX8_look_46 (by decide) ?_
    refine vv_icmp_ge (tgt := 80) F dX8_look_48 (by decide) (fun h_1 => ?_) (fun h_1 => absurd ((c_le (by decide : (6 : Int32).toInt = ((6 : Nat) : Int)) (nI_toInt (n := u) (by omega))).mpr (by omega)) h_1)
    obtain rfl : u = 6 := by omega
    rw [itr_0] at kx
    exact vv_lv [0, 1, 2, 3, 4, 5, 6] rfl kx
  | succ n ih =>
    intro u sx hu  kx
    refine vv_iload F dX8_look_44 rfl ?_
    refine vv_bipush (v := 6) F dX8_look_46 (by decide) ?_
    refine vv_icmp_ge (tgt := 80) F dX8_look_48 (by decide) (fun h_1 => absurd ((c_le (by decide : (6 : Int32).toInt = ((6 : Nat) : Int)) (nI_toInt (n := u) (by omega))).mp h_1) (by omega)) (fun h_1 => ?_)
    refine vv_aload_n F dX8_look_51 rfl rfl ?_
    refine vv_get 0 F fl_X8_45 dX8_look_52 rfl rfl ?_
    refine vv_iload F dX8_look_55 rfl ?_
    refine vv_iload F dX8_look_57 rfl ?_
    refine vv_aload_n F dX8_look_59 rfl rfl ?_
    refine vv_get 0 F fl_X8_7 dX8_look_60 rfl rfl ?_
    refine vv_bipush (v := 6) F dX8_look_63 (by decide) ?_
    refine vv_iload_n F dX8_look_65 rfl rfl ?_
    refine vv_iadd F dX8_look_66 ?_
    refine vv_iald 1 F dX8_look_67 rfl (vv_ixP (j := (6 + ii)) (by have hz := (nn_add (by decide : (6 : Int32).toInt = ((6 : Nat) : Int)) hi (by omega)); omega) (by omega)) ?_
    refine vv_iload F dX8_look_68 rfl ?_
    refine vv_callSp (As := [.int (nI u), .int (wf (6 + ii)), .int (nI v)]) (rest := [.int (nI u), .ref q6]) [] F (c_X8_showOf (vv_l x) (vv_k x) (nI u) (wf (6 + ii)) (nI v)) ms_X8_178 dX8_look_70 (by decide) rfl rfl (Nat.le_of_ble_eq_true rfl) rfl (by decide) ?_
    refine vv_iast 3 (ws' := [(qm, .inr (7, [.ref qw, .ref qk, .ref qt, .int txd, .long abv, .long blw, .ref qs, .int atp, .int stp, .int nbr, .ref qi, .ref qp, .ref qh, .ref qb, .int bmy, .ref qa, .ref q6, .long hsh])), (qw, .inl ((vv_k x).2.1.1, 456, .inl wf)), (qs, .inl ((vv_k x).2.1.1, 3, .inl ss)), (q6, .inl ((vv_k x).2.1.1, 6, .inl (upd sx u (f_X8_showOf (nI u) (wf (6 + ii)) (nI v)))))]) F dX8_look_73 rfl (vv_ixP (j := u) (by have hz := (nI_toInt (n := u) (by omega)); omega) (by omega)) rfl ?_
    refine vv_iinc (v := (nI (u + 1))) (lv' := [(6, .int (nI (u + 1))), (0, .ref qm), (1, .int i), (2, .int se), (3, .int be), (4, .int le), (5, .int (nI v))]) 0 F dX8_look_74 rfl (nI_1 u) (by decide) rfl ?_
    refine vv_goto (tgt := 44) F dX8_look_77 (by decide) ?_
    refine vv_lv [0, 1, 2, 3, 4, 5, 6] rfl ?_
    exact ih (u + 1) (upd sx u (f_X8_showOf (nI u) (wf (6 + ii)) (nI v))) (by omega) (by rw [itr_s] at kx; exact kx)
noncomputable def st_X8_look (wf : Nat → Int32) (se : Int32) (ii : Nat) (u : Nat) (s : Int32 × Int32 × (Nat → Int32)) : Int32 × Int32 × (Nat → Int32) := ((if s.2.1 ≤ (itr (st_X8_greatest (itr (st_X8_look_in wf u ii) 6 0 s.2.2) se) 6 0 0) then s.1 else (nI u)), (if s.2.1 ≤ (itr (st_X8_greatest (itr (st_X8_look_in wf u ii) 6 0 s.2.2) se) 6 0 0) then s.2.1 else (itr (st_X8_greatest (itr (st_X8_look_in wf u ii) 6 0 s.2.2) se) 6 0 0)), (itr (st_X8_look_in wf u ii) 6 0 s.2.2))
theorem L_X8_look {x : vv_X} (F : vv_F x cX8_look 7 RX8 5) (qm qw qk qt : Nat) (txd : Int32) (abv blw : Int64) (qs : Nat) (atp stp nbr : Int32) (qi qp qh qb : Nat) (bmy : Int32) (qa q6 : Nat) (hsh : Int64) (wf ss sx : Nat → Int32) (i se : Int32) (ii : Nat) (hi : (i).toInt = (ii : Int)) (hii : ii < 5) (hse : 0 < se) : ∀ (n : Nat) (u : Nat) (be : Int32) (le : Int32) (sx : Nat → Int32), u + n = 24 → vv_V x 7 123 [(5, .int (nI 24)), (3, .int ((itr (st_X8_look wf se ii) n u (be, le, sx)).1)), (4, .int ((itr (st_X8_look wf se ii) n u (be, le, sx)).2.1)), (0, .ref qm), (1, .int i), (2, .int se)] [] [(qm, .inr (7, [.ref qw, .ref qk, .ref qt, .int txd, .long abv, .long blw, .ref qs, .int atp, .int stp, .int nbr, .ref qi, .ref qp, .ref qh, .ref qb, .int bmy, .ref qa, .ref q6, .long hsh])), (qw, .inl ((vv_k x).2.1.1, 456, .inl wf)), (qs, .inl ((vv_k x).2.1.1, 3, .inl ss)), (q6, .inl ((vv_k x).2.1.1, 6, .inl ((itr (st_X8_look wf se ii) n u (be, le, sx)).2.2)))] → vv_V x 7 30 [(5, .int (nI u)), (3, .int be), (4, .int le), (0, .ref qm), (1, .int i), (2, .int se)] [] [(qm, .inr (7, [.ref qw, .ref qk, .ref qt, .int txd, .long abv, .long blw, .ref qs, .int atp, .int stp, .int nbr, .ref qi, .ref qp, .ref qh, .ref qb, .int bmy, .ref qa, .ref q6, .long hsh])), (qw, .inl ((vv_k x).2.1.1, 456, .inl wf)), (qs, .inl ((vv_k x).2.1.1, 3, .inl ss)), (q6, .inl ((vv_k x).2.1.1, 6, .inl sx))] := by
  intro n
  induction n with
  | zero =>
    intro u be le sx hu  kx
    refine vv_iload F dX8_look_30 rfl ?_
    refine vv_bipush (v := 24) F dX8_look_32 (by decide) ?_
    refine vv_icmp_ge (tgt := 123) F dX8_look_34 (by decide) (fun h_1 => ?_) (fun h_1 => absurd ((c_le (by decide : (24 : Int32).toInt = ((24 : Nat) : Int)) (nI_toInt (n := u) (by omega))).mpr (by omega)) h_1)
    obtain rfl : u = 24 := by omega
    rw [itr_0] at kx
    exact vv_lv [0, 1, 2, 3, 4, 5] rfl kx
  | succ n ih =>
    intro u be le sx hu  kx
    refine vv_iload F dX8_look_30 rfl ?_
    refine vv_bipush (v := 24) F dX8_look_32 (by decide) ?_
    refine vv_icmp_ge (tgt := 123) F dX8_look_34 (by decide) (fun h_1 => absurd ((c_le (by decide : (24 : Int32).toInt = ((24 : Nat) : Int)) (nI_toInt (n := u) (by omega))).mp h_1) (by omega)) (fun h_1 => ?_)
    refine vv_iload_n F dX8_look_37 rfl rfl ?_
    refine vv_if_le (tgt := 123) F dX8_look_38 (by decide) (fun h_2 => absurd h_2 (Int32.not_le.mpr hse)) (fun h_2 => ?_)
    refine vv_iconst (v := 0) F dX8_look_41 (by decide) ?_
    refine vv_istore (lv' := [(6, .int 0), (5, .int (nI u)), (3, .int be), (4, .int le), (0, .ref qm), (1, .int i), (2, .int se)]) F dX8_look_42 (by decide) rfl ?_
    refine vv_lv (lv' := [(6, .int 0), (0, .ref qm), (1, .int i), (2, .int se), (3, .int be), (4, .int le), (5, .int (nI u))]) [0, 4, 5, 6, 2, 3, 1] rfl ?_
    refine L_X8_look_in F qm qw qk qt txd abv blw qs atp stp nbr qi qp qh qb bmy qa q6 hsh wf ss sx i se be le u ii hi (by omega) (by omega) 6 0 sx (by omega) ?_
    refine vv_aload_n F dX8_look_80 rfl rfl ?_
    refine vv_iload_n F dX8_look_81 rfl rfl ?_
    refine vv_callVp (As := [.int se]) (rest := []) [0, 3] 0 F (c_X8_greatest (vv_l x) (vv_k x) qm qw qk qt txd abv blw qs atp stp nbr qi qp qh qb bmy qa q6 hsh (itr (st_X8_look_in wf u ii) 6 0 sx) se) mv_X8_235 dX8_look_82 (by decide) rfl rfl (Nat.le_of_ble_eq_true rfl) rfl (by decide) rfl ?_
    refine vv_istore (lv' := [(6, .int (itr (st_X8_greatest (itr (st_X8_look_in wf u ii) 6 0 sx) se) 6 0 0)), (0, .ref qm), (1, .int i), (2, .int se), (3, .int be), (4, .int le), (5, .int (nI u))]) F dX8_look_85 (by decide) rfl ?_
    refine vv_iload F dX8_look_87 rfl ?_
    refine vv_iload F dX8_look_89 rfl ?_
    refine vv_icmp_ge (tgt := 99) F dX8_look_91 (by decide) (fun h_3 => ?_) (fun h_3 => ?_)
    · refine vv_iload_n F dX8_look_99 rfl rfl ?_
      refine vv_istore_n (lv' := [(3, .int be), (6, .int (itr (st_X8_greatest (itr (st_X8_look_in wf u ii) 6 0 sx) se) 6 0 0)), (0, .ref qm), (1, .int i), (2, .int se), (4, .int le), (5, .int (nI u))]) F dX8_look_100 rfl (by decide) rfl ?_
      refine vv_iload F dX8_look_101 rfl ?_
      refine vv_iload F dX8_look_103 rfl ?_
      refine vv_icmp_ge (tgt := 113) F dX8_look_105 (by decide) (fun h_4 => ?_) (fun h_4 => ?_)
      · refine vv_iload F dX8_look_113 rfl ?_
        refine vv_istore (lv' := [(4, .int le), (3, .int be), (6, .int (itr (st_X8_greatest (itr (st_X8_look_in wf u ii) 6 0 sx) se) 6 0 0)), (0, .ref qm), (1, .int i), (2, .int se), (5, .int (nI u))]) F dX8_look_115 (by decide) rfl ?_
        refine vv_iinc (v := (nI (u + 1))) (lv' := [(5, .int (nI (u + 1))), (4, .int le), (3, .int be), (6, .int (itr (st_X8_greatest (itr (st_X8_look_in wf u ii) 6 0 sx) se) 6 0 0)), (0, .ref qm), (1, .int i), (2, .int se)]) 6 F dX8_look_117 rfl (nI_1 u) (by decide) rfl ?_
        refine vv_goto (tgt := 30) F dX8_look_120 (by decide) ?_
        refine vv_lv (lv' := [(5, .int (nI (u + 1))), (3, .int be), (4, .int le), (0, .ref qm), (1, .int i), (2, .int se)]) [0, 2, 1, 4, 5, 6] rfl ?_
        refine vv_lvE (lv' := [(5, .int (nI (u + 1))), (3, .int (if le ≤ (itr (st_X8_greatest (itr (st_X8_look_in wf u ii) 6 0 sx) se) 6 0 0) then be else (nI u))), (4, .int (if le ≤ (itr (st_X8_greatest (itr (st_X8_look_in wf u ii) 6 0 sx) se) 6 0 0) then le else (itr (st_X8_greatest (itr (st_X8_look_in wf u ii) 6 0 sx) se) 6 0 0))), (0, .ref qm), (1, .int i), (2, .int se)]) (by first | (simp only [if_pos h_3]; done) | (simp [vv_b, h_3]; done)) ?_
        exact ih (u + 1) (if le ≤ (itr (st_X8_greatest (itr (st_X8_look_in wf u ii) 6 0 sx) se) 6 0 0) then be else (nI u)) (if le ≤ (itr (st_X8_greatest (itr (st_X8_look_in wf u ii) 6 0 sx) se) 6 0 0) then le else (itr (st_X8_greatest (itr (st_X8_look_in wf u ii) 6 0 sx) se) 6 0 0)) (itr (st_X8_look_in wf u ii) 6 0 sx) (by omega) (by rw [itr_s] at kx; exact kx)
      · exact absurd h_3 h_4
    · refine vv_iload F dX8_look_94 rfl ?_
      refine vv_goto (tgt := 100) F dX8_look_96 (by decide) ?_
      refine vv_istore_n (lv' := [(3, .int (nI u)), (6, .int (itr (st_X8_greatest (itr (st_X8_look_in wf u ii) 6 0 sx) se) 6 0 0)), (0, .ref qm), (1, .int i), (2, .int se), (4, .int le), (5, .int (nI u))]) F dX8_look_100 rfl (by decide) rfl ?_
      refine vv_iload F dX8_look_101 rfl ?_
      refine vv_iload F dX8_look_103 rfl ?_
      refine vv_icmp_ge (tgt := 113) F dX8_look_105 (by decide) (fun h_5 => ?_) (fun h_5 => ?_)
      · exact absurd h_5 h_3
      · refine vv_iload F dX8_look_108 rfl ?_
        refine vv_goto (tgt := 115) F dX8_look_110 (by decide) ?_
        refine vv_istore (lv' := [(4, .int (itr (st_X8_greatest (itr (st_X8_look_in wf u ii) 6 0 sx) se) 6 0 0)), (3, .int (nI u)), (6, .int (itr (st_X8_greatest (itr (st_X8_look_in wf u ii) 6 0 sx) se) 6 0 0)), (0, .ref qm), (1, .int i), (2, .int se), (5, .int (nI u))]) F dX8_look_115 (by decide) rfl ?_
        refine vv_iinc (v := (nI (u + 1))) (lv' := [(5, .int (nI (u + 1))), (4, .int (itr (st_X8_greatest (itr (st_X8_look_in wf u ii) 6 0 sx) se) 6 0 0)), (3, .int (nI u)), (6, .int (itr (st_X8_greatest (itr (st_X8_look_in wf u ii) 6 0 sx) se) 6 0 0)), (0, .ref qm), (1, .int i), (2, .int se)]) 6 F dX8_look_117 rfl (nI_1 u) (by decide) rfl ?_
        refine vv_goto (tgt := 30) F dX8_look_120 (by decide) ?_
        refine vv_lv (lv' := [(5, .int (nI (u + 1))), (3, .int (nI u)), (4, .int (itr (st_X8_greatest (itr (st_X8_look_in wf u ii) 6 0 sx) se) 6 0 0)), (0, .ref qm), (1, .int i), (2, .int se)]) [0, 2, 1, 4, 5, 6] rfl ?_
        refine vv_lvE (lv' := [(5, .int (nI (u + 1))), (3, .int (if le ≤ (itr (st_X8_greatest (itr (st_X8_look_in wf u ii) 6 0 sx) se) 6 0 0) then be else (nI u))), (4, .int (if le ≤ (itr (st_X8_greatest (itr (st_X8_look_in wf u ii) 6 0 sx) se) 6 0 0) then le else (itr (st_X8_greatest (itr (st_X8_look_in wf u ii) 6 0 sx) se) 6 0 0))), (0, .ref qm), (1, .int i), (2, .int se)]) (by first | (simp only [if_neg h_3]; done) | (simp [vv_b, h_3]; done)) ?_
        exact ih (u + 1) (if le ≤ (itr (st_X8_greatest (itr (st_X8_look_in wf u ii) 6 0 sx) se) 6 0 0) then be else (nI u)) (if le ≤ (itr (st_X8_greatest (itr (st_X8_look_in wf u ii) 6 0 sx) se) 6 0 0) then le else (itr (st_X8_greatest (itr (st_X8_look_in wf u ii) 6 0 sx) se) 6 0 0)) (itr (st_X8_look_in wf u ii) 6 0 sx) (by omega) (by rw [itr_s] at kx; exact kx)
noncomputable def f_X8_look (wf sx : Nat → Int32) (i : Int32) (cO : Nat) : Int32 := (if p_X8_in i.toInt64 0 (((wf 0) - 1).toInt64) then (if 0 < (itr (st_X8_kindsOf wf i cO) 6 0 0) then (itr (st_X8_look wf (itr (st_X8_kindsOf wf i cO) 6 0 0) i.toNatClampNeg) 24 0 ((-1), 1000000, sx)).1 else (-1)) else (-2))
noncomputable def g_X8_look_2 (wf ss : Nat → Int32) (i : Int32) (cO : Nat) : Nat → Int32 := (if p_X8_in i.toInt64 0 (((wf 0) - 1).toInt64) then (if 0 < (itr (st_X8_kindsOf wf i cO) 6 0 0) then ss else ss) else (upd ss 0 ((ss 0) + 1)))
noncomputable def g_X8_look_3 (wf sx : Nat → Int32) (i : Int32) (cO : Nat) : Nat → Int32 := (if p_X8_in i.toInt64 0 (((wf 0) - 1).toInt64) then (if 0 < (itr (st_X8_kindsOf wf i cO) 6 0 0) then (itr (st_X8_look wf (itr (st_X8_kindsOf wf i cO) 6 0 0) i.toNatClampNeg) 24 0 ((-1), 1000000, sx)).2.2 else sx) else sx)
theorem c_X8_look (l : Launch) (K : vv_K) (qm qw qk qt : Nat) (txd : Int32) (abv blw : Int64) (qs : Nat) (atp stp nbr : Int32) (qi qp qh qb : Nat) (bmy : Int32) (qa q6 : Nat) (hsh : Int64) (wf ss sx : Nat → Int32) (i : Int32) (cN cO : Nat) (hcN : ((wf 0)).toInt = (cN : Int)) (hcO : ((wf 31)).toInt = (cO : Int)) (hcN5 : cN ≤ 5) (hcO6 : cO ≤ 6)  : vv_C l K 5 yX8_look cX8_look 7 (some .int) [.ref qm, .int i] [(qm, .inr (7, [.ref qw, .ref qk, .ref qt, .int txd, .long abv, .long blw, .ref qs, .int atp, .int stp, .int nbr, .ref qi, .ref qp, .ref qh, .ref qb, .int bmy, .ref qa, .ref q6, .long hsh])), (qw, .inl (K.2.1.1, 456, .inl wf)), (qs, .inl (K.2.1.1, 3, .inl ss)), (q6, .inl (K.2.1.1, 6, .inl sx))] (some (.int (f_X8_look wf sx i cO))) [(qm, .inr (7, [.ref qw, .ref qk, .ref qt, .int txd, .long abv, .long blw, .ref qs, .int atp, .int stp, .int nbr, .ref qi, .ref qp, .ref qh, .ref qb, .int bmy, .ref qa, .ref q6, .long hsh])), (qw, .inl (K.2.1.1, 456, .inl wf)), (qs, .inl (K.2.1.1, 3, .inl (g_X8_look_2 wf ss i cO))), (q6, .inl (K.2.1.1, 6, .inl (g_X8_look_3 wf sx i cO)))] := by
  refine vv_C.of (lv := [(0, .ref qm), (1, .int i)]) (by decide +kernel) (Nat.le_of_ble_eq_true rfl) rfl ?_
  intro x hl hK F hR; subst hl; obtain rfl := hK
  refine vv_aload_n F dX8_look_0 rfl rfl ?_
  refine vv_iload_n F dX8_look_1 rfl rfl ?_
  refine vv_callVp (As := [.int i]) (rest := []) [0, 1] 0 F (c_X8_isString (vv_l x) (vv_k x) qm qw qk qt txd abv blw qs atp stp nbr qi qp qh qb bmy qa q6 hsh wf i) mv_X8_197 dX8_look_2 (by decide) rfl rfl (Nat.le_of_ble_eq_true rfl) rfl (by decide) rfl ?_
  refine vv_ifz_ne (tgt := 15) F dX8_look_5 (by decide) (fun h_1 => ?_) (fun h_1 => ?_)
  · have h_1r := in_rngS hcN h_1
    have h_1c := nn_cl (a := i) (by omega)
    refine vv_aload_n F dX8_look_15 rfl rfl ?_
    refine vv_iload_n F dX8_look_16 rfl rfl ?_
    refine vv_callVp (As := [.int i]) (rest := []) [0, 1] 0 F (c_X8_kindsOf (vv_l x) (vv_k x) qm qw qk qt txd abv blw qs atp stp nbr qi qp qh qb bmy qa q6 hsh wf i cO hcO (by omega)) mv_X8_232 dX8_look_17 (by decide) rfl rfl (Nat.le_of_ble_eq_true rfl) rfl (by decide) rfl ?_
    refine vv_istore_n (lv' := [(2, .int (itr (st_X8_kindsOf wf i cO) 6 0 0)), (0, .ref qm), (1, .int i)]) F dX8_look_20 rfl (by decide) rfl ?_
    refine vv_iconst (v := (-1)) F dX8_look_21 (by decide) ?_
    refine vv_istore_n (lv' := [(3, .int (-1)), (2, .int (itr (st_X8_kindsOf wf i cO) 6 0 0)), (0, .ref qm), (1, .int i)]) F dX8_look_22 rfl (by decide) rfl ?_
    refine vv_ldc F cw_X8_212 dX8_look_23 ?_
    refine vv_istore (lv' := [(4, .int 1000000), (3, .int (-1)), (2, .int (itr (st_X8_kindsOf wf i cO) 6 0 0)), (0, .ref qm), (1, .int i)]) F dX8_look_25 (by decide) rfl ?_
    refine vv_iconst (v := 0) F dX8_look_27 (by decide) ?_
    refine vv_istore (lv' := [(5, .int 0), (4, .int 1000000), (3, .int (-1)), (2, .int (itr (st_X8_kindsOf wf i cO) 6 0 0)), (0, .ref qm), (1, .int i)]) F dX8_look_28 (by decide) rfl ?_
    by_cases h_2 : 0 < (itr (st_X8_kindsOf wf i cO) 6 0 0)
    · refine vv_lv (lv' := [(5, .int 0), (3, .int (-1)), (4, .int 1000000), (0, .ref qm), (1, .int i), (2, .int (itr (st_X8_kindsOf wf i cO) 6 0 0))]) [0, 2, 1, 4, 5, 3] rfl ?_
      refine L_X8_look F qm qw qk qt txd abv blw qs atp stp nbr qi qp qh qb bmy qa q6 hsh wf ss sx i (itr (st_X8_kindsOf wf i cO) 6 0 0) i.toNatClampNeg h_1c (by omega) h_2 24 0 (-1) 1000000 sx (by omega) ?_
      refine vv_iload_n F dX8_look_123 rfl rfl ?_
      exact vv_iret F hR dX8_look_124 (congrArg (fun z => some (Value.int z)) ((if_pos h_1).trans ((if_pos h_2).trans rfl))) (by simp only [g_X8_look_2, g_X8_look_3, if_pos h_1, if_pos h_2])
    · refine vv_iload F dX8_look_30 rfl ?_
      refine vv_bipush (v := 24) F dX8_look_32 (by decide) ?_
      refine vv_icmp_ge (tgt := 123) F dX8_look_34 (by decide) (fun h_3 => absurd h_3 (by decide)) (fun h_3 => ?_)
      refine vv_iload_n F dX8_look_37 rfl rfl ?_
      refine vv_if_le (tgt := 123) F dX8_look_38 (by decide) (fun h_4 => ?_) (fun h_4 => absurd (Int32.not_lt.mp h_2) h_4)
      refine vv_iload_n F dX8_look_123 rfl rfl ?_
      exact vv_iret F hR dX8_look_124 (congrArg (fun z => some (Value.int z)) ((if_pos h_1).trans ((if_neg h_2).trans rfl))) (by simp only [g_X8_look_2, g_X8_look_3, if_pos h_1, if_neg h_2])
  · refine vv_aload_n F dX8_look_8 rfl rfl ?_
    refine vv_bipush (v := (-2)) F dX8_look_9 (by decide) ?_
    refine vv_callV (As := [.int (-2)]) (rest := []) [0, 2] 0 (ws' := [(qm, .inr (7, [.ref qw, .ref qk, .ref qt, .int txd, .long abv, .long blw, .ref qs, .int atp, .int stp, .int nbr, .ref qi, .ref qp, .ref qh, .ref qb, .int bmy, .ref qa, .ref q6, .long hsh])), (qw, .inl ((vv_k x).2.1.1, 456, .inl wf)), (qs, .inl ((vv_k x).2.1.1, 3, .inl (upd ss 0 ((ss 0) + 1)))), (q6, .inl ((vv_k x).2.1.1, 6, .inl sx))]) F (c_X8_bad (vv_l x) (vv_k x) qm qw qk qt txd abv blw qs atp stp nbr qi qp qh qb bmy qa q6 hsh ss (-2)) mv_X8_78 dX8_look_11 (by decide) rfl rfl (Nat.le_of_ble_eq_true rfl) rfl (by decide) (Eq.trans (b := [qm, qs]) rfl rfl) rfl rfl ?_
    exact vv_iret F hR dX8_look_14 (congrArg (fun z => some (Value.int z)) ((if_neg h_1).trans rfl)) (by simp only [g_X8_look_2, g_X8_look_3, if_neg h_1])
noncomputable def st_X8_ask_in (v : Nat) (u : Nat) (s : (Nat → Int32)) : (Nat → Int32) := (upd s u (f_X8_chargeOf (nI u) (vv_rem (nI v) 100) ((nI v) / 100)))
theorem L_X8_ask_in {x : vv_X} (F : vv_F x cX8_ask 7 RX8 5) (qm qw qk qt : Nat) (txd : Int32) (abv blw : Int64) (qs : Nat) (atp stp nbr : Int32) (qi qp qh qb : Nat) (bmy : Int32) (qa q6 : Nat) (hsh : Int64) (wf ss sx : Nat → Int32) (i se be le : Int32) (v : Nat) (hv : v < 200) : ∀ (n : Nat) (u : Nat) (sx : Nat → Int32), u + n = 6 → vv_V x 7 79 [(6, .int (nI 6)), (0, .ref qm), (1, .int i), (2, .int se), (3, .int be), (4, .int le), (5, .int (nI v))] [] [(qm, .inr (7, [.ref qw, .ref qk, .ref qt, .int txd, .long abv, .long blw, .ref qs, .int atp, .int stp, .int nbr, .ref qi, .ref qp, .ref qh, .ref qb, .int bmy, .ref qa, .ref q6, .long hsh])), (qw, .inl ((vv_k x).2.1.1, 456, .inl wf)), (qs, .inl ((vv_k x).2.1.1, 3, .inl ss)), (q6, .inl ((vv_k x).2.1.1, 6, .inl (itr (st_X8_ask_in v) n u sx)))] → vv_V x 7 44 [(6, .int (nI u)), (0, .ref qm), (1, .int i), (2, .int se), (3, .int be), (4, .int le), (5, .int (nI v))] [] [(qm, .inr (7, [.ref qw, .ref qk, .ref qt, .int txd, .long abv, .long blw, .ref qs, .int atp, .int stp, .int nbr, .ref qi, .ref qp, .ref qh, .ref qb, .int bmy, .ref qa, .ref q6, .long hsh])), (qw, .inl ((vv_k x).2.1.1, 456, .inl wf)), (qs, .inl ((vv_k x).2.1.1, 3, .inl ss)), (q6, .inl ((vv_k x).2.1.1, 6, .inl sx))] := by
  intro n
  induction n with
  | zero =>
    intro u sx hu  kx
    refine vv_iload F dX8_ask_44 rfl ?_
    refine vv_bipush (v := 6) F dX8_ask_46 (by decide) ?_
    refine vv_icmp_ge (tgt := 79) F dX8_ask_48 (by decide) (fun h_1 => ?_) (fun h_1 => absurd ((c_le (by decide : (6 : Int32).toInt = ((6 : Nat) : Int)) (nI_toInt (n := u) (by omega))).mpr (by omega)) h_1)
    obtain rfl : u = 6 := by omega
    rw [itr_0] at kx
    exact vv_lv [0, 1, 2, 3, 4, 5, 6] rfl kx
  | succ n ih =>
    intro u sx hu  kx
    refine vv_iload F dX8_ask_44 rfl ?_
    refine vv_bipush (v := 6) F dX8_ask_46 (by decide) ?_
    refine vv_icmp_ge (tgt := 79) F dX8_ask_48 (by decide) (fun h_1 => absurd ((c_le (by decide : (6 : Int32).toInt = ((6 : Nat) : Int)) (nI_toInt (n := u) (by omega))).mp h_1) (by omega)) (fun h_1 => ?_)
    refine vv_aload_n F dX8_ask_51 rfl rfl ?_
    refine vv_get 0 F fl_X8_45 dX8_ask_52 rfl rfl ?_
    refine vv_iload F dX8_ask_55 rfl ?_
    refine vv_iload F dX8_ask_57 rfl ?_
    refine vv_iload F dX8_ask_59 rfl ?_
    refine vv_bipush (v := 100) F dX8_ask_61 (by decide) ?_
    refine vv_iremR F dX8_ask_63 (by decide) ?_
    refine vv_iload F dX8_ask_64 rfl ?_
    refine vv_bipush (v := 100) F dX8_ask_66 (by decide) ?_
    refine vv_idiv F dX8_ask_68 (by decide) ?_
    refine vv_callSp (As := [.int (nI u), .int (vv_rem (nI v) 100), .int ((nI v) / 100)]) (rest := [.int (nI u), .ref q6]) [] F (c_X8_chargeOf (vv_l x) (vv_k x) (nI u) (vv_rem (nI v) 100) ((nI v) / 100)) ms_X8_185 dX8_ask_69 (by decide) rfl rfl (Nat.le_of_ble_eq_true rfl) rfl (by decide) ?_
    refine vv_iast 3 (ws' := [(qm, .inr (7, [.ref qw, .ref qk, .ref qt, .int txd, .long abv, .long blw, .ref qs, .int atp, .int stp, .int nbr, .ref qi, .ref qp, .ref qh, .ref qb, .int bmy, .ref qa, .ref q6, .long hsh])), (qw, .inl ((vv_k x).2.1.1, 456, .inl wf)), (qs, .inl ((vv_k x).2.1.1, 3, .inl ss)), (q6, .inl ((vv_k x).2.1.1, 6, .inl (upd sx u (f_X8_chargeOf (nI u) (vv_rem (nI v) 100) ((nI v) / 100)))))]) F dX8_ask_72 rfl (vv_ixP (j := u) (by have hz := (nI_toInt (n := u) (by omega)); omega) (by omega)) rfl ?_
    refine vv_iinc (v := (nI (u + 1))) (lv' := [(6, .int (nI (u + 1))), (0, .ref qm), (1, .int i), (2, .int se), (3, .int be), (4, .int le), (5, .int (nI v))]) 0 F dX8_ask_73 rfl (nI_1 u) (by decide) rfl ?_
    refine vv_goto (tgt := 44) F dX8_ask_76 (by decide) ?_
    refine vv_lv [0, 1, 2, 3, 4, 5, 6] rfl ?_
    exact ih (u + 1) (upd sx u (f_X8_chargeOf (nI u) (vv_rem (nI v) 100) ((nI v) / 100))) (by omega) (by rw [itr_s] at kx; exact kx)
noncomputable def st_X8_ask (se : Int32) (u : Nat) (s : Int32 × Int32 × (Nat → Int32)) : Int32 × Int32 × (Nat → Int32) := ((if s.2.1 ≤ (itr (st_X8_greatest (itr (st_X8_ask_in u) 6 0 s.2.2) se) 6 0 0) then s.1 else (nI u)), (if s.2.1 ≤ (itr (st_X8_greatest (itr (st_X8_ask_in u) 6 0 s.2.2) se) 6 0 0) then s.2.1 else (itr (st_X8_greatest (itr (st_X8_ask_in u) 6 0 s.2.2) se) 6 0 0)), (itr (st_X8_ask_in u) 6 0 s.2.2))
theorem L_X8_ask {x : vv_X} (F : vv_F x cX8_ask 7 RX8 5) (qm qw qk qt : Nat) (txd : Int32) (abv blw : Int64) (qs : Nat) (atp stp nbr : Int32) (qi qp qh qb : Nat) (bmy : Int32) (qa q6 : Nat) (hsh : Int64) (wf ss sx : Nat → Int32) (i se : Int32) (hse : 0 < se) : ∀ (n : Nat) (u : Nat) (be : Int32) (le : Int32) (sx : Nat → Int32), u + n = 200 → vv_V x 7 122 [(5, .int (nI 200)), (3, .int ((itr (st_X8_ask se) n u (be, le, sx)).1)), (4, .int ((itr (st_X8_ask se) n u (be, le, sx)).2.1)), (0, .ref qm), (1, .int i), (2, .int se)] [] [(qm, .inr (7, [.ref qw, .ref qk, .ref qt, .int txd, .long abv, .long blw, .ref qs, .int atp, .int stp, .int nbr, .ref qi, .ref qp, .ref qh, .ref qb, .int bmy, .ref qa, .ref q6, .long hsh])), (qw, .inl ((vv_k x).2.1.1, 456, .inl wf)), (qs, .inl ((vv_k x).2.1.1, 3, .inl ss)), (q6, .inl ((vv_k x).2.1.1, 6, .inl ((itr (st_X8_ask se) n u (be, le, sx)).2.2)))] → vv_V x 7 29 [(5, .int (nI u)), (3, .int be), (4, .int le), (0, .ref qm), (1, .int i), (2, .int se)] [] [(qm, .inr (7, [.ref qw, .ref qk, .ref qt, .int txd, .long abv, .long blw, .ref qs, .int atp, .int stp, .int nbr, .ref qi, .ref qp, .ref qh, .ref qb, .int bmy, .ref qa, .ref q6, .long hsh])), (qw, .inl ((vv_k x).2.1.1, 456, .inl wf)), (qs, .inl ((vv_k x).2.1.1, 3, .inl ss)), (q6, .inl ((vv_k x).2.1.1, 6, .inl sx))] := by
  intro n
  induction n with
  | zero =>
    intro u be le sx hu  kx
    refine vv_iload F dX8_ask_29 rfl ?_
    refine vv_sipush (v := 200) F dX8_ask_31 (by decide) ?_
    refine vv_icmp_ge (tgt := 122) F dX8_ask_34 (by decide) (fun h_1 => ?_) (fun h_1 => absurd ((c_le (by decide : (200 : Int32).toInt = ((200 : Nat) : Int)) (nI_toInt (n := u) (by omega))).mpr (by omega)) h_1)
    obtain rfl : u = 200 := by omega
    rw [itr_0] at kx
    exact vv_lv [0, 1, 2, 3, 4, 5] rfl kx
  | succ n ih =>
    intro u be le sx hu  kx
    refine vv_iload F dX8_ask_29 rfl ?_
    refine vv_sipush (v := 200) F dX8_ask_31 (by decide) ?_
    refine vv_icmp_ge (tgt := 122) F dX8_ask_34 (by decide) (fun h_1 => absurd ((c_le (by decide : (200 : Int32).toInt = ((200 : Nat) : Int)) (nI_toInt (n := u) (by omega))).mp h_1) (by omega)) (fun h_1 => ?_)
    refine vv_iload_n F dX8_ask_37 rfl rfl ?_
    refine vv_if_le (tgt := 122) F dX8_ask_38 (by decide) (fun h_2 => absurd h_2 (Int32.not_le.mpr hse)) (fun h_2 => ?_)
    refine vv_iconst (v := 0) F dX8_ask_41 (by decide) ?_
    refine vv_istore (lv' := [(6, .int 0), (5, .int (nI u)), (3, .int be), (4, .int le), (0, .ref qm), (1, .int i), (2, .int se)]) F dX8_ask_42 (by decide) rfl ?_
    refine vv_lv (lv' := [(6, .int 0), (0, .ref qm), (1, .int i), (2, .int se), (3, .int be), (4, .int le), (5, .int (nI u))]) [0, 4, 5, 6, 2, 3, 1] rfl ?_
    refine L_X8_ask_in F qm qw qk qt txd abv blw qs atp stp nbr qi qp qh qb bmy qa q6 hsh wf ss sx i se be le u (by omega) 6 0 sx (by omega) ?_
    refine vv_aload_n F dX8_ask_79 rfl rfl ?_
    refine vv_iload_n F dX8_ask_80 rfl rfl ?_
    refine vv_callVp (As := [.int se]) (rest := []) [0, 3] 0 F (c_X8_greatest (vv_l x) (vv_k x) qm qw qk qt txd abv blw qs atp stp nbr qi qp qh qb bmy qa q6 hsh (itr (st_X8_ask_in u) 6 0 sx) se) mv_X8_235 dX8_ask_81 (by decide) rfl rfl (Nat.le_of_ble_eq_true rfl) rfl (by decide) rfl ?_
    refine vv_istore (lv' := [(6, .int (itr (st_X8_greatest (itr (st_X8_ask_in u) 6 0 sx) se) 6 0 0)), (0, .ref qm), (1, .int i), (2, .int se), (3, .int be), (4, .int le), (5, .int (nI u))]) F dX8_ask_84 (by decide) rfl ?_
    refine vv_iload F dX8_ask_86 rfl ?_
    refine vv_iload F dX8_ask_88 rfl ?_
    refine vv_icmp_ge (tgt := 98) F dX8_ask_90 (by decide) (fun h_3 => ?_) (fun h_3 => ?_)
    · refine vv_iload_n F dX8_ask_98 rfl rfl ?_
      refine vv_istore_n (lv' := [(3, .int be), (6, .int (itr (st_X8_greatest (itr (st_X8_ask_in u) 6 0 sx) se) 6 0 0)), (0, .ref qm), (1, .int i), (2, .int se), (4, .int le), (5, .int (nI u))]) F dX8_ask_99 rfl (by decide) rfl ?_
      refine vv_iload F dX8_ask_100 rfl ?_
      refine vv_iload F dX8_ask_102 rfl ?_
      refine vv_icmp_ge (tgt := 112) F dX8_ask_104 (by decide) (fun h_4 => ?_) (fun h_4 => ?_)
      · refine vv_iload F dX8_ask_112 rfl ?_
        refine vv_istore (lv' := [(4, .int le), (3, .int be), (6, .int (itr (st_X8_greatest (itr (st_X8_ask_in u) 6 0 sx) se) 6 0 0)), (0, .ref qm), (1, .int i), (2, .int se), (5, .int (nI u))]) F dX8_ask_114 (by decide) rfl ?_
        refine vv_iinc (v := (nI (u + 1))) (lv' := [(5, .int (nI (u + 1))), (4, .int le), (3, .int be), (6, .int (itr (st_X8_greatest (itr (st_X8_ask_in u) 6 0 sx) se) 6 0 0)), (0, .ref qm), (1, .int i), (2, .int se)]) 6 F dX8_ask_116 rfl (nI_1 u) (by decide) rfl ?_
        refine vv_goto (tgt := 29) F dX8_ask_119 (by decide) ?_
        refine vv_lv (lv' := [(5, .int (nI (u + 1))), (3, .int be), (4, .int le), (0, .ref qm), (1, .int i), (2, .int se)]) [0, 2, 1, 4, 5, 6] rfl ?_
        refine vv_lvE (lv' := [(5, .int (nI (u + 1))), (3, .int (if le ≤ (itr (st_X8_greatest (itr (st_X8_ask_in u) 6 0 sx) se) 6 0 0) then be else (nI u))), (4, .int (if le ≤ (itr (st_X8_greatest (itr (st_X8_ask_in u) 6 0 sx) se) 6 0 0) then le else (itr (st_X8_greatest (itr (st_X8_ask_in u) 6 0 sx) se) 6 0 0))), (0, .ref qm), (1, .int i), (2, .int se)]) (by first | (simp only [if_pos h_3]; done) | (simp [vv_b, h_3]; done)) ?_
        exact ih (u + 1) (if le ≤ (itr (st_X8_greatest (itr (st_X8_ask_in u) 6 0 sx) se) 6 0 0) then be else (nI u)) (if le ≤ (itr (st_X8_greatest (itr (st_X8_ask_in u) 6 0 sx) se) 6 0 0) then le else (itr (st_X8_greatest (itr (st_X8_ask_in u) 6 0 sx) se) 6 0 0)) (itr (st_X8_ask_in u) 6 0 sx) (by omega) (by rw [itr_s] at kx; exact kx)
      · exact absurd h_3 h_4
    · refine vv_iload F dX8_ask_93 rfl ?_
      refine vv_goto (tgt := 99) F dX8_ask_95 (by decide) ?_
      refine vv_istore_n (lv' := [(3, .int (nI u)), (6, .int (itr (st_X8_greatest (itr (st_X8_ask_in u) 6 0 sx) se) 6 0 0)), (0, .ref qm), (1, .int i), (2, .int se), (4, .int le), (5, .int (nI u))]) F dX8_ask_99 rfl (by decide) rfl ?_
      refine vv_iload F dX8_ask_100 rfl ?_
      refine vv_iload F dX8_ask_102 rfl ?_
      refine vv_icmp_ge (tgt := 112) F dX8_ask_104 (by decide) (fun h_5 => ?_) (fun h_5 => ?_)
      · exact absurd h_5 h_3
      · refine vv_iload F dX8_ask_107 rfl ?_
        refine vv_goto (tgt := 114) F dX8_ask_109 (by decide) ?_
        refine vv_istore (lv' := [(4, .int (itr (st_X8_greatest (itr (st_X8_ask_in u) 6 0 sx) se) 6 0 0)), (3, .int (nI u)), (6, .int (itr (st_X8_greatest (itr (st_X8_ask_in u) 6 0 sx) se) 6 0 0)), (0, .ref qm), (1, .int i), (2, .int se), (5, .int (nI u))]) F dX8_ask_114 (by decide) rfl ?_
        refine vv_iinc (v := (nI (u + 1))) (lv' := [(5, .int (nI (u + 1))), (4, .int (itr (st_X8_greatest (itr (st_X8_ask_in u) 6 0 sx) se) 6 0 0)), (3, .int (nI u)), (6, .int (itr (st_X8_greatest (itr (st_X8_ask_in u) 6 0 sx) se) 6 0 0)), (0, .ref qm), (1, .int i), (2, .int se)]) 6 F dX8_ask_116 rfl (nI_1 u) (by decide) rfl ?_
        refine vv_goto (tgt := 29) F dX8_ask_119 (by decide) ?_
        refine vv_lv (lv' := [(5, .int (nI (u + 1))), (3, .int (nI u)), (4, .int (itr (st_X8_greatest (itr (st_X8_ask_in u) 6 0 sx) se) 6 0 0)), (0, .ref qm), (1, .int i), (2, .int se)]) [0, 2, 1, 4, 5, 6] rfl ?_
        refine vv_lvE (lv' := [(5, .int (nI (u + 1))), (3, .int (if le ≤ (itr (st_X8_greatest (itr (st_X8_ask_in u) 6 0 sx) se) 6 0 0) then be else (nI u))), (4, .int (if le ≤ (itr (st_X8_greatest (itr (st_X8_ask_in u) 6 0 sx) se) 6 0 0) then le else (itr (st_X8_greatest (itr (st_X8_ask_in u) 6 0 sx) se) 6 0 0))), (0, .ref qm), (1, .int i), (2, .int se)]) (by first | (simp only [if_neg h_3]; done) | (simp [vv_b, h_3]; done)) ?_
        exact ih (u + 1) (if le ≤ (itr (st_X8_greatest (itr (st_X8_ask_in u) 6 0 sx) se) 6 0 0) then be else (nI u)) (if le ≤ (itr (st_X8_greatest (itr (st_X8_ask_in u) 6 0 sx) se) 6 0 0) then le else (itr (st_X8_greatest (itr (st_X8_ask_in u) 6 0 sx) se) 6 0 0)) (itr (st_X8_ask_in u) 6 0 sx) (by omega) (by rw [itr_s] at kx; exact kx)
noncomputable def f_X8_ask (wf sx : Nat → Int32) (i : Int32) (cM : Nat) : Int32 := (if p_X8_in i.toInt64 0 1 then (if 0 < (itr (st_X8_housesOf wf i cM) 6 0 0) then (itr (st_X8_ask (itr (st_X8_housesOf wf i cM) 6 0 0)) 200 0 ((-1), 1000000, sx)).1 else (-1)) else (-2))
noncomputable def g_X8_ask_2 (wf ss : Nat → Int32) (i : Int32) (cM : Nat) : Nat → Int32 := (if p_X8_in i.toInt64 0 1 then (if 0 < (itr (st_X8_housesOf wf i cM) 6 0 0) then ss else ss) else (upd ss 0 ((ss 0) + 1)))
noncomputable def g_X8_ask_3 (wf sx : Nat → Int32) (i : Int32) (cM : Nat) : Nat → Int32 := (if p_X8_in i.toInt64 0 1 then (if 0 < (itr (st_X8_housesOf wf i cM) 6 0 0) then (itr (st_X8_ask (itr (st_X8_housesOf wf i cM) 6 0 0)) 200 0 ((-1), 1000000, sx)).2.2 else sx) else sx)
theorem c_X8_ask (l : Launch) (K : vv_K) (qm qw qk qt : Nat) (txd : Int32) (abv blw : Int64) (qs : Nat) (atp stp nbr : Int32) (qi qp qh qb : Nat) (bmy : Int32) (qa q6 : Nat) (hsh : Int64) (wf ss sx : Nat → Int32) (i : Int32) (cM : Nat) (hcM : ((wf 56)).toInt = (cM : Int)) (hcM6 : cM ≤ 6)  : vv_C l K 5 yX8_ask cX8_ask 7 (some .int) [.ref qm, .int i] [(qm, .inr (7, [.ref qw, .ref qk, .ref qt, .int txd, .long abv, .long blw, .ref qs, .int atp, .int stp, .int nbr, .ref qi, .ref qp, .ref qh, .ref qb, .int bmy, .ref qa, .ref q6, .long hsh])), (qw, .inl (K.2.1.1, 456, .inl wf)), (qs, .inl (K.2.1.1, 3, .inl ss)), (q6, .inl (K.2.1.1, 6, .inl sx))] (some (.int (f_X8_ask wf sx i cM))) [(qm, .inr (7, [.ref qw, .ref qk, .ref qt, .int txd, .long abv, .long blw, .ref qs, .int atp, .int stp, .int nbr, .ref qi, .ref qp, .ref qh, .ref qb, .int bmy, .ref qa, .ref q6, .long hsh])), (qw, .inl (K.2.1.1, 456, .inl wf)), (qs, .inl (K.2.1.1, 3, .inl (g_X8_ask_2 wf ss i cM))), (q6, .inl (K.2.1.1, 6, .inl (g_X8_ask_3 wf sx i cM)))] := by
  refine vv_C.of (lv := [(0, .ref qm), (1, .int i)]) (by decide +kernel) (Nat.le_of_ble_eq_true rfl) rfl ?_
  intro x hl hK F hR; subst hl; obtain rfl := hK
  refine vv_iload_n F dX8_ask_0 rfl rfl ?_
  refine vv_callSp (As := [.int i]) (rest := []) [] F (c_X8_isHouse (vv_l x) (vv_k x) i) ms_X8_81 dX8_ask_1 (by decide) rfl rfl (Nat.le_of_ble_eq_true rfl) rfl (by decide) ?_
  refine vv_ifz_ne (tgt := 14) F dX8_ask_4 (by decide) (fun h_1 => ?_) (fun h_1 => ?_)
  · have h_1r := in_rng (a := 0) (b := 1) (by decide) (by decide) h_1
    have h_1c := nn_cl (a := i) (by omega)
    refine vv_aload_n F dX8_ask_14 rfl rfl ?_
    refine vv_iload_n F dX8_ask_15 rfl rfl ?_
    refine vv_callVp (As := [.int i]) (rest := []) [0, 1] 0 F (c_X8_housesOf (vv_l x) (vv_k x) qm qw qk qt txd abv blw qs atp stp nbr qi qp qh qb bmy qa q6 hsh wf i cM hcM (by omega)) mv_X8_238 dX8_ask_16 (by decide) rfl rfl (Nat.le_of_ble_eq_true rfl) rfl (by decide) rfl ?_
    refine vv_istore_n (lv' := [(2, .int (itr (st_X8_housesOf wf i cM) 6 0 0)), (0, .ref qm), (1, .int i)]) F dX8_ask_19 rfl (by decide) rfl ?_
    refine vv_iconst (v := (-1)) F dX8_ask_20 (by decide) ?_
    refine vv_istore_n (lv' := [(3, .int (-1)), (2, .int (itr (st_X8_housesOf wf i cM) 6 0 0)), (0, .ref qm), (1, .int i)]) F dX8_ask_21 rfl (by decide) rfl ?_
    refine vv_ldc F cw_X8_212 dX8_ask_22 ?_
    refine vv_istore (lv' := [(4, .int 1000000), (3, .int (-1)), (2, .int (itr (st_X8_housesOf wf i cM) 6 0 0)), (0, .ref qm), (1, .int i)]) F dX8_ask_24 (by decide) rfl ?_
    refine vv_iconst (v := 0) F dX8_ask_26 (by decide) ?_
    refine vv_istore (lv' := [(5, .int 0), (4, .int 1000000), (3, .int (-1)), (2, .int (itr (st_X8_housesOf wf i cM) 6 0 0)), (0, .ref qm), (1, .int i)]) F dX8_ask_27 (by decide) rfl ?_
    by_cases h_2 : 0 < (itr (st_X8_housesOf wf i cM) 6 0 0)
    · refine vv_lv (lv' := [(5, .int 0), (3, .int (-1)), (4, .int 1000000), (0, .ref qm), (1, .int i), (2, .int (itr (st_X8_housesOf wf i cM) 6 0 0))]) [0, 2, 1, 4, 5, 3] rfl ?_
      refine L_X8_ask F qm qw qk qt txd abv blw qs atp stp nbr qi qp qh qb bmy qa q6 hsh wf ss sx i (itr (st_X8_housesOf wf i cM) 6 0 0) h_2 200 0 (-1) 1000000 sx (by omega) ?_
      refine vv_iload_n F dX8_ask_122 rfl rfl ?_
      exact vv_iret F hR dX8_ask_123 (congrArg (fun z => some (Value.int z)) ((if_pos h_1).trans ((if_pos h_2).trans rfl))) (by simp only [g_X8_ask_2, g_X8_ask_3, if_pos h_1, if_pos h_2])
    · refine vv_iload F dX8_ask_29 rfl ?_
      refine vv_sipush (v := 200) F dX8_ask_31 (by decide) ?_
      refine vv_icmp_ge (tgt := 122) F dX8_ask_34 (by decide) (fun h_3 => absurd h_3 (by decide)) (fun h_3 => ?_)
      refine vv_iload_n F dX8_ask_37 rfl rfl ?_
      refine vv_if_le (tgt := 122) F dX8_ask_38 (by decide) (fun h_4 => ?_) (fun h_4 => absurd (Int32.not_lt.mp h_2) h_4)
      refine vv_iload_n F dX8_ask_122 rfl rfl ?_
      exact vv_iret F hR dX8_ask_123 (congrArg (fun z => some (Value.int z)) ((if_pos h_1).trans ((if_neg h_2).trans rfl))) (by simp only [g_X8_ask_2, g_X8_ask_3, if_pos h_1, if_neg h_2])
  · refine vv_aload_n F dX8_ask_7 rfl rfl ?_
    refine vv_bipush (v := (-2)) F dX8_ask_8 (by decide) ?_
    refine vv_callV (As := [.int (-2)]) (rest := []) [0, 2] 0 (ws' := [(qm, .inr (7, [.ref qw, .ref qk, .ref qt, .int txd, .long abv, .long blw, .ref qs, .int atp, .int stp, .int nbr, .ref qi, .ref qp, .ref qh, .ref qb, .int bmy, .ref qa, .ref q6, .long hsh])), (qw, .inl ((vv_k x).2.1.1, 456, .inl wf)), (qs, .inl ((vv_k x).2.1.1, 3, .inl (upd ss 0 ((ss 0) + 1)))), (q6, .inl ((vv_k x).2.1.1, 6, .inl sx))]) F (c_X8_bad (vv_l x) (vv_k x) qm qw qk qt txd abv blw qs atp stp nbr qi qp qh qb bmy qa q6 hsh ss (-2)) mv_X8_78 dX8_ask_10 (by decide) rfl rfl (Nat.le_of_ble_eq_true rfl) rfl (by decide) (Eq.trans (b := [qm, qs]) rfl rfl) rfl rfl ?_
    exact vv_iret F hR dX8_ask_13 (congrArg (fun z => some (Value.int z)) ((if_neg h_1).trans rfl)) (by simp only [g_X8_ask_2, g_X8_ask_3, if_neg h_1])
noncomputable def st_X8_getsBy (wf : Nat → Int32) (en lo hi : Int32) (u : Nat) (s : Int32) : Int32 := (s + (if ((f_X8_chargeOf lo (f_X8_showsIn wf (wf 17) 0 u) ((wf 17) / 24)) + (f_X8_chargeOf hi (f_X8_showsIn wf (wf 17) 0 u) ((wf 17) / 24))) ≤ (2 * (f_X8_bringsIn wf 0 u)) then (if en = 0 then (f_X8_chargeOf lo (f_X8_showsIn wf (wf 17) 0 u) ((wf 17) / 24)) else (f_X8_chargeOf hi (f_X8_showsIn wf (wf 17) 0 u) ((wf 17) / 24))) else 0))
theorem L_X8_getsBy {x : vv_X} (F : vv_F x cX8_getsBy 10 RX8 4) (qm qw qk qt : Nat) (txd : Int32) (abv blw : Int64) (qs : Nat) (atp stp nbr : Int32) (qi qp qh qb : Nat) (bmy : Int32) (qa q6 : Nat) (hsh : Int64) (wf : Nat → Int32) (en lo hi : Int32) (cN : Nat) (hcN : ((wf 0)).toInt = (cN : Int)) (hcN5 : cN ≤ 5) : ∀ (n : Nat) (u : Nat) (k : Int32), u + n = cN → vv_V x 10 108 [(6, .int (nI cN)), (4, .int (itr (st_X8_getsBy wf en lo hi) n u k)), (0, .ref qm), (1, .int en), (2, .int lo), (3, .int hi), (5, .int ((wf 17) / 24))] [] [(qm, .inr (7, [.ref qw, .ref qk, .ref qt, .int txd, .long abv, .long blw, .ref qs, .int atp, .int stp, .int nbr, .ref qi, .ref qp, .ref qh, .ref qb, .int bmy, .ref qa, .ref q6, .long hsh])), (qw, .inl ((vv_k x).2.1.1, 456, .inl wf))] → vv_V x 10 18 [(6, .int (nI u)), (4, .int k), (0, .ref qm), (1, .int en), (2, .int lo), (3, .int hi), (5, .int ((wf 17) / 24))] [] [(qm, .inr (7, [.ref qw, .ref qk, .ref qt, .int txd, .long abv, .long blw, .ref qs, .int atp, .int stp, .int nbr, .ref qi, .ref qp, .ref qh, .ref qb, .int bmy, .ref qa, .ref q6, .long hsh])), (qw, .inl ((vv_k x).2.1.1, 456, .inl wf))] := by
  intro n
  induction n with
  | zero =>
    intro u k hu  kx
    refine vv_iload F dX8_getsBy_18 rfl ?_
    refine vv_aload_n F dX8_getsBy_20 rfl rfl ?_
    refine vv_get 0 F fl_X8_7 dX8_getsBy_21 rfl rfl ?_
    refine vv_iconst (v := 0) F dX8_getsBy_24 (by decide) ?_
    refine vv_iald 1 F dX8_getsBy_25 rfl (vv_ixP (j := 0) (by decide) (by decide)) ?_
    refine vv_icmp_ge (tgt := 108) F dX8_getsBy_26 (by decide) (fun h_1 => ?_) (fun h_1 => absurd ((c_le hcN (nI_toInt (n := u) (by omega))).mpr (by omega)) h_1)
    obtain rfl : u = cN := by omega
    rw [itr_0] at kx
    exact vv_lv [0, 1, 2, 3, 4, 5, 6] rfl kx
  | succ n ih =>
    intro u k hu  kx
    refine vv_iload F dX8_getsBy_18 rfl ?_
    refine vv_aload_n F dX8_getsBy_20 rfl rfl ?_
    refine vv_get 0 F fl_X8_7 dX8_getsBy_21 rfl rfl ?_
    refine vv_iconst (v := 0) F dX8_getsBy_24 (by decide) ?_
    refine vv_iald 1 F dX8_getsBy_25 rfl (vv_ixP (j := 0) (by decide) (by decide)) ?_
    refine vv_icmp_ge (tgt := 108) F dX8_getsBy_26 (by decide) (fun h_1 => absurd ((c_le hcN (nI_toInt (n := u) (by omega))).mp h_1) (by omega)) (fun h_1 => ?_)
    refine vv_aload_n F dX8_getsBy_29 rfl rfl ?_
    refine vv_iconst (v := 0) F dX8_getsBy_30 (by decide) ?_
    refine vv_iload F dX8_getsBy_31 rfl ?_
    refine vv_aload_n F dX8_getsBy_33 rfl rfl ?_
    refine vv_get 0 F fl_X8_7 dX8_getsBy_34 rfl rfl ?_
    refine vv_bipush (v := 17) F dX8_getsBy_37 (by decide) ?_
    refine vv_iald 1 F dX8_getsBy_39 rfl (vv_ixP (j := 17) (by decide) (by decide)) ?_
    refine vv_callVp (As := [.int 0, .int (nI u), .int (wf 17)]) (rest := []) [0, 1] 0 F (c_X8_showsIn (vv_l x) (vv_k x) qm qw qk qt txd abv blw qs atp stp nbr qi qp qh qb bmy qa q6 hsh wf 0 (nI u) (wf 17) 0 u (by decide : (0 : Int32).toInt = ((0 : Nat) : Int)) (nI_toInt (n := u) (by omega)) (by omega) (by omega)) mv_X8_182 dX8_getsBy_40 (by decide) rfl rfl (Nat.le_of_ble_eq_true rfl) rfl (by decide) rfl ?_
    refine vv_istore (lv' := [(7, .int (f_X8_showsIn wf (wf 17) 0 u)), (6, .int (nI u)), (4, .int k), (0, .ref qm), (1, .int en), (2, .int lo), (3, .int hi), (5, .int ((wf 17) / 24))]) F dX8_getsBy_43 (by decide) rfl ?_
    refine vv_iload_n F dX8_getsBy_45 rfl rfl ?_
    refine vv_iload F dX8_getsBy_46 rfl ?_
    refine vv_iload F dX8_getsBy_48 rfl ?_
    refine vv_callSp (As := [.int lo, .int (f_X8_showsIn wf (wf 17) 0 u), .int ((wf 17) / 24)]) (rest := []) [] F (c_X8_chargeOf (vv_l x) (vv_k x) lo (f_X8_showsIn wf (wf 17) 0 u) ((wf 17) / 24)) ms_X8_185 dX8_getsBy_50 (by decide) rfl rfl (Nat.le_of_ble_eq_true rfl) rfl (by decide) ?_
    refine vv_istore (lv' := [(8, .int (f_X8_chargeOf lo (f_X8_showsIn wf (wf 17) 0 u) ((wf 17) / 24))), (7, .int (f_X8_showsIn wf (wf 17) 0 u)), (6, .int (nI u)), (4, .int k), (0, .ref qm), (1, .int en), (2, .int lo), (3, .int hi), (5, .int ((wf 17) / 24))]) F dX8_getsBy_53 (by decide) rfl ?_
    refine vv_iload_n F dX8_getsBy_55 rfl rfl ?_
    refine vv_iload F dX8_getsBy_56 rfl ?_
    refine vv_iload F dX8_getsBy_58 rfl ?_
    refine vv_callSp (As := [.int hi, .int (f_X8_showsIn wf (wf 17) 0 u), .int ((wf 17) / 24)]) (rest := []) [] F (c_X8_chargeOf (vv_l x) (vv_k x) hi (f_X8_showsIn wf (wf 17) 0 u) ((wf 17) / 24)) ms_X8_185 dX8_getsBy_60 (by decide) rfl rfl (Nat.le_of_ble_eq_true rfl) rfl (by decide) ?_
    refine vv_istore (lv' := [(9, .int (f_X8_chargeOf hi (f_X8_showsIn wf (wf 17) 0 u) ((wf 17) / 24))), (8, .int (f_X8_chargeOf lo (f_X8_showsIn wf (wf 17) 0 u) ((wf 17) / 24))), (7, .int (f_X8_showsIn wf (wf 17) 0 u)), (6, .int (nI u)), (4, .int k), (0, .ref qm), (1, .int en), (2, .int lo), (3, .int hi), (5, .int ((wf 17) / 24))]) F dX8_getsBy_63 (by decide) rfl ?_
    refine vv_iload F dX8_getsBy_65 rfl ?_
    refine vv_iload F dX8_getsBy_67 rfl ?_
    refine vv_iload F dX8_getsBy_69 rfl ?_
    refine vv_iadd F dX8_getsBy_71 ?_
    refine vv_iconst (v := 2) F dX8_getsBy_72 (by decide) ?_
    refine vv_aload_n F dX8_getsBy_73 rfl rfl ?_
    refine vv_iconst (v := 0) F dX8_getsBy_74 (by decide) ?_
    refine vv_iload F dX8_getsBy_75 rfl ?_
    refine vv_callVp (As := [.int 0, .int (nI u)]) (rest := [.int 2, .int ((f_X8_chargeOf lo (f_X8_showsIn wf (wf 17) 0 u) ((wf 17) / 24)) + (f_X8_chargeOf hi (f_X8_showsIn wf (wf 17) 0 u) ((wf 17) / 24))), .int k]) [0, 1] 0 F (c_X8_bringsIn (vv_l x) (vv_k x) qm qw qk qt txd abv blw qs atp stp nbr qi qp qh qb bmy qa q6 hsh wf 0 (nI u) 0 u (by decide : (0 : Int32).toInt = ((0 : Nat) : Int)) (nI_toInt (n := u) (by omega)) (by omega) (by omega)) mv_X8_194 dX8_getsBy_77 (by decide) rfl rfl (Nat.le_of_ble_eq_true rfl) rfl (by decide) rfl ?_
    refine vv_imul F dX8_getsBy_80 ?_
    refine vv_icmp_le (tgt := 88) F dX8_getsBy_81 (by decide) (fun h_2 => ?_) (fun h_2 => ?_)
    · refine vv_iload_n F dX8_getsBy_88 rfl rfl ?_
      refine vv_if_ne (tgt := 97) F dX8_getsBy_89 (by decide) (fun h_3 => ?_) (fun h_3 => ?_)
      · refine vv_iload F dX8_getsBy_97 rfl ?_
        refine vv_iadd F dX8_getsBy_99 ?_
        refine vv_istore (lv' := [(4, .int (k + (f_X8_chargeOf hi (f_X8_showsIn wf (wf 17) 0 u) ((wf 17) / 24)))), (9, .int (f_X8_chargeOf hi (f_X8_showsIn wf (wf 17) 0 u) ((wf 17) / 24))), (8, .int (f_X8_chargeOf lo (f_X8_showsIn wf (wf 17) 0 u) ((wf 17) / 24))), (7, .int (f_X8_showsIn wf (wf 17) 0 u)), (6, .int (nI u)), (0, .ref qm), (1, .int en), (2, .int lo), (3, .int hi), (5, .int ((wf 17) / 24))]) F dX8_getsBy_100 (by decide) rfl ?_
        refine vv_iinc (v := (nI (u + 1))) (lv' := [(6, .int (nI (u + 1))), (4, .int (k + (f_X8_chargeOf hi (f_X8_showsIn wf (wf 17) 0 u) ((wf 17) / 24)))), (9, .int (f_X8_chargeOf hi (f_X8_showsIn wf (wf 17) 0 u) ((wf 17) / 24))), (8, .int (f_X8_chargeOf lo (f_X8_showsIn wf (wf 17) 0 u) ((wf 17) / 24))), (7, .int (f_X8_showsIn wf (wf 17) 0 u)), (0, .ref qm), (1, .int en), (2, .int lo), (3, .int hi), (5, .int ((wf 17) / 24))]) 4 F dX8_getsBy_102 rfl (nI_1 u) (by decide) rfl ?_
        refine vv_goto (tgt := 18) F dX8_getsBy_105 (by decide) ?_
        refine vv_lv (lv' := [(6, .int (nI (u + 1))), (4, .int (k + (f_X8_chargeOf hi (f_X8_showsIn wf (wf 17) 0 u) ((wf 17) / 24)))), (0, .ref qm), (1, .int en), (2, .int lo), (3, .int hi), (5, .int ((wf 17) / 24))]) [0, 1, 5, 6, 7, 8, 9] rfl ?_
        refine vv_lvE (lv' := [(6, .int (nI (u + 1))), (4, .int (k + (if ((f_X8_chargeOf lo (f_X8_showsIn wf (wf 17) 0 u) ((wf 17) / 24)) + (f_X8_chargeOf hi (f_X8_showsIn wf (wf 17) 0 u) ((wf 17) / 24))) ≤ (2 * (f_X8_bringsIn wf 0 u)) then (if en = 0 then (f_X8_chargeOf lo (f_X8_showsIn wf (wf 17) 0 u) ((wf 17) / 24)) else (f_X8_chargeOf hi (f_X8_showsIn wf (wf 17) 0 u) ((wf 17) / 24))) else 0))), (0, .ref qm), (1, .int en), (2, .int lo), (3, .int hi), (5, .int ((wf 17) / 24))]) (by first | (simp only [if_pos h_2, if_neg h_3]; done) | (simp [vv_b, h_2, h_3]; done)) ?_
        exact ih (u + 1) (k + (if ((f_X8_chargeOf lo (f_X8_showsIn wf (wf 17) 0 u) ((wf 17) / 24)) + (f_X8_chargeOf hi (f_X8_showsIn wf (wf 17) 0 u) ((wf 17) / 24))) ≤ (2 * (f_X8_bringsIn wf 0 u)) then (if en = 0 then (f_X8_chargeOf lo (f_X8_showsIn wf (wf 17) 0 u) ((wf 17) / 24)) else (f_X8_chargeOf hi (f_X8_showsIn wf (wf 17) 0 u) ((wf 17) / 24))) else 0)) (by omega) (by rw [itr_s] at kx; exact kx)
      · refine vv_iload F dX8_getsBy_92 rfl ?_
        refine vv_goto (tgt := 99) F dX8_getsBy_94 (by decide) ?_
        refine vv_iadd F dX8_getsBy_99 ?_
        refine vv_istore (lv' := [(4, .int (k + (f_X8_chargeOf lo (f_X8_showsIn wf (wf 17) 0 u) ((wf 17) / 24)))), (9, .int (f_X8_chargeOf hi (f_X8_showsIn wf (wf 17) 0 u) ((wf 17) / 24))), (8, .int (f_X8_chargeOf lo (f_X8_showsIn wf (wf 17) 0 u) ((wf 17) / 24))), (7, .int (f_X8_showsIn wf (wf 17) 0 u)), (6, .int (nI u)), (0, .ref qm), (1, .int en), (2, .int lo), (3, .int hi), (5, .int ((wf 17) / 24))]) F dX8_getsBy_100 (by decide) rfl ?_
        refine vv_iinc (v := (nI (u + 1))) (lv' := [(6, .int (nI (u + 1))), (4, .int (k + (f_X8_chargeOf lo (f_X8_showsIn wf (wf 17) 0 u) ((wf 17) / 24)))), (9, .int (f_X8_chargeOf hi (f_X8_showsIn wf (wf 17) 0 u) ((wf 17) / 24))), (8, .int (f_X8_chargeOf lo (f_X8_showsIn wf (wf 17) 0 u) ((wf 17) / 24))), (7, .int (f_X8_showsIn wf (wf 17) 0 u)), (0, .ref qm), (1, .int en), (2, .int lo), (3, .int hi), (5, .int ((wf 17) / 24))]) 4 F dX8_getsBy_102 rfl (nI_1 u) (by decide) rfl ?_
        refine vv_goto (tgt := 18) F dX8_getsBy_105 (by decide) ?_
        refine vv_lv (lv' := [(6, .int (nI (u + 1))), (4, .int (k + (f_X8_chargeOf lo (f_X8_showsIn wf (wf 17) 0 u) ((wf 17) / 24)))), (0, .ref qm), (1, .int en), (2, .int lo), (3, .int hi), (5, .int ((wf 17) / 24))]) [0, 1, 5, 6, 7, 8, 9] rfl ?_
        refine vv_lvE (lv' := [(6, .int (nI (u + 1))), (4, .int (k + (if ((f_X8_chargeOf lo (f_X8_showsIn wf (wf 17) 0 u) ((wf 17) / 24)) + (f_X8_chargeOf hi (f_X8_showsIn wf (wf 17) 0 u) ((wf 17) / 24))) ≤ (2 * (f_X8_bringsIn wf 0 u)) then (if en = 0 then (f_X8_chargeOf lo (f_X8_showsIn wf (wf 17) 0 u) ((wf 17) / 24)) else (f_X8_chargeOf hi (f_X8_showsIn wf (wf 17) 0 u) ((wf 17) / 24))) else 0))), (0, .ref qm), (1, .int en), (2, .int lo), (3, .int hi), (5, .int ((wf 17) / 24))]) (by first | (simp only [if_pos h_2, if_pos h_3]; done) | (simp [vv_b, h_2, h_3]; done)) ?_
        exact ih (u + 1) (k + (if ((f_X8_chargeOf lo (f_X8_showsIn wf (wf 17) 0 u) ((wf 17) / 24)) + (f_X8_chargeOf hi (f_X8_showsIn wf (wf 17) 0 u) ((wf 17) / 24))) ≤ (2 * (f_X8_bringsIn wf 0 u)) then (if en = 0 then (f_X8_chargeOf lo (f_X8_showsIn wf (wf 17) 0 u) ((wf 17) / 24)) else (f_X8_chargeOf hi (f_X8_showsIn wf (wf 17) 0 u) ((wf 17) / 24))) else 0)) (by omega) (by rw [itr_s] at kx; exact kx)
    · refine vv_iconst (v := 0) F dX8_getsBy_84 (by decide) ?_
      refine vv_goto (tgt := 99) F dX8_getsBy_85 (by decide) ?_
      refine vv_iadd F dX8_getsBy_99 ?_
      refine vv_istore (lv' := [(4, .int (k + 0)), (9, .int (f_X8_chargeOf hi (f_X8_showsIn wf (wf 17) 0 u) ((wf 17) / 24))), (8, .int (f_X8_chargeOf lo (f_X8_showsIn wf (wf 17) 0 u) ((wf 17) / 24))), (7, .int (f_X8_showsIn wf (wf 17) 0 u)), (6, .int (nI u)), (0, .ref qm), (1, .int en), (2, .int lo), (3, .int hi), (5, .int ((wf 17) / 24))]) F dX8_getsBy_100 (by decide) rfl ?_
      refine vv_iinc (v := (nI (u + 1))) (lv' := [(6, .int (nI (u + 1))), (4, .int (k + 0)), (9, .int (f_X8_chargeOf hi (f_X8_showsIn wf (wf 17) 0 u) ((wf 17) / 24))), (8, .int (f_X8_chargeOf lo (f_X8_showsIn wf (wf 17) 0 u) ((wf 17) / 24))), (7, .int (f_X8_showsIn wf (wf 17) 0 u)), (0, .ref qm), (1, .int en), (2, .int lo), (3, .int hi), (5, .int ((wf 17) / 24))]) 4 F dX8_getsBy_102 rfl (nI_1 u) (by decide) rfl ?_
      refine vv_goto (tgt := 18) F dX8_getsBy_105 (by decide) ?_
      refine vv_lv (lv' := [(6, .int (nI (u + 1))), (4, .int (k + 0)), (0, .ref qm), (1, .int en), (2, .int lo), (3, .int hi), (5, .int ((wf 17) / 24))]) [0, 1, 5, 6, 7, 8, 9] rfl ?_
      refine vv_lvE (lv' := [(6, .int (nI (u + 1))), (4, .int (k + (if ((f_X8_chargeOf lo (f_X8_showsIn wf (wf 17) 0 u) ((wf 17) / 24)) + (f_X8_chargeOf hi (f_X8_showsIn wf (wf 17) 0 u) ((wf 17) / 24))) ≤ (2 * (f_X8_bringsIn wf 0 u)) then (if en = 0 then (f_X8_chargeOf lo (f_X8_showsIn wf (wf 17) 0 u) ((wf 17) / 24)) else (f_X8_chargeOf hi (f_X8_showsIn wf (wf 17) 0 u) ((wf 17) / 24))) else 0))), (0, .ref qm), (1, .int en), (2, .int lo), (3, .int hi), (5, .int ((wf 17) / 24))]) (by first | (simp only [if_neg h_2]; done) | (simp [vv_b, h_2]; done)) ?_
      exact ih (u + 1) (k + (if ((f_X8_chargeOf lo (f_X8_showsIn wf (wf 17) 0 u) ((wf 17) / 24)) + (f_X8_chargeOf hi (f_X8_showsIn wf (wf 17) 0 u) ((wf 17) / 24))) ≤ (2 * (f_X8_bringsIn wf 0 u)) then (if en = 0 then (f_X8_chargeOf lo (f_X8_showsIn wf (wf 17) 0 u) ((wf 17) / 24)) else (f_X8_chargeOf hi (f_X8_showsIn wf (wf 17) 0 u) ((wf 17) / 24))) else 0)) (by omega) (by rw [itr_s] at kx; exact kx)
theorem c_X8_getsBy (l : Launch) (K : vv_K) (qm qw qk qt : Nat) (txd : Int32) (abv blw : Int64) (qs : Nat) (atp stp nbr : Int32) (qi qp qh qb : Nat) (bmy : Int32) (qa q6 : Nat) (hsh : Int64) (wf : Nat → Int32) (en lo hi : Int32) (cN : Nat) (hcN : ((wf 0)).toInt = (cN : Int)) (hcN5 : cN ≤ 5)  : vv_C l K 4 yX8_getsBy cX8_getsBy 10 (some .int) [.ref qm, .int en, .int lo, .int hi] [(qm, .inr (7, [.ref qw, .ref qk, .ref qt, .int txd, .long abv, .long blw, .ref qs, .int atp, .int stp, .int nbr, .ref qi, .ref qp, .ref qh, .ref qb, .int bmy, .ref qa, .ref q6, .long hsh])), (qw, .inl (K.2.1.1, 456, .inl wf))] (some (.int (itr (st_X8_getsBy wf en lo hi) cN 0 0))) [(qm, .inr (7, [.ref qw, .ref qk, .ref qt, .int txd, .long abv, .long blw, .ref qs, .int atp, .int stp, .int nbr, .ref qi, .ref qp, .ref qh, .ref qb, .int bmy, .ref qa, .ref q6, .long hsh])), (qw, .inl (K.2.1.1, 456, .inl wf))] := by
  refine vv_C.of (lv := [(0, .ref qm), (1, .int en), (2, .int lo), (3, .int hi)]) (by decide +kernel) (Nat.le_of_ble_eq_true rfl) rfl ?_
  intro x hl hK F hR; subst hl; obtain rfl := hK
  refine vv_iconst (v := 0) F dX8_getsBy_0 (by decide) ?_
  refine vv_istore (lv' := [(4, .int 0), (0, .ref qm), (1, .int en), (2, .int lo), (3, .int hi)]) F dX8_getsBy_1 (by decide) rfl ?_
  refine vv_aload_n F dX8_getsBy_3 rfl rfl ?_
  refine vv_get 0 F fl_X8_7 dX8_getsBy_4 rfl rfl ?_
  refine vv_bipush (v := 17) F dX8_getsBy_7 (by decide) ?_
  refine vv_iald 1 F dX8_getsBy_9 rfl (vv_ixP (j := 17) (by decide) (by decide)) ?_
  refine vv_bipush (v := 24) F dX8_getsBy_10 (by decide) ?_
  refine vv_idiv F dX8_getsBy_12 (by decide) ?_
  refine vv_istore (lv' := [(5, .int ((wf 17) / 24)), (4, .int 0), (0, .ref qm), (1, .int en), (2, .int lo), (3, .int hi)]) F dX8_getsBy_13 (by decide) rfl ?_
  refine vv_iconst (v := 0) F dX8_getsBy_15 (by decide) ?_
  refine vv_istore (lv' := [(6, .int 0), (5, .int ((wf 17) / 24)), (4, .int 0), (0, .ref qm), (1, .int en), (2, .int lo), (3, .int hi)]) F dX8_getsBy_16 (by decide) rfl ?_
  refine vv_lv (lv' := [(6, .int 0), (4, .int 0), (0, .ref qm), (1, .int en), (2, .int lo), (3, .int hi), (5, .int ((wf 17) / 24))]) [0, 2, 3, 4, 5, 6, 1] rfl ?_
  refine L_X8_getsBy F qm qw qk qt txd abv blw qs atp stp nbr qi qp qh qb bmy qa q6 hsh wf en lo hi cN hcN (by omega) cN 0 0 (by omega) ?_
  refine vv_iload F dX8_getsBy_108 rfl ?_
  exact vv_iret F hR dX8_getsBy_110 rfl rfl
noncomputable def st_X8_rests (wf : Nat → Int32) (i j : Int32) (cN : Nat) (u : Nat) (s : Bool) : Bool := (s && ((!decide ((itr (st_X8_getsBy wf 0 i j) cN 0 0) < (itr (st_X8_getsBy wf 0 (nI u) j) cN 0 0))) && (!decide ((itr (st_X8_getsBy wf 1 i j) cN 0 0) < (itr (st_X8_getsBy wf 1 i (nI u)) cN 0 0)))))
theorem L_X8_rests {x : vv_X} (F : vv_F x cX8_rests 5 RX8 5) (qm qw qk qt : Nat) (txd : Int32) (abv blw : Int64) (qs : Nat) (atp stp nbr : Int32) (qi qp qh qb : Nat) (bmy : Int32) (qa q6 : Nat) (hsh : Int64) (wf : Nat → Int32) (i j : Int32) (cN : Nat) (hcN : ((wf 0)).toInt = (cN : Int)) (hcN5 : cN ≤ 5) : ∀ (n : Nat) (u : Nat) (b : Bool), u + n = 6 → vv_V x 5 64 [(4, .int (nI 6)), (3, .int (vv_b ((itr (st_X8_rests wf i j cN) n u b) = true))), (0, .ref qm), (1, .int i), (2, .int j)] [] [(qm, .inr (7, [.ref qw, .ref qk, .ref qt, .int txd, .long abv, .long blw, .ref qs, .int atp, .int stp, .int nbr, .ref qi, .ref qp, .ref qh, .ref qb, .int bmy, .ref qa, .ref q6, .long hsh])), (qw, .inl ((vv_k x).2.1.1, 456, .inl wf))] → vv_V x 5 5 [(4, .int (nI u)), (3, .int (vv_b (b = true))), (0, .ref qm), (1, .int i), (2, .int j)] [] [(qm, .inr (7, [.ref qw, .ref qk, .ref qt, .int txd, .long abv, .long blw, .ref qs, .int atp, .int stp, .int nbr, .ref qi, .ref qp, .ref qh, .ref qb, .int bmy, .ref qa, .ref q6, .long hsh])), (qw, .inl ((vv_k x).2.1.1, 456, .inl wf))] := by
  intro n
  induction n with
  | zero =>
    intro u b hu  kx
    refine vv_iload F dX8_rests_5 rfl ?_
    refine vv_bipush (v := 6) F dX8_rests_7 (by decide) ?_
    refine vv_icmp_ge (tgt := 64) F dX8_rests_9 (by decide) (fun h_1 => ?_) (fun h_1 => absurd ((c_le (by decide : (6 : Int32).toInt = ((6 : Nat) : Int)) (nI_toInt (n := u) (by omega))).mpr (by omega)) h_1)
    obtain rfl : u = 6 := by omega
    rw [itr_0] at kx
    exact vv_lv [0, 1, 2, 3, 4] rfl kx
  | succ n ih =>
    intro u b hu  kx
    refine vv_iload F dX8_rests_5 rfl ?_
    refine vv_bipush (v := 6) F dX8_rests_7 (by decide) ?_
    refine vv_icmp_ge (tgt := 64) F dX8_rests_9 (by decide) (fun h_1 => absurd ((c_le (by decide : (6 : Int32).toInt = ((6 : Nat) : Int)) (nI_toInt (n := u) (by omega))).mp h_1) (by omega)) (fun h_1 => ?_)
    refine vv_iload_n F dX8_rests_12 rfl rfl ?_
    refine vv_ifz_eq (tgt := 56) F dX8_rests_13 (by decide) (fun h_2 => ?_) (fun h_2 => ?_)
    · refine vv_iconst (v := 0) F dX8_rests_56 (by decide) ?_
      refine vv_istore_n (lv' := [(3, .int 0), (4, .int (nI u)), (0, .ref qm), (1, .int i), (2, .int j)]) F dX8_rests_57 rfl (by decide) rfl ?_
      refine vv_iinc (v := (nI (u + 1))) (lv' := [(4, .int (nI (u + 1))), (3, .int 0), (0, .ref qm), (1, .int i), (2, .int j)]) 1 F dX8_rests_58 rfl (nI_1 u) (by decide) rfl ?_
      refine vv_goto (tgt := 5) F dX8_rests_61 (by decide) ?_
      refine vv_lv (lv' := [(4, .int (nI (u + 1))), (3, .int 0), (0, .ref qm), (1, .int i), (2, .int j)]) [0, 1, 2, 3, 4] rfl ?_
      refine vv_lvE (lv' := [(4, .int (nI (u + 1))), (3, .int (vv_b ((b && ((!decide ((itr (st_X8_getsBy wf 0 i j) cN 0 0) < (itr (st_X8_getsBy wf 0 (nI u) j) cN 0 0))) && (!decide ((itr (st_X8_getsBy wf 1 i j) cN 0 0) < (itr (st_X8_getsBy wf 1 i (nI u)) cN 0 0))))) = true))), (0, .ref qm), (1, .int i), (2, .int j)]) (by first | (simp only [if_neg h_2]; done) | (simp [vv_b, h_2]; done)) ?_
      exact ih (u + 1) (b && ((!decide ((itr (st_X8_getsBy wf 0 i j) cN 0 0) < (itr (st_X8_getsBy wf 0 (nI u) j) cN 0 0))) && (!decide ((itr (st_X8_getsBy wf 1 i j) cN 0 0) < (itr (st_X8_getsBy wf 1 i (nI u)) cN 0 0))))) (by omega) (by rw [itr_s] at kx; exact kx)
    · refine vv_aload_n F dX8_rests_16 rfl rfl ?_
      refine vv_iconst (v := 0) F dX8_rests_17 (by decide) ?_
      refine vv_iload F dX8_rests_18 rfl ?_
      refine vv_iload_n F dX8_rests_20 rfl rfl ?_
      refine vv_callVp (As := [.int 0, .int (nI u), .int j]) (rest := []) [0, 1] 0 F (c_X8_getsBy (vv_l x) (vv_k x) qm qw qk qt txd abv blw qs atp stp nbr qi qp qh qb bmy qa q6 hsh wf 0 (nI u) j cN hcN (by omega)) mv_X8_241 dX8_rests_21 (by decide) rfl rfl (Nat.le_of_ble_eq_true rfl) rfl (by decide) rfl ?_
      refine vv_aload_n F dX8_rests_24 rfl rfl ?_
      refine vv_iconst (v := 0) F dX8_rests_25 (by decide) ?_
      refine vv_iload_n F dX8_rests_26 rfl rfl ?_
      refine vv_iload_n F dX8_rests_27 rfl rfl ?_
      refine vv_callVp (As := [.int 0, .int i, .int j]) (rest := [.int (itr (st_X8_getsBy wf 0 (nI u) j) cN 0 0)]) [0, 1] 0 F (c_X8_getsBy (vv_l x) (vv_k x) qm qw qk qt txd abv blw qs atp stp nbr qi qp qh qb bmy qa q6 hsh wf 0 i j cN hcN (by omega)) mv_X8_241 dX8_rests_28 (by decide) rfl rfl (Nat.le_of_ble_eq_true rfl) rfl (by decide) rfl ?_
      refine vv_icmp_gt (tgt := 56) F dX8_rests_31 (by decide) (fun h_3 => ?_) (fun h_3 => ?_)
      · refine vv_iconst (v := 0) F dX8_rests_56 (by decide) ?_
        refine vv_istore_n (lv' := [(3, .int 0), (4, .int (nI u)), (0, .ref qm), (1, .int i), (2, .int j)]) F dX8_rests_57 rfl (by decide) rfl ?_
        refine vv_iinc (v := (nI (u + 1))) (lv' := [(4, .int (nI (u + 1))), (3, .int 0), (0, .ref qm), (1, .int i), (2, .int j)]) 1 F dX8_rests_58 rfl (nI_1 u) (by decide) rfl ?_
        refine vv_goto (tgt := 5) F dX8_rests_61 (by decide) ?_
        refine vv_lv (lv' := [(4, .int (nI (u + 1))), (3, .int 0), (0, .ref qm), (1, .int i), (2, .int j)]) [0, 1, 2, 3, 4] rfl ?_
        refine vv_lvE (lv' := [(4, .int (nI (u + 1))), (3, .int (vv_b ((b && ((!decide ((itr (st_X8_getsBy wf 0 i j) cN 0 0) < (itr (st_X8_getsBy wf 0 (nI u) j) cN 0 0))) && (!decide ((itr (st_X8_getsBy wf 1 i j) cN 0 0) < (itr (st_X8_getsBy wf 1 i (nI u)) cN 0 0))))) = true))), (0, .ref qm), (1, .int i), (2, .int j)]) (by first | (simp only [if_pos h_2, if_pos h_3]; done) | (simp [vv_b, h_2, h_3]; done)) ?_
        exact ih (u + 1) (b && ((!decide ((itr (st_X8_getsBy wf 0 i j) cN 0 0) < (itr (st_X8_getsBy wf 0 (nI u) j) cN 0 0))) && (!decide ((itr (st_X8_getsBy wf 1 i j) cN 0 0) < (itr (st_X8_getsBy wf 1 i (nI u)) cN 0 0))))) (by omega) (by rw [itr_s] at kx; exact kx)
      · refine vv_aload_n F dX8_rests_34 rfl rfl ?_
        refine vv_iconst (v := 1) F dX8_rests_35 (by decide) ?_
        refine vv_iload_n F dX8_rests_36 rfl rfl ?_
        refine vv_iload F dX8_rests_37 rfl ?_
        refine vv_callVp (As := [.int 1, .int i, .int (nI u)]) (rest := []) [0, 1] 0 F (c_X8_getsBy (vv_l x) (vv_k x) qm qw qk qt txd abv blw qs atp stp nbr qi qp qh qb bmy qa q6 hsh wf 1 i (nI u) cN hcN (by omega)) mv_X8_241 dX8_rests_39 (by decide) rfl rfl (Nat.le_of_ble_eq_true rfl) rfl (by decide) rfl ?_
        refine vv_aload_n F dX8_rests_42 rfl rfl ?_
        refine vv_iconst (v := 1) F dX8_rests_43 (by decide) ?_
        refine vv_iload_n F dX8_rests_44 rfl rfl ?_
        refine vv_iload_n F dX8_rests_45 rfl rfl ?_
        refine vv_callVp (As := [.int 1, .int i, .int j]) (rest := [.int (itr (st_X8_getsBy wf 1 i (nI u)) cN 0 0)]) [0, 1] 0 F (c_X8_getsBy (vv_l x) (vv_k x) qm qw qk qt txd abv blw qs atp stp nbr qi qp qh qb bmy qa q6 hsh wf 1 i j cN hcN (by omega)) mv_X8_241 dX8_rests_46 (by decide) rfl rfl (Nat.le_of_ble_eq_true rfl) rfl (by decide) rfl ?_
        refine vv_icmp_gt (tgt := 56) F dX8_rests_49 (by decide) (fun h_4 => ?_) (fun h_4 => ?_)
        · refine vv_iconst (v := 0) F dX8_rests_56 (by decide) ?_
          refine vv_istore_n (lv' := [(3, .int 0), (4, .int (nI u)), (0, .ref qm), (1, .int i), (2, .int j)]) F dX8_rests_57 rfl (by decide) rfl ?_
          refine vv_iinc (v := (nI (u + 1))) (lv' := [(4, .int (nI (u + 1))), (3, .int 0), (0, .ref qm), (1, .int i), (2, .int j)]) 1 F dX8_rests_58 rfl (nI_1 u) (by decide) rfl ?_
          refine vv_goto (tgt := 5) F dX8_rests_61 (by decide) ?_
          refine vv_lv (lv' := [(4, .int (nI (u + 1))), (3, .int 0), (0, .ref qm), (1, .int i), (2, .int j)]) [0, 1, 2, 3, 4] rfl ?_
          refine vv_lvE (lv' := [(4, .int (nI (u + 1))), (3, .int (vv_b ((b && ((!decide ((itr (st_X8_getsBy wf 0 i j) cN 0 0) < (itr (st_X8_getsBy wf 0 (nI u) j) cN 0 0))) && (!decide ((itr (st_X8_getsBy wf 1 i j) cN 0 0) < (itr (st_X8_getsBy wf 1 i (nI u)) cN 0 0))))) = true))), (0, .ref qm), (1, .int i), (2, .int j)]) (by first | (simp only [if_pos h_2, if_neg h_3, if_pos h_4]; done) | (simp [vv_b, h_2, h_3, h_4]; done)) ?_
          exact ih (u + 1) (b && ((!decide ((itr (st_X8_getsBy wf 0 i j) cN 0 0) < (itr (st_X8_getsBy wf 0 (nI u) j) cN 0 0))) && (!decide ((itr (st_X8_getsBy wf 1 i j) cN 0 0) < (itr (st_X8_getsBy wf 1 i (nI u)) cN 0 0))))) (by omega) (by rw [itr_s] at kx; exact kx)
        · refine vv_iconst (v := 1) F dX8_rests_52 (by decide) ?_
          refine vv_goto (tgt := 57) F dX8_rests_53 (by decide) ?_
          refine vv_istore_n (lv' := [(3, .int 1), (4, .int (nI u)), (0, .ref qm), (1, .int i), (2, .int j)]) F dX8_rests_57 rfl (by decide) rfl ?_
          refine vv_iinc (v := (nI (u + 1))) (lv' := [(4, .int (nI (u + 1))), (3, .int 1), (0, .ref qm), (1, .int i), (2, .int j)]) 1 F dX8_rests_58 rfl (nI_1 u) (by decide) rfl ?_
          refine vv_goto (tgt := 5) F dX8_rests_61 (by decide) ?_
          refine vv_lv (lv' := [(4, .int (nI (u + 1))), (3, .int 1), (0, .ref qm), (1, .int i), (2, .int j)]) [0, 1, 2, 3, 4] rfl ?_
          refine vv_lvE (lv' := [(4, .int (nI (u + 1))), (3, .int (vv_b ((b && ((!decide ((itr (st_X8_getsBy wf 0 i j) cN 0 0) < (itr (st_X8_getsBy wf 0 (nI u) j) cN 0 0))) && (!decide ((itr (st_X8_getsBy wf 1 i j) cN 0 0) < (itr (st_X8_getsBy wf 1 i (nI u)) cN 0 0))))) = true))), (0, .ref qm), (1, .int i), (2, .int j)]) (by first | (simp only [if_pos h_2, if_neg h_3, if_neg h_4]; done) | (simp [vv_b, h_2, h_3, h_4]; done)) ?_
          exact ih (u + 1) (b && ((!decide ((itr (st_X8_getsBy wf 0 i j) cN 0 0) < (itr (st_X8_getsBy wf 0 (nI u) j) cN 0 0))) && (!decide ((itr (st_X8_getsBy wf 1 i j) cN 0 0) < (itr (st_X8_getsBy wf 1 i (nI u)) cN 0 0))))) (by omega) (by rw [itr_s] at kx; exact kx)
theorem c_X8_rests (l : Launch) (K : vv_K) (qm qw qk qt : Nat) (txd : Int32) (abv blw : Int64) (qs : Nat) (atp stp nbr : Int32) (qi qp qh qb : Nat) (bmy : Int32) (qa q6 : Nat) (hsh : Int64) (wf : Nat → Int32) (i j : Int32) (cN : Nat) (hcN : ((wf 0)).toInt = (cN : Int)) (hcN5 : cN ≤ 5)  : vv_C l K 5 yX8_rests cX8_rests 5 (some .boolean) [.ref qm, .int i, .int j] [(qm, .inr (7, [.ref qw, .ref qk, .ref qt, .int txd, .long abv, .long blw, .ref qs, .int atp, .int stp, .int nbr, .ref qi, .ref qp, .ref qh, .ref qb, .int bmy, .ref qa, .ref q6, .long hsh])), (qw, .inl (K.2.1.1, 456, .inl wf))] (some (.int (vv_b ((itr (st_X8_rests wf i j cN) 6 0 true) = true)))) [(qm, .inr (7, [.ref qw, .ref qk, .ref qt, .int txd, .long abv, .long blw, .ref qs, .int atp, .int stp, .int nbr, .ref qi, .ref qp, .ref qh, .ref qb, .int bmy, .ref qa, .ref q6, .long hsh])), (qw, .inl (K.2.1.1, 456, .inl wf))] := by
  refine vv_C.of (lv := [(0, .ref qm), (1, .int i), (2, .int j)]) (by decide +kernel) (Nat.le_of_ble_eq_true rfl) rfl ?_
  intro x hl hK F hR; subst hl; obtain rfl := hK
  refine vv_iconst (v := 1) F dX8_rests_0 (by decide) ?_
  refine vv_istore_n (lv' := [(3, .int 1), (0, .ref qm), (1, .int i), (2, .int j)]) F dX8_rests_1 rfl (by decide) rfl ?_
  refine vv_iconst (v := 0) F dX8_rests_2 (by decide) ?_
  refine vv_istore (lv' := [(4, .int 0), (3, .int 1), (0, .ref qm), (1, .int i), (2, .int j)]) F dX8_rests_3 (by decide) rfl ?_
  refine vv_lv (lv' := [(4, .int 0), (3, .int (vv_b (true = true))), (0, .ref qm), (1, .int i), (2, .int j)]) [0, 1, 2, 3, 4] rfl ?_
  refine L_X8_rests F qm qw qk qt txd abv blw qs atp stp nbr qi qp qh qb bmy qa q6 hsh wf i j cN hcN (by omega) 6 0 true (by omega) ?_
  refine vv_iload_n F dX8_rests_64 rfl rfl ?_
  exact vv_zret F hR dX8_rests_65 (vv_b_nar _) rfl rfl
