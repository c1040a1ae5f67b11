noncomputable def f_X8_showsIn (wf : Nat → Int32) (ho : Int32) (a ii : Nat) : Int32 := (f_X8_showOf (wf (1 + a + ii)) (wf (6 + a + ii)) (vv_rem ho 24))
theorem c_X8_showsIn (l : Launch) (K : vv_K) (qm qw qk qt : Nat) (txd : Int32) (abv blw : Int64) (qs : Nat) (atp stp nbr : Int32) (qi qp qh qb : Nat) (bmy : Int32) (qa q6 : Nat) (hsh : Int64) (wf : Nat → Int32) (rr i ho : Int32) (a ii : Nat) (hra : (rr).toInt = (a : Int)) (hi : (i).toInt = (ii : Int)) (ha : a + 114 ≤ 456) (hii : ii < 5)  : vv_C l K 3 yX8_showsIn cX8_showsIn 4 (some .int) [.ref qm, .int rr, .int i, .int ho] [(qm, .inr (7, [.ref qw, .ref qk, .ref qt, .int txd, .long abv, .long blw, .ref qs, .int atp, .int stp, .int nbr, .ref qi, .ref qp, .ref qh, .ref qb, .int bmy, .ref qa, .ref q6, .long hsh])), (qw, .inl (K.2.1.1, 456, .inl wf))] (some (.int (f_X8_showsIn wf ho a ii))) [(qm, .inr (7, [.ref qw, .ref qk, .ref qt, .int txd, .long abv, .long blw, .ref qs, .int atp, .int stp, .int nbr, .ref qi, .ref qp, .ref qh, .ref qb, .int bmy, .ref qa, .ref q6, .long hsh])), (qw, .inl (K.2.1.1, 456, .inl wf))] := by
  refine vv_C.of (lv := [(0, .ref qm), (1, .int rr), (2, .int i), (3, .int ho)]) (by decide +kernel) (Nat.le_of_ble_eq_true rfl) rfl ?_
  intro x hl hK F hR; subst hl; obtain rfl := hK
  refine vv_aload_n F dX8_showsIn_0 rfl rfl ?_
  refine vv_get 0 F fl_X8_7 dX8_showsIn_1 rfl rfl ?_
  refine vv_iload_n F dX8_showsIn_4 rfl rfl ?_
  refine vv_iconst (v := 1) F dX8_showsIn_5 (by decide) ?_
  refine vv_iadd F dX8_showsIn_6 ?_
  refine vv_iload_n F dX8_showsIn_7 rfl rfl ?_
  refine vv_iadd F dX8_showsIn_8 ?_
  refine vv_iald 1 F dX8_showsIn_9 rfl (vv_ixP (j := (1 + a + ii)) (by have hz := (nn_add (nn_add hra (by decide : (1 : Int32).toInt = ((1 : Nat) : Int)) (by omega)) hi (by omega)); omega) (by omega)) ?_
  refine vv_aload_n F dX8_showsIn_10 rfl rfl ?_
  refine vv_get 0 F fl_X8_7 dX8_showsIn_11 rfl rfl ?_
  refine vv_iload_n F dX8_showsIn_14 rfl rfl ?_
  refine vv_bipush (v := 6) F dX8_showsIn_15 (by decide) ?_
  refine vv_iadd F dX8_showsIn_17 ?_
  refine vv_iload_n F dX8_showsIn_18 rfl rfl ?_
  refine vv_iadd F dX8_showsIn_19 ?_
  refine vv_iald 1 F dX8_showsIn_20 rfl (vv_ixP (j := (6 + a + ii)) (by have hz := (nn_add (nn_add hra (by decide : (6 : Int32).toInt = ((6 : Nat) : Int)) (by omega)) hi (by omega)); omega) (by omega)) ?_
  refine vv_iload_n F dX8_showsIn_21 rfl rfl ?_
  refine vv_bipush (v := 24) F dX8_showsIn_22 (by decide) ?_
  refine vv_iremR F dX8_showsIn_24 (by decide) ?_
  refine vv_callSp (As := [.int (wf (1 + a + ii)), .int (wf (6 + a + ii)), .int (vv_rem ho 24)]) (rest := []) [] F (c_X8_showOf (vv_l x) (vv_k x) (wf (1 + a + ii)) (wf (6 + a + ii)) (vv_rem ho 24)) ms_X8_178 dX8_showsIn_25 (by decide) rfl rfl (Nat.le_of_ble_eq_true rfl) rfl (by decide) ?_
  exact vv_iret F hR dX8_showsIn_28 rfl rfl
noncomputable def f_X8_costIn (wf : Nat → Int32) (ho : Int32) (a ii : Nat) : Int32 := ((f_X8_chargeOf (wf (12 + a)) (f_X8_showsIn wf ho a ii) (ho / 24)) + (f_X8_chargeOf (wf (13 + a)) (f_X8_showsIn wf ho a ii) (ho / 24)))
theorem c_X8_costIn (l : Launch) (K : vv_K) (qm qw qk qt : Nat) (txd : Int32) (abv blw : Int64) (qs : Nat) (atp stp nbr : Int32) (qi qp qh qb : Nat) (bmy : Int32) (qa q6 : Nat) (hsh : Int64) (wf : Nat → Int32) (rr i ho : Int32) (a ii : Nat) (hra : (rr).toInt = (a : Int)) (hi : (i).toInt = (ii : Int)) (ha : a + 114 ≤ 456) (hii : ii < 5)  : vv_C l K 4 yX8_costIn cX8_costIn 5 (some .int) [.ref qm, .int rr, .int i, .int ho] [(qm, .inr (7, [.ref qw, .ref qk, .ref qt, .int txd, .long abv, .long blw, .ref qs, .int atp, .int stp, .int nbr, .ref qi, .ref qp, .ref qh, .ref qb, .int bmy, .ref qa, .ref q6, .long hsh])), (qw, .inl (K.2.1.1, 456, .inl wf))] (some (.int (f_X8_costIn wf ho a ii))) [(qm, .inr (7, [.ref qw, .ref qk, .ref qt, .int txd, .long abv, .long blw, .ref qs, .int atp, .int stp, .int nbr, .ref qi, .ref qp, .ref qh, .ref qb, .int bmy, .ref qa, .ref q6, .long hsh])), (qw, .inl (K.2.1.1, 456, .inl wf))] := by
  refine vv_C.of (lv := [(0, .ref qm), (1, .int rr), (2, .int i), (3, .int ho)]) (by decide +kernel) (Nat.le_of_ble_eq_true rfl) rfl ?_
  intro x hl hK F hR; subst hl; obtain rfl := hK
  refine vv_aload_n F dX8_costIn_0 rfl rfl ?_
  refine vv_iload_n F dX8_costIn_1 rfl rfl ?_
  refine vv_iload_n F dX8_costIn_2 rfl rfl ?_
  refine vv_iload_n F dX8_costIn_3 rfl rfl ?_
  refine vv_callVp (As := [.int rr, .int i, .int ho]) (rest := []) [0, 1] 0 F (c_X8_showsIn (vv_l x) (vv_k x) qm qw qk qt txd abv blw qs atp stp nbr qi qp qh qb bmy qa q6 hsh wf rr i ho a ii hra hi (by omega) (by omega)) mv_X8_182 dX8_costIn_4 (by decide) rfl rfl (Nat.le_of_ble_eq_true rfl) rfl (by decide) rfl ?_
  refine vv_istore (lv' := [(4, .int (f_X8_showsIn wf ho a ii)), (0, .ref qm), (1, .int rr), (2, .int i), (3, .int ho)]) F dX8_costIn_7 (by decide) rfl ?_
  refine vv_aload_n F dX8_costIn_9 rfl rfl ?_
  refine vv_get 0 F fl_X8_7 dX8_costIn_10 rfl rfl ?_
  refine vv_iload_n F dX8_costIn_13 rfl rfl ?_
  refine vv_bipush (v := 12) F dX8_costIn_14 (by decide) ?_
  refine vv_iadd F dX8_costIn_16 ?_
  refine vv_iald 1 F dX8_costIn_17 rfl (vv_ixP (j := (12 + a)) (by have hz := (nn_add hra (by decide : (12 : Int32).toInt = ((12 : Nat) : Int)) (by omega)); omega) (by omega)) ?_
  refine vv_iload F dX8_costIn_18 rfl ?_
  refine vv_iload_n F dX8_costIn_20 rfl rfl ?_
  refine vv_bipush (v := 24) F dX8_costIn_21 (by decide) ?_
  refine vv_idiv F dX8_costIn_23 (by decide) ?_
  refine vv_callSp (As := [.int (wf (12 + a)), .int (f_X8_showsIn wf ho a ii), .int (ho / 24)]) (rest := []) [] F (c_X8_chargeOf (vv_l x) (vv_k x) (wf (12 + a)) (f_X8_showsIn wf ho a ii) (ho / 24)) ms_X8_185 dX8_costIn_24 (by decide) rfl rfl (Nat.le_of_ble_eq_true rfl) rfl (by decide) ?_
  refine vv_aload_n F dX8_costIn_27 rfl rfl ?_
  refine vv_get 0 F fl_X8_7 dX8_costIn_28 rfl rfl ?_
  refine vv_iload_n F dX8_costIn_31 rfl rfl ?_
  refine vv_bipush (v := 12) F dX8_costIn_32 (by decide) ?_
  refine vv_iadd F dX8_costIn_34 ?_
  refine vv_iconst (v := 1) F dX8_costIn_35 (by decide) ?_
  refine vv_iadd F dX8_costIn_36 ?_
  refine vv_iald 1 F dX8_costIn_37 rfl (vv_ixP (j := (13 + a)) (by have hz := (nn_add (nn_add hra (by decide : (12 : Int32).toInt = ((12 : Nat) : Int)) (by omega)) (by decide : (1 : Int32).toInt = ((1 : Nat) : Int)) (by omega)); omega) (by omega)) ?_
  refine vv_iload F dX8_costIn_38 rfl ?_
  refine vv_iload_n F dX8_costIn_40 rfl rfl ?_
  refine vv_bipush (v := 24) F dX8_costIn_41 (by decide) ?_
  refine vv_idiv F dX8_costIn_43 (by decide) ?_
  refine vv_callSp (As := [.int (wf (13 + a)), .int (f_X8_showsIn wf ho a ii), .int (ho / 24)]) (rest := [.int (f_X8_chargeOf (wf (12 + a)) (f_X8_showsIn wf ho a ii) (ho / 24))]) [] F (c_X8_chargeOf (vv_l x) (vv_k x) (wf (13 + a)) (f_X8_showsIn wf ho a ii) (ho / 24)) ms_X8_185 dX8_costIn_44 (by decide) rfl rfl (Nat.le_of_ble_eq_true rfl) rfl (by decide) ?_
  refine vv_iadd F dX8_costIn_47 ?_
  exact vv_iret F hR dX8_costIn_48 rfl rfl
noncomputable def f_X8_bringsIn (wf : Nat → Int32) (a ii : Nat) : Int32 := (f_X8_bringsBy (wf (6 + a + ii)) (wf (11 + a)))
theorem c_X8_bringsIn (l : Launch) (K : vv_K) (qm qw qk qt : Nat) (txd : Int32) (abv blw : Int64) (qs : Nat) (atp stp nbr : Int32) (qi qp qh qb : Nat) (bmy : Int32) (qa q6 : Nat) (hsh : Int64) (wf : Nat → Int32) (rr i : Int32) (a ii : Nat) (hra : (rr).toInt = (a : Int)) (hi : (i).toInt = (ii : Int)) (ha : a + 114 ≤ 456) (hii : ii < 5)  : vv_C l K 2 yX8_bringsIn cX8_bringsIn 3 (some .int) [.ref qm, .int rr, .int i] [(qm, .inr (7, [.ref qw, .ref qk, .ref qt, .int txd, .long abv, .long blw, .ref qs, .int atp, .int stp, .int nbr, .ref qi, .ref qp, .ref qh, .ref qb, .int bmy, .ref qa, .ref q6, .long hsh])), (qw, .inl (K.2.1.1, 456, .inl wf))] (some (.int (f_X8_bringsIn wf a ii))) [(qm, .inr (7, [.ref qw, .ref qk, .ref qt, .int txd, .long abv, .long blw, .ref qs, .int atp, .int stp, .int nbr, .ref qi, .ref qp, .ref qh, .ref qb, .int bmy, .ref qa, .ref q6, .long hsh])), (qw, .inl (K.2.1.1, 456, .inl wf))] := by
  refine vv_C.of (lv := [(0, .ref qm), (1, .int rr), (2, .int i)]) (by decide +kernel) (Nat.le_of_ble_eq_true rfl) rfl ?_
  intro x hl hK F hR; subst hl; obtain rfl := hK
  refine vv_aload_n F dX8_bringsIn_0 rfl rfl ?_
  refine vv_get 0 F fl_X8_7 dX8_bringsIn_1 rfl rfl ?_
  refine vv_iload_n F dX8_bringsIn_4 rfl rfl ?_
  refine vv_bipush (v := 6) F dX8_bringsIn_5 (by decide) ?_
  refine vv_iadd F dX8_bringsIn_7 ?_
  refine vv_iload_n F dX8_bringsIn_8 rfl rfl ?_
  refine vv_iadd F dX8_bringsIn_9 ?_
  refine vv_iald 1 F dX8_bringsIn_10 rfl (vv_ixP (j := (6 + a + ii)) (by have hz := (nn_add (nn_add hra (by decide : (6 : Int32).toInt = ((6 : Nat) : Int)) (by omega)) hi (by omega)); omega) (by omega)) ?_
  refine vv_aload_n F dX8_bringsIn_11 rfl rfl ?_
  refine vv_get 0 F fl_X8_7 dX8_bringsIn_12 rfl rfl ?_
  refine vv_iload_n F dX8_bringsIn_15 rfl rfl ?_
  refine vv_bipush (v := 11) F dX8_bringsIn_16 (by decide) ?_
  refine vv_iadd F dX8_bringsIn_18 ?_
  refine vv_iald 1 F dX8_bringsIn_19 rfl (vv_ixP (j := (11 + a)) (by have hz := (nn_add hra (by decide : (11 : Int32).toInt = ((11 : Nat) : Int)) (by omega)); omega) (by omega)) ?_
  refine vv_callSp (As := [.int (wf (6 + a + ii)), .int (wf (11 + a))]) (rest := []) [] F (c_X8_bringsBy (vv_l x) (vv_k x) (wf (6 + a + ii)) (wf (11 + a))) ms_X8_188 dX8_bringsIn_20 (by decide) rfl rfl (Nat.le_of_ble_eq_true rfl) rfl (by decide) ?_
  exact vv_iret F hR dX8_bringsIn_23 rfl rfl
abbrev p_X8_canSend (wf : Nat → Int32) (a ii : Nat) : Prop := ((¬ (9999 ≤ (wf (17 + a)))) ∧ (¬ ((wf (14 + a)) < (f_X8_costIn wf (wf (17 + a)) a ii))))
theorem c_X8_canSend (l : Launch) (K : vv_K) (qm qw qk qt : Nat) (txd : Int32) (abv blw : Int64) (qs : Nat) (atp stp nbr : Int32) (qi qp qh qb : Nat) (bmy : Int32) (qa q6 : Nat) (hsh : Int64) (wf : Nat → Int32) (rr i : Int32) (a ii : Nat) (hra : (rr).toInt = (a : Int)) (hi : (i).toInt = (ii : Int)) (ha : a + 114 ≤ 456) (hii : ii < 5)  : vv_C l K 5 yX8_canSend cX8_canSend 3 (some .boolean) [.ref qm, .int rr, .int i] [(qm, .inr (7, [.ref qw, .ref qk, .ref qt, .int txd, .long abv, .long blw, .ref qs, .int atp, .int stp, .int nbr, .ref qi, .ref qp, .ref qh, .ref qb, .int bmy, .ref qa, .ref q6, .long hsh])), (qw, .inl (K.2.1.1, 456, .inl wf))] (some (.int (vv_b (p_X8_canSend wf a ii)))) [(qm, .inr (7, [.ref qw, .ref qk, .ref qt, .int txd, .long abv, .long blw, .ref qs, .int atp, .int stp, .int nbr, .ref qi, .ref qp, .ref qh, .ref qb, .int bmy, .ref qa, .ref q6, .long hsh])), (qw, .inl (K.2.1.1, 456, .inl wf))] := by
  refine vv_C.of (lv := [(0, .ref qm), (1, .int rr), (2, .int i)]) (by decide +kernel) (Nat.le_of_ble_eq_true rfl) rfl ?_
  intro x hl hK F hR; subst hl; obtain rfl := hK
  refine vv_aload_n F dX8_canSend_0 rfl rfl ?_
  refine vv_get 0 F fl_X8_7 dX8_canSend_1 rfl rfl ?_
  refine vv_iload_n F dX8_canSend_4 rfl rfl ?_
  refine vv_bipush (v := 17) F dX8_canSend_5 (by decide) ?_
  refine vv_iadd F dX8_canSend_7 ?_
  refine vv_iald 1 F dX8_canSend_8 rfl (vv_ixP (j := (17 + a)) (by have hz := (nn_add hra (by decide : (17 : Int32).toInt = ((17 : Nat) : Int)) (by omega)); omega) (by omega)) ?_
  refine vv_sipush (v := 9999) F dX8_canSend_9 (by decide) ?_
  refine vv_icmp_ge (tgt := 46) F dX8_canSend_12 (by decide) (fun h_1 => ?_) (fun h_1 => ?_)
  · refine vv_iconst (v := 0) F dX8_canSend_46 (by decide) ?_
    exact vv_zret F hR dX8_canSend_47 rfl (vv_bf (fun z => z.1 h_1)) rfl
  · refine vv_aload_n F dX8_canSend_15 rfl rfl ?_
    refine vv_get 0 F fl_X8_7 dX8_canSend_16 rfl rfl ?_
    refine vv_iload_n F dX8_canSend_19 rfl rfl ?_
    refine vv_bipush (v := 14) F dX8_canSend_20 (by decide) ?_
    refine vv_iadd F dX8_canSend_22 ?_
    refine vv_iald 1 F dX8_canSend_23 rfl (vv_ixP (j := (14 + a)) (by have hz := (nn_add hra (by decide : (14 : Int32).toInt = ((14 : Nat) : Int)) (by omega)); omega) (by omega)) ?_
    refine vv_aload_n F dX8_canSend_24 rfl rfl ?_
    refine vv_iload_n F dX8_canSend_25 rfl rfl ?_
    refine vv_iload_n F dX8_canSend_26 rfl rfl ?_
    refine vv_aload_n F dX8_canSend_27 rfl rfl ?_
    refine vv_get 0 F fl_X8_7 dX8_canSend_28 rfl rfl ?_
    refine vv_iload_n F dX8_canSend_31 rfl rfl ?_
    refine vv_bipush (v := 17) F dX8_canSend_32 (by decide) ?_
    refine vv_iadd F dX8_canSend_34 ?_
    refine vv_iald 1 F dX8_canSend_35 rfl (vv_ixP (j := (17 + a)) (by have hz := (nn_add hra (by decide : (17 : Int32).toInt = ((17 : Nat) : Int)) (by omega)); omega) (by omega)) ?_
    refine vv_callVp (As := [.int rr, .int i, .int (wf (17 + a))]) (rest := [.int (wf (14 + a))]) [0, 1] 0 F (c_X8_costIn (vv_l x) (vv_k x) qm qw qk qt txd abv blw qs atp stp nbr qi qp qh qb bmy qa q6 hsh wf rr i (wf (17 + a)) a ii hra hi (by omega) (by omega)) mv_X8_191 dX8_canSend_36 (by decide) rfl rfl (Nat.le_of_ble_eq_true rfl) rfl (by decide) rfl ?_
    refine vv_icmp_lt (tgt := 46) F dX8_canSend_39 (by decide) (fun h_2 => ?_) (fun h_2 => ?_)
    · refine vv_iconst (v := 0) F dX8_canSend_46 (by decide) ?_
      exact vv_zret F hR dX8_canSend_47 rfl (vv_bf (fun z => (fun z => z h_2) z.2)) rfl
    · refine vv_iconst (v := 1) F dX8_canSend_42 (by decide) ?_
      refine vv_goto (tgt := 47) F dX8_canSend_43 (by decide) ?_
      exact vv_zret F hR dX8_canSend_47 rfl (vv_bt ⟨h_1, h_2⟩) rfl
noncomputable def g_X8_isSent_1 (wf : Nat → Int32) (a ii : Nat) : Nat → Int32 := (if (f_X8_chargeOf (wf (13 + a)) (f_X8_showsIn (upd (upd wf (14 + a) ((wf (14 + a)) - (f_X8_costIn wf (wf (17 + a)) a ii))) (15 + a) ((wf (15 + a)) + (f_X8_bringsIn (upd wf (14 + a) ((wf (14 + a)) - (f_X8_costIn wf (wf (17 + a)) a ii))) a ii))) (wf (17 + a)) a ii) ((wf (17 + a)) / 24)) ≤ 0 then (upd (upd (upd (upd wf (14 + a) ((wf (14 + a)) - (f_X8_costIn wf (wf (17 + a)) a ii))) (15 + a) ((wf (15 + a)) + (f_X8_bringsIn (upd wf (14 + a) ((wf (14 + a)) - (f_X8_costIn wf (wf (17 + a)) a ii))) a ii))) (16 + a) ((wf (16 + a)) + 0)) (17 + a) ((wf (17 + a)) + 1)) else (upd (upd (upd (upd wf (14 + a) ((wf (14 + a)) - (f_X8_costIn wf (wf (17 + a)) a ii))) (15 + a) ((wf (15 + a)) + (f_X8_bringsIn (upd wf (14 + a) ((wf (14 + a)) - (f_X8_costIn wf (wf (17 + a)) a ii))) a ii))) (16 + a) ((wf (16 + a)) + 1)) (17 + a) ((wf (17 + a)) + 1)))
theorem c_X8_isSent (l : Launch) (K : vv_K) (qm qw qk qt : Nat) (txd : Int32) (abv blw : Int64) (qs : Nat) (atp stp nbr : Int32) (qi qp qh qb : Nat) (bmy : Int32) (qa q6 : Nat) (hsh : Int64) (wf : Nat → Int32) (rr i : Int32) (a ii : Nat) (hra : (rr).toInt = (a : Int)) (hi : (i).toInt = (ii : Int)) (ha : a + 114 ≤ 456) (hii : ii < 5)  : vv_C l K 5 yX8_isSent cX8_isSent 4 none [.ref qm, .int rr, .int i] [(qm, .inr (7, [.ref qw, .ref qk, .ref qt, .int txd, .long abv, .long blw, .ref qs, .int atp, .int stp, .int nbr, .ref qi, .ref qp, .ref qh, .ref qb, .int bmy, .ref qa, .ref q6, .long hsh])), (qw, .inl (K.2.1.1, 456, .inl wf))] none [(qm, .inr (7, [.ref qw, .ref qk, .ref qt, .int txd, .long abv, .long blw, .ref qs, .int atp, .int stp, .int nbr, .ref qi, .ref qp, .ref qh, .ref qb, .int bmy, .ref qa, .ref q6, .long hsh])), (qw, .inl (K.2.1.1, 456, .inl (g_X8_isSent_1 wf a ii)))] := by
  refine vv_C.of (lv := [(0, .ref qm), (1, .int rr), (2, .int i)]) (by decide +kernel) (Nat.le_of_ble_eq_true rfl) rfl ?_
  intro x hl hK F hR; subst hl; obtain rfl := hK
  refine vv_aload_n F dX8_isSent_0 rfl rfl ?_
  refine vv_get 0 F fl_X8_7 dX8_isSent_1 rfl rfl ?_
  refine vv_iload_n F dX8_isSent_4 rfl rfl ?_
  refine vv_bipush (v := 17) F dX8_isSent_5 (by decide) ?_
  refine vv_iadd F dX8_isSent_7 ?_
  refine vv_iald 1 F dX8_isSent_8 rfl (vv_ixP (j := (17 + a)) (by have hz := (nn_add hra (by decide : (17 : Int32).toInt = ((17 : Nat) : Int)) (by omega)); omega) (by omega)) ?_
  refine vv_istore_n (lv' := [(3, .int (wf (17 + a))), (0, .ref qm), (1, .int rr), (2, .int i)]) F dX8_isSent_9 rfl (by decide) rfl ?_
  refine vv_aload_n F dX8_isSent_10 rfl rfl ?_
  refine vv_get 0 F fl_X8_7 dX8_isSent_11 rfl rfl ?_
  refine vv_iload_n F dX8_isSent_14 rfl rfl ?_
  refine vv_bipush (v := 14) F dX8_isSent_15 (by decide) ?_
  refine vv_iadd F dX8_isSent_17 ?_
  refine vv_dup2_11 F dX8_isSent_18 rfl rfl ?_
  refine vv_iald 1 F dX8_isSent_19 rfl (vv_ixP (j := (14 + a)) (by have hz := (nn_add hra (by decide : (14 : Int32).toInt = ((14 : Nat) : Int)) (by omega)); omega) (by omega)) ?_
  refine vv_aload_n F dX8_isSent_20 rfl rfl ?_
  refine vv_iload_n F dX8_isSent_21 rfl rfl ?_
  refine vv_iload_n F dX8_isSent_22 rfl rfl ?_
  refine vv_iload_n F dX8_isSent_23 rfl rfl ?_
  refine vv_callVp (As := [.int rr, .int i, .int (wf (17 + a))]) (rest := [.int (wf (14 + a)), .int (rr + 14), .ref qw]) [0, 1] 0 F (c_X8_costIn (vv_l x) (vv_k x) qm qw qk qt txd abv blw qs atp stp nbr qi qp qh qb bmy qa q6 hsh wf rr i (wf (17 + a)) a ii hra hi (by omega) (by omega)) mv_X8_191 dX8_isSent_24 (by decide) rfl rfl (Nat.le_of_ble_eq_true rfl) rfl (by decide) rfl ?_
  refine vv_isub F dX8_isSent_27 ?_
  refine vv_iast 1 (ws' := [(qm, .inr (7, [.ref qw, .ref qk, .ref qt, .int txd, .long abv, .long blw, .ref qs, .int atp, .int stp, .int nbr, .ref qi, .ref qp, .ref qh, .ref qb, .int bmy, .ref qa, .ref q6, .long hsh])), (qw, .inl ((vv_k x).2.1.1, 456, .inl (upd wf (14 + a) ((wf (14 + a)) - (f_X8_costIn wf (wf (17 + a)) a ii)))))]) F dX8_isSent_28 rfl (vv_ixP (j := (14 + a)) (by have hz := (nn_add hra (by decide : (14 : Int32).toInt = ((14 : Nat) : Int)) (by omega)); omega) (by omega)) rfl ?_
  refine vv_aload_n F dX8_isSent_29 rfl rfl ?_
  refine vv_get 0 F fl_X8_7 dX8_isSent_30 rfl rfl ?_
  refine vv_iload_n F dX8_isSent_33 rfl rfl ?_
  refine vv_bipush (v := 15) F dX8_isSent_34 (by decide) ?_
  refine vv_iadd F dX8_isSent_36 ?_
  refine vv_dup2_11 F dX8_isSent_37 rfl rfl ?_
  refine vv_iald 1 F dX8_isSent_38 rfl (vv_ixP (j := (15 + a)) (by have hz := (nn_add hra (by decide : (15 : Int32).toInt = ((15 : Nat) : Int)) (by omega)); omega) (by omega)) ?_
  refine vv_topi (wf (15 + a)) (pk_un (by omega)) ?_
  refine vv_aload_n F dX8_isSent_39 rfl rfl ?_
  refine vv_iload_n F dX8_isSent_40 rfl rfl ?_
  refine vv_iload_n F dX8_isSent_41 rfl rfl ?_
  refine vv_callVp (As := [.int rr, .int i]) (rest := [.int (wf (15 + a)), .int (rr + 15), .ref qw]) [0, 1] 0 F (c_X8_bringsIn (vv_l x) (vv_k x) qm qw qk qt txd abv blw qs atp stp nbr qi qp qh qb bmy qa q6 hsh (upd wf (14 + a) ((wf (14 + a)) - (f_X8_costIn wf (wf (17 + a)) a ii))) rr i a ii hra hi (by omega) (by omega)) mv_X8_194 dX8_isSent_42 (by decide) rfl rfl (Nat.le_of_ble_eq_true rfl) rfl (by decide) rfl ?_
  refine vv_iadd F dX8_isSent_45 ?_
  refine vv_iast 1 (ws' := [(qm, .inr (7, [.ref qw, .ref qk, .ref qt, .int txd, .long abv, .long blw, .ref qs, .int atp, .int stp, .int nbr, .ref qi, .ref qp, .ref qh, .ref qb, .int bmy, .ref qa, .ref q6, .long hsh])), (qw, .inl ((vv_k x).2.1.1, 456, .inl (upd (upd wf (14 + a) ((wf (14 + a)) - (f_X8_costIn wf (wf (17 + a)) a ii))) (15 + a) ((wf (15 + a)) + (f_X8_bringsIn (upd wf (14 + a) ((wf (14 + a)) - (f_X8_costIn wf (wf (17 + a)) a ii))) a ii)))))]) F dX8_isSent_46 rfl (vv_ixP (j := (15 + a)) (by have hz := (nn_add hra (by decide : (15 : Int32).toInt = ((15 : Nat) : Int)) (by omega)); omega) (by omega)) rfl ?_
  refine vv_aload_n F dX8_isSent_47 rfl rfl ?_
  refine vv_get 0 F fl_X8_7 dX8_isSent_48 rfl rfl ?_
  refine vv_iload_n F dX8_isSent_51 rfl rfl ?_
  refine vv_bipush (v := 16) F dX8_isSent_52 (by decide) ?_
  refine vv_iadd F dX8_isSent_54 ?_
  refine vv_dup2_11 F dX8_isSent_55 rfl rfl ?_
  refine vv_iald 1 F dX8_isSent_56 rfl (vv_ixP (j := (16 + a)) (by have hz := (nn_add hra (by decide : (16 : Int32).toInt = ((16 : Nat) : Int)) (by omega)); omega) (by omega)) ?_
  refine vv_topi (wf (16 + a)) ((pk_un (by omega)).trans (pk_un (by omega))) ?_
  refine vv_aload_n F dX8_isSent_57 rfl rfl ?_
  refine vv_get 0 F fl_X8_7 dX8_isSent_58 rfl rfl ?_
  refine vv_iload_n F dX8_isSent_61 rfl rfl ?_
  refine vv_bipush (v := 12) F dX8_isSent_62 (by decide) ?_
  refine vv_iadd F dX8_isSent_64 ?_
  refine vv_iconst (v := 1) F dX8_isSent_65 (by decide) ?_
  refine vv_iadd F dX8_isSent_66 ?_
  refine vv_iald 1 F dX8_isSent_67 rfl (vv_ixP (j := (13 + a)) (by have hz := (nn_add (nn_add hra (by decide : (12 : Int32).toInt = ((12 : Nat) : Int)) (by omega)) (by decide : (1 : Int32).toInt = ((1 : Nat) : Int)) (by omega)); omega) (by omega)) ?_
  refine vv_topi (wf (13 + a)) ((pk_un (by omega)).trans (pk_un (by omega))) ?_
  refine vv_aload_n F dX8_isSent_68 rfl rfl ?_
  refine vv_iload_n F dX8_isSent_69 rfl rfl ?_
  refine vv_iload_n F dX8_isSent_70 rfl rfl ?_
  refine vv_iload_n F dX8_isSent_71 rfl rfl ?_
  refine vv_callVp (As := [.int rr, .int i, .int (wf (17 + a))]) (rest := [.int (wf (13 + a)), .int (wf (16 + a)), .int (rr + 16), .ref qw]) [0, 1] 0 F (c_X8_showsIn (vv_l x) (vv_k x) qm qw qk qt txd abv blw qs atp stp nbr qi qp qh qb bmy qa q6 hsh (upd (upd wf (14 + a) ((wf (14 + a)) - (f_X8_costIn wf (wf (17 + a)) a ii))) (15 + a) ((wf (15 + a)) + (f_X8_bringsIn (upd wf (14 + a) ((wf (14 + a)) - (f_X8_costIn wf (wf (17 + a)) a ii))) a ii))) rr i (wf (17 + a)) a ii hra hi (by omega) (by omega)) mv_X8_182 dX8_isSent_72 (by decide) rfl rfl (Nat.le_of_ble_eq_true rfl) rfl (by decide) rfl ?_
  refine vv_iload_n F dX8_isSent_75 rfl rfl ?_
  refine vv_bipush (v := 24) F dX8_isSent_76 (by decide) ?_
  refine vv_idiv F dX8_isSent_78 (by decide) ?_
  refine vv_callSp (As := [.int (wf (13 + a)), .int (f_X8_showsIn (upd (upd wf (14 + a) ((wf (14 + a)) - (f_X8_costIn wf (wf (17 + a)) a ii))) (15 + a) ((wf (15 + a)) + (f_X8_bringsIn (upd wf (14 + a) ((wf (14 + a)) - (f_X8_costIn wf (wf (17 + a)) a ii))) a ii))) (wf (17 + a)) a ii), .int ((wf (17 + a)) / 24)]) (rest := [.int (wf (16 + a)), .int (rr + 16), .ref qw]) [] F (c_X8_chargeOf (vv_l x) (vv_k x) (wf (13 + a)) (f_X8_showsIn (upd (upd wf (14 + a) ((wf (14 + a)) - (f_X8_costIn wf (wf (17 + a)) a ii))) (15 + a) ((wf (15 + a)) + (f_X8_bringsIn (upd wf (14 + a) ((wf (14 + a)) - (f_X8_costIn wf (wf (17 + a)) a ii))) a ii))) (wf (17 + a)) a ii) ((wf (17 + a)) / 24)) ms_X8_185 dX8_isSent_79 (by decide) rfl rfl (Nat.le_of_ble_eq_true rfl) rfl (by decide) ?_
  refine vv_if_le (tgt := 89) F dX8_isSent_82 (by decide) (fun h_1 => ?_) (fun h_1 => ?_)
  · refine vv_iconst (v := 0) F dX8_isSent_89 (by decide) ?_
    refine vv_iadd F dX8_isSent_90 ?_
    refine vv_iast 1 (ws' := [(qm, .inr (7, [.ref qw, .ref qk, .ref qt, .int txd, .long abv, .long blw, .ref qs, .int atp, .int stp, .int nbr, .ref qi, .ref qp, .ref qh, .ref qb, .int bmy, .ref qa, .ref q6, .long hsh])), (qw, .inl ((vv_k x).2.1.1, 456, .inl (upd (upd (upd wf (14 + a) ((wf (14 + a)) - (f_X8_costIn wf (wf (17 + a)) a ii))) (15 + a) ((wf (15 + a)) + (f_X8_bringsIn (upd wf (14 + a) ((wf (14 + a)) - (f_X8_costIn wf (wf (17 + a)) a ii))) a ii))) (16 + a) ((wf (16 + a)) + 0))))]) F dX8_isSent_91 rfl (vv_ixP (j := (16 + a)) (by have hz := (nn_add hra (by decide : (16 : Int32).toInt = ((16 : Nat) : Int)) (by omega)); omega) (by omega)) rfl ?_
    refine vv_aload_n F dX8_isSent_92 rfl rfl ?_
    refine vv_get 0 F fl_X8_7 dX8_isSent_93 rfl rfl ?_
    refine vv_iload_n F dX8_isSent_96 rfl rfl ?_
    refine vv_bipush (v := 17) F dX8_isSent_97 (by decide) ?_
    refine vv_iadd F dX8_isSent_99 ?_
    refine vv_dup2_11 F dX8_isSent_100 rfl rfl ?_
    refine vv_iald 1 F dX8_isSent_101 rfl (vv_ixP (j := (17 + a)) (by have hz := (nn_add hra (by decide : (17 : Int32).toInt = ((17 : Nat) : Int)) (by omega)); omega) (by omega)) ?_
    refine vv_topi (wf (17 + a)) ((pk_un (by omega)).trans ((pk_un (by omega)).trans (pk_un (by omega)))) ?_
    refine vv_iconst (v := 1) F dX8_isSent_102 (by decide) ?_
    refine vv_iadd F dX8_isSent_103 ?_
    refine vv_iast 1 (ws' := [(qm, .inr (7, [.ref qw, .ref qk, .ref qt, .int txd, .long abv, .long blw, .ref qs, .int atp, .int stp, .int nbr, .ref qi, .ref qp, .ref qh, .ref qb, .int bmy, .ref qa, .ref q6, .long hsh])), (qw, .inl ((vv_k x).2.1.1, 456, .inl (upd (upd (upd (upd wf (14 + a) ((wf (14 + a)) - (f_X8_costIn wf (wf (17 + a)) a ii))) (15 + a) ((wf (15 + a)) + (f_X8_bringsIn (upd wf (14 + a) ((wf (14 + a)) - (f_X8_costIn wf (wf (17 + a)) a ii))) a ii))) (16 + a) ((wf (16 + a)) + 0)) (17 + a) ((wf (17 + a)) + 1))))]) F dX8_isSent_104 rfl (vv_ixP (j := (17 + a)) (by have hz := (nn_add hra (by decide : (17 : Int32).toInt = ((17 : Nat) : Int)) (by omega)); omega) (by omega)) rfl ?_
    exact vv_vret F hR dX8_isSent_105 rfl (by simp only [g_X8_isSent_1, if_pos h_1])
  · refine vv_iconst (v := 1) F dX8_isSent_85 (by decide) ?_
    refine vv_goto (tgt := 90) F dX8_isSent_86 (by decide) ?_
    refine vv_iadd F dX8_isSent_90 ?_
    refine vv_iast 1 (ws' := [(qm, .inr (7, [.ref qw, .ref qk, .ref qt, .int txd, .long abv, .long blw, .ref qs, .int atp, .int stp, .int nbr, .ref qi, .ref qp, .ref qh, .ref qb, .int bmy, .ref qa, .ref q6, .long hsh])), (qw, .inl ((vv_k x).2.1.1, 456, .inl (upd (upd (upd wf (14 + a) ((wf (14 + a)) - (f_X8_costIn wf (wf (17 + a)) a ii))) (15 + a) ((wf (15 + a)) + (f_X8_bringsIn (upd wf (14 + a) ((wf (14 + a)) - (f_X8_costIn wf (wf (17 + a)) a ii))) a ii))) (16 + a) ((wf (16 + a)) + 1))))]) F dX8_isSent_91 rfl (vv_ixP (j := (16 + a)) (by have hz := (nn_add hra (by decide : (16 : Int32).toInt = ((16 : Nat) : Int)) (by omega)); omega) (by omega)) rfl ?_
    refine vv_aload_n F dX8_isSent_92 rfl rfl ?_
    refine vv_get 0 F fl_X8_7 dX8_isSent_93 rfl rfl ?_
    refine vv_iload_n F dX8_isSent_96 rfl rfl ?_
    refine vv_bipush (v := 17) F dX8_isSent_97 (by decide) ?_
    refine vv_iadd F dX8_isSent_99 ?_
    refine vv_dup2_11 F dX8_isSent_100 rfl rfl ?_
    refine vv_iald 1 F dX8_isSent_101 rfl (vv_ixP (j := (17 + a)) (by have hz := (nn_add hra (by decide : (17 : Int32).toInt = ((17 : Nat) : Int)) (by omega)); omega) (by omega)) ?_
    refine vv_topi (wf (17 + a)) ((pk_un (by omega)).trans ((pk_un (by omega)).trans (pk_un (by omega)))) ?_
    refine vv_iconst (v := 1) F dX8_isSent_102 (by decide) ?_
    refine vv_iadd F dX8_isSent_103 ?_
    refine vv_iast 1 (ws' := [(qm, .inr (7, [.ref qw, .ref qk, .ref qt, .int txd, .long abv, .long blw, .ref qs, .int atp, .int stp, .int nbr, .ref qi, .ref qp, .ref qh, .ref qb, .int bmy, .ref qa, .ref q6, .long hsh])), (qw, .inl ((vv_k x).2.1.1, 456, .inl (upd (upd (upd (upd wf (14 + a) ((wf (14 + a)) - (f_X8_costIn wf (wf (17 + a)) a ii))) (15 + a) ((wf (15 + a)) + (f_X8_bringsIn (upd wf (14 + a) ((wf (14 + a)) - (f_X8_costIn wf (wf (17 + a)) a ii))) a ii))) (16 + a) ((wf (16 + a)) + 1)) (17 + a) ((wf (17 + a)) + 1))))]) F dX8_isSent_104 rfl (vv_ixP (j := (17 + a)) (by have hz := (nn_add hra (by decide : (17 : Int32).toInt = ((17 : Nat) : Int)) (by omega)); omega) (by omega)) rfl ?_
    exact vv_vret F hR dX8_isSent_105 rfl (by simp only [g_X8_isSent_1, if_neg h_1])
theorem L_X8_minds {x : vv_X} (F : vv_F x cX8_minds 2 RX8 1) (qm qw qk qt : Nat) (txd : Int32) (abv blw : Int64) (qs : Nat) (atp stp nbr : Int32) (qi qp qh qb : Nat) (bmy : Int32) (qa q6 : Nat) (hsh : Int64) (wf : Nat → Int32)  : ∀ (n : Nat) (u : Nat), u + n = 28 → vv_V x 2 46 [(1, .int (nI 28)), (0, .ref qm)] [] [(qm, .inr (7, [.ref qw, .ref qk, .ref qt, .int txd, .long abv, .long blw, .ref qs, .int atp, .int stp, .int nbr, .ref qi, .ref qp, .ref qh, .ref qb, .int bmy, .ref qa, .ref q6, .long hsh])), (qw, .inl ((vv_k x).2.1.1, 456, .inl (va_cpy wf wf 86 82 28)))] → vv_V x 2 14 [(1, .int (nI u)), (0, .ref qm)] [] [(qm, .inr (7, [.ref qw, .ref qk, .ref qt, .int txd, .long abv, .long blw, .ref qs, .int atp, .int stp, .int nbr, .ref qi, .ref qp, .ref qh, .ref qb, .int bmy, .ref qa, .ref q6, .long hsh])), (qw, .inl ((vv_k x).2.1.1, 456, .inl (va_cpy wf wf 86 82 u)))] := by
  intro n
  induction n with
  | zero =>
    intro u hu  kx
    refine vv_iload_n F dX8_minds_14 rfl rfl ?_
    refine vv_bipush (v := 28) F dX8_minds_15 (by decide) ?_
    refine vv_icmp_ge (tgt := 46) F dX8_minds_17 (by decide) (fun h_1 => ?_) (fun h_1 => absurd ((c_le (by decide : (28 : Int32).toInt = ((28 : Nat) : Int)) (nI_toInt (n := u) (by omega))).mpr (by omega)) h_1)
    obtain rfl : u = 28 := by omega
    exact vv_lv [0, 1] rfl kx
  | succ n ih =>
    intro u hu  kx
    refine vv_iload_n F dX8_minds_14 rfl rfl ?_
    refine vv_bipush (v := 28) F dX8_minds_15 (by decide) ?_
    refine vv_icmp_ge (tgt := 46) F dX8_minds_17 (by decide) (fun h_1 => absurd ((c_le (by decide : (28 : Int32).toInt = ((28 : Nat) : Int)) (nI_toInt (n := u) (by omega))).mp h_1) (by omega)) (fun h_1 => ?_)
    refine vv_aload_n F dX8_minds_20 rfl rfl ?_
    refine vv_get 0 F fl_X8_7 dX8_minds_21 rfl rfl ?_
    refine vv_bipush (v := 82) F dX8_minds_24 (by decide) ?_
    refine vv_iload_n F dX8_minds_26 rfl rfl ?_
    refine vv_iadd F dX8_minds_27 ?_
    refine vv_aload_n F dX8_minds_28 rfl rfl ?_
    refine vv_get 0 F fl_X8_7 dX8_minds_29 rfl rfl ?_
    refine vv_bipush (v := 82) F dX8_minds_32 (by decide) ?_
    refine vv_iload_n F dX8_minds_34 rfl rfl ?_
    refine vv_iadd F dX8_minds_35 ?_
    refine vv_iconst (v := 4) F dX8_minds_36 (by decide) ?_
    refine vv_iadd F dX8_minds_37 ?_
    refine vv_iald 1 F dX8_minds_38 rfl (vv_ixP (j := (86 + u)) (by have hz := (nn_add (nn_add (by decide : (82 : Int32).toInt = ((82 : Nat) : Int)) (nI_toInt (n := u) (by omega)) (by omega)) (by decide : (4 : Int32).toInt = ((4 : Nat) : Int)) (by omega)); omega) (by omega)) ?_
    refine vv_topi (wf (86 + u)) (cpy_out (by omega)) ?_
    refine vv_iast 1 (ws' := [(qm, .inr (7, [.ref qw, .ref qk, .ref qt, .int txd, .long abv, .long blw, .ref qs, .int atp, .int stp, .int nbr, .ref qi, .ref qp, .ref qh, .ref qb, .int bmy, .ref qa, .ref q6, .long hsh])), (qw, .inl ((vv_k x).2.1.1, 456, .inl (upd (va_cpy wf wf 86 82 u) (82 + u) (wf (86 + u)))))]) F dX8_minds_39 rfl (vv_ixP (j := (82 + u)) (by have hz := (nn_add (by decide : (82 : Int32).toInt = ((82 : Nat) : Int)) (nI_toInt (n := u) (by omega)) (by omega)); omega) (by omega)) rfl ?_
    refine vv_iinc (v := (nI (u + 1))) (lv' := [(1, .int (nI (u + 1))), (0, .ref qm)]) 0 F dX8_minds_40 rfl (nI_1 u) (by decide) rfl ?_
    refine vv_goto (tgt := 14) F dX8_minds_43 (by decide) ?_
    refine vv_lv [0, 1] rfl ?_
    refine vv_ws (by rw [cpy_s]) ?_
    exact ih (u + 1) (by omega) kx
noncomputable def g_X8_minds_1 (wf : Nat → Int32) (cU : Nat) : Nat → Int32 := (if (wf 81) = 8 then (upd (upd (upd (upd (upd (upd (va_cpy wf wf 86 82 28) 81 ((wf 81) - 1)) (78 + 4 * cU) ((va_cpy wf wf 86 82 28) 14)) (79 + 4 * cU) ((va_cpy wf wf 86 82 28) 15)) (80 + 4 * cU) ((va_cpy wf wf 86 82 28) 16)) (81 + 4 * cU) ((va_cpy wf wf 86 82 28) 17)) 81 (((wf 81) - 1) + 1)) else (upd (upd (upd (upd (upd wf (82 + 4 * cU) (wf 14)) (83 + 4 * cU) (wf 15)) (84 + 4 * cU) (wf 16)) (85 + 4 * cU) (wf 17)) 81 ((wf 81) + 1)))
theorem c_X8_minds (l : Launch) (K : vv_K) (qm qw qk qt : Nat) (txd : Int32) (abv blw : Int64) (qs : Nat) (atp stp nbr : Int32) (qi qp qh qb : Nat) (bmy : Int32) (qa q6 : Nat) (hsh : Int64) (wf : Nat → Int32) (cU : Nat) (hcU : ((wf 81)).toInt = (cU : Int)) (hcU8 : cU ≤ 8)  : vv_C l K 1 yX8_minds cX8_minds 2 none [.ref qm] [(qm, .inr (7, [.ref qw, .ref qk, .ref qt, .int txd, .long abv, .long blw, .ref qs, .int atp, .int stp, .int nbr, .ref qi, .ref qp, .ref qh, .ref qb, .int bmy, .ref qa, .ref q6, .long hsh])), (qw, .inl (K.2.1.1, 456, .inl wf))] none [(qm, .inr (7, [.ref qw, .ref qk, .ref qt, .int txd, .long abv, .long blw, .ref qs, .int atp, .int stp, .int nbr, .ref qi, .ref qp, .ref qh, .ref qb, .int bmy, .ref qa, .ref q6, .long hsh])), (qw, .inl (K.2.1.1, 456, .inl (g_X8_minds_1 wf cU)))] := by
  refine vv_C.of (lv := [(0, .ref qm)]) (by decide +kernel) (Nat.le_of_ble_eq_true rfl) rfl ?_
  intro x hl hK F hR; subst hl; obtain rfl := hK
  refine vv_aload_n F dX8_minds_0 rfl rfl ?_
  refine vv_get 0 F fl_X8_7 dX8_minds_1 rfl rfl ?_
  refine vv_bipush (v := 81) F dX8_minds_4 (by decide) ?_
  refine vv_iald 1 F dX8_minds_6 rfl (vv_ixP (j := 81) (by decide) (by decide)) ?_
  refine vv_bipush (v := 8) F dX8_minds_7 (by decide) ?_
  refine vv_icmp_ne (tgt := 57) F dX8_minds_9 (by decide) (fun h_1 => ?_) (fun h_1 => ?_)
  · have h8 : ¬ cU = 8 := mt (c_eq hcU (by decide : (8 : Int32).toInt = ((8 : Nat) : Int))).mpr h_1
    refine vv_iconst (v := 0) F dX8_minds_57 (by decide) ?_
    refine vv_istore_n (lv' := [(1, .int 0), (0, .ref qm)]) F dX8_minds_58 rfl (by decide) rfl ?_
    refine vv_iload_n F dX8_minds_59 rfl rfl ?_
    refine vv_iconst (v := 4) F dX8_minds_60 (by decide) ?_
    refine vv_icmp_ge (tgt := 98) F dX8_minds_61 (by decide) (fun h_2 => absurd h_2 (by decide)) (fun h_2 => ?_)
    refine vv_aload_n F dX8_minds_64 rfl rfl ?_
    refine vv_get 0 F fl_X8_7 dX8_minds_65 rfl rfl ?_
    refine vv_bipush (v := 82) F dX8_minds_68 (by decide) ?_
    refine vv_iconst (v := 4) F dX8_minds_70 (by decide) ?_
    refine vv_aload_n F dX8_minds_71 rfl rfl ?_
    refine vv_get 0 F fl_X8_7 dX8_minds_72 rfl rfl ?_
    refine vv_bipush (v := 81) F dX8_minds_75 (by decide) ?_
    refine vv_iald 1 F dX8_minds_77 rfl (vv_ixP (j := 81) (by decide) (by decide)) ?_
    refine vv_imul F dX8_minds_78 ?_
    refine vv_iadd F dX8_minds_79 ?_
    refine vv_iload_n F dX8_minds_80 rfl rfl ?_
    refine vv_iadd F dX8_minds_81 ?_
    refine vv_aload_n F dX8_minds_82 rfl rfl ?_
    refine vv_get 0 F fl_X8_7 dX8_minds_83 rfl rfl ?_
    refine vv_bipush (v := 14) F dX8_minds_86 (by decide) ?_
    refine vv_iload_n F dX8_minds_88 rfl rfl ?_
    refine vv_iadd F dX8_minds_89 ?_
    refine vv_iald 1 F dX8_minds_90 rfl (vv_ixP (j := 14) (by have hz := (nn_add (by decide : (14 : Int32).toInt = ((14 : Nat) : Int)) (by decide : (0 : Int32).toInt = ((0 : Nat) : Int)) (by omega)); omega) (by omega)) ?_
    refine vv_iast 1 (ws' := [(qm, .inr (7, [.ref qw, .ref qk, .ref qt, .int txd, .long abv, .long blw, .ref qs, .int atp, .int stp, .int nbr, .ref qi, .ref qp, .ref qh, .ref qb, .int bmy, .ref qa, .ref q6, .long hsh])), (qw, .inl ((vv_k x).2.1.1, 456, .inl (upd wf (82 + 4 * cU) (wf 14))))]) F dX8_minds_91 rfl (vv_ixP (j := (82 + 4 * cU)) (by have hz := (nn_add (nn_add (by decide : (82 : Int32).toInt = ((82 : Nat) : Int)) (nn_mul (by decide : (4 : Int32).toInt = ((4 : Nat) : Int)) hcU (by omega)) (by omega)) (by decide : (0 : Int32).toInt = ((0 : Nat) : Int)) (by omega)); omega) (by omega)) rfl ?_
    refine vv_iinc (v := 1) (lv' := [(1, .int 1), (0, .ref qm)]) 0 F dX8_minds_92 rfl (by decide) (by decide) rfl ?_
    refine vv_goto (tgt := 59) F dX8_minds_95 (by decide) ?_
    refine vv_iload_n F dX8_minds_59 rfl rfl ?_
    refine vv_iconst (v := 4) F dX8_minds_60 (by decide) ?_
    refine vv_icmp_ge (tgt := 98) F dX8_minds_61 (by decide) (fun h_3 => absurd h_3 (by decide)) (fun h_3 => ?_)
    refine vv_aload_n F dX8_minds_64 rfl rfl ?_
    refine vv_get 0 F fl_X8_7 dX8_minds_65 rfl rfl ?_
    refine vv_bipush (v := 82) F dX8_minds_68 (by decide) ?_
    refine vv_iconst (v := 4) F dX8_minds_70 (by decide) ?_
    refine vv_aload_n F dX8_minds_71 rfl rfl ?_
    refine vv_get 0 F fl_X8_7 dX8_minds_72 rfl rfl ?_
    refine vv_bipush (v := 81) F dX8_minds_75 (by decide) ?_
    refine vv_iald 1 F dX8_minds_77 rfl (vv_ixP (j := 81) (by decide) (by decide)) ?_
    refine vv_topi (wf 81) (pk_un (by omega)) ?_
    refine vv_imul F dX8_minds_78 ?_
    refine vv_iadd F dX8_minds_79 ?_
    refine vv_iload_n F dX8_minds_80 rfl rfl ?_
    refine vv_iadd F dX8_minds_81 ?_
    refine vv_aload_n F dX8_minds_82 rfl rfl ?_
    refine vv_get 0 F fl_X8_7 dX8_minds_83 rfl rfl ?_
    refine vv_bipush (v := 14) F dX8_minds_86 (by decide) ?_
    refine vv_iload_n F dX8_minds_88 rfl rfl ?_
    refine vv_iadd F dX8_minds_89 ?_
    refine vv_iald 1 F dX8_minds_90 rfl (vv_ixP (j := 15) (by have hz := (nn_add (by decide : (14 : Int32).toInt = ((14 : Nat) : Int)) (by decide : (1 : Int32).toInt = ((1 : Nat) : Int)) (by omega)); omega) (by omega)) ?_
    refine vv_topi (wf 15) (pk_un (by omega)) ?_
    refine vv_iast 1 (ws' := [(qm, .inr (7, [.ref qw, .ref qk, .ref qt, .int txd, .long abv, .long blw, .ref qs, .int atp, .int stp, .int nbr, .ref qi, .ref qp, .ref qh, .ref qb, .int bmy, .ref qa, .ref q6, .long hsh])), (qw, .inl ((vv_k x).2.1.1, 456, .inl (upd (upd wf (82 + 4 * cU) (wf 14)) (83 + 4 * cU) (wf 15))))]) F dX8_minds_91 rfl (vv_ixP (j := (83 + 4 * cU)) (by have hz := (nn_add (nn_add (by decide : (82 : Int32).toInt = ((82 : Nat) : Int)) (nn_mul (by decide : (4 : Int32).toInt = ((4 : Nat) : Int)) hcU (by omega)) (by omega)) (by decide : (1 : Int32).toInt = ((1 : Nat) : Int)) (by omega)); omega) (by omega)) rfl ?_
    refine vv_iinc (v := 2) (lv' := [(1, .int 2), (0, .ref qm)]) 0 F dX8_minds_92 rfl (by decide) (by decide) rfl ?_
    refine vv_goto (tgt := 59) F dX8_minds_95 (by decide) ?_
    refine vv_iload_n F dX8_minds_59 rfl rfl ?_
    refine vv_iconst (v := 4) F dX8_minds_60 (by decide) ?_
    refine vv_icmp_ge (tgt := 98) F dX8_minds_61 (by decide) (fun h_4 => absurd h_4 (by decide)) (fun h_4 => ?_)
    refine vv_aload_n F dX8_minds_64 rfl rfl ?_
    refine vv_get 0 F fl_X8_7 dX8_minds_65 rfl rfl ?_
    refine vv_bipush (v := 82) F dX8_minds_68 (by decide) ?_
    refine vv_iconst (v := 4) F dX8_minds_70 (by decide) ?_
    refine vv_aload_n F dX8_minds_71 rfl rfl ?_
    refine vv_get 0 F fl_X8_7 dX8_minds_72 rfl rfl ?_
    refine vv_bipush (v := 81) F dX8_minds_75 (by decide) ?_
    refine vv_iald 1 F dX8_minds_77 rfl (vv_ixP (j := 81) (by decide) (by decide)) ?_
    refine vv_topi (wf 81) ((pk_un (by omega)).trans (pk_un (by omega))) ?_
    refine vv_imul F dX8_minds_78 ?_
    refine vv_iadd F dX8_minds_79 ?_
    refine vv_iload_n F dX8_minds_80 rfl rfl ?_
    refine vv_iadd F dX8_minds_81 ?_
    refine vv_aload_n F dX8_minds_82 rfl rfl ?_
    refine vv_get 0 F fl_X8_7 dX8_minds_83 rfl rfl ?_
    refine vv_bipush (v := 14) F dX8_minds_86 (by decide) ?_
    refine vv_iload_n F dX8_minds_88 rfl rfl ?_
    refine vv_iadd F dX8_minds_89 ?_
    refine vv_iald 1 F dX8_minds_90 rfl (vv_ixP (j := 16) (by have hz := (nn_add (by decide : (14 : Int32).toInt = ((14 : Nat) : Int)) (by decide : (2 : Int32).toInt = ((2 : Nat) : Int)) (by omega)); omega) (by omega)) ?_
    refine vv_topi (wf 16) ((pk_un (by omega)).trans (pk_un (by omega))) ?_
    refine vv_iast 1 (ws' := [(qm, .inr (7, [.ref qw, .ref qk, .ref qt, .int txd, .long abv, .long blw, .ref qs, .int atp, .int stp, .int nbr, .ref qi, .ref qp, .ref qh, .ref qb, .int bmy, .ref qa, .ref q6, .long hsh])), (qw, .inl ((vv_k x).2.1.1, 456, .inl (upd (upd (upd wf (82 + 4 * cU) (wf 14)) (83 + 4 * cU) (wf 15)) (84 + 4 * cU) (wf 16))))]) F dX8_minds_91 rfl (vv_ixP (j := (84 + 4 * cU)) (by have hz := (nn_add (nn_add (by decide : (82 : Int32).toInt = ((82 : Nat) : Int)) (nn_mul (by decide : (4 : Int32).toInt = ((4 : Nat) : Int)) hcU (by omega)) (by omega)) (by decide : (2 : Int32).toInt = ((2 : Nat) : Int)) (by omega)); omega) (by omega)) rfl ?_
    refine vv_iinc (v := 3) (lv' := [(1, .int 3), (0, .ref qm)]) 0 F dX8_minds_92 rfl (by decide) (by decide) rfl ?_
    refine vv_goto (tgt := 59) F dX8_minds_95 (by decide) ?_
    refine vv_iload_n F dX8_minds_59 rfl rfl ?_
    refine vv_iconst (v := 4) F dX8_minds_60 (by decide) ?_
    refine vv_icmp_ge (tgt := 98) F dX8_minds_61 (by decide) (fun h_5 => absurd h_5 (by decide)) (fun h_5 => ?_)
    refine vv_aload_n F dX8_minds_64 rfl rfl ?_
    refine vv_get 0 F fl_X8_7 dX8_minds_65 rfl rfl ?_
    refine vv_bipush (v := 82) F dX8_minds_68 (by decide) ?_
    refine vv_iconst (v := 4) F dX8_minds_70 (by decide) ?_
    refine vv_aload_n F dX8_minds_71 rfl rfl ?_
    refine vv_get 0 F fl_X8_7 dX8_minds_72 rfl rfl ?_
    refine vv_bipush (v := 81) F dX8_minds_75 (by decide) ?_
    refine vv_iald 1 F dX8_minds_77 rfl (vv_ixP (j := 81) (by decide) (by decide)) ?_
    refine vv_topi (wf 81) ((pk_un (by omega)).trans ((pk_un (by omega)).trans (pk_un (by omega)))) ?_
    refine vv_imul F dX8_minds_78 ?_
    refine vv_iadd F dX8_minds_79 ?_
    refine vv_iload_n F dX8_minds_80 rfl rfl ?_
    refine vv_iadd F dX8_minds_81 ?_
    refine vv_aload_n F dX8_minds_82 rfl rfl ?_
    refine vv_get 0 F fl_X8_7 dX8_minds_83 rfl rfl ?_
    refine vv_bipush (v := 14) F dX8_minds_86 (by decide) ?_
    refine vv_iload_n F dX8_minds_88 rfl rfl ?_
    refine vv_iadd F dX8_minds_89 ?_
    refine vv_iald 1 F dX8_minds_90 rfl (vv_ixP (j := 17) (by have hz := (nn_add (by decide : (14 : Int32).toInt = ((14 : Nat) : Int)) (by decide : (3 : Int32).toInt = ((3 : Nat) : Int)) (by omega)); omega) (by omega)) ?_
    refine vv_topi (wf 17) ((pk_un (by omega)).trans ((pk_un (by omega)).trans (pk_un (by omega)))) ?_
    refine vv_iast 1 (ws' := [(qm, .inr (7, [.ref qw, .ref qk, .ref qt, .int txd, .long abv, .long blw, .ref qs, .int atp, .int stp, .int nbr, .ref qi, .ref qp, .ref qh, .ref qb, .int bmy, .ref qa, .ref q6, .long hsh])), (qw, .inl ((vv_k x).2.1.1, 456, .inl (upd (upd (upd (upd wf (82 + 4 * cU) (wf 14)) (83 + 4 * cU) (wf 15)) (84 + 4 * cU) (wf 16)) (85 + 4 * cU) (wf 17))))]) F dX8_minds_91 rfl (vv_ixP (j := (85 + 4 * cU)) (by have hz := (nn_add (nn_add (by decide : (82 : Int32).toInt = ((82 : Nat) : Int)) (nn_mul (by decide : (4 : Int32).toInt = ((4 : Nat) : Int)) hcU (by omega)) (by omega)) (by decide : (3 : Int32).toInt = ((3 : Nat) : Int)) (by omega)); omega) (by omega)) rfl ?_
    refine vv_iinc (v := 4) (lv' := [(1, .int 4), (0, .ref qm)]) 0 F dX8_minds_92 rfl (by decide) (by decide) rfl ?_
    refine vv_goto (tgt := 59) F dX8_minds_95 (by decide) ?_
    refine vv_iload_n F dX8_minds_59 rfl rfl ?_
    refine vv_iconst (v := 4) F dX8_minds_60 (by decide) ?_
    refine vv_icmp_ge (tgt := 98) F dX8_minds_61 (by decide) (fun h_6 => ?_) (fun h_6 => absurd h_6 (by decide))
    refine vv_aload_n F dX8_minds_98 rfl rfl ?_
    refine vv_get 0 F fl_X8_7 dX8_minds_99 rfl rfl ?_
    refine vv_bipush (v := 81) F dX8_minds_102 (by decide) ?_
    refine vv_dup2_11 F dX8_minds_104 rfl rfl ?_
    refine vv_iald 1 F dX8_minds_105 rfl (vv_ixP (j := 81) (by decide) (by decide)) ?_
    refine vv_topi (wf 81) ((pk_un (by omega)).trans ((pk_un (by omega)).trans ((pk_un (by omega)).trans (pk_un (by omega))))) ?_
    refine vv_iconst (v := 1) F dX8_minds_106 (by decide) ?_
    refine vv_iadd F dX8_minds_107 ?_
    refine vv_iast 1 (ws' := [(qm, .inr (7, [.ref qw, .ref qk, .ref qt, .int txd, .long abv, .long blw, .ref qs, .int atp, .int stp, .int nbr, .ref qi, .ref qp, .ref qh, .ref qb, .int bmy, .ref qa, .ref q6, .long hsh])), (qw, .inl ((vv_k x).2.1.1, 456, .inl (upd (upd (upd (upd (upd wf (82 + 4 * cU) (wf 14)) (83 + 4 * cU) (wf 15)) (84 + 4 * cU) (wf 16)) (85 + 4 * cU) (wf 17)) 81 ((wf 81) + 1))))]) F dX8_minds_108 rfl (vv_ixP (j := 81) (by decide) (by decide)) rfl ?_
    exact vv_vret F hR dX8_minds_109 rfl (by simp only [g_X8_minds_1, if_neg h_1])
  · refine vv_iconst (v := 0) F dX8_minds_12 (by decide) ?_
    refine vv_istore_n (lv' := [(1, .int 0), (0, .ref qm)]) F dX8_minds_13 rfl (by decide) rfl ?_
    refine vv_lv (lv' := [(1, .int 0), (0, .ref qm)]) [0, 1] rfl ?_
    refine vv_ws (by rw [← cpy_0 wf 86 82]) ?_
    refine L_X8_minds F qm qw qk qt txd abv blw qs atp stp nbr qi qp qh qb bmy qa q6 hsh wf 28 0 (by omega) ?_
    have h8 : cU = 8 := (c_eq hcU (by decide : (8 : Int32).toInt = ((8 : Nat) : Int))).mp h_1
    refine vv_aload_n F dX8_minds_46 rfl rfl ?_
    refine vv_get 0 F fl_X8_7 dX8_minds_47 rfl rfl ?_
    refine vv_bipush (v := 81) F dX8_minds_50 (by decide) ?_
    refine vv_dup2_11 F dX8_minds_52 rfl rfl ?_
    refine vv_iald 1 F dX8_minds_53 rfl (vv_ixP (j := 81) (by decide) (by decide)) ?_
    refine vv_topi (wf 81) (cpy_out (by omega)) ?_
    refine vv_iconst (v := 1) F dX8_minds_54 (by decide) ?_
    refine vv_isub F dX8_minds_55 ?_
    refine vv_iast 1 (ws' := [(qm, .inr (7, [.ref qw, .ref qk, .ref qt, .int txd, .long abv, .long blw, .ref qs, .int atp, .int stp, .int nbr, .ref qi, .ref qp, .ref qh, .ref qb, .int bmy, .ref qa, .ref q6, .long hsh])), (qw, .inl ((vv_k x).2.1.1, 456, .inl (upd (va_cpy wf wf 86 82 28) 81 ((wf 81) - 1))))]) F dX8_minds_56 rfl (vv_ixP (j := 81) (by decide) (by decide)) rfl ?_
    refine vv_iconst (v := 0) F dX8_minds_57 (by decide) ?_
    refine vv_istore_n (lv' := [(1, .int 0), (0, .ref qm)]) F dX8_minds_58 rfl (by decide) rfl ?_
    refine vv_iload_n F dX8_minds_59 rfl rfl ?_
    refine vv_iconst (v := 4) F dX8_minds_60 (by decide) ?_
    refine vv_icmp_ge (tgt := 98) F dX8_minds_61 (by decide) (fun h_7 => absurd h_7 (by decide)) (fun h_7 => ?_)
    refine vv_aload_n F dX8_minds_64 rfl rfl ?_
    refine vv_get 0 F fl_X8_7 dX8_minds_65 rfl rfl ?_
    refine vv_bipush (v := 82) F dX8_minds_68 (by decide) ?_
    refine vv_iconst (v := 4) F dX8_minds_70 (by decide) ?_
    refine vv_aload_n F dX8_minds_71 rfl rfl ?_
    refine vv_get 0 F fl_X8_7 dX8_minds_72 rfl rfl ?_
    refine vv_bipush (v := 81) F dX8_minds_75 (by decide) ?_
    refine vv_iald 1 F dX8_minds_77 rfl (vv_ixP (j := 81) (by decide) (by decide)) ?_
    refine vv_topi ((wf 81) - 1) (pk_us) ?_
    refine vv_imul F dX8_minds_78 ?_
    refine vv_iadd F dX8_minds_79 ?_
    refine vv_iload_n F dX8_minds_80 rfl rfl ?_
    refine vv_iadd F dX8_minds_81 ?_
    refine vv_aload_n F dX8_minds_82 rfl rfl ?_
    refine vv_get 0 F fl_X8_7 dX8_minds_83 rfl rfl ?_
    refine vv_bipush (v := 14) F dX8_minds_86 (by decide) ?_
    refine vv_iload_n F dX8_minds_88 rfl rfl ?_
    refine vv_iadd F dX8_minds_89 ?_
    refine vv_iald 1 F dX8_minds_90 rfl (vv_ixP (j := 14) (by have hz := (nn_add (by decide : (14 : Int32).toInt = ((14 : Nat) : Int)) (by decide : (0 : Int32).toInt = ((0 : Nat) : Int)) (by omega)); omega) (by omega)) ?_
    refine vv_topi ((va_cpy wf wf 86 82 28) 14) (pk_un (by decide)) ?_
    refine vv_iast 1 (ws' := [(qm, .inr (7, [.ref qw, .ref qk, .ref qt, .int txd, .long abv, .long blw, .ref qs, .int atp, .int stp, .int nbr, .ref qi, .ref qp, .ref qh, .ref qb, .int bmy, .ref qa, .ref q6, .long hsh])), (qw, .inl ((vv_k x).2.1.1, 456, .inl (upd (upd (va_cpy wf wf 86 82 28) 81 ((wf 81) - 1)) (78 + 4 * cU) ((va_cpy wf wf 86 82 28) 14))))]) F dX8_minds_91 rfl (vv_ixP (j := (78 + 4 * cU)) (by have hz := (nn_add (nn_add (by decide : (82 : Int32).toInt = ((82 : Nat) : Int)) (nn_mul (by decide : (4 : Int32).toInt = ((4 : Nat) : Int)) (nn_sub hcU (by decide : (1 : Int32).toInt = ((1 : Nat) : Int)) (by omega)) (by omega)) (by omega)) (by decide : (0 : Int32).toInt = ((0 : Nat) : Int)) (by omega)); omega) (by omega)) rfl ?_
    refine vv_iinc (v := 1) (lv' := [(1, .int 1), (0, .ref qm)]) 0 F dX8_minds_92 rfl (by decide) (by decide) rfl ?_
    refine vv_goto (tgt := 59) F dX8_minds_95 (by decide) ?_
    refine vv_iload_n F dX8_minds_59 rfl rfl ?_
    refine vv_iconst (v := 4) F dX8_minds_60 (by decide) ?_
    refine vv_icmp_ge (tgt := 98) F dX8_minds_61 (by decide) (fun h_8 => absurd h_8 (by decide)) (fun h_8 => ?_)
    refine vv_aload_n F dX8_minds_64 rfl rfl ?_
    refine vv_get 0 F fl_X8_7 dX8_minds_65 rfl rfl ?_
    refine vv_bipush (v := 82) F dX8_minds_68 (by decide) ?_
    refine vv_iconst (v := 4) F dX8_minds_70 (by decide) ?_
    refine vv_aload_n F dX8_minds_71 rfl rfl ?_
    refine vv_get 0 F fl_X8_7 dX8_minds_72 rfl rfl ?_
    refine vv_bipush (v := 81) F dX8_minds_75 (by decide) ?_
    refine vv_iald 1 F dX8_minds_77 rfl (vv_ixP (j := 81) (by decide) (by decide)) ?_
    refine vv_topi ((wf 81) - 1) ((pk_un (by omega)).trans (pk_us)) ?_
    refine vv_imul F dX8_minds_78 ?_
    refine vv_iadd F dX8_minds_79 ?_
    refine vv_iload_n F dX8_minds_80 rfl rfl ?_
    refine vv_iadd F dX8_minds_81 ?_
    refine vv_aload_n F dX8_minds_82 rfl rfl ?_
    refine vv_get 0 F fl_X8_7 dX8_minds_83 rfl rfl ?_
    refine vv_bipush (v := 14) F dX8_minds_86 (by decide) ?_
    refine vv_iload_n F dX8_minds_88 rfl rfl ?_
    refine vv_iadd F dX8_minds_89 ?_
    refine vv_iald 1 F dX8_minds_90 rfl (vv_ixP (j := 15) (by have hz := (nn_add (by decide : (14 : Int32).toInt = ((14 : Nat) : Int)) (by decide : (1 : Int32).toInt = ((1 : Nat) : Int)) (by omega)); omega) (by omega)) ?_
    refine vv_topi ((va_cpy wf wf 86 82 28) 15) ((pk_un (by omega)).trans (pk_un (by decide))) ?_
    refine vv_iast 1 (ws' := [(qm, .inr (7, [.ref qw, .ref qk, .ref qt, .int txd, .long abv, .long blw, .ref qs, .int atp, .int stp, .int nbr, .ref qi, .ref qp, .ref qh, .ref qb, .int bmy, .ref qa, .ref q6, .long hsh])), (qw, .inl ((vv_k x).2.1.1, 456, .inl (upd (upd (upd (va_cpy wf wf 86 82 28) 81 ((wf 81) - 1)) (78 + 4 * cU) ((va_cpy wf wf 86 82 28) 14)) (79 + 4 * cU) ((va_cpy wf wf 86 82 28) 15))))]) F dX8_minds_91 rfl (vv_ixP (j := (79 + 4 * cU)) (by have hz := (nn_add (nn_add (by decide : (82 : Int32).toInt = ((82 : Nat) : Int)) (nn_mul (by decide : (4 : Int32).toInt = ((4 : Nat) : Int)) (nn_sub hcU (by decide : (1 : Int32).toInt = ((1 : Nat) : Int)) (by omega)) (by omega)) (by omega)) (by decide : (1 : Int32).toInt = ((1 : Nat) : Int)) (by omega)); omega) (by omega)) rfl ?_
    refine vv_iinc (v := 2) (lv' := [(1, .int 2), (0, .ref qm)]) 0 F dX8_minds_92 rfl (by decide) (by decide) rfl ?_
    refine vv_goto (tgt := 59) F dX8_minds_95 (by decide) ?_
    refine vv_iload_n F dX8_minds_59 rfl rfl ?_
    refine vv_iconst (v := 4) F dX8_minds_60 (by decide) ?_
    refine vv_icmp_ge (tgt := 98) F dX8_minds_61 (by decide) (fun h_9 => absurd h_9 (by decide)) (fun h_9 => ?_)
    refine vv_aload_n F dX8_minds_64 rfl rfl ?_
    refine vv_get 0 F fl_X8_7 dX8_minds_65 rfl rfl ?_
    refine vv_bipush (v := 82) F dX8_minds_68 (by decide) ?_
    refine vv_iconst (v := 4) F dX8_minds_70 (by decide) ?_
    refine vv_aload_n F dX8_minds_71 rfl rfl ?_
    refine vv_get 0 F fl_X8_7 dX8_minds_72 rfl rfl ?_
    refine vv_bipush (v := 81) F dX8_minds_75 (by decide) ?_
    refine vv_iald 1 F dX8_minds_77 rfl (vv_ixP (j := 81) (by decide) (by decide)) ?_
    refine vv_topi ((wf 81) - 1) ((pk_un (by omega)).trans ((pk_un (by omega)).trans (pk_us))) ?_
    refine vv_imul F dX8_minds_78 ?_
    refine vv_iadd F dX8_minds_79 ?_
    refine vv_iload_n F dX8_minds_80 rfl rfl ?_
    refine vv_iadd F dX8_minds_81 ?_
    refine vv_aload_n F dX8_minds_82 rfl rfl ?_
    refine vv_get 0 F fl_X8_7 dX8_minds_83 rfl rfl ?_
    refine vv_bipush (v := 14) F dX8_minds_86 (by decide) ?_
    refine vv_iload_n F dX8_minds_88 rfl rfl ?_
    refine vv_iadd F dX8_minds_89 ?_
    refine vv_iald 1 F dX8_minds_90 rfl (vv_ixP (j := 16) (by have hz := (nn_add (by decide : (14 : Int32).toInt = ((14 : Nat) : Int)) (by decide : (2 : Int32).toInt = ((2 : Nat) : Int)) (by omega)); omega) (by omega)) ?_
    refine vv_topi ((va_cpy wf wf 86 82 28) 16) ((pk_un (by omega)).trans ((pk_un (by omega)).trans (pk_un (by decide)))) ?_
    refine vv_iast 1 (ws' := [(qm, .inr (7, [.ref qw, .ref qk, .ref qt, .int txd, .long abv, .long blw, .ref qs, .int atp, .int stp, .int nbr, .ref qi, .ref qp, .ref qh, .ref qb, .int bmy, .ref qa, .ref q6, .long hsh])), (qw, .inl ((vv_k x).2.1.1, 456, .inl (upd (upd (upd (upd (va_cpy wf wf 86 82 28) 81 ((wf 81) - 1)) (78 + 4 * cU) ((va_cpy wf wf 86 82 28) 14)) (79 + 4 * cU) ((va_cpy wf wf 86 82 28) 15)) (80 + 4 * cU) ((va_cpy wf wf 86 82 28) 16))))]) F dX8_minds_91 rfl (vv_ixP (j := (80 + 4 * cU)) (by have hz := (nn_add (nn_add (by decide : (82 : Int32).toInt = ((82 : Nat) : Int)) (nn_mul (by decide : (4 : Int32).toInt = ((4 : Nat) : Int)) (nn_sub hcU (by decide : (1 : Int32).toInt = ((1 : Nat) : Int)) (by omega)) (by omega)) (by omega)) (by decide : (2 : Int32).toInt = ((2 : Nat) : Int)) (by omega)); omega) (by omega)) rfl ?_
    refine vv_iinc (v := 3) (lv' := [(1, .int 3), (0, .ref qm)]) 0 F dX8_minds_92 rfl (by decide) (by decide) rfl ?_
    refine vv_goto (tgt := 59) F dX8_minds_95 (by decide) ?_
    refine vv_iload_n F dX8_minds_59 rfl rfl ?_
    refine vv_iconst (v := 4) F dX8_minds_60 (by decide) ?_
    refine vv_icmp_ge (tgt := 98) F dX8_minds_61 (by decide) (fun h_10 => absurd h_10 (by decide)) (fun h_10 => ?_)
    refine vv_aload_n F dX8_minds_64 rfl rfl ?_
    refine vv_get 0 F fl_X8_7 dX8_minds_65 rfl rfl ?_
    refine vv_bipush (v := 82) F dX8_minds_68 (by decide) ?_
    refine vv_iconst (v := 4) F dX8_minds_70 (by decide) ?_
    refine vv_aload_n F dX8_minds_71 rfl rfl ?_
    refine vv_get 0 F fl_X8_7 dX8_minds_72 rfl rfl ?_
    refine vv_bipush (v := 81) F dX8_minds_75 (by decide) ?_
    refine vv_iald 1 F dX8_minds_77 rfl (vv_ixP (j := 81) (by decide) (by decide)) ?_
    refine vv_topi ((wf 81) - 1) ((pk_un (by omega)).trans ((pk_un (by omega)).trans ((pk_un (by omega)).trans (pk_us)))) ?_
    refine vv_imul F dX8_minds_78 ?_
    refine vv_iadd F dX8_minds_79 ?_
    refine vv_iload_n F dX8_minds_80 rfl rfl ?_
    refine vv_iadd F dX8_minds_81 ?_
    refine vv_aload_n F dX8_minds_82 rfl rfl ?_
    refine vv_get 0 F fl_X8_7 dX8_minds_83 rfl rfl ?_
    refine vv_bipush (v := 14) F dX8_minds_86 (by decide) ?_
    refine vv_iload_n F dX8_minds_88 rfl rfl ?_
    refine vv_iadd F dX8_minds_89 ?_
    refine vv_iald 1 F dX8_minds_90 rfl (vv_ixP (j := 17) (by have hz := (nn_add (by decide : (14 : Int32).toInt = ((14 : Nat) : Int)) (by decide : (3 : Int32).toInt = ((3 : Nat) : Int)) (by omega)); omega) (by omega)) ?_
    refine vv_topi ((va_cpy wf wf 86 82 28) 17) ((pk_un (by omega)).trans ((pk_un (by omega)).trans ((pk_un (by omega)).trans (pk_un (by decide))))) ?_
    refine vv_iast 1 (ws' := [(qm, .inr (7, [.ref qw, .ref qk, .ref qt, .int txd, .long abv, .long blw, .ref qs, .int atp, .int stp, .int nbr, .ref qi, .ref qp, .ref qh, .ref qb, .int bmy, .ref qa, .ref q6, .long hsh])), (qw, .inl ((vv_k x).2.1.1, 456, .inl (upd (upd (upd (upd (upd (va_cpy wf wf 86 82 28) 81 ((wf 81) - 1)) (78 + 4 * cU) ((va_cpy wf wf 86 82 28) 14)) (79 + 4 * cU) ((va_cpy wf wf 86 82 28) 15)) (80 + 4 * cU) ((va_cpy wf wf 86 82 28) 16)) (81 + 4 * cU) ((va_cpy wf wf 86 82 28) 17))))]) F dX8_minds_91 rfl (vv_ixP (j := (81 + 4 * cU)) (by have hz := (nn_add (nn_add (by decide : (82 : Int32).toInt = ((82 : Nat) : Int)) (nn_mul (by decide : (4 : Int32).toInt = ((4 : Nat) : Int)) (nn_sub hcU (by decide : (1 : Int32).toInt = ((1 : Nat) : Int)) (by omega)) (by omega)) (by omega)) (by decide : (3 : Int32).toInt = ((3 : Nat) : Int)) (by omega)); omega) (by omega)) rfl ?_
    refine vv_iinc (v := 4) (lv' := [(1, .int 4), (0, .ref qm)]) 0 F dX8_minds_92 rfl (by decide) (by decide) rfl ?_
    refine vv_goto (tgt := 59) F dX8_minds_95 (by decide) ?_
    refine vv_iload_n F dX8_minds_59 rfl rfl ?_
    refine vv_iconst (v := 4) F dX8_minds_60 (by decide) ?_
    refine vv_icmp_ge (tgt := 98) F dX8_minds_61 (by decide) (fun h_11 => ?_) (fun h_11 => absurd h_11 (by decide))
    refine vv_aload_n F dX8_minds_98 rfl rfl ?_
    refine vv_get 0 F fl_X8_7 dX8_minds_99 rfl rfl ?_
    refine vv_bipush (v := 81) F dX8_minds_102 (by decide) ?_
    refine vv_dup2_11 F dX8_minds_104 rfl rfl ?_
    refine vv_iald 1 F dX8_minds_105 rfl (vv_ixP (j := 81) (by decide) (by decide)) ?_
    refine vv_topi ((wf 81) - 1) ((pk_un (by omega)).trans ((pk_un (by omega)).trans ((pk_un (by omega)).trans ((pk_un (by omega)).trans (pk_us))))) ?_
    refine vv_iconst (v := 1) F dX8_minds_106 (by decide) ?_
    refine vv_iadd F dX8_minds_107 ?_
    refine vv_iast 1 (ws' := [(qm, .inr (7, [.ref qw, .ref qk, .ref qt, .int txd, .long abv, .long blw, .ref qs, .int atp, .int stp, .int nbr, .ref qi, .ref qp, .ref qh, .ref qb, .int bmy, .ref qa, .ref q6, .long hsh])), (qw, .inl ((vv_k x).2.1.1, 456, .inl (upd (upd (upd (upd (upd (upd (va_cpy wf wf 86 82 28) 81 ((wf 81) - 1)) (78 + 4 * cU) ((va_cpy wf wf 86 82 28) 14)) (79 + 4 * cU) ((va_cpy wf wf 86 82 28) 15)) (80 + 4 * cU) ((va_cpy wf wf 86 82 28) 16)) (81 + 4 * cU) ((va_cpy wf wf 86 82 28) 17)) 81 (((wf 81) - 1) + 1))))]) F dX8_minds_108 rfl (vv_ixP (j := 81) (by decide) (by decide)) rfl ?_
    exact vv_vret F hR dX8_minds_109 rfl (by simp only [g_X8_minds_1, if_pos h_1])
noncomputable def f_X8_sends (wf : Nat → Int32) (i : Int32) (cU : Nat) : Int32 := (if p_X8_in i.toInt64 0 (((wf 0) - 1).toInt64) then (if p_X8_canSend wf 0 i.toNatClampNeg then (f_X8_bringsIn (g_X8_isSent_1 (g_X8_minds_1 wf cU) 0 i.toNatClampNeg) 0 i.toNatClampNeg) else (-3)) else (-2))
noncomputable def g_X8_sends_1 (wf : Nat → Int32) (i : Int32) (cU : Nat) : Nat → Int32 := (if p_X8_in i.toInt64 0 (((wf 0) - 1).toInt64) then (if p_X8_canSend wf 0 i.toNatClampNeg then (g_X8_isSent_1 (g_X8_minds_1 wf cU) 0 i.toNatClampNeg) else wf) else wf)
noncomputable def g_X8_sends_2 (wf ss : Nat → Int32) (i : Int32) : Nat → Int32 := (if p_X8_in i.toInt64 0 (((wf 0) - 1).toInt64) then (if p_X8_canSend wf 0 i.toNatClampNeg then ss else (upd ss 1 ((ss 1) + 1))) else (upd ss 0 ((ss 0) + 1)))
theorem c_X8_sends (l : Launch) (K : vv_K) (qm qw qk qt : Nat) (txd : Int32) (abv blw : Int64) (qs : Nat) (atp stp nbr : Int32) (qi qp qh qb : Nat) (bmy : Int32) (qa q6 : Nat) (hsh : Int64) (wf ss : Nat → Int32) (i : Int32) (cN cU : Nat) (hcN : ((wf 0)).toInt = (cN : Int)) (hcU : ((wf 81)).toInt = (cU : Int)) (hcN5 : cN ≤ 5) (hcU8 : cU ≤ 8)  : vv_C l K 6 yX8_sends cX8_sends 2 (some .int) [.ref qm, .int i] [(qm, .inr (7, [.ref qw, .ref qk, .ref qt, .int txd, .long abv, .long blw, .ref qs, .int atp, .int stp, .int nbr, .ref qi, .ref qp, .ref qh, .ref qb, .int bmy, .ref qa, .ref q6, .long hsh])), (qw, .inl (K.2.1.1, 456, .inl wf)), (qs, .inl (K.2.1.1, 3, .inl ss))] (some (.int (f_X8_sends wf i cU))) [(qm, .inr (7, [.ref qw, .ref qk, .ref qt, .int txd, .long abv, .long blw, .ref qs, .int atp, .int stp, .int nbr, .ref qi, .ref qp, .ref qh, .ref qb, .int bmy, .ref qa, .ref q6, .long hsh])), (qw, .inl (K.2.1.1, 456, .inl (g_X8_sends_1 wf i cU))), (qs, .inl (K.2.1.1, 3, .inl (g_X8_sends_2 wf ss i)))] := by
  refine vv_C.of (lv := [(0, .ref qm), (1, .int i)]) (by decide +kernel) (Nat.le_of_ble_eq_true rfl) rfl ?_
  intro x hl hK F hR; subst hl; obtain rfl := hK
  refine vv_aload_n F dX8_sends_0 rfl rfl ?_
  refine vv_iload_n F dX8_sends_1 rfl rfl ?_
  refine vv_callVp (As := [.int i]) (rest := []) [0, 1] 0 F (c_X8_isString (vv_l x) (vv_k x) qm qw qk qt txd abv blw qs atp stp nbr qi qp qh qb bmy qa q6 hsh wf i) mv_X8_197 dX8_sends_2 (by decide) rfl rfl (Nat.le_of_ble_eq_true rfl) rfl (by decide) rfl ?_
  refine vv_ifz_ne (tgt := 15) F dX8_sends_5 (by decide) (fun h_1 => ?_) (fun h_1 => ?_)
  · have h_1r := in_rngS hcN h_1
    have h_1c := nn_cl (a := i) (by omega)
    refine vv_aload_n F dX8_sends_15 rfl rfl ?_
    refine vv_iconst (v := 0) F dX8_sends_16 (by decide) ?_
    refine vv_iload_n F dX8_sends_17 rfl rfl ?_
    refine vv_callVp (As := [.int 0, .int i]) (rest := []) [0, 1] 0 F (c_X8_canSend (vv_l x) (vv_k x) qm qw qk qt txd abv blw qs atp stp nbr qi qp qh qb bmy qa q6 hsh wf 0 i 0 i.toNatClampNeg (by decide : (0 : Int32).toInt = ((0 : Nat) : Int)) h_1c (by omega) (by omega)) mv_X8_137 dX8_sends_18 (by decide) rfl rfl (Nat.le_of_ble_eq_true rfl) rfl (by decide) rfl ?_
    refine vv_ifz_ne (tgt := 29) F dX8_sends_21 (by decide) (fun h_2 => ?_) (fun h_2 => ?_)
    · refine vv_aload_n F dX8_sends_29 rfl rfl ?_
      refine vv_callV (As := []) (rest := []) [0, 1] 0 (ws' := [(qm, .inr (7, [.ref qw, .ref qk, .ref qt, .int txd, .long abv, .long blw, .ref qs, .int atp, .int stp, .int nbr, .ref qi, .ref qp, .ref qh, .ref qb, .int bmy, .ref qa, .ref q6, .long hsh])), (qw, .inl ((vv_k x).2.1.1, 456, .inl (g_X8_minds_1 wf cU))), (qs, .inl ((vv_k x).2.1.1, 3, .inl ss))]) F (c_X8_minds (vv_l x) (vv_k x) qm qw qk qt txd abv blw qs atp stp nbr qi qp qh qb bmy qa q6 hsh wf cU hcU (by omega)) mv_X8_203 dX8_sends_30 (by decide) rfl rfl (Nat.le_of_ble_eq_true rfl) rfl (by decide) (Eq.trans (b := [qm, qw]) rfl rfl) rfl rfl ?_
      refine vv_aload_n F dX8_sends_33 rfl rfl ?_
      refine vv_iconst (v := 0) F dX8_sends_34 (by decide) ?_
      refine vv_iload_n F dX8_sends_35 rfl rfl ?_
      refine vv_callV (As := [.int 0, .int i]) (rest := []) [0, 1] 0 (ws' := [(qm, .inr (7, [.ref qw, .ref qk, .ref qt, .int txd, .long abv, .long blw, .ref qs, .int atp, .int stp, .int nbr, .ref qi, .ref qp, .ref qh, .ref qb, .int bmy, .ref qa, .ref q6, .long hsh])), (qw, .inl ((vv_k x).2.1.1, 456, .inl (g_X8_isSent_1 (g_X8_minds_1 wf cU) 0 i.toNatClampNeg))), (qs, .inl ((vv_k x).2.1.1, 3, .inl ss))]) F (c_X8_isSent (vv_l x) (vv_k x) qm qw qk qt txd abv blw qs atp stp nbr qi qp qh qb bmy qa q6 hsh (g_X8_minds_1 wf cU) 0 i 0 i.toNatClampNeg (by decide : (0 : Int32).toInt = ((0 : Nat) : Int)) h_1c (by omega) (by omega)) mv_X8_140 dX8_sends_36 (by decide) rfl rfl (Nat.le_of_ble_eq_true rfl) rfl (by decide) (Eq.trans (b := [qm, qw]) rfl rfl) rfl rfl ?_
      refine vv_aload_n F dX8_sends_39 rfl rfl ?_
      refine vv_iconst (v := 0) F dX8_sends_40 (by decide) ?_
      refine vv_iload_n F dX8_sends_41 rfl rfl ?_
      refine vv_callVp (As := [.int 0, .int i]) (rest := []) [0, 1] 0 F (c_X8_bringsIn (vv_l x) (vv_k x) qm qw qk qt txd abv blw qs atp stp nbr qi qp qh qb bmy qa q6 hsh (g_X8_isSent_1 (g_X8_minds_1 wf cU) 0 i.toNatClampNeg) 0 i 0 i.toNatClampNeg (by decide : (0 : Int32).toInt = ((0 : Nat) : Int)) h_1c (by omega) (by omega)) mv_X8_194 dX8_sends_42 (by decide) rfl rfl (Nat.le_of_ble_eq_true rfl) rfl (by decide) rfl ?_
      exact vv_iret F hR dX8_sends_45 (congrArg (fun z => some (Value.int z)) ((if_pos h_1).trans ((if_pos h_2).trans rfl))) (by simp only [g_X8_sends_1, g_X8_sends_2, if_pos h_1, if_pos h_2])
    · refine vv_aload_n F dX8_sends_24 rfl rfl ?_
      refine vv_callV (As := []) (rest := []) [0, 2] 0 (ws' := [(qm, .inr (7, [.ref qw, .ref qk, .ref qt, .int txd, .long abv, .long blw, .ref qs, .int atp, .int stp, .int nbr, .ref qi, .ref qp, .ref qh, .ref qb, .int bmy, .ref qa, .ref q6, .long hsh])), (qw, .inl ((vv_k x).2.1.1, 456, .inl wf)), (qs, .inl ((vv_k x).2.1.1, 3, .inl (upd ss 1 ((ss 1) + 1))))]) F (c_X8_no (vv_l x) (vv_k x) qm qw qk qt txd abv blw qs atp stp nbr qi qp qh qb bmy qa q6 hsh ss) mv_X8_200 dX8_sends_25 (by decide) rfl rfl (Nat.le_of_ble_eq_true rfl) rfl (by decide) (Eq.trans (b := [qm, qs]) rfl rfl) rfl rfl ?_
      exact vv_iret F hR dX8_sends_28 (congrArg (fun z => some (Value.int z)) ((if_pos h_1).trans ((if_neg h_2).trans rfl))) (by simp only [g_X8_sends_1, g_X8_sends_2, if_pos h_1, if_neg h_2])
  · refine vv_aload_n F dX8_sends_8 rfl rfl ?_
    refine vv_bipush (v := (-2)) F dX8_sends_9 (by decide) ?_
    refine vv_callV (As := [.int (-2)]) (rest := []) [0, 2] 0 (ws' := [(qm, .inr (7, [.ref qw, .ref qk, .ref qt, .int txd, .long abv, .long blw, .ref qs, .int atp, .int stp, .int nbr, .ref qi, .ref qp, .ref qh, .ref qb, .int bmy, .ref qa, .ref q6, .long hsh])), (qw, .inl ((vv_k x).2.1.1, 456, .inl wf)), (qs, .inl ((vv_k x).2.1.1, 3, .inl (upd ss 0 ((ss 0) + 1))))]) F (c_X8_bad (vv_l x) (vv_k x) qm qw qk qt txd abv blw qs atp stp nbr qi qp qh qb bmy qa q6 hsh ss (-2)) mv_X8_78 dX8_sends_11 (by decide) rfl rfl (Nat.le_of_ble_eq_true rfl) rfl (by decide) (Eq.trans (b := [qm, qs]) rfl rfl) rfl rfl ?_
    exact vv_iret F hR dX8_sends_14 (congrArg (fun z => some (Value.int z)) ((if_neg h_1).trans rfl)) (by simp only [g_X8_sends_1, g_X8_sends_2, if_neg h_1])
noncomputable def f_X8_waits (wf : Nat → Int32) (k : Int32) (cU : Nat) : Int32 := (if p_X8_in k.toInt64 1 99 then (if (((g_X8_minds_1 wf cU) 17) + k) ≤ 9999 then (((g_X8_minds_1 wf cU) 17) + k) else 9999) else (-2))
noncomputable def g_X8_waits_1 (wf : Nat → Int32) (k : Int32) (cU : Nat) : Nat → Int32 := (if p_X8_in k.toInt64 1 99 then (if (((g_X8_minds_1 wf cU) 17) + k) ≤ 9999 then (upd (g_X8_minds_1 wf cU) 17 (((g_X8_minds_1 wf cU) 17) + k)) else (upd (g_X8_minds_1 wf cU) 17 9999)) else wf)
noncomputable def g_X8_waits_2 (wf ss : Nat → Int32) (k : Int32) (cU : Nat) : Nat → Int32 := (if p_X8_in k.toInt64 1 99 then (if (((g_X8_minds_1 wf cU) 17) + k) ≤ 9999 then ss else ss) else (upd ss 0 ((ss 0) + 1)))
theorem c_X8_waits (l : Launch) (K : vv_K) (qm qw qk qt : Nat) (txd : Int32) (abv blw : Int64) (qs : Nat) (atp stp nbr : Int32) (qi qp qh qb : Nat) (bmy : Int32) (qa q6 : Nat) (hsh : Int64) (wf ss : Nat → Int32) (k : Int32) (cU : Nat) (hcU : ((wf 81)).toInt = (cU : Int)) (hcU8 : cU ≤ 8)  : vv_C l K 6 yX8_waits cX8_waits 2 (some .int) [.ref qm, .int k] [(qm, .inr (7, [.ref qw, .ref qk, .ref qt, .int txd, .long abv, .long blw, .ref qs, .int atp, .int stp, .int nbr, .ref qi, .ref qp, .ref qh, .ref qb, .int bmy, .ref qa, .ref q6, .long hsh])), (qw, .inl (K.2.1.1, 456, .inl wf)), (qs, .inl (K.2.1.1, 3, .inl ss))] (some (.int (f_X8_waits wf k cU))) [(qm, .inr (7, [.ref qw, .ref qk, .ref qt, .int txd, .long abv, .long blw, .ref qs, .int atp, .int stp, .int nbr, .ref qi, .ref qp, .ref qh, .ref qb, .int bmy, .ref qa, .ref q6, .long hsh])), (qw, .inl (K.2.1.1, 456, .inl (g_X8_waits_1 wf k cU))), (qs, .inl (K.2.1.1, 3, .inl (g_X8_waits_2 wf ss k cU)))] := by
  refine vv_C.of (lv := [(0, .ref qm), (1, .int k)]) (by decide +kernel) (Nat.le_of_ble_eq_true rfl) rfl ?_
  intro x hl hK F hR; subst hl; obtain rfl := hK
  refine vv_iload_n F dX8_waits_0 rfl rfl ?_
  refine vv_i2l F dX8_waits_1 ?_
  refine vv_lconst (v := 1) F dX8_waits_2 (by decide) ?_
  refine vv_ldc2 F cl_X8_206 dX8_waits_3 ?_
  refine vv_callSp (As := [.long k.toInt64, .long 1, .long 99]) (rest := []) [] F (c_X8_in (vv_l x) (vv_k x) k.toInt64 1 99) ms_X8_56 dX8_waits_6 (by decide) rfl rfl (Nat.le_of_ble_eq_true rfl) rfl (by decide) ?_
  refine vv_ifz_ne (tgt := 19) F dX8_waits_9 (by decide) (fun h_1 => ?_) (fun h_1 => ?_)
  · have h_1r := in_rng (a := 1) (b := 99) (by decide) (by decide) h_1
    have h_1c := nn_cl (a := k) (by omega)
    refine vv_aload_n F dX8_waits_19 rfl rfl ?_
    refine vv_callV (As := []) (rest := []) [0, 1] 0 (ws' := [(qm, .inr (7, [.ref qw, .ref qk, .ref qt, .int txd, .long abv, .long blw, .ref qs, .int atp, .int stp, .int nbr, .ref qi, .ref qp, .ref qh, .ref qb, .int bmy, .ref qa, .ref q6, .long hsh])), (qw, .inl ((vv_k x).2.1.1, 456, .inl (g_X8_minds_1 wf cU))), (qs, .inl ((vv_k x).2.1.1, 3, .inl ss))]) F (c_X8_minds (vv_l x) (vv_k x) qm qw qk qt txd abv blw qs atp stp nbr qi qp qh qb bmy qa q6 hsh wf cU hcU (by omega)) mv_X8_203 dX8_waits_20 (by decide) rfl rfl (Nat.le_of_ble_eq_true rfl) rfl (by decide) (Eq.trans (b := [qm, qw]) rfl rfl) rfl rfl ?_
    refine vv_aload_n F dX8_waits_23 rfl rfl ?_
    refine vv_get 0 F fl_X8_7 dX8_waits_24 rfl rfl ?_
    refine vv_bipush (v := 17) F dX8_waits_27 (by decide) ?_
    refine vv_aload_n F dX8_waits_29 rfl rfl ?_
    refine vv_get 0 F fl_X8_7 dX8_waits_30 rfl rfl ?_
    refine vv_bipush (v := 17) F dX8_waits_33 (by decide) ?_
    refine vv_iald 1 F dX8_waits_35 rfl (vv_ixP (j := 17) (by decide) (by decide)) ?_
    refine vv_iload_n F dX8_waits_36 rfl rfl ?_
    refine vv_iadd F dX8_waits_37 ?_
    refine vv_sipush (v := 9999) F dX8_waits_38 (by decide) ?_
    refine vv_icmp_le (tgt := 50) F dX8_waits_41 (by decide) (fun h_2 => ?_) (fun h_2 => ?_)
    · refine vv_aload_n F dX8_waits_50 rfl rfl ?_
      refine vv_get 0 F fl_X8_7 dX8_waits_51 rfl rfl ?_
      refine vv_bipush (v := 17) F dX8_waits_54 (by decide) ?_
      refine vv_iald 1 F dX8_waits_56 rfl (vv_ixP (j := 17) (by decide) (by decide)) ?_
      refine vv_iload_n F dX8_waits_57 rfl rfl ?_
      refine vv_iadd F dX8_waits_58 ?_
      refine vv_iast 1 (ws' := [(qm, .inr (7, [.ref qw, .ref qk, .ref qt, .int txd, .long abv, .long blw, .ref qs, .int atp, .int stp, .int nbr, .ref qi, .ref qp, .ref qh, .ref qb, .int bmy, .ref qa, .ref q6, .long hsh])), (qw, .inl ((vv_k x).2.1.1, 456, .inl (upd (g_X8_minds_1 wf cU) 17 (((g_X8_minds_1 wf cU) 17) + k)))), (qs, .inl ((vv_k x).2.1.1, 3, .inl ss))]) F dX8_waits_59 rfl (vv_ixP (j := 17) (by decide) (by decide)) rfl ?_
      refine vv_aload_n F dX8_waits_60 rfl rfl ?_
      refine vv_get 0 F fl_X8_7 dX8_waits_61 rfl rfl ?_
      refine vv_bipush (v := 17) F dX8_waits_64 (by decide) ?_
      refine vv_iald 1 F dX8_waits_66 rfl (vv_ixP (j := 17) (by decide) (by decide)) ?_
      refine vv_topi (((g_X8_minds_1 wf cU) 17) + k) (pk_us) ?_
      exact vv_iret F hR dX8_waits_67 (congrArg (fun z => some (Value.int z)) ((if_pos h_1).trans ((if_pos h_2).trans rfl))) (by simp only [g_X8_waits_1, g_X8_waits_2, if_pos h_1, if_pos h_2])
    · refine vv_sipush (v := 9999) F dX8_waits_44 (by decide) ?_
      refine vv_goto (tgt := 59) F dX8_waits_47 (by decide) ?_
      refine vv_iast 1 (ws' := [(qm, .inr (7, [.ref qw, .ref qk, .ref qt, .int txd, .long abv, .long blw, .ref qs, .int atp, .int stp, .int nbr, .ref qi, .ref qp, .ref qh, .ref qb, .int bmy, .ref qa, .ref q6, .long hsh])), (qw, .inl ((vv_k x).2.1.1, 456, .inl (upd (g_X8_minds_1 wf cU) 17 9999))), (qs, .inl ((vv_k x).2.1.1, 3, .inl ss))]) F dX8_waits_59 rfl (vv_ixP (j := 17) (by decide) (by decide)) rfl ?_
      refine vv_aload_n F dX8_waits_60 rfl rfl ?_
      refine vv_get 0 F fl_X8_7 dX8_waits_61 rfl rfl ?_
      refine vv_bipush (v := 17) F dX8_waits_64 (by decide) ?_
      refine vv_iald 1 F dX8_waits_66 rfl (vv_ixP (j := 17) (by decide) (by decide)) ?_
      refine vv_topi 9999 (pk_us) ?_
      exact vv_iret F hR dX8_waits_67 (congrArg (fun z => some (Value.int z)) ((if_pos h_1).trans ((if_neg h_2).trans rfl))) (by simp only [g_X8_waits_1, g_X8_waits_2, if_pos h_1, if_neg h_2])
  · refine vv_aload_n F dX8_waits_12 rfl rfl ?_
    refine vv_bipush (v := (-2)) F dX8_waits_13 (by decide) ?_
    refine vv_callV (As := [.int (-2)]) (rest := []) [0, 2] 0 (ws' := [(qm, .inr (7, [.ref qw, .ref qk, .ref qt, .int txd, .long abv, .long blw, .ref qs, .int atp, .int stp, .int nbr, .ref qi, .ref qp, .ref qh, .ref qb, .int bmy, .ref qa, .ref q6, .long hsh])), (qw, .inl ((vv_k x).2.1.1, 456, .inl wf)), (qs, .inl ((vv_k x).2.1.1, 3, .inl (upd ss 0 ((ss 0) + 1))))]) F (c_X8_bad (vv_l x) (vv_k x) qm qw qk qt txd abv blw qs atp stp nbr qi qp qh qb bmy qa q6 hsh ss (-2)) mv_X8_78 dX8_waits_15 (by decide) rfl rfl (Nat.le_of_ble_eq_true rfl) rfl (by decide) (Eq.trans (b := [qm, qs]) rfl rfl) rfl rfl ?_
    exact vv_iret F hR dX8_waits_18 (congrArg (fun z => some (Value.int z)) ((if_neg h_1).trans rfl)) (by simp only [g_X8_waits_1, g_X8_waits_2, if_neg h_1])
noncomputable def f_X8_undo (wf : Nat → Int32) (cU : Nat) : Int32 := (if (wf 81) = 0 then (-3) else (wf (81 + 4 * cU)))
noncomputable def g_X8_undo_1 (wf : Nat → Int32) (cU : Nat) : Nat → Int32 := (if (wf 81) = 0 then wf else (upd (upd (upd (upd (upd wf 81 ((wf 81) - 1)) 14 (wf (78 + 4 * cU))) 15 (wf (79 + 4 * cU))) 16 (wf (80 + 4 * cU))) 17 (wf (81 + 4 * cU))))
noncomputable def g_X8_undo_2 (wf ss : Nat → Int32) : Nat → Int32 := (if (wf 81) = 0 then (upd ss 1 ((ss 1) + 1)) else ss)
theorem c_X8_undo (l : Launch) (K : vv_K) (qm qw qk qt : Nat) (txd : Int32) (abv blw : Int64) (qs : Nat) (atp stp nbr : Int32) (qi qp qh qb : Nat) (bmy : Int32) (qa q6 : Nat) (hsh : Int64) (wf ss : Nat → Int32) (cU : Nat) (hcU : ((wf 81)).toInt = (cU : Int)) (hcU8 : cU ≤ 8)  : vv_C l K 2 yX8_undo cX8_undo 2 (some .int) [.ref qm] [(qm, .inr (7, [.ref qw, .ref qk, .ref qt, .int txd, .long abv, .long blw, .ref qs, .int atp, .int stp, .int nbr, .ref qi, .ref qp, .ref qh, .ref qb, .int bmy, .ref qa, .ref q6, .long hsh])), (qw, .inl (K.2.1.1, 456, .inl wf)), (qs, .inl (K.2.1.1, 3, .inl ss))] (some (.int (f_X8_undo wf cU))) [(qm, .inr (7, [.ref qw, .ref qk, .ref qt, .int txd, .long abv, .long blw, .ref qs, .int atp, .int stp, .int nbr, .ref qi, .ref qp, .ref qh, .ref qb, .int bmy, .ref qa, .ref q6, .long hsh])), (qw, .inl (K.2.1.1, 456, .inl (g_X8_undo_1 wf cU))), (qs, .inl (K.2.1.1, 3, .inl (g_X8_undo_2 wf ss)))] := by
  refine vv_C.of (lv := [(0, .ref qm)]) (by decide +kernel) (Nat.le_of_ble_eq_true rfl) rfl ?_
  intro x hl hK F hR; subst hl; obtain rfl := hK
  refine vv_aload_n F dX8_undo_0 rfl rfl ?_
  refine vv_get 0 F fl_X8_7 dX8_undo_1 rfl rfl ?_
  refine vv_bipush (v := 81) F dX8_undo_4 (by decide) ?_
  refine vv_iald 1 F dX8_undo_6 rfl (vv_ixP (j := 81) (by decide) (by decide)) ?_
  refine vv_if_ne (tgt := 15) F dX8_undo_7 (by decide) (fun h_1 => ?_) (fun h_1 => ?_)
  · have h0 : ¬ cU = 0 := mt (c_eq hcU (by decide : (0 : Int32).toInt = ((0 : Nat) : Int))).mpr h_1
    refine vv_aload_n F dX8_undo_15 rfl rfl ?_
    refine vv_get 0 F fl_X8_7 dX8_undo_16 rfl rfl ?_
    refine vv_bipush (v := 81) F dX8_undo_19 (by decide) ?_
    refine vv_dup2_11 F dX8_undo_21 rfl rfl ?_
    refine vv_iald 1 F dX8_undo_22 rfl (vv_ixP (j := 81) (by decide) (by decide)) ?_
    refine vv_iconst (v := 1) F dX8_undo_23 (by decide) ?_
    refine vv_isub F dX8_undo_24 ?_
    refine vv_iast 1 (ws' := [(qm, .inr (7, [.ref qw, .ref qk, .ref qt, .int txd, .long abv, .long blw, .ref qs, .int atp, .int stp, .int nbr, .ref qi, .ref qp, .ref qh, .ref qb, .int bmy, .ref qa, .ref q6, .long hsh])), (qw, .inl ((vv_k x).2.1.1, 456, .inl (upd wf 81 ((wf 81) - 1)))), (qs, .inl ((vv_k x).2.1.1, 3, .inl ss))]) F dX8_undo_25 rfl (vv_ixP (j := 81) (by decide) (by decide)) rfl ?_
    refine vv_iconst (v := 0) F dX8_undo_26 (by decide) ?_
    refine vv_istore_n (lv' := [(1, .int 0), (0, .ref qm)]) F dX8_undo_27 rfl (by decide) rfl ?_
    refine vv_iload_n F dX8_undo_28 rfl rfl ?_
    refine vv_iconst (v := 4) F dX8_undo_29 (by decide) ?_
    refine vv_icmp_ge (tgt := 67) F dX8_undo_30 (by decide) (fun h_2 => absurd h_2 (by decide)) (fun h_2 => ?_)
    refine vv_aload_n F dX8_undo_33 rfl rfl ?_
    refine vv_get 0 F fl_X8_7 dX8_undo_34 rfl rfl ?_
    refine vv_bipush (v := 14) F dX8_undo_37 (by decide) ?_
    refine vv_iload_n F dX8_undo_39 rfl rfl ?_
    refine vv_iadd F dX8_undo_40 ?_
    refine vv_aload_n F dX8_undo_41 rfl rfl ?_
    refine vv_get 0 F fl_X8_7 dX8_undo_42 rfl rfl ?_
    refine vv_bipush (v := 82) F dX8_undo_45 (by decide) ?_
    refine vv_iconst (v := 4) F dX8_undo_47 (by decide) ?_
    refine vv_aload_n F dX8_undo_48 rfl rfl ?_
    refine vv_get 0 F fl_X8_7 dX8_undo_49 rfl rfl ?_
    refine vv_bipush (v := 81) F dX8_undo_52 (by decide) ?_
    refine vv_iald 1 F dX8_undo_54 rfl (vv_ixP (j := 81) (by decide) (by decide)) ?_
    refine vv_topi ((wf 81) - 1) (pk_us) ?_
    refine vv_imul F dX8_undo_55 ?_
    refine vv_iadd F dX8_undo_56 ?_
    refine vv_iload_n F dX8_undo_57 rfl rfl ?_
    refine vv_iadd F dX8_undo_58 ?_
    refine vv_iald 1 F dX8_undo_59 rfl (vv_ixP (j := (78 + 4 * cU)) (by have hz := (nn_add (nn_add (by decide : (82 : Int32).toInt = ((82 : Nat) : Int)) (nn_mul (by decide : (4 : Int32).toInt = ((4 : Nat) : Int)) (nn_sub hcU (by decide : (1 : Int32).toInt = ((1 : Nat) : Int)) (by omega)) (by omega)) (by omega)) (by decide : (0 : Int32).toInt = ((0 : Nat) : Int)) (by omega)); omega) (by omega)) ?_
    refine vv_topi (wf (78 + 4 * cU)) (pk_un (by omega)) ?_
    refine vv_iast 1 (ws' := [(qm, .inr (7, [.ref qw, .ref qk, .ref qt, .int txd, .long abv, .long blw, .ref qs, .int atp, .int stp, .int nbr, .ref qi, .ref qp, .ref qh, .ref qb, .int bmy, .ref qa, .ref q6, .long hsh])), (qw, .inl ((vv_k x).2.1.1, 456, .inl (upd (upd wf 81 ((wf 81) - 1)) 14 (wf (78 + 4 * cU))))), (qs, .inl ((vv_k x).2.1.1, 3, .inl ss))]) F dX8_undo_60 rfl (vv_ixP (j := 14) (by have hz := (nn_add (by decide : (14 : Int32).toInt = ((14 : Nat) : Int)) (by decide : (0 : Int32).toInt = ((0 : Nat) : Int)) (by omega)); omega) (by omega)) rfl ?_
    refine vv_iinc (v := 1) (lv' := [(1, .int 1), (0, .ref qm)]) 0 F dX8_undo_61 rfl (by decide) (by decide) rfl ?_
    refine vv_goto (tgt := 28) F dX8_undo_64 (by decide) ?_
    refine vv_iload_n F dX8_undo_28 rfl rfl ?_
    refine vv_iconst (v := 4) F dX8_undo_29 (by decide) ?_
    refine vv_icmp_ge (tgt := 67) F dX8_undo_30 (by decide) (fun h_3 => absurd h_3 (by decide)) (fun h_3 => ?_)
    refine vv_aload_n F dX8_undo_33 rfl rfl ?_
    refine vv_get 0 F fl_X8_7 dX8_undo_34 rfl rfl ?_
    refine vv_bipush (v := 14) F dX8_undo_37 (by decide) ?_
    refine vv_iload_n F dX8_undo_39 rfl rfl ?_
    refine vv_iadd F dX8_undo_40 ?_
    refine vv_aload_n F dX8_undo_41 rfl rfl ?_
    refine vv_get 0 F fl_X8_7 dX8_undo_42 rfl rfl ?_
    refine vv_bipush (v := 82) F dX8_undo_45 (by decide) ?_
    refine vv_iconst (v := 4) F dX8_undo_47 (by decide) ?_
    refine vv_aload_n F dX8_undo_48 rfl rfl ?_
    refine vv_get 0 F fl_X8_7 dX8_undo_49 rfl rfl ?_
    refine vv_bipush (v := 81) F dX8_undo_52 (by decide) ?_
    refine vv_iald 1 F dX8_undo_54 rfl (vv_ixP (j := 81) (by decide) (by decide)) ?_
    refine vv_topi ((wf 81) - 1) ((pk_un (by decide)).trans (pk_us)) ?_
    refine vv_imul F dX8_undo_55 ?_
    refine vv_iadd F dX8_undo_56 ?_
    refine vv_iload_n F dX8_undo_57 rfl rfl ?_
    refine vv_iadd F dX8_undo_58 ?_
    refine vv_iald 1 F dX8_undo_59 rfl (vv_ixP (j := (79 + 4 * cU)) (by have hz := (nn_add (nn_add (by decide : (82 : Int32).toInt = ((82 : Nat) : Int)) (nn_mul (by decide : (4 : Int32).toInt = ((4 : Nat) : Int)) (nn_sub hcU (by decide : (1 : Int32).toInt = ((1 : Nat) : Int)) (by omega)) (by omega)) (by omega)) (by decide : (1 : Int32).toInt = ((1 : Nat) : Int)) (by omega)); omega) (by omega)) ?_
    refine vv_topi (wf (79 + 4 * cU)) ((pk_un (by omega)).trans (pk_un (by omega))) ?_
    refine vv_iast 1 (ws' := [(qm, .inr (7, [.ref qw, .ref qk, .ref qt, .int txd, .long abv, .long blw, .ref qs, .int atp, .int stp, .int nbr, .ref qi, .ref qp, .ref qh, .ref qb, .int bmy, .ref qa, .ref q6, .long hsh])), (qw, .inl ((vv_k x).2.1.1, 456, .inl (upd (upd (upd wf 81 ((wf 81) - 1)) 14 (wf (78 + 4 * cU))) 15 (wf (79 + 4 * cU))))), (qs, .inl ((vv_k x).2.1.1, 3, .inl ss))]) F dX8_undo_60 rfl (vv_ixP (j := 15) (by have hz := (nn_add (by decide : (14 : Int32).toInt = ((14 : Nat) : Int)) (by decide : (1 : Int32).toInt = ((1 : Nat) : Int)) (by omega)); omega) (by omega)) rfl ?_
    refine vv_iinc (v := 2) (lv' := [(1, .int 2), (0, .ref qm)]) 0 F dX8_undo_61 rfl (by decide) (by decide) rfl ?_
    refine vv_goto (tgt := 28) F dX8_undo_64 (by decide) ?_
    refine vv_iload_n F dX8_undo_28 rfl rfl ?_
    refine vv_iconst (v := 4) F dX8_undo_29 (by decide) ?_
    refine vv_icmp_ge (tgt := 67) F dX8_undo_30 (by decide) (fun h_4 => absurd h_4 (by decide)) (fun h_4 => ?_)
    refine vv_aload_n F dX8_undo_33 rfl rfl ?_
    refine vv_get 0 F fl_X8_7 dX8_undo_34 rfl rfl ?_
    refine vv_bipush (v := 14) F dX8_undo_37 (by decide) ?_
    refine vv_iload_n F dX8_undo_39 rfl rfl ?_
    refine vv_iadd F dX8_undo_40 ?_
    refine vv_aload_n F dX8_undo_41 rfl rfl ?_
    refine vv_get 0 F fl_X8_7 dX8_undo_42 rfl rfl ?_
    refine vv_bipush (v := 82) F dX8_undo_45 (by decide) ?_
    refine vv_iconst (v := 4) F dX8_undo_47 (by decide) ?_
    refine vv_aload_n F dX8_undo_48 rfl rfl ?_
    refine vv_get 0 F fl_X8_7 dX8_undo_49 rfl rfl ?_
    refine vv_bipush (v := 81) F dX8_undo_52 (by decide) ?_
    refine vv_iald 1 F dX8_undo_54 rfl (vv_ixP (j := 81) (by decide) (by decide)) ?_
    refine vv_topi ((wf 81) - 1) ((pk_un (by decide)).trans ((pk_un (by decide)).trans (pk_us))) ?_
    refine vv_imul F dX8_undo_55 ?_
    refine vv_iadd F dX8_undo_56 ?_
    refine vv_iload_n F dX8_undo_57 rfl rfl ?_
    refine vv_iadd F dX8_undo_58 ?_
    refine vv_iald 1 F dX8_undo_59 rfl (vv_ixP (j := (80 + 4 * cU)) (by have hz := (nn_add (nn_add (by decide : (82 : Int32).toInt = ((82 : Nat) : Int)) (nn_mul (by decide : (4 : Int32).toInt = ((4 : Nat) : Int)) (nn_sub hcU (by decide : (1 : Int32).toInt = ((1 : Nat) : Int)) (by omega)) (by omega)) (by omega)) (by decide : (2 : Int32).toInt = ((2 : Nat) : Int)) (by omega)); omega) (by omega)) ?_
    refine vv_topi (wf (80 + 4 * cU)) ((pk_un (by omega)).trans ((pk_un (by omega)).trans (pk_un (by omega)))) ?_
    refine vv_iast 1 (ws' := [(qm, .inr (7, [.ref qw, .ref qk, .ref qt, .int txd, .long abv, .long blw, .ref qs, .int atp, .int stp, .int nbr, .ref qi, .ref qp, .ref qh, .ref qb, .int bmy, .ref qa, .ref q6, .long hsh])), (qw, .inl ((vv_k x).2.1.1, 456, .inl (upd (upd (upd (upd wf 81 ((wf 81) - 1)) 14 (wf (78 + 4 * cU))) 15 (wf (79 + 4 * cU))) 16 (wf (80 + 4 * cU))))), (qs, .inl ((vv_k x).2.1.1, 3, .inl ss))]) F dX8_undo_60 rfl (vv_ixP (j := 16) (by have hz := (nn_add (by decide : (14 : Int32).toInt = ((14 : Nat) : Int)) (by decide : (2 : Int32).toInt = ((2 : Nat) : Int)) (by omega)); omega) (by omega)) rfl ?_
    refine vv_iinc (v := 3) (lv' := [(1, .int 3), (0, .ref qm)]) 0 F dX8_undo_61 rfl (by decide) (by decide) rfl ?_
    refine vv_goto (tgt := 28) F dX8_undo_64 (by decide) ?_
    refine vv_iload_n F dX8_undo_28 rfl rfl ?_
    refine vv_iconst (v := 4) F dX8_undo_29 (by decide) ?_
    refine vv_icmp_ge (tgt := 67) F dX8_undo_30 (by decide) (fun h_5 => absurd h_5 (by decide)) (fun h_5 => ?_)
    refine vv_aload_n F dX8_undo_33 rfl rfl ?_
    refine vv_get 0 F fl_X8_7 dX8_undo_34 rfl rfl ?_
    refine vv_bipush (v := 14) F dX8_undo_37 (by decide) ?_
    refine vv_iload_n F dX8_undo_39 rfl rfl ?_
    refine vv_iadd F dX8_undo_40 ?_
    refine vv_aload_n F dX8_undo_41 rfl rfl ?_
    refine vv_get 0 F fl_X8_7 dX8_undo_42 rfl rfl ?_
    refine vv_bipush (v := 82) F dX8_undo_45 (by decide) ?_
    refine vv_iconst (v := 4) F dX8_undo_47 (by decide) ?_
    refine vv_aload_n F dX8_undo_48 rfl rfl ?_
    refine vv_get 0 F fl_X8_7 dX8_undo_49 rfl rfl ?_
    refine vv_bipush (v := 81) F dX8_undo_52 (by decide) ?_
    refine vv_iald 1 F dX8_undo_54 rfl (vv_ixP (j := 81) (by decide) (by decide)) ?_
    refine vv_topi ((wf 81) - 1) ((pk_un (by decide)).trans ((pk_un (by decide)).trans ((pk_un (by decide)).trans (pk_us)))) ?_
    refine vv_imul F dX8_undo_55 ?_
    refine vv_iadd F dX8_undo_56 ?_
    refine vv_iload_n F dX8_undo_57 rfl rfl ?_
    refine vv_iadd F dX8_undo_58 ?_
    refine vv_iald 1 F dX8_undo_59 rfl (vv_ixP (j := (81 + 4 * cU)) (by have hz := (nn_add (nn_add (by decide : (82 : Int32).toInt = ((82 : Nat) : Int)) (nn_mul (by decide : (4 : Int32).toInt = ((4 : Nat) : Int)) (nn_sub hcU (by decide : (1 : Int32).toInt = ((1 : Nat) : Int)) (by omega)) (by omega)) (by omega)) (by decide : (3 : Int32).toInt = ((3 : Nat) : Int)) (by omega)); omega) (by omega)) ?_
    refine vv_topi (wf (81 + 4 * cU)) ((pk_un (by omega)).trans ((pk_un (by omega)).trans ((pk_un (by omega)).trans (pk_un (by omega))))) ?_
    refine vv_iast 1 (ws' := [(qm, .inr (7, [.ref qw, .ref qk, .ref qt, .int txd, .long abv, .long blw, .ref qs, .int atp, .int stp, .int nbr, .ref qi, .ref qp, .ref qh, .ref qb, .int bmy, .ref qa, .ref q6, .long hsh])), (qw, .inl ((vv_k x).2.1.1, 456, .inl (upd (upd (upd (upd (upd wf 81 ((wf 81) - 1)) 14 (wf (78 + 4 * cU))) 15 (wf (79 + 4 * cU))) 16 (wf (80 + 4 * cU))) 17 (wf (81 + 4 * cU))))), (qs, .inl ((vv_k x).2.1.1, 3, .inl ss))]) F dX8_undo_60 rfl (vv_ixP (j := 17) (by have hz := (nn_add (by decide : (14 : Int32).toInt = ((14 : Nat) : Int)) (by decide : (3 : Int32).toInt = ((3 : Nat) : Int)) (by omega)); omega) (by omega)) rfl ?_
    refine vv_iinc (v := 4) (lv' := [(1, .int 4), (0, .ref qm)]) 0 F dX8_undo_61 rfl (by decide) (by decide) rfl ?_
    refine vv_goto (tgt := 28) F dX8_undo_64 (by decide) ?_
    refine vv_iload_n F dX8_undo_28 rfl rfl ?_
    refine vv_iconst (v := 4) F dX8_undo_29 (by decide) ?_
    refine vv_icmp_ge (tgt := 67) F dX8_undo_30 (by decide) (fun h_6 => ?_) (fun h_6 => absurd h_6 (by decide))
    refine vv_aload_n F dX8_undo_67 rfl rfl ?_
    refine vv_get 0 F fl_X8_7 dX8_undo_68 rfl rfl ?_
    refine vv_bipush (v := 17) F dX8_undo_71 (by decide) ?_
    refine vv_iald 1 F dX8_undo_73 rfl (vv_ixP (j := 17) (by decide) (by decide)) ?_
    refine vv_topi (wf (81 + 4 * cU)) (pk_us) ?_
    exact vv_iret F hR dX8_undo_74 (congrArg (fun z => some (Value.int z)) ((if_neg h_1).trans rfl)) (by simp only [g_X8_undo_1, g_X8_undo_2, if_neg h_1])
  · refine vv_aload_n F dX8_undo_10 rfl rfl ?_
    refine vv_callV (As := []) (rest := []) [0, 2] 0 (ws' := [(qm, .inr (7, [.ref qw, .ref qk, .ref qt, .int txd, .long abv, .long blw, .ref qs, .int atp, .int stp, .int nbr, .ref qi, .ref qp, .ref qh, .ref qb, .int bmy, .ref qa, .ref q6, .long hsh])), (qw, .inl ((vv_k x).2.1.1, 456, .inl wf)), (qs, .inl ((vv_k x).2.1.1, 3, .inl (upd ss 1 ((ss 1) + 1))))]) F (c_X8_no (vv_l x) (vv_k x) qm qw qk qt txd abv blw qs atp stp nbr qi qp qh qb bmy qa q6 hsh ss) mv_X8_200 dX8_undo_11 (by decide) rfl rfl (Nat.le_of_ble_eq_true rfl) rfl (by decide) (Eq.trans (b := [qm, qs]) rfl rfl) rfl rfl ?_
    exact vv_iret F hR dX8_undo_14 (congrArg (fun z => some (Value.int z)) ((if_pos h_1).trans rfl)) (by simp only [g_X8_undo_1, g_X8_undo_2, if_pos h_1])
noncomputable def f_X8_of (wf : Nat → Int32) (i wh : Int32) : Int32 := (if p_X8_in i.toInt64 0 (((wf 0) - 1).toInt64) then (if p_X8_in wh.toInt64 0 1 then (if wh = 0 then (wf (1 + i.toNatClampNeg)) else (wf (6 + i.toNatClampNeg))) else (-2)) else (-2))
noncomputable def g_X8_of_2 (wf ss : Nat → Int32) (i wh : Int32) : Nat → Int32 := (if p_X8_in i.toInt64 0 (((wf 0) - 1).toInt64) then (if p_X8_in wh.toInt64 0 1 then (if wh = 0 then ss else ss) else (upd ss 0 ((ss 0) + 1))) else (upd ss 0 ((ss 0) + 1)))
theorem c_X8_of (l : Launch) (K : vv_K) (qm qw qk qt : Nat) (txd : Int32) (abv blw : Int64) (qs : Nat) (atp stp nbr : Int32) (qi qp qh qb : Nat) (bmy : Int32) (qa q6 : Nat) (hsh : Int64) (wf ss : Nat → Int32) (i wh : Int32) (cN : Nat) (hcN : ((wf 0)).toInt = (cN : Int)) (hcN5 : cN ≤ 5)  : vv_C l K 3 yX8_of cX8_of 3 (some .int) [.ref qm, .int i, .int wh] [(qm, .inr (7, [.ref qw, .ref qk, .ref qt, .int txd, .long abv, .long blw, .ref qs, .int atp, .int stp, .int nbr, .ref qi, .ref qp, .ref qh, .ref qb, .int bmy, .ref qa, .ref q6, .long hsh])), (qw, .inl (K.2.1.1, 456, .inl wf)), (qs, .inl (K.2.1.1, 3, .inl ss))] (some (.int (f_X8_of wf i wh))) [(qm, .inr (7, [.ref qw, .ref qk, .ref qt, .int txd, .long abv, .long blw, .ref qs, .int atp, .int stp, .int nbr, .ref qi, .ref qp, .ref qh, .ref qb, .int bmy, .ref qa, .ref q6, .long hsh])), (qw, .inl (K.2.1.1, 456, .inl wf)), (qs, .inl (K.2.1.1, 3, .inl (g_X8_of_2 wf ss i wh)))] := by
  refine vv_C.of (lv := [(0, .ref qm), (1, .int i), (2, .int wh)]) (by decide +kernel) (Nat.le_of_ble_eq_true rfl) rfl ?_
  intro x hl hK F hR; subst hl; obtain rfl := hK
  refine vv_aload_n F dX8_of_0 rfl rfl ?_
  refine vv_iload_n F dX8_of_1 rfl rfl ?_
  refine vv_callVp (As := [.int i]) (rest := []) [0, 1] 0 F (c_X8_isString (vv_l x) (vv_k x) qm qw qk qt txd abv blw qs atp stp nbr qi qp qh qb bmy qa q6 hsh wf i) mv_X8_197 dX8_of_2 (by decide) rfl rfl (Nat.le_of_ble_eq_true rfl) rfl (by decide) rfl ?_
  refine vv_ifz_eq (tgt := 18) F dX8_of_5 (by decide) (fun h_1 => ?_) (fun h_1 => ?_)
  · refine vv_aload_n F dX8_of_18 rfl rfl ?_
    refine vv_bipush (v := (-2)) F dX8_of_19 (by decide) ?_
    refine vv_callV (As := [.int (-2)]) (rest := []) [0, 2] 0 (ws' := [(qm, .inr (7, [.ref qw, .ref qk, .ref qt, .int txd, .long abv, .long blw, .ref qs, .int atp, .int stp, .int nbr, .ref qi, .ref qp, .ref qh, .ref qb, .int bmy, .ref qa, .ref q6, .long hsh])), (qw, .inl ((vv_k x).2.1.1, 456, .inl wf)), (qs, .inl ((vv_k x).2.1.1, 3, .inl (upd ss 0 ((ss 0) + 1))))]) F (c_X8_bad (vv_l x) (vv_k x) qm qw qk qt txd abv blw qs atp stp nbr qi qp qh qb bmy qa q6 hsh ss (-2)) mv_X8_78 dX8_of_21 (by decide) rfl rfl (Nat.le_of_ble_eq_true rfl) rfl (by decide) (Eq.trans (b := [qm, qs]) rfl rfl) rfl rfl ?_
    exact vv_iret F hR dX8_of_24 (congrArg (fun z => some (Value.int z)) ((if_neg h_1).trans rfl)) (by simp only [g_X8_of_2, if_neg h_1])
  · have h_1r := in_rngS hcN h_1
    have h_1c := nn_cl (a := i) (by omega)
    refine vv_iload_n F dX8_of_8 rfl rfl ?_
    refine vv_i2l F dX8_of_9 ?_
    refine vv_lconst (v := 0) F dX8_of_10 (by decide) ?_
    refine vv_lconst (v := 1) F dX8_of_11 (by decide) ?_
    refine vv_callSp (As := [.long wh.toInt64, .long 0, .long 1]) (rest := []) [] F (c_X8_in (vv_l x) (vv_k x) wh.toInt64 0 1) ms_X8_56 dX8_of_12 (by decide) rfl rfl (Nat.le_of_ble_eq_true rfl) rfl (by decide) ?_
    refine vv_ifz_ne (tgt := 25) F dX8_of_15 (by decide) (fun h_2 => ?_) (fun h_2 => ?_)
    · have h_2r := in_rng (a := 0) (b := 1) (by decide) (by decide) h_2
      have h_2c := nn_cl (a := wh) (by omega)
      refine vv_iload_n F dX8_of_25 rfl rfl ?_
      refine vv_if_ne (tgt := 40) F dX8_of_26 (by decide) (fun h_3 => ?_) (fun h_3 => ?_)
      · refine vv_aload_n F dX8_of_40 rfl rfl ?_
        refine vv_get 0 F fl_X8_7 dX8_of_41 rfl rfl ?_
        refine vv_bipush (v := 6) F dX8_of_44 (by decide) ?_
        refine vv_iload_n F dX8_of_46 rfl rfl ?_
        refine vv_iadd F dX8_of_47 ?_
        refine vv_iald 1 F dX8_of_48 rfl (vv_ixP (j := (6 + i.toNatClampNeg)) (by have hz := (nn_add (by decide : (6 : Int32).toInt = ((6 : Nat) : Int)) h_1c (by omega)); omega) (by omega)) ?_
        exact vv_iret F hR dX8_of_49 (congrArg (fun z => some (Value.int z)) ((if_pos h_1).trans ((if_pos h_2).trans ((if_neg h_3).trans rfl)))) (by simp only [g_X8_of_2, if_pos h_1, if_pos h_2, if_neg h_3])
      · refine vv_aload_n F dX8_of_29 rfl rfl ?_
        refine vv_get 0 F fl_X8_7 dX8_of_30 rfl rfl ?_
        refine vv_iconst (v := 1) F dX8_of_33 (by decide) ?_
        refine vv_iload_n F dX8_of_34 rfl rfl ?_
        refine vv_iadd F dX8_of_35 ?_
        refine vv_iald 1 F dX8_of_36 rfl (vv_ixP (j := (1 + i.toNatClampNeg)) (by have hz := (nn_add (by decide : (1 : Int32).toInt = ((1 : Nat) : Int)) h_1c (by omega)); omega) (by omega)) ?_
        refine vv_goto (tgt := 49) F dX8_of_37 (by decide) ?_
        exact vv_iret F hR dX8_of_49 (congrArg (fun z => some (Value.int z)) ((if_pos h_1).trans ((if_pos h_2).trans ((if_pos h_3).trans rfl)))) (by simp only [g_X8_of_2, if_pos h_1, if_pos h_2, if_pos h_3])
    · refine vv_aload_n F dX8_of_18 rfl rfl ?_
      refine vv_bipush (v := (-2)) F dX8_of_19 (by decide) ?_
      refine vv_callV (As := [.int (-2)]) (rest := []) [0, 2] 0 (ws' := [(qm, .inr (7, [.ref qw, .ref qk, .ref qt, .int txd, .long abv, .long blw, .ref qs, .int atp, .int stp, .int nbr, .ref qi, .ref qp, .ref qh, .ref qb, .int bmy, .ref qa, .ref q6, .long hsh])), (qw, .inl ((vv_k x).2.1.1, 456, .inl wf)), (qs, .inl ((vv_k x).2.1.1, 3, .inl (upd ss 0 ((ss 0) + 1))))]) F (c_X8_bad (vv_l x) (vv_k x) qm qw qk qt txd abv blw qs atp stp nbr qi qp qh qb bmy qa q6 hsh ss (-2)) mv_X8_78 dX8_of_21 (by decide) rfl rfl (Nat.le_of_ble_eq_true rfl) rfl (by decide) (Eq.trans (b := [qm, qs]) rfl rfl) rfl rfl ?_
      exact vv_iret F hR dX8_of_24 (congrArg (fun z => some (Value.int z)) ((if_pos h_1).trans ((if_neg h_2).trans rfl))) (by simp only [g_X8_of_2, if_pos h_1, if_neg h_2])
noncomputable def f_X8_now (wf : Nat → Int32) (wh : Int32) : Int32 := (if p_X8_in wh.toInt64 0 6 then (wf (11 + wh.toNatClampNeg)) else (-2))
noncomputable def g_X8_now_2 (ss : Nat → Int32) (wh : Int32) : Nat → Int32 := (if p_X8_in wh.toInt64 0 6 then ss else (upd ss 0 ((ss 0) + 1)))
theorem c_X8_now (l : Launch) (K : vv_K) (qm qw qk qt : Nat) (txd : Int32) (abv blw : Int64) (qs : Nat) (atp stp nbr : Int32) (qi qp qh qb : Nat) (bmy : Int32) (qa q6 : Nat) (hsh : Int64) (wf ss : Nat → Int32) (wh : Int32)  : vv_C l K 3 yX8_now cX8_now 2 (some .int) [.ref qm, .int wh] [(qm, .inr (7, [.ref qw, .ref qk, .ref qt, .int txd, .long abv, .long blw, .ref qs, .int atp, .int stp, .int nbr, .ref qi, .ref qp, .ref qh, .ref qb, .int bmy, .ref qa, .ref q6, .long hsh])), (qw, .inl (K.2.1.1, 456, .inl wf)), (qs, .inl (K.2.1.1, 3, .inl ss))] (some (.int (f_X8_now wf wh))) [(qm, .inr (7, [.ref qw, .ref qk, .ref qt, .int txd, .long abv, .long blw, .ref qs, .int atp, .int stp, .int nbr, .ref qi, .ref qp, .ref qh, .ref qb, .int bmy, .ref qa, .ref q6, .long hsh])), (qw, .inl (K.2.1.1, 456, .inl wf)), (qs, .inl (K.2.1.1, 3, .inl (g_X8_now_2 ss wh)))] := by
  refine vv_C.of (lv := [(0, .ref qm), (1, .int wh)]) (by decide +kernel) (Nat.le_of_ble_eq_true rfl) rfl ?_
  intro x hl hK F hR; subst hl; obtain rfl := hK
  refine vv_iload_n F dX8_now_0 rfl rfl ?_
  refine vv_i2l F dX8_now_1 ?_
  refine vv_lconst (v := 0) F dX8_now_2 (by decide) ?_
  refine vv_ldc2 F cl_X8_208 dX8_now_3 ?_
  refine vv_callSp (As := [.long wh.toInt64, .long 0, .long 6]) (rest := []) [] F (c_X8_in (vv_l x) (vv_k x) wh.toInt64 0 6) ms_X8_56 dX8_now_6 (by decide) rfl rfl (Nat.le_of_ble_eq_true rfl) rfl (by decide) ?_
  refine vv_ifz_eq (tgt := 24) F dX8_now_9 (by decide) (fun h_1 => ?_) (fun h_1 => ?_)
  · refine vv_aload_n F dX8_now_24 rfl rfl ?_
    refine vv_bipush (v := (-2)) F dX8_now_25 (by decide) ?_
    refine vv_callV (As := [.int (-2)]) (rest := []) [0, 2] 0 (ws' := [(qm, .inr (7, [.ref qw, .ref qk, .ref qt, .int txd, .long abv, .long blw, .ref qs, .int atp, .int stp, .int nbr, .ref qi, .ref qp, .ref qh, .ref qb, .int bmy, .ref qa, .ref q6, .long hsh])), (qw, .inl ((vv_k x).2.1.1, 456, .inl wf)), (qs, .inl ((vv_k x).2.1.1, 3, .inl (upd ss 0 ((ss 0) + 1))))]) F (c_X8_bad (vv_l x) (vv_k x) qm qw qk qt txd abv blw qs atp stp nbr qi qp qh qb bmy qa q6 hsh ss (-2)) mv_X8_78 dX8_now_27 (by decide) rfl rfl (Nat.le_of_ble_eq_true rfl) rfl (by decide) (Eq.trans (b := [qm, qs]) rfl rfl) rfl rfl ?_
    exact vv_iret F hR dX8_now_30 (congrArg (fun z => some (Value.int z)) ((if_neg h_1).trans rfl)) (by simp only [g_X8_now_2, if_neg h_1])
  · have h_1r := in_rng (a := 0) (b := 6) (by decide) (by decide) h_1
    have h_1c := nn_cl (a := wh) (by omega)
    refine vv_aload_n F dX8_now_12 rfl rfl ?_
    refine vv_get 0 F fl_X8_7 dX8_now_13 rfl rfl ?_
    refine vv_bipush (v := 11) F dX8_now_16 (by decide) ?_
    refine vv_iload_n F dX8_now_18 rfl rfl ?_
    refine vv_iadd F dX8_now_19 ?_
    refine vv_iald 1 F dX8_now_20 rfl (vv_ixP (j := (11 + wh.toNatClampNeg)) (by have hz := (nn_add (by decide : (11 : Int32).toInt = ((11 : Nat) : Int)) h_1c (by omega)); omega) (by omega)) ?_
    refine vv_goto (tgt := 30) F dX8_now_21 (by decide) ?_
    exact vv_iret F hR dX8_now_30 (congrArg (fun z => some (Value.int z)) ((if_pos h_1).trans rfl)) (by simp only [g_X8_now_2, if_pos h_1])
noncomputable def f_X8_asks (wf : Nat → Int32) (i m wh : Int32) : Int32 := (if p_X8_in i.toInt64 0 (((wf 0) - 1).toInt64) then (if p_X8_in m.toInt64 0 47 then (if p_X8_in wh.toInt64 0 2 then (if wh = 0 then (f_X8_showsIn wf ((wf 17) + m) 0 i.toNatClampNeg) else (if wh = 1 then (f_X8_costIn wf ((wf 17) + m) 0 i.toNatClampNeg) else (f_X8_bringsIn wf 0 i.toNatClampNeg))) else (-2)) else (-2)) else (-2))
noncomputable def g_X8_asks_2 (wf ss : Nat → Int32) (i m wh : Int32) : Nat → Int32 := (if p_X8_in i.toInt64 0 (((wf 0) - 1).toInt64) then (if p_X8_in m.toInt64 0 47 then (if p_X8_in wh.toInt64 0 2 then (if wh = 0 then ss else (if wh = 1 then ss else ss)) else (upd ss 0 ((ss 0) + 1))) else (upd ss 0 ((ss 0) + 1))) else (upd ss 0 ((ss 0) + 1)))
theorem c_X8_asks (l : Launch) (K : vv_K) (qm qw qk qt : Nat) (txd : Int32) (abv blw : Int64) (qs : Nat) (atp stp nbr : Int32) (qi qp qh qb : Nat) (bmy : Int32) (qa q6 : Nat) (hsh : Int64) (wf ss : Nat → Int32) (i m wh : Int32) (cN : Nat) (hcN : ((wf 0)).toInt = (cN : Int)) (hcN5 : cN ≤ 5)  : vv_C l K 5 yX8_asks cX8_asks 4 (some .int) [.ref qm, .int i, .int m, .int wh] [(qm, .inr (7, [.ref qw, .ref qk, .ref qt, .int txd, .long abv, .long blw, .ref qs, .int atp, .int stp, .int nbr, .ref qi, .ref qp, .ref qh, .ref qb, .int bmy, .ref qa, .ref q6, .long hsh])), (qw, .inl (K.2.1.1, 456, .inl wf)), (qs, .inl (K.2.1.1, 3, .inl ss))] (some (.int (f_X8_asks wf i m wh))) [(qm, .inr (7, [.ref qw, .ref qk, .ref qt, .int txd, .long abv, .long blw, .ref qs, .int atp, .int stp, .int nbr, .ref qi, .ref qp, .ref qh, .ref qb, .int bmy, .ref qa, .ref q6, .long hsh])), (qw, .inl (K.2.1.1, 456, .inl wf)), (qs, .inl (K.2.1.1, 3, .inl (g_X8_asks_2 wf ss i m wh)))] := by
  refine vv_C.of (lv := [(0, .ref qm), (1, .int i), (2, .int m), (3, .int wh)]) (by decide +kernel) (Nat.le_of_ble_eq_true rfl) rfl ?_
  intro x hl hK F hR; subst hl; obtain rfl := hK
  refine vv_aload_n F dX8_asks_0 rfl rfl ?_
  refine vv_iload_n F dX8_asks_1 rfl rfl ?_
  refine vv_callVp (As := [.int i]) (rest := []) [0, 1] 0 F (c_X8_isString (vv_l x) (vv_k x) qm qw qk qt txd abv blw qs atp stp nbr qi qp qh qb bmy qa q6 hsh wf i) mv_X8_197 dX8_asks_2 (by decide) rfl rfl (Nat.le_of_ble_eq_true rfl) rfl (by decide) rfl ?_
  refine vv_ifz_eq (tgt := 32) F dX8_asks_5 (by decide) (fun h_1 => ?_) (fun h_1 => ?_)
  · refine vv_aload_n F dX8_asks_32 rfl rfl ?_
    refine vv_bipush (v := (-2)) F dX8_asks_33 (by decide) ?_
    refine vv_callV (As := [.int (-2)]) (rest := []) [0, 2] 0 (ws' := [(qm, .inr (7, [.ref qw, .ref qk, .ref qt, .int txd, .long abv, .long blw, .ref qs, .int atp, .int stp, .int nbr, .ref qi, .ref qp, .ref qh, .ref qb, .int bmy, .ref qa, .ref q6, .long hsh])), (qw, .inl ((vv_k x).2.1.1, 456, .inl wf)), (qs, .inl ((vv_k x).2.1.1, 3, .inl (upd ss 0 ((ss 0) + 1))))]) F (c_X8_bad (vv_l x) (vv_k x) qm qw qk qt txd abv blw qs atp stp nbr qi qp qh qb bmy qa q6 hsh ss (-2)) mv_X8_78 dX8_asks_35 (by decide) rfl rfl (Nat.le_of_ble_eq_true rfl) rfl (by decide) (Eq.trans (b := [qm, qs]) rfl rfl) rfl rfl ?_
    exact vv_iret F hR dX8_asks_38 (congrArg (fun z => some (Value.int z)) ((if_neg h_1).trans rfl)) (by simp only [g_X8_asks_2, if_neg h_1])
  · have h_1r := in_rngS hcN h_1
    have h_1c := nn_cl (a := i) (by omega)
    refine vv_iload_n F dX8_asks_8 rfl rfl ?_
    refine vv_i2l F dX8_asks_9 ?_
    refine vv_lconst (v := 0) F dX8_asks_10 (by decide) ?_
    refine vv_ldc2 F cl_X8_210 dX8_asks_11 ?_
    refine vv_callSp (As := [.long m.toInt64, .long 0, .long 47]) (rest := []) [] F (c_X8_in (vv_l x) (vv_k x) m.toInt64 0 47) ms_X8_56 dX8_asks_14 (by decide) rfl rfl (Nat.le_of_ble_eq_true rfl) rfl (by decide) ?_
    refine vv_ifz_eq (tgt := 32) F dX8_asks_17 (by decide) (fun h_2 => ?_) (fun h_2 => ?_)
    · refine vv_aload_n F dX8_asks_32 rfl rfl ?_
      refine vv_bipush (v := (-2)) F dX8_asks_33 (by decide) ?_
      refine vv_callV (As := [.int (-2)]) (rest := []) [0, 2] 0 (ws' := [(qm, .inr (7, [.ref qw, .ref qk, .ref qt, .int txd, .long abv, .long blw, .ref qs, .int atp, .int stp, .int nbr, .ref qi, .ref qp, .ref qh, .ref qb, .int bmy, .ref qa, .ref q6, .long hsh])), (qw, .inl ((vv_k x).2.1.1, 456, .inl wf)), (qs, .inl ((vv_k x).2.1.1, 3, .inl (upd ss 0 ((ss 0) + 1))))]) F (c_X8_bad (vv_l x) (vv_k x) qm qw qk qt txd abv blw qs atp stp nbr qi qp qh qb bmy qa q6 hsh ss (-2)) mv_X8_78 dX8_asks_35 (by decide) rfl rfl (Nat.le_of_ble_eq_true rfl) rfl (by decide) (Eq.trans (b := [qm, qs]) rfl rfl) rfl rfl ?_
      exact vv_iret F hR dX8_asks_38 (congrArg (fun z => some (Value.int z)) ((if_pos h_1).trans ((if_neg h_2).trans rfl))) (by simp only [g_X8_asks_2, if_pos h_1, if_neg h_2])
    · have h_2r := in_rng (a := 0) (b := 47) (by decide) (by decide) h_2
      have h_2c := nn_cl (a := m) (by omega)
      refine vv_iload_n F dX8_asks_20 rfl rfl ?_
      refine vv_i2l F dX8_asks_21 ?_
      refine vv_lconst (v := 0) F dX8_asks_22 (by decide) ?_
      refine vv_ldc2 F cl_X8_131 dX8_asks_23 ?_
      refine vv_callSp (As := [.long wh.toInt64, .long 0, .long 2]) (rest := []) [] F (c_X8_in (vv_l x) (vv_k x) wh.toInt64 0 2) ms_X8_56 dX8_asks_26 (by decide) rfl rfl (Nat.le_of_ble_eq_true rfl) rfl (by decide) ?_
      refine vv_ifz_ne (tgt := 39) F dX8_asks_29 (by decide) (fun h_3 => ?_) (fun h_3 => ?_)
      · have h_3r := in_rng (a := 0) (b := 2) (by decide) (by decide) h_3
        have h_3c := nn_cl (a := wh) (by omega)
        refine vv_iload_n F dX8_asks_39 rfl rfl ?_
        refine vv_if_ne (tgt := 61) F dX8_asks_40 (by decide) (fun h_4 => ?_) (fun h_4 => ?_)
        · refine vv_iload_n F dX8_asks_61 rfl rfl ?_
          refine vv_iconst (v := 1) F dX8_asks_62 (by decide) ?_
          refine vv_icmp_ne (tgt := 84) F dX8_asks_63 (by decide) (fun h_5 => ?_) (fun h_5 => ?_)
          · refine vv_aload_n F dX8_asks_84 rfl rfl ?_
            refine vv_iconst (v := 0) F dX8_asks_85 (by decide) ?_
            refine vv_iload_n F dX8_asks_86 rfl rfl ?_
            refine vv_callVp (As := [.int 0, .int i]) (rest := []) [0, 1] 0 F (c_X8_bringsIn (vv_l x) (vv_k x) qm qw qk qt txd abv blw qs atp stp nbr qi qp qh qb bmy qa q6 hsh wf 0 i 0 i.toNatClampNeg (by decide : (0 : Int32).toInt = ((0 : Nat) : Int)) h_1c (by omega) (by omega)) mv_X8_194 dX8_asks_87 (by decide) rfl rfl (Nat.le_of_ble_eq_true rfl) rfl (by decide) rfl ?_
            exact vv_iret F hR dX8_asks_90 (congrArg (fun z => some (Value.int z)) ((if_pos h_1).trans ((if_pos h_2).trans ((if_pos h_3).trans ((if_neg h_4).trans ((if_neg h_5).trans rfl)))))) (by simp only [g_X8_asks_2, if_pos h_1, if_pos h_2, if_pos h_3, if_neg h_4, if_neg h_5])
          · refine vv_aload_n F dX8_asks_66 rfl rfl ?_
            refine vv_iconst (v := 0) F dX8_asks_67 (by decide) ?_
            refine vv_iload_n F dX8_asks_68 rfl rfl ?_
            refine vv_aload_n F dX8_asks_69 rfl rfl ?_
            refine vv_get 0 F fl_X8_7 dX8_asks_70 rfl rfl ?_
            refine vv_bipush (v := 17) F dX8_asks_73 (by decide) ?_
            refine vv_iald 1 F dX8_asks_75 rfl (vv_ixP (j := 17) (by decide) (by decide)) ?_
            refine vv_iload_n F dX8_asks_76 rfl rfl ?_
            refine vv_iadd F dX8_asks_77 ?_
            refine vv_callVp (As := [.int 0, .int i, .int ((wf 17) + m)]) (rest := []) [0, 1] 0 F (c_X8_costIn (vv_l x) (vv_k x) qm qw qk qt txd abv blw qs atp stp nbr qi qp qh qb bmy qa q6 hsh wf 0 i ((wf 17) + m) 0 i.toNatClampNeg (by decide : (0 : Int32).toInt = ((0 : Nat) : Int)) h_1c (by omega) (by omega)) mv_X8_191 dX8_asks_78 (by decide) rfl rfl (Nat.le_of_ble_eq_true rfl) rfl (by decide) rfl ?_
            refine vv_goto (tgt := 90) F dX8_asks_81 (by decide) ?_
            exact vv_iret F hR dX8_asks_90 (congrArg (fun z => some (Value.int z)) ((if_pos h_1).trans ((if_pos h_2).trans ((if_pos h_3).trans ((if_neg h_4).trans ((if_pos h_5).trans rfl)))))) (by simp only [g_X8_asks_2, if_pos h_1, if_pos h_2, if_pos h_3, if_neg h_4, if_pos h_5])
        · refine vv_aload_n F dX8_asks_43 rfl rfl ?_
          refine vv_iconst (v := 0) F dX8_asks_44 (by decide) ?_
          refine vv_iload_n F dX8_asks_45 rfl rfl ?_
          refine vv_aload_n F dX8_asks_46 rfl rfl ?_
          refine vv_get 0 F fl_X8_7 dX8_asks_47 rfl rfl ?_
          refine vv_bipush (v := 17) F dX8_asks_50 (by decide) ?_
          refine vv_iald 1 F dX8_asks_52 rfl (vv_ixP (j := 17) (by decide) (by decide)) ?_
          refine vv_iload_n F dX8_asks_53 rfl rfl ?_
          refine vv_iadd F dX8_asks_54 ?_
          refine vv_callVp (As := [.int 0, .int i, .int ((wf 17) + m)]) (rest := []) [0, 1] 0 F (c_X8_showsIn (vv_l x) (vv_k x) qm qw qk qt txd abv blw qs atp stp nbr qi qp qh qb bmy qa q6 hsh wf 0 i ((wf 17) + m) 0 i.toNatClampNeg (by decide : (0 : Int32).toInt = ((0 : Nat) : Int)) h_1c (by omega) (by omega)) mv_X8_182 dX8_asks_55 (by decide) rfl rfl (Nat.le_of_ble_eq_true rfl) rfl (by decide) rfl ?_
          refine vv_goto (tgt := 90) F dX8_asks_58 (by decide) ?_
          exact vv_iret F hR dX8_asks_90 (congrArg (fun z => some (Value.int z)) ((if_pos h_1).trans ((if_pos h_2).trans ((if_pos h_3).trans ((if_pos h_4).trans rfl))))) (by simp only [g_X8_asks_2, if_pos h_1, if_pos h_2, if_pos h_3, if_pos h_4])
      · refine vv_aload_n F dX8_asks_32 rfl rfl ?_
        refine vv_bipush (v := (-2)) F dX8_asks_33 (by decide) ?_
        refine vv_callV (As := [.int (-2)]) (rest := []) [0, 2] 0 (ws' := [(qm, .inr (7, [.ref qw, .ref qk, .ref qt, .int txd, .long abv, .long blw, .ref qs, .int atp, .int stp, .int nbr, .ref qi, .ref qp, .ref qh, .ref qb, .int bmy, .ref qa, .ref q6, .long hsh])), (qw, .inl ((vv_k x).2.1.1, 456, .inl wf)), (qs, .inl ((vv_k x).2.1.1, 3, .inl (upd ss 0 ((ss 0) + 1))))]) F (c_X8_bad (vv_l x) (vv_k x) qm qw qk qt txd abv blw qs atp stp nbr qi qp qh qb bmy qa q6 hsh ss (-2)) mv_X8_78 dX8_asks_35 (by decide) rfl rfl (Nat.le_of_ble_eq_true rfl) rfl (by decide) (Eq.trans (b := [qm, qs]) rfl rfl) rfl rfl ?_
        exact vv_iret F hR dX8_asks_38 (congrArg (fun z => some (Value.int z)) ((if_pos h_1).trans ((if_pos h_2).trans ((if_neg h_3).trans rfl)))) (by simp only [g_X8_asks_2, if_pos h_1, if_pos h_2, if_neg h_3])
noncomputable def f_X8_costOf (wf : Nat → Int32) (kd lg : Int32) : Int32 := ((f_X8_chargeOf (wf 12) (f_X8_showOf kd lg (vv_rem (wf 17) 24)) ((wf 17) / 24)) + (f_X8_chargeOf (wf 13) (f_X8_showOf kd lg (vv_rem (wf 17) 24)) ((wf 17) / 24)))
theorem c_X8_costOf (l : Launch) (K : vv_K) (qm qw qk qt : Nat) (txd : Int32) (abv blw : Int64) (qs : Nat) (atp stp nbr : Int32) (qi qp qh qb : Nat) (bmy : Int32) (qa q6 : Nat) (hsh : Int64) (wf : Nat → Int32) (kd lg : Int32)  : vv_C l K 4 yX8_costOf cX8_costOf 4 (some .int) [.ref qm, .int kd, .int lg] [(qm, .inr (7, [.ref qw, .ref qk, .ref qt, .int txd, .long abv, .long blw, .ref qs, .int atp, .int stp, .int nbr, .ref qi, .ref qp, .ref qh, .ref qb, .int bmy, .ref qa, .ref q6, .long hsh])), (qw, .inl (K.2.1.1, 456, .inl wf))] (some (.int (f_X8_costOf wf kd lg))) [(qm, .inr (7, [.ref qw, .ref qk, .ref qt, .int txd, .long abv, .long blw, .ref qs, .int atp, .int stp, .int nbr, .ref qi, .ref qp, .ref qh, .ref qb, .int bmy, .ref qa, .ref q6, .long hsh])), (qw, .inl (K.2.1.1, 456, .inl wf))] := by
  refine vv_C.of (lv := [(0, .ref qm), (1, .int kd), (2, .int lg)]) (by decide +kernel) (Nat.le_of_ble_eq_true rfl) rfl ?_
  intro x hl hK F hR; subst hl; obtain rfl := hK
  refine vv_iload_n F dX8_costOf_0 rfl rfl ?_
  refine vv_iload_n F dX8_costOf_1 rfl rfl ?_
  refine vv_aload_n F dX8_costOf_2 rfl rfl ?_
  refine vv_get 0 F fl_X8_7 dX8_costOf_3 rfl rfl ?_
  refine vv_bipush (v := 17) F dX8_costOf_6 (by decide) ?_
  refine vv_iald 1 F dX8_costOf_8 rfl (vv_ixP (j := 17) (by decide) (by decide)) ?_
  refine vv_bipush (v := 24) F dX8_costOf_9 (by decide) ?_
  refine vv_iremR F dX8_costOf_11 (by decide) ?_
  refine vv_callSp (As := [.int kd, .int lg, .int (vv_rem (wf 17) 24)]) (rest := []) [] F (c_X8_showOf (vv_l x) (vv_k x) kd lg (vv_rem (wf 17) 24)) ms_X8_178 dX8_costOf_12 (by decide) rfl rfl (Nat.le_of_ble_eq_true rfl) rfl (by decide) ?_
  refine vv_istore_n (lv' := [(3, .int (f_X8_showOf kd lg (vv_rem (wf 17) 24))), (0, .ref qm), (1, .int kd), (2, .int lg)]) F dX8_costOf_15 rfl (by decide) rfl ?_
  refine vv_aload_n F dX8_costOf_16 rfl rfl ?_
  refine vv_get 0 F fl_X8_7 dX8_costOf_17 rfl rfl ?_
  refine vv_bipush (v := 12) F dX8_costOf_20 (by decide) ?_
  refine vv_iald 1 F dX8_costOf_22 rfl (vv_ixP (j := 12) (by decide) (by decide)) ?_
  refine vv_iload_n F dX8_costOf_23 rfl rfl ?_
  refine vv_aload_n F dX8_costOf_24 rfl rfl ?_
  refine vv_get 0 F fl_X8_7 dX8_costOf_25 rfl rfl ?_
  refine vv_bipush (v := 17) F dX8_costOf_28 (by decide) ?_
  refine vv_iald 1 F dX8_costOf_30 rfl (vv_ixP (j := 17) (by decide) (by decide)) ?_
  refine vv_bipush (v := 24) F dX8_costOf_31 (by decide) ?_
  refine vv_idiv F dX8_costOf_33 (by decide) ?_
  refine vv_callSp (As := [.int (wf 12), .int (f_X8_showOf kd lg (vv_rem (wf 17) 24)), .int ((wf 17) / 24)]) (rest := []) [] F (c_X8_chargeOf (vv_l x) (vv_k x) (wf 12) (f_X8_showOf kd lg (vv_rem (wf 17) 24)) ((wf 17) / 24)) ms_X8_185 dX8_costOf_34 (by decide) rfl rfl (Nat.le_of_ble_eq_true rfl) rfl (by decide) ?_
  refine vv_aload_n F dX8_costOf_37 rfl rfl ?_
  refine vv_get 0 F fl_X8_7 dX8_costOf_38 rfl rfl ?_
  refine vv_bipush (v := 13) F dX8_costOf_41 (by decide) ?_
  refine vv_iald 1 F dX8_costOf_43 rfl (vv_ixP (j := 13) (by decide) (by decide)) ?_
  refine vv_iload_n F dX8_costOf_44 rfl rfl ?_
  refine vv_aload_n F dX8_costOf_45 rfl rfl ?_
  refine vv_get 0 F fl_X8_7 dX8_costOf_46 rfl rfl ?_
  refine vv_bipush (v := 17) F dX8_costOf_49 (by decide) ?_
  refine vv_iald 1 F dX8_costOf_51 rfl (vv_ixP (j := 17) (by decide) (by decide)) ?_
  refine vv_bipush (v := 24) F dX8_costOf_52 (by decide) ?_
  refine vv_idiv F dX8_costOf_54 (by decide) ?_
  refine vv_callSp (As := [.int (wf 13), .int (f_X8_showOf kd lg (vv_rem (wf 17) 24)), .int ((wf 17) / 24)]) (rest := [.int (f_X8_chargeOf (wf 12) (f_X8_showOf kd lg (vv_rem (wf 17) 24)) ((wf 17) / 24))]) [] F (c_X8_chargeOf (vv_l x) (vv_k x) (wf 13) (f_X8_showOf kd lg (vv_rem (wf 17) 24)) ((wf 17) / 24)) ms_X8_185 dX8_costOf_55 (by decide) rfl rfl (Nat.le_of_ble_eq_true rfl) rfl (by decide) ?_
  refine vv_iadd F dX8_costOf_58 ?_
  exact vv_iret F hR dX8_costOf_59 rfl rfl
noncomputable def f_X8_came (wf : Nat → Int32) (lg cm : Int32) : Int32 := (if p_X8_in lg.toInt64 1 60 then (if p_X8_in cm.toInt64 0 60 then (if (wf 18) = 6 then (-4) else ((wf 18) + 1)) else (-2)) else (-2))
noncomputable def g_X8_came_1 (wf : Nat → Int32) (lg cm : Int32) (cC : Nat) : Nat → Int32 := (if p_X8_in lg.toInt64 1 60 then (if p_X8_in cm.toInt64 0 60 then (if (wf 18) = 6 then wf else (upd (upd (upd wf (19 + 2 * cC) lg) (20 + 2 * cC) cm) 18 ((wf 18) + 1))) else wf) else wf)
noncomputable def g_X8_came_2 (wf ss : Nat → Int32) (lg cm : Int32) : Nat → Int32 := (if p_X8_in lg.toInt64 1 60 then (if p_X8_in cm.toInt64 0 60 then (if (wf 18) = 6 then (upd ss 2 ((ss 2) + 1)) else ss) else (upd ss 0 ((ss 0) + 1))) else (upd ss 0 ((ss 0) + 1)))
theorem c_X8_came (l : Launch) (K : vv_K) (qm qw qk qt : Nat) (txd : Int32) (abv blw : Int64) (qs : Nat) (atp stp nbr : Int32) (qi qp qh qb : Nat) (bmy : Int32) (qa q6 : Nat) (hsh : Int64) (wf ss : Nat → Int32) (lg cm : Int32) (cC : Nat) (hcC : ((wf 18)).toInt = (cC : Int)) (hcC6 : cC ≤ 6)  : vv_C l K 3 yX8_came cX8_came 3 (some .int) [.ref qm, .int lg, .int cm] [(qm, .inr (7, [.ref qw, .ref qk, .ref qt, .int txd, .long abv, .long blw, .ref qs, .int atp, .int stp, .int nbr, .ref qi, .ref qp, .ref qh, .ref qb, .int bmy, .ref qa, .ref q6, .long hsh])), (qw, .inl (K.2.1.1, 456, .inl wf)), (qs, .inl (K.2.1.1, 3, .inl ss))] (some (.int (f_X8_came wf lg cm))) [(qm, .inr (7, [.ref qw, .ref qk, .ref qt, .int txd, .long abv, .long blw, .ref qs, .int atp, .int stp, .int nbr, .ref qi, .ref qp, .ref qh, .ref qb, .int bmy, .ref qa, .ref q6, .long hsh])), (qw, .inl (K.2.1.1, 456, .inl (g_X8_came_1 wf lg cm cC))), (qs, .inl (K.2.1.1, 3, .inl (g_X8_came_2 wf ss lg cm)))] := by
  refine vv_C.of (lv := [(0, .ref qm), (1, .int lg), (2, .int cm)]) (by decide +kernel) (Nat.le_of_ble_eq_true rfl) rfl ?_
  intro x hl hK F hR; subst hl; obtain rfl := hK
  refine vv_iload_n F dX8_came_0 rfl rfl ?_
  refine vv_i2l F dX8_came_1 ?_
  refine vv_lconst (v := 1) F dX8_came_2 (by decide) ?_
  refine vv_ldc2 F cl_X8_74 dX8_came_3 ?_
  refine vv_callSp (As := [.long lg.toInt64, .long 1, .long 60]) (rest := []) [] F (c_X8_in (vv_l x) (vv_k x) lg.toInt64 1 60) ms_X8_56 dX8_came_6 (by decide) rfl rfl (Nat.le_of_ble_eq_true rfl) rfl (by decide) ?_
  refine vv_ifz_eq (tgt := 24) F dX8_came_9 (by decide) (fun h_1 => ?_) (fun h_1 => ?_)
  · refine vv_aload_n F dX8_came_24 rfl rfl ?_
    refine vv_bipush (v := (-2)) F dX8_came_25 (by decide) ?_
    refine vv_callV (As := [.int (-2)]) (rest := []) [0, 2] 0 (ws' := [(qm, .inr (7, [.ref qw, .ref qk, .ref qt, .int txd, .long abv, .long blw, .ref qs, .int atp, .int stp, .int nbr, .ref qi, .ref qp, .ref qh, .ref qb, .int bmy, .ref qa, .ref q6, .long hsh])), (qw, .inl ((vv_k x).2.1.1, 456, .inl wf)), (qs, .inl ((vv_k x).2.1.1, 3, .inl (upd ss 0 ((ss 0) + 1))))]) F (c_X8_bad (vv_l x) (vv_k x) qm qw qk qt txd abv blw qs atp stp nbr qi qp qh qb bmy qa q6 hsh ss (-2)) mv_X8_78 dX8_came_27 (by decide) rfl rfl (Nat.le_of_ble_eq_true rfl) rfl (by decide) (Eq.trans (b := [qm, qs]) rfl rfl) rfl rfl ?_
    exact vv_iret F hR dX8_came_30 (congrArg (fun z => some (Value.int z)) ((if_neg h_1).trans rfl)) (by simp only [g_X8_came_1, g_X8_came_2, if_neg h_1])
  · have h_1r := in_rng (a := 1) (b := 60) (by decide) (by decide) h_1
    have h_1c := nn_cl (a := lg) (by omega)
    refine vv_iload_n F dX8_came_12 rfl rfl ?_
    refine vv_i2l F dX8_came_13 ?_
    refine vv_lconst (v := 0) F dX8_came_14 (by decide) ?_
    refine vv_ldc2 F cl_X8_74 dX8_came_15 ?_
    refine vv_callSp (As := [.long cm.toInt64, .long 0, .long 60]) (rest := []) [] F (c_X8_in (vv_l x) (vv_k x) cm.toInt64 0 60) ms_X8_56 dX8_came_18 (by decide) rfl rfl (Nat.le_of_ble_eq_true rfl) rfl (by decide) ?_
    refine vv_ifz_ne (tgt := 31) F dX8_came_21 (by decide) (fun h_2 => ?_) (fun h_2 => ?_)
    · have h_2r := in_rng (a := 0) (b := 60) (by decide) (by decide) h_2
      have h_2c := nn_cl (a := cm) (by omega)
      refine vv_aload_n F dX8_came_31 rfl rfl ?_
      refine vv_get 0 F fl_X8_7 dX8_came_32 rfl rfl ?_
      refine vv_bipush (v := 18) F dX8_came_35 (by decide) ?_
      refine vv_iald 1 F dX8_came_37 rfl (vv_ixP (j := 18) (by decide) (by decide)) ?_
      refine vv_bipush (v := 6) F dX8_came_38 (by decide) ?_
      refine vv_icmp_ne (tgt := 48) F dX8_came_40 (by decide) (fun h_3 => ?_) (fun h_3 => ?_)
      · have h6 : ¬ cC = 6 := mt (c_eq hcC (by decide : (6 : Int32).toInt = ((6 : Nat) : Int))).mpr h_3
        refine vv_aload_n F dX8_came_48 rfl rfl ?_
        refine vv_get 0 F fl_X8_7 dX8_came_49 rfl rfl ?_
        refine vv_bipush (v := 19) F dX8_came_52 (by decide) ?_
        refine vv_iconst (v := 2) F dX8_came_54 (by decide) ?_
        refine vv_aload_n F dX8_came_55 rfl rfl ?_
        refine vv_get 0 F fl_X8_7 dX8_came_56 rfl rfl ?_
        refine vv_bipush (v := 18) F dX8_came_59 (by decide) ?_
        refine vv_iald 1 F dX8_came_61 rfl (vv_ixP (j := 18) (by decide) (by decide)) ?_
        refine vv_imul F dX8_came_62 ?_
        refine vv_iadd F dX8_came_63 ?_
        refine vv_iload_n F dX8_came_64 rfl rfl ?_
        refine vv_iast 1 (ws' := [(qm, .inr (7, [.ref qw, .ref qk, .ref qt, .int txd, .long abv, .long blw, .ref qs, .int atp, .int stp, .int nbr, .ref qi, .ref qp, .ref qh, .ref qb, .int bmy, .ref qa, .ref q6, .long hsh])), (qw, .inl ((vv_k x).2.1.1, 456, .inl (upd wf (19 + 2 * cC) lg))), (qs, .inl ((vv_k x).2.1.1, 3, .inl ss))]) F dX8_came_65 rfl (vv_ixP (j := (19 + 2 * cC)) (by have hz := (nn_add (by decide : (19 : Int32).toInt = ((19 : Nat) : Int)) (nn_mul (by decide : (2 : Int32).toInt = ((2 : Nat) : Int)) hcC (by omega)) (by omega)); omega) (by omega)) rfl ?_
        refine vv_aload_n F dX8_came_66 rfl rfl ?_
        refine vv_get 0 F fl_X8_7 dX8_came_67 rfl rfl ?_
        refine vv_bipush (v := 19) F dX8_came_70 (by decide) ?_
        refine vv_iconst (v := 2) F dX8_came_72 (by decide) ?_
        refine vv_aload_n F dX8_came_73 rfl rfl ?_
        refine vv_get 0 F fl_X8_7 dX8_came_74 rfl rfl ?_
        refine vv_bipush (v := 18) F dX8_came_77 (by decide) ?_
        refine vv_iald 1 F dX8_came_79 rfl (vv_ixP (j := 18) (by decide) (by decide)) ?_
        refine vv_topi (wf 18) (pk_un (by omega)) ?_
        refine vv_imul F dX8_came_80 ?_
        refine vv_iadd F dX8_came_81 ?_
        refine vv_iconst (v := 1) F dX8_came_82 (by decide) ?_
        refine vv_iadd F dX8_came_83 ?_
        refine vv_iload_n F dX8_came_84 rfl rfl ?_
        refine vv_iast 1 (ws' := [(qm, .inr (7, [.ref qw, .ref qk, .ref qt, .int txd, .long abv, .long blw, .ref qs, .int atp, .int stp, .int nbr, .ref qi, .ref qp, .ref qh, .ref qb, .int bmy, .ref qa, .ref q6, .long hsh])), (qw, .inl ((vv_k x).2.1.1, 456, .inl (upd (upd wf (19 + 2 * cC) lg) (20 + 2 * cC) cm))), (qs, .inl ((vv_k x).2.1.1, 3, .inl ss))]) F dX8_came_85 rfl (vv_ixP (j := (20 + 2 * cC)) (by have hz := (nn_add (nn_add (by decide : (19 : Int32).toInt = ((19 : Nat) : Int)) (nn_mul (by decide : (2 : Int32).toInt = ((2 : Nat) : Int)) hcC (by omega)) (by omega)) (by decide : (1 : Int32).toInt = ((1 : Nat) : Int)) (by omega)); omega) (by omega)) rfl ?_
        refine vv_aload_n F dX8_came_86 rfl rfl ?_
        refine vv_get 0 F fl_X8_7 dX8_came_87 rfl rfl ?_
        refine vv_bipush (v := 18) F dX8_came_90 (by decide) ?_
        refine vv_dup2_11 F dX8_came_92 rfl rfl ?_
        refine vv_iald 1 F dX8_came_93 rfl (vv_ixP (j := 18) (by decide) (by decide)) ?_
        refine vv_topi (wf 18) ((pk_un (by omega)).trans (pk_un (by omega))) ?_
        refine vv_iconst (v := 1) F dX8_came_94 (by decide) ?_
        refine vv_iadd F dX8_came_95 ?_
        refine vv_iast 1 (ws' := [(qm, .inr (7, [.ref qw, .ref qk, .ref qt, .int txd, .long abv, .long blw, .ref qs, .int atp, .int stp, .int nbr, .ref qi, .ref qp, .ref qh, .ref qb, .int bmy, .ref qa, .ref q6, .long hsh])), (qw, .inl ((vv_k x).2.1.1, 456, .inl (upd (upd (upd wf (19 + 2 * cC) lg) (20 + 2 * cC) cm) 18 ((wf 18) + 1)))), (qs, .inl ((vv_k x).2.1.1, 3, .inl ss))]) F dX8_came_96 rfl (vv_ixP (j := 18) (by decide) (by decide)) rfl ?_
        refine vv_aload_n F dX8_came_97 rfl rfl ?_
        refine vv_get 0 F fl_X8_7 dX8_came_98 rfl rfl ?_
        refine vv_bipush (v := 18) F dX8_came_101 (by decide) ?_
        refine vv_iald 1 F dX8_came_103 rfl (vv_ixP (j := 18) (by decide) (by decide)) ?_
        refine vv_topi ((wf 18) + 1) (pk_us) ?_
        exact vv_iret F hR dX8_came_104 (congrArg (fun z => some (Value.int z)) ((if_pos h_1).trans ((if_pos h_2).trans ((if_neg h_3).trans rfl)))) (by simp only [g_X8_came_1, g_X8_came_2, if_pos h_1, if_pos h_2, if_neg h_3])
      · refine vv_aload_n F dX8_came_43 rfl rfl ?_
        refine vv_callV (As := []) (rest := []) [0, 2] 0 (ws' := [(qm, .inr (7, [.ref qw, .ref qk, .ref qt, .int txd, .long abv, .long blw, .ref qs, .int atp, .int stp, .int nbr, .ref qi, .ref qp, .ref qh, .ref qb, .int bmy, .ref qa, .ref q6, .long hsh])), (qw, .inl ((vv_k x).2.1.1, 456, .inl wf)), (qs, .inl ((vv_k x).2.1.1, 3, .inl (upd ss 2 ((ss 2) + 1))))]) F (c_X8_full (vv_l x) (vv_k x) qm qw qk qt txd abv blw qs atp stp nbr qi qp qh qb bmy qa q6 hsh ss) mv_X8_87 dX8_came_44 (by decide) rfl rfl (Nat.le_of_ble_eq_true rfl) rfl (by decide) (Eq.trans (b := [qm, qs]) rfl rfl) rfl rfl ?_
        exact vv_iret F hR dX8_came_47 (congrArg (fun z => some (Value.int z)) ((if_pos h_1).trans ((if_pos h_2).trans ((if_pos h_3).trans rfl)))) (by simp only [g_X8_came_1, g_X8_came_2, if_pos h_1, if_pos h_2, if_pos h_3])
    · refine vv_aload_n F dX8_came_24 rfl rfl ?_
      refine vv_bipush (v := (-2)) F dX8_came_25 (by decide) ?_
      refine vv_callV (As := [.int (-2)]) (rest := []) [0, 2] 0 (ws' := [(qm, .inr (7, [.ref qw, .ref qk, .ref qt, .int txd, .long abv, .long blw, .ref qs, .int atp, .int stp, .int nbr, .ref qi, .ref qp, .ref qh, .ref qb, .int bmy, .ref qa, .ref q6, .long hsh])), (qw, .inl ((vv_k x).2.1.1, 456, .inl wf)), (qs, .inl ((vv_k x).2.1.1, 3, .inl (upd ss 0 ((ss 0) + 1))))]) F (c_X8_bad (vv_l x) (vv_k x) qm qw qk qt txd abv blw qs atp stp nbr qi qp qh qb bmy qa q6 hsh ss (-2)) mv_X8_78 dX8_came_27 (by decide) rfl rfl (Nat.le_of_ble_eq_true rfl) rfl (by decide) (Eq.trans (b := [qm, qs]) rfl rfl) rfl rfl ?_
      exact vv_iret F hR dX8_came_30 (congrArg (fun z => some (Value.int z)) ((if_pos h_1).trans ((if_neg h_2).trans rfl))) (by simp only [g_X8_came_1, g_X8_came_2, if_pos h_1, if_neg h_2])
noncomputable def f_X8_note (wf : Nat → Int32) (i lg ho sh : Int32) : Int32 := (if p_X8_in i.toInt64 0 (((wf 0) - 1).toInt64) then (if p_X8_in lg.toInt64 1 60 then (if p_X8_in ho.toInt64 0 23 then (if p_X8_in sh.toInt64 0 200 then (if (wf 31) = 6 then (-4) else ((wf 31) + 1)) else (-2)) else (-2)) else (-2)) else (-2))
noncomputable def g_X8_note_1 (wf : Nat → Int32) (i lg ho sh : Int32) (cO : Nat) : Nat → Int32 := (if p_X8_in i.toInt64 0 (((wf 0) - 1).toInt64) then (if p_X8_in lg.toInt64 1 60 then (if p_X8_in ho.toInt64 0 23 then (if p_X8_in sh.toInt64 0 200 then (if (wf 31) = 6 then wf else (upd (upd (upd (upd (upd wf (32 + 4 * cO) i) (33 + 4 * cO) lg) (34 + 4 * cO) ho) (35 + 4 * cO) sh) 31 ((wf 31) + 1))) else wf) else wf) else wf) else wf)
noncomputable def g_X8_note_2 (wf ss : Nat → Int32) (i lg ho sh : Int32) : Nat → Int32 := (if p_X8_in i.toInt64 0 (((wf 0) - 1).toInt64) then (if p_X8_in lg.toInt64 1 60 then (if p_X8_in ho.toInt64 0 23 then (if p_X8_in sh.toInt64 0 200 then (if (wf 31) = 6 then (upd ss 2 ((ss 2) + 1)) else ss) else (upd ss 0 ((ss 0) + 1))) else (upd ss 0 ((ss 0) + 1))) else (upd ss 0 ((ss 0) + 1))) else (upd ss 0 ((ss 0) + 1)))
theorem c_X8_note (l : Launch) (K : vv_K) (qm qw qk qt : Nat) (txd : Int32) (abv blw : Int64) (qs : Nat) (atp stp nbr : Int32) (qi qp qh qb : Nat) (bmy : Int32) (qa q6 : Nat) (hsh : Int64) (wf ss : Nat → Int32) (i lg ho sh : Int32) (cN cO : Nat) (hcN : ((wf 0)).toInt = (cN : Int)) (hcO : ((wf 31)).toInt = (cO : Int)) (hcN5 : cN ≤ 5) (hcO6 : cO ≤ 6)  : vv_C l K 3 yX8_note cX8_note 6 (some .int) [.ref qm, .int i, .int lg, .int ho, .int sh] [(qm, .inr (7, [.ref qw, .ref qk, .ref qt, .int txd, .long abv, .long blw, .ref qs, .int atp, .int stp, .int nbr, .ref qi, .ref qp, .ref qh, .ref qb, .int bmy, .ref qa, .ref q6, .long hsh])), (qw, .inl (K.2.1.1, 456, .inl wf)), (qs, .inl (K.2.1.1, 3, .inl ss))] (some (.int (f_X8_note wf i lg ho sh))) [(qm, .inr (7, [.ref qw, .ref qk, .ref qt, .int txd, .long abv, .long blw, .ref qs, .int atp, .int stp, .int nbr, .ref qi, .ref qp, .ref qh, .ref qb, .int bmy, .ref qa, .ref q6, .long hsh])), (qw, .inl (K.2.1.1, 456, .inl (g_X8_note_1 wf i lg ho sh cO))), (qs, .inl (K.2.1.1, 3, .inl (g_X8_note_2 wf ss i lg ho sh)))] := by
  refine vv_C.of (lv := [(0, .ref qm), (1, .int i), (2, .int lg), (3, .int ho), (4, .int sh)]) (by decide +kernel) (Nat.le_of_ble_eq_true rfl) rfl ?_
  intro x hl hK F hR; subst hl; obtain rfl := hK
  refine vv_aload_n F dX8_note_0 rfl rfl ?_
  refine vv_iload_n F dX8_note_1 rfl rfl ?_
  refine vv_callVp (As := [.int i]) (rest := []) [0, 1] 0 F (c_X8_isString (vv_l x) (vv_k x) qm qw qk qt txd abv blw qs atp stp nbr qi qp qh qb bmy qa q6 hsh wf i) mv_X8_197 dX8_note_2 (by decide) rfl rfl (Nat.le_of_ble_eq_true rfl) rfl (by decide) rfl ?_
  refine vv_ifz_eq (tgt := 45) F dX8_note_5 (by decide) (fun h_1 => ?_) (fun h_1 => ?_)
  · refine vv_aload_n F dX8_note_45 rfl rfl ?_
    refine vv_bipush (v := (-2)) F dX8_note_46 (by decide) ?_
    refine vv_callV (As := [.int (-2)]) (rest := []) [0, 2] 0 (ws' := [(qm, .inr (7, [.ref qw, .ref qk, .ref qt, .int txd, .long abv, .long blw, .ref qs, .int atp, .int stp, .int nbr, .ref qi, .ref qp, .ref qh, .ref qb, .int bmy, .ref qa, .ref q6, .long hsh])), (qw, .inl ((vv_k x).2.1.1, 456, .inl wf)), (qs, .inl ((vv_k x).2.1.1, 3, .inl (upd ss 0 ((ss 0) + 1))))]) F (c_X8_bad (vv_l x) (vv_k x) qm qw qk qt txd abv blw qs atp stp nbr qi qp qh qb bmy qa q6 hsh ss (-2)) mv_X8_78 dX8_note_48 (by decide) rfl rfl (Nat.le_of_ble_eq_true rfl) rfl (by decide) (Eq.trans (b := [qm, qs]) rfl rfl) rfl rfl ?_
    exact vv_iret F hR dX8_note_51 (congrArg (fun z => some (Value.int z)) ((if_neg h_1).trans rfl)) (by simp only [g_X8_note_1, g_X8_note_2, if_neg h_1])
  · have h_1r := in_rngS hcN h_1
    have h_1c := nn_cl (a := i) (by omega)
    refine vv_iload_n F dX8_note_8 rfl rfl ?_
    refine vv_i2l F dX8_note_9 ?_
    refine vv_lconst (v := 1) F dX8_note_10 (by decide) ?_
    refine vv_ldc2 F cl_X8_74 dX8_note_11 ?_
    refine vv_callSp (As := [.long lg.toInt64, .long 1, .long 60]) (rest := []) [] F (c_X8_in (vv_l x) (vv_k x) lg.toInt64 1 60) ms_X8_56 dX8_note_14 (by decide) rfl rfl (Nat.le_of_ble_eq_true rfl) rfl (by decide) ?_
    refine vv_ifz_eq (tgt := 45) F dX8_note_17 (by decide) (fun h_2 => ?_) (fun h_2 => ?_)
    · refine vv_aload_n F dX8_note_45 rfl rfl ?_
      refine vv_bipush (v := (-2)) F dX8_note_46 (by decide) ?_
      refine vv_callV (As := [.int (-2)]) (rest := []) [0, 2] 0 (ws' := [(qm, .inr (7, [.ref qw, .ref qk, .ref qt, .int txd, .long abv, .long blw, .ref qs, .int atp, .int stp, .int nbr, .ref qi, .ref qp, .ref qh, .ref qb, .int bmy, .ref qa, .ref q6, .long hsh])), (qw, .inl ((vv_k x).2.1.1, 456, .inl wf)), (qs, .inl ((vv_k x).2.1.1, 3, .inl (upd ss 0 ((ss 0) + 1))))]) F (c_X8_bad (vv_l x) (vv_k x) qm qw qk qt txd abv blw qs atp stp nbr qi qp qh qb bmy qa q6 hsh ss (-2)) mv_X8_78 dX8_note_48 (by decide) rfl rfl (Nat.le_of_ble_eq_true rfl) rfl (by decide) (Eq.trans (b := [qm, qs]) rfl rfl) rfl rfl ?_
      exact vv_iret F hR dX8_note_51 (congrArg (fun z => some (Value.int z)) ((if_pos h_1).trans ((if_neg h_2).trans rfl))) (by simp only [g_X8_note_1, g_X8_note_2, if_pos h_1, if_neg h_2])
    · have h_2r := in_rng (a := 1) (b := 60) (by decide) (by decide) h_2
      have h_2c := nn_cl (a := lg) (by omega)
      refine vv_iload_n F dX8_note_20 rfl rfl ?_
      refine vv_i2l F dX8_note_21 ?_
      refine vv_lconst (v := 0) F dX8_note_22 (by decide) ?_
      refine vv_ldc2 F cl_X8_228 dX8_note_23 ?_
      refine vv_callSp (As := [.long ho.toInt64, .long 0, .long 23]) (rest := []) [] F (c_X8_in (vv_l x) (vv_k x) ho.toInt64 0 23) ms_X8_56 dX8_note_26 (by decide) rfl rfl (Nat.le_of_ble_eq_true rfl) rfl (by decide) ?_
      refine vv_ifz_eq (tgt := 45) F dX8_note_29 (by decide) (fun h_3 => ?_) (fun h_3 => ?_)
      · refine vv_aload_n F dX8_note_45 rfl rfl ?_
        refine vv_bipush (v := (-2)) F dX8_note_46 (by decide) ?_
        refine vv_callV (As := [.int (-2)]) (rest := []) [0, 2] 0 (ws' := [(qm, .inr (7, [.ref qw, .ref qk, .ref qt, .int txd, .long abv, .long blw, .ref qs, .int atp, .int stp, .int nbr, .ref qi, .ref qp, .ref qh, .ref qb, .int bmy, .ref qa, .ref q6, .long hsh])), (qw, .inl ((vv_k x).2.1.1, 456, .inl wf)), (qs, .inl ((vv_k x).2.1.1, 3, .inl (upd ss 0 ((ss 0) + 1))))]) F (c_X8_bad (vv_l x) (vv_k x) qm qw qk qt txd abv blw qs atp stp nbr qi qp qh qb bmy qa q6 hsh ss (-2)) mv_X8_78 dX8_note_48 (by decide) rfl rfl (Nat.le_of_ble_eq_true rfl) rfl (by decide) (Eq.trans (b := [qm, qs]) rfl rfl) rfl rfl ?_
        exact vv_iret F hR dX8_note_51 (congrArg (fun z => some (Value.int z)) ((if_pos h_1).trans ((if_pos h_2).trans ((if_neg h_3).trans rfl)))) (by simp only [g_X8_note_1, g_X8_note_2, if_pos h_1, if_pos h_2, if_neg h_3])
      · have h_3r := in_rng (a := 0) (b := 23) (by decide) (by decide) h_3
        have h_3c := nn_cl (a := ho) (by omega)
        refine vv_iload F dX8_note_32 rfl ?_
        refine vv_i2l F dX8_note_34 ?_
        refine vv_lconst (v := 0) F dX8_note_35 (by decide) ?_
        refine vv_ldc2 F cl_X8_230 dX8_note_36 ?_
        refine vv_callSp (As := [.long sh.toInt64, .long 0, .long 200]) (rest := []) [] F (c_X8_in (vv_l x) (vv_k x) sh.toInt64 0 200) ms_X8_56 dX8_note_39 (by decide) rfl rfl (Nat.le_of_ble_eq_true rfl) rfl (by decide) ?_
        refine vv_ifz_ne (tgt := 52) F dX8_note_42 (by decide) (fun h_4 => ?_) (fun h_4 => ?_)
        · have h_4r := in_rng (a := 0) (b := 200) (by decide) (by decide) h_4
          have h_4c := nn_cl (a := sh) (by omega)
          refine vv_aload_n F dX8_note_52 rfl rfl ?_
          refine vv_get 0 F fl_X8_7 dX8_note_53 rfl rfl ?_
          refine vv_bipush (v := 31) F dX8_note_56 (by decide) ?_
          refine vv_iald 1 F dX8_note_58 rfl (vv_ixP (j := 31) (by decide) (by decide)) ?_
          refine vv_bipush (v := 6) F dX8_note_59 (by decide) ?_
          refine vv_icmp_ne (tgt := 69) F dX8_note_61 (by decide) (fun h_5 => ?_) (fun h_5 => ?_)
          · have h6 : ¬ cO = 6 := mt (c_eq hcO (by decide : (6 : Int32).toInt = ((6 : Nat) : Int))).mpr h_5
            refine vv_bipush (v := 32) F dX8_note_69 (by decide) ?_
            refine vv_iconst (v := 4) F dX8_note_71 (by decide) ?_
            refine vv_aload_n F dX8_note_72 rfl rfl ?_
            refine vv_get 0 F fl_X8_7 dX8_note_73 rfl rfl ?_
            refine vv_bipush (v := 31) F dX8_note_76 (by decide) ?_
            refine vv_iald 1 F dX8_note_78 rfl (vv_ixP (j := 31) (by decide) (by decide)) ?_
            refine vv_imul F dX8_note_79 ?_
            refine vv_iadd F dX8_note_80 ?_
            refine vv_istore (lv' := [(5, .int (32 + (4 * (wf 31)))), (0, .ref qm), (1, .int i), (2, .int lg), (3, .int ho), (4, .int sh)]) F dX8_note_81 (by decide) rfl ?_
            refine vv_aload_n F dX8_note_83 rfl rfl ?_
            refine vv_get 0 F fl_X8_7 dX8_note_84 rfl rfl ?_
            refine vv_iload F dX8_note_87 rfl ?_
            refine vv_iload_n F dX8_note_89 rfl rfl ?_
            refine vv_iast 1 (ws' := [(qm, .inr (7, [.ref qw, .ref qk, .ref qt, .int txd, .long abv, .long blw, .ref qs, .int atp, .int stp, .int nbr, .ref qi, .ref qp, .ref qh, .ref qb, .int bmy, .ref qa, .ref q6, .long hsh])), (qw, .inl ((vv_k x).2.1.1, 456, .inl (upd wf (32 + 4 * cO) i))), (qs, .inl ((vv_k x).2.1.1, 3, .inl ss))]) F dX8_note_90 rfl (vv_ixP (j := (32 + 4 * cO)) (by have hz := (nn_add (by decide : (32 : Int32).toInt = ((32 : Nat) : Int)) (nn_mul (by decide : (4 : Int32).toInt = ((4 : Nat) : Int)) hcO (by omega)) (by omega)); omega) (by omega)) rfl ?_
            refine vv_aload_n F dX8_note_91 rfl rfl ?_
            refine vv_get 0 F fl_X8_7 dX8_note_92 rfl rfl ?_
            refine vv_iload F dX8_note_95 rfl ?_
            refine vv_iconst (v := 1) F dX8_note_97 (by decide) ?_
            refine vv_iadd F dX8_note_98 ?_
            refine vv_iload_n F dX8_note_99 rfl rfl ?_
            refine vv_iast 1 (ws' := [(qm, .inr (7, [.ref qw, .ref qk, .ref qt, .int txd, .long abv, .long blw, .ref qs, .int atp, .int stp, .int nbr, .ref qi, .ref qp, .ref qh, .ref qb, .int bmy, .ref qa, .ref q6, .long hsh])), (qw, .inl ((vv_k x).2.1.1, 456, .inl (upd (upd wf (32 + 4 * cO) i) (33 + 4 * cO) lg))), (qs, .inl ((vv_k x).2.1.1, 3, .inl ss))]) F dX8_note_100 rfl (vv_ixP (j := (33 + 4 * cO)) (by have hz := (nn_add (nn_add (by decide : (32 : Int32).toInt = ((32 : Nat) : Int)) (nn_mul (by decide : (4 : Int32).toInt = ((4 : Nat) : Int)) hcO (by omega)) (by omega)) (by decide : (1 : Int32).toInt = ((1 : Nat) : Int)) (by omega)); omega) (by omega)) rfl ?_
            refine vv_aload_n F dX8_note_101 rfl rfl ?_
            refine vv_get 0 F fl_X8_7 dX8_note_102 rfl rfl ?_
            refine vv_iload F dX8_note_105 rfl ?_
            refine vv_iconst (v := 2) F dX8_note_107 (by decide) ?_
            refine vv_iadd F dX8_note_108 ?_
            refine vv_iload_n F dX8_note_109 rfl rfl ?_
            refine vv_iast 1 (ws' := [(qm, .inr (7, [.ref qw, .ref qk, .ref qt, .int txd, .long abv, .long blw, .ref qs, .int atp, .int stp, .int nbr, .ref qi, .ref qp, .ref qh, .ref qb, .int bmy, .ref qa, .ref q6, .long hsh])), (qw, .inl ((vv_k x).2.1.1, 456, .inl (upd (upd (upd wf (32 + 4 * cO) i) (33 + 4 * cO) lg) (34 + 4 * cO) ho))), (qs, .inl ((vv_k x).2.1.1, 3, .inl ss))]) F dX8_note_110 rfl (vv_ixP (j := (34 + 4 * cO)) (by have hz := (nn_add (nn_add (by decide : (32 : Int32).toInt = ((32 : Nat) : Int)) (nn_mul (by decide : (4 : Int32).toInt = ((4 : Nat) : Int)) hcO (by omega)) (by omega)) (by decide : (2 : Int32).toInt = ((2 : Nat) : Int)) (by omega)); omega) (by omega)) rfl ?_
            refine vv_aload_n F dX8_note_111 rfl rfl ?_
            refine vv_get 0 F fl_X8_7 dX8_note_112 rfl rfl ?_
            refine vv_iload F dX8_note_115 rfl ?_
            refine vv_iconst (v := 3) F dX8_note_117 (by decide) ?_
            refine vv_iadd F dX8_note_118 ?_
            refine vv_iload F dX8_note_119 rfl ?_
            refine vv_iast 1 (ws' := [(qm, .inr (7, [.ref qw, .ref qk, .ref qt, .int txd, .long abv, .long blw, .ref qs, .int atp, .int stp, .int nbr, .ref qi, .ref qp, .ref qh, .ref qb, .int bmy, .ref qa, .ref q6, .long hsh])), (qw, .inl ((vv_k x).2.1.1, 456, .inl (upd (upd (upd (upd wf (32 + 4 * cO) i) (33 + 4 * cO) lg) (34 + 4 * cO) ho) (35 + 4 * cO) sh))), (qs, .inl ((vv_k x).2.1.1, 3, .inl ss))]) F dX8_note_121 rfl (vv_ixP (j := (35 + 4 * cO)) (by have hz := (nn_add (nn_add (by decide : (32 : Int32).toInt = ((32 : Nat) : Int)) (nn_mul (by decide : (4 : Int32).toInt = ((4 : Nat) : Int)) hcO (by omega)) (by omega)) (by decide : (3 : Int32).toInt = ((3 : Nat) : Int)) (by omega)); omega) (by omega)) rfl ?_
            refine vv_aload_n F dX8_note_122 rfl rfl ?_
            refine vv_get 0 F fl_X8_7 dX8_note_123 rfl rfl ?_
            refine vv_bipush (v := 31) F dX8_note_126 (by decide) ?_
            refine vv_dup2_11 F dX8_note_128 rfl rfl ?_
            refine vv_iald 1 F dX8_note_129 rfl (vv_ixP (j := 31) (by decide) (by decide)) ?_
            refine vv_topi (wf 31) ((pk_un (by omega)).trans ((pk_un (by omega)).trans ((pk_un (by omega)).trans (pk_un (by omega))))) ?_
            refine vv_iconst (v := 1) F dX8_note_130 (by decide) ?_
            refine vv_iadd F dX8_note_131 ?_
            refine vv_iast 1 (ws' := [(qm, .inr (7, [.ref qw, .ref qk, .ref qt, .int txd, .long abv, .long blw, .ref qs, .int atp, .int stp, .int nbr, .ref qi, .ref qp, .ref qh, .ref qb, .int bmy, .ref qa, .ref q6, .long hsh])), (qw, .inl ((vv_k x).2.1.1, 456, .inl (upd (upd (upd (upd (upd wf (32 + 4 * cO) i) (33 + 4 * cO) lg) (34 + 4 * cO) ho) (35 + 4 * cO) sh) 31 ((wf 31) + 1)))), (qs, .inl ((vv_k x).2.1.1, 3, .inl ss))]) F dX8_note_132 rfl (vv_ixP (j := 31) (by decide) (by decide)) rfl ?_
            refine vv_aload_n F dX8_note_133 rfl rfl ?_
            refine vv_get 0 F fl_X8_7 dX8_note_134 rfl rfl ?_
            refine vv_bipush (v := 31) F dX8_note_137 (by decide) ?_
            refine vv_iald 1 F dX8_note_139 rfl (vv_ixP (j := 31) (by decide) (by decide)) ?_
            refine vv_topi ((wf 31) + 1) (pk_us) ?_
            exact vv_iret F hR dX8_note_140 (congrArg (fun z => some (Value.int z)) ((if_pos h_1).trans ((if_pos h_2).trans ((if_pos h_3).trans ((if_pos h_4).trans ((if_neg h_5).trans rfl)))))) (by simp only [g_X8_note_1, g_X8_note_2, if_pos h_1, if_pos h_2, if_pos h_3, if_pos h_4, if_neg h_5])
          · refine vv_aload_n F dX8_note_64 rfl rfl ?_
            refine vv_callV (As := []) (rest := []) [0, 2] 0 (ws' := [(qm, .inr (7, [.ref qw, .ref qk, .ref qt, .int txd, .long abv, .long blw, .ref qs, .int atp, .int stp, .int nbr, .ref qi, .ref qp, .ref qh, .ref qb, .int bmy, .ref qa, .ref q6, .long hsh])), (qw, .inl ((vv_k x).2.1.1, 456, .inl wf)), (qs, .inl ((vv_k x).2.1.1, 3, .inl (upd ss 2 ((ss 2) + 1))))]) F (c_X8_full (vv_l x) (vv_k x) qm qw qk qt txd abv blw qs atp stp nbr qi qp qh qb bmy qa q6 hsh ss) mv_X8_87 dX8_note_65 (by decide) rfl rfl (Nat.le_of_ble_eq_true rfl) rfl (by decide) (Eq.trans (b := [qm, qs]) rfl rfl) rfl rfl ?_
            exact vv_iret F hR dX8_note_68 (congrArg (fun z => some (Value.int z)) ((if_pos h_1).trans ((if_pos h_2).trans ((if_pos h_3).trans ((if_pos h_4).trans ((if_pos h_5).trans rfl)))))) (by simp only [g_X8_note_1, g_X8_note_2, if_pos h_1, if_pos h_2, if_pos h_3, if_pos h_4, if_pos h_5])
        · refine vv_aload_n F dX8_note_45 rfl rfl ?_
          refine vv_bipush (v := (-2)) F dX8_note_46 (by decide) ?_
          refine vv_callV (As := [.int (-2)]) (rest := []) [0, 2] 0 (ws' := [(qm, .inr (7, [.ref qw, .ref qk, .ref qt, .int txd, .long abv, .long blw, .ref qs, .int atp, .int stp, .int nbr, .ref qi, .ref qp, .ref qh, .ref qb, .int bmy, .ref qa, .ref q6, .long hsh])), (qw, .inl ((vv_k x).2.1.1, 456, .inl wf)), (qs, .inl ((vv_k x).2.1.1, 3, .inl (upd ss 0 ((ss 0) + 1))))]) F (c_X8_bad (vv_l x) (vv_k x) qm qw qk qt txd abv blw qs atp stp nbr qi qp qh qb bmy qa q6 hsh ss (-2)) mv_X8_78 dX8_note_48 (by decide) rfl rfl (Nat.le_of_ble_eq_true rfl) rfl (by decide) (Eq.trans (b := [qm, qs]) rfl rfl) rfl rfl ?_
          exact vv_iret F hR dX8_note_51 (congrArg (fun z => some (Value.int z)) ((if_pos h_1).trans ((if_pos h_2).trans ((if_pos h_3).trans ((if_neg h_4).trans rfl))))) (by simp only [g_X8_note_1, g_X8_note_2, if_pos h_1, if_pos h_2, if_pos h_3, if_neg h_4])
noncomputable def f_X8_mark (wf : Nat → Int32) (hs sh dy cg : Int32) : Int32 := (if p_X8_in hs.toInt64 0 1 then (if p_X8_in sh.toInt64 0 99 then (if p_X8_in dy.toInt64 0 99 then (if p_X8_in cg.toInt64 0 200 then (if (wf 56) = 6 then (-4) else ((wf 56) + 1)) else (-2)) else (-2)) else (-2)) else (-2))
noncomputable def g_X8_mark_1 (wf : Nat → Int32) (hs sh dy cg : Int32) (cM : Nat) : Nat → Int32 := (if p_X8_in hs.toInt64 0 1 then (if p_X8_in sh.toInt64 0 99 then (if p_X8_in dy.toInt64 0 99 then (if p_X8_in cg.toInt64 0 200 then (if (wf 56) = 6 then wf else (upd (upd (upd (upd (upd wf (57 + 4 * cM) hs) (58 + 4 * cM) sh) (59 + 4 * cM) dy) (60 + 4 * cM) cg) 56 ((wf 56) + 1))) else wf) else wf) else wf) else wf)
noncomputable def g_X8_mark_2 (wf ss : Nat → Int32) (hs sh dy cg : Int32) : Nat → Int32 := (if p_X8_in hs.toInt64 0 1 then (if p_X8_in sh.toInt64 0 99 then (if p_X8_in dy.toInt64 0 99 then (if p_X8_in cg.toInt64 0 200 then (if (wf 56) = 6 then (upd ss 2 ((ss 2) + 1)) else ss) else (upd ss 0 ((ss 0) + 1))) else (upd ss 0 ((ss 0) + 1))) else (upd ss 0 ((ss 0) + 1))) else (upd ss 0 ((ss 0) + 1)))
theorem c_X8_mark (l : Launch) (K : vv_K) (qm qw qk qt : Nat) (txd : Int32) (abv blw : Int64) (qs : Nat) (atp stp nbr : Int32) (qi qp qh qb : Nat) (bmy : Int32) (qa q6 : Nat) (hsh : Int64) (wf ss : Nat → Int32) (hs sh dy cg : Int32) (cM : Nat) (hcM : ((wf 56)).toInt = (cM : Int)) (hcM6 : cM ≤ 6)  : vv_C l K 3 yX8_mark cX8_mark 6 (some .int) [.ref qm, .int hs, .int sh, .int dy, .int cg] [(qm, .inr (7, [.ref qw, .ref qk, .ref qt, .int txd, .long abv, .long blw, .ref qs, .int atp, .int stp, .int nbr, .ref qi, .ref qp, .ref qh, .ref qb, .int bmy, .ref qa, .ref q6, .long hsh])), (qw, .inl (K.2.1.1, 456, .inl wf)), (qs, .inl (K.2.1.1, 3, .inl ss))] (some (.int (f_X8_mark wf hs sh dy cg))) [(qm, .inr (7, [.ref qw, .ref qk, .ref qt, .int txd, .long abv, .long blw, .ref qs, .int atp, .int stp, .int nbr, .ref qi, .ref qp, .ref qh, .ref qb, .int bmy, .ref qa, .ref q6, .long hsh])), (qw, .inl (K.2.1.1, 456, .inl (g_X8_mark_1 wf hs sh dy cg cM))), (qs, .inl (K.2.1.1, 3, .inl (g_X8_mark_2 wf ss hs sh dy cg)))] := by
  refine vv_C.of (lv := [(0, .ref qm), (1, .int hs), (2, .int sh), (3, .int dy), (4, .int cg)]) (by decide +kernel) (Nat.le_of_ble_eq_true rfl) rfl ?_
  intro x hl hK F hR; subst hl; obtain rfl := hK
  refine vv_iload_n F dX8_mark_0 rfl rfl ?_
  refine vv_callSp (As := [.int hs]) (rest := []) [] F (c_X8_isHouse (vv_l x) (vv_k x) hs) ms_X8_81 dX8_mark_1 (by decide) rfl rfl (Nat.le_of_ble_eq_true rfl) rfl (by decide) ?_
  refine vv_ifz_eq (tgt := 44) F dX8_mark_4 (by decide) (fun h_1 => ?_) (fun h_1 => ?_)
  · refine vv_aload_n F dX8_mark_44 rfl rfl ?_
    refine vv_bipush (v := (-2)) F dX8_mark_45 (by decide) ?_
    refine vv_callV (As := [.int (-2)]) (rest := []) [0, 2] 0 (ws' := [(qm, .inr (7, [.ref qw, .ref qk, .ref qt, .int txd, .long abv, .long blw, .ref qs, .int atp, .int stp, .int nbr, .ref qi, .ref qp, .ref qh, .ref qb, .int bmy, .ref qa, .ref q6, .long hsh])), (qw, .inl ((vv_k x).2.1.1, 456, .inl wf)), (qs, .inl ((vv_k x).2.1.1, 3, .inl (upd ss 0 ((ss 0) + 1))))]) F (c_X8_bad (vv_l x) (vv_k x) qm qw qk qt txd abv blw qs atp stp nbr qi qp qh qb bmy qa q6 hsh ss (-2)) mv_X8_78 dX8_mark_47 (by decide) rfl rfl (Nat.le_of_ble_eq_true rfl) rfl (by decide) (Eq.trans (b := [qm, qs]) rfl rfl) rfl rfl ?_
    exact vv_iret F hR dX8_mark_50 (congrArg (fun z => some (Value.int z)) ((if_neg h_1).trans rfl)) (by simp only [g_X8_mark_1, g_X8_mark_2, if_neg h_1])
  · have h_1r := in_rng (a := 0) (b := 1) (by decide) (by decide) h_1
    have h_1c := nn_cl (a := hs) (by omega)
    refine vv_iload_n F dX8_mark_7 rfl rfl ?_
    refine vv_i2l F dX8_mark_8 ?_
    refine vv_lconst (v := 0) F dX8_mark_9 (by decide) ?_
    refine vv_ldc2 F cl_X8_206 dX8_mark_10 ?_
    refine vv_callSp (As := [.long sh.toInt64, .long 0, .long 99]) (rest := []) [] F (c_X8_in (vv_l x) (vv_k x) sh.toInt64 0 99) ms_X8_56 dX8_mark_13 (by decide) rfl rfl (Nat.le_of_ble_eq_true rfl) rfl (by decide) ?_
    refine vv_ifz_eq (tgt := 44) F dX8_mark_16 (by decide) (fun h_2 => ?_) (fun h_2 => ?_)
    · refine vv_aload_n F dX8_mark_44 rfl rfl ?_
      refine vv_bipush (v := (-2)) F dX8_mark_45 (by decide) ?_
      refine vv_callV (As := [.int (-2)]) (rest := []) [0, 2] 0 (ws' := [(qm, .inr (7, [.ref qw, .ref qk, .ref qt, .int txd, .long abv, .long blw, .ref qs, .int atp, .int stp, .int nbr, .ref qi, .ref qp, .ref qh, .ref qb, .int bmy, .ref qa, .ref q6, .long hsh])), (qw, .inl ((vv_k x).2.1.1, 456, .inl wf)), (qs, .inl ((vv_k x).2.1.1, 3, .inl (upd ss 0 ((ss 0) + 1))))]) F (c_X8_bad (vv_l x) (vv_k x) qm qw qk qt txd abv blw qs atp stp nbr qi qp qh qb bmy qa q6 hsh ss (-2)) mv_X8_78 dX8_mark_47 (by decide) rfl rfl (Nat.le_of_ble_eq_true rfl) rfl (by decide) (Eq.trans (b := [qm, qs]) rfl rfl) rfl rfl ?_
      exact vv_iret F hR dX8_mark_50 (congrArg (fun z => some (Value.int z)) ((if_pos h_1).trans ((if_neg h_2).trans rfl))) (by simp only [g_X8_mark_1, g_X8_mark_2, if_pos h_1, if_neg h_2])
    · have h_2r := in_rng (a := 0) (b := 99) (by decide) (by decide) h_2
      have h_2c := nn_cl (a := sh) (by omega)
      refine vv_iload_n F dX8_mark_19 rfl rfl ?_
      refine vv_i2l F dX8_mark_20 ?_
      refine vv_lconst (v := 0) F dX8_mark_21 (by decide) ?_
      refine vv_ldc2 F cl_X8_206 dX8_mark_22 ?_
      refine vv_callSp (As := [.long dy.toInt64, .long 0, .long 99]) (rest := []) [] F (c_X8_in (vv_l x) (vv_k x) dy.toInt64 0 99) ms_X8_56 dX8_mark_25 (by decide) rfl rfl (Nat.le_of_ble_eq_true rfl) rfl (by decide) ?_
      refine vv_ifz_eq (tgt := 44) F dX8_mark_28 (by decide) (fun h_3 => ?_) (fun h_3 => ?_)
      · refine vv_aload_n F dX8_mark_44 rfl rfl ?_
        refine vv_bipush (v := (-2)) F dX8_mark_45 (by decide) ?_
        refine vv_callV (As := [.int (-2)]) (rest := []) [0, 2] 0 (ws' := [(qm, .inr (7, [.ref qw, .ref qk, .ref qt, .int txd, .long abv, .long blw, .ref qs, .int atp, .int stp, .int nbr, .ref qi, .ref qp, .ref qh, .ref qb, .int bmy, .ref qa, .ref q6, .long hsh])), (qw, .inl ((vv_k x).2.1.1, 456, .inl wf)), (qs, .inl ((vv_k x).2.1.1, 3, .inl (upd ss 0 ((ss 0) + 1))))]) F (c_X8_bad (vv_l x) (vv_k x) qm qw qk qt txd abv blw qs atp stp nbr qi qp qh qb bmy qa q6 hsh ss (-2)) mv_X8_78 dX8_mark_47 (by decide) rfl rfl (Nat.le_of_ble_eq_true rfl) rfl (by decide) (Eq.trans (b := [qm, qs]) rfl rfl) rfl rfl ?_
        exact vv_iret F hR dX8_mark_50 (congrArg (fun z => some (Value.int z)) ((if_pos h_1).trans ((if_pos h_2).trans ((if_neg h_3).trans rfl)))) (by simp only [g_X8_mark_1, g_X8_mark_2, if_pos h_1, if_pos h_2, if_neg h_3])
      · have h_3r := in_rng (a := 0) (b := 99) (by decide) (by decide) h_3
        have h_3c := nn_cl (a := dy) (by omega)
        refine vv_iload F dX8_mark_31 rfl ?_
        refine vv_i2l F dX8_mark_33 ?_
        refine vv_lconst (v := 0) F dX8_mark_34 (by decide) ?_
        refine vv_ldc2 F cl_X8_230 dX8_mark_35 ?_
        refine vv_callSp (As := [.long cg.toInt64, .long 0, .long 200]) (rest := []) [] F (c_X8_in (vv_l x) (vv_k x) cg.toInt64 0 200) ms_X8_56 dX8_mark_38 (by decide) rfl rfl (Nat.le_of_ble_eq_true rfl) rfl (by decide) ?_
        refine vv_ifz_ne (tgt := 51) F dX8_mark_41 (by decide) (fun h_4 => ?_) (fun h_4 => ?_)
        · have h_4r := in_rng (a := 0) (b := 200) (by decide) (by decide) h_4
          have h_4c := nn_cl (a := cg) (by omega)
          refine vv_aload_n F dX8_mark_51 rfl rfl ?_
          refine vv_get 0 F fl_X8_7 dX8_mark_52 rfl rfl ?_
          refine vv_bipush (v := 56) F dX8_mark_55 (by decide) ?_
          refine vv_iald 1 F dX8_mark_57 rfl (vv_ixP (j := 56) (by decide) (by decide)) ?_
          refine vv_bipush (v := 6) F dX8_mark_58 (by decide) ?_
          refine vv_icmp_ne (tgt := 68) F dX8_mark_60 (by decide) (fun h_5 => ?_) (fun h_5 => ?_)
          · have h6 : ¬ cM = 6 := mt (c_eq hcM (by decide : (6 : Int32).toInt = ((6 : Nat) : Int))).mpr h_5
            refine vv_bipush (v := 57) F dX8_mark_68 (by decide) ?_
            refine vv_iconst (v := 4) F dX8_mark_70 (by decide) ?_
            refine vv_aload_n F dX8_mark_71 rfl rfl ?_
            refine vv_get 0 F fl_X8_7 dX8_mark_72 rfl rfl ?_
            refine vv_bipush (v := 56) F dX8_mark_75 (by decide) ?_
            refine vv_iald 1 F dX8_mark_77 rfl (vv_ixP (j := 56) (by decide) (by decide)) ?_
            refine vv_imul F dX8_mark_78 ?_
            refine vv_iadd F dX8_mark_79 ?_
            refine vv_istore (lv' := [(5, .int (57 + (4 * (wf 56)))), (0, .ref qm), (1, .int hs), (2, .int sh), (3, .int dy), (4, .int cg)]) F dX8_mark_80 (by decide) rfl ?_
            refine vv_aload_n F dX8_mark_82 rfl rfl ?_
            refine vv_get 0 F fl_X8_7 dX8_mark_83 rfl rfl ?_
            refine vv_iload F dX8_mark_86 rfl ?_
            refine vv_iload_n F dX8_mark_88 rfl rfl ?_
            refine vv_iast 1 (ws' := [(qm, .inr (7, [.ref qw, .ref qk, .ref qt, .int txd, .long abv, .long blw, .ref qs, .int atp, .int stp, .int nbr, .ref qi, .ref qp, .ref qh, .ref qb, .int bmy, .ref qa, .ref q6, .long hsh])), (qw, .inl ((vv_k x).2.1.1, 456, .inl (upd wf (57 + 4 * cM) hs))), (qs, .inl ((vv_k x).2.1.1, 3, .inl ss))]) F dX8_mark_89 rfl (vv_ixP (j := (57 + 4 * cM)) (by have hz := (nn_add (by decide : (57 : Int32).toInt = ((57 : Nat) : Int)) (nn_mul (by decide : (4 : Int32).toInt = ((4 : Nat) : Int)) hcM (by omega)) (by omega)); omega) (by omega)) rfl ?_
            refine vv_aload_n F dX8_mark_90 rfl rfl ?_
            refine vv_get 0 F fl_X8_7 dX8_mark_91 rfl rfl ?_
            refine vv_iload F dX8_mark_94 rfl ?_
            refine vv_iconst (v := 1) F dX8_mark_96 (by decide) ?_
            refine vv_iadd F dX8_mark_97 ?_
            refine vv_iload_n F dX8_mark_98 rfl rfl ?_
            refine vv_iast 1 (ws' := [(qm, .inr (7, [.ref qw, .ref qk, .ref qt, .int txd, .long abv, .long blw, .ref qs, .int atp, .int stp, .int nbr, .ref qi, .ref qp, .ref qh, .ref qb, .int bmy, .ref qa, .ref q6, .long hsh])), (qw, .inl ((vv_k x).2.1.1, 456, .inl (upd (upd wf (57 + 4 * cM) hs) (58 + 4 * cM) sh))), (qs, .inl ((vv_k x).2.1.1, 3, .inl ss))]) F dX8_mark_99 rfl (vv_ixP (j := (58 + 4 * cM)) (by have hz := (nn_add (nn_add (by decide : (57 : Int32).toInt = ((57 : Nat) : Int)) (nn_mul (by decide : (4 : Int32).toInt = ((4 : Nat) : Int)) hcM (by omega)) (by omega)) (by decide : (1 : Int32).toInt = ((1 : Nat) : Int)) (by omega)); omega) (by omega)) rfl ?_
            refine vv_aload_n F dX8_mark_100 rfl rfl ?_
            refine vv_get 0 F fl_X8_7 dX8_mark_101 rfl rfl ?_
            refine vv_iload F dX8_mark_104 rfl ?_
            refine vv_iconst (v := 2) F dX8_mark_106 (by decide) ?_
            refine vv_iadd F dX8_mark_107 ?_
            refine vv_iload_n F dX8_mark_108 rfl rfl ?_
            refine vv_iast 1 (ws' := [(qm, .inr (7, [.ref qw, .ref qk, .ref qt, .int txd, .long abv, .long blw, .ref qs, .int atp, .int stp, .int nbr, .ref qi, .ref qp, .ref qh, .ref qb, .int bmy, .ref qa, .ref q6, .long hsh])), (qw, .inl ((vv_k x).2.1.1, 456, .inl (upd (upd (upd wf (57 + 4 * cM) hs) (58 + 4 * cM) sh) (59 + 4 * cM) dy))), (qs, .inl ((vv_k x).2.1.1, 3, .inl ss))]) F dX8_mark_109 rfl (vv_ixP (j := (59 + 4 * cM)) (by have hz := (nn_add (nn_add (by decide : (57 : Int32).toInt = ((57 : Nat) : Int)) (nn_mul (by decide : (4 : Int32).toInt = ((4 : Nat) : Int)) hcM (by omega)) (by omega)) (by decide : (2 : Int32).toInt = ((2 : Nat) : Int)) (by omega)); omega) (by omega)) rfl ?_
            refine vv_aload_n F dX8_mark_110 rfl rfl ?_
            refine vv_get 0 F fl_X8_7 dX8_mark_111 rfl rfl ?_
            refine vv_iload F dX8_mark_114 rfl ?_
            refine vv_iconst (v := 3) F dX8_mark_116 (by decide) ?_
            refine vv_iadd F dX8_mark_117 ?_
            refine vv_iload F dX8_mark_118 rfl ?_
            refine vv_iast 1 (ws' := [(qm, .inr (7, [.ref qw, .ref qk, .ref qt, .int txd, .long abv, .long blw, .ref qs, .int atp, .int stp, .int nbr, .ref qi, .ref qp, .ref qh, .ref qb, .int bmy, .ref qa, .ref q6, .long hsh])), (qw, .inl ((vv_k x).2.1.1, 456, .inl (upd (upd (upd (upd wf (57 + 4 * cM) hs) (58 + 4 * cM) sh) (59 + 4 * cM) dy) (60 + 4 * cM) cg))), (qs, .inl ((vv_k x).2.1.1, 3, .inl ss))]) F dX8_mark_120 rfl (vv_ixP (j := (60 + 4 * cM)) (by have hz := (nn_add (nn_add (by decide : (57 : Int32).toInt = ((57 : Nat) : Int)) (nn_mul (by decide : (4 : Int32).toInt = ((4 : Nat) : Int)) hcM (by omega)) (by omega)) (by decide : (3 : Int32).toInt = ((3 : Nat) : Int)) (by omega)); omega) (by omega)) rfl ?_
            refine vv_aload_n F dX8_mark_121 rfl rfl ?_
            refine vv_get 0 F fl_X8_7 dX8_mark_122 rfl rfl ?_
            refine vv_bipush (v := 56) F dX8_mark_125 (by decide) ?_
            refine vv_dup2_11 F dX8_mark_127 rfl rfl ?_
            refine vv_iald 1 F dX8_mark_128 rfl (vv_ixP (j := 56) (by decide) (by decide)) ?_
            refine vv_topi (wf 56) ((pk_un (by omega)).trans ((pk_un (by omega)).trans ((pk_un (by omega)).trans (pk_un (by omega))))) ?_
            refine vv_iconst (v := 1) F dX8_mark_129 (by decide) ?_
            refine vv_iadd F dX8_mark_130 ?_
            refine vv_iast 1 (ws' := [(qm, .inr (7, [.ref qw, .ref qk, .ref qt, .int txd, .long abv, .long blw, .ref qs, .int atp, .int stp, .int nbr, .ref qi, .ref qp, .ref qh, .ref qb, .int bmy, .ref qa, .ref q6, .long hsh])), (qw, .inl ((vv_k x).2.1.1, 456, .inl (upd (upd (upd (upd (upd wf (57 + 4 * cM) hs) (58 + 4 * cM) sh) (59 + 4 * cM) dy) (60 + 4 * cM) cg) 56 ((wf 56) + 1)))), (qs, .inl ((vv_k x).2.1.1, 3, .inl ss))]) F dX8_mark_131 rfl (vv_ixP (j := 56) (by decide) (by decide)) rfl ?_
            refine vv_aload_n F dX8_mark_132 rfl rfl ?_
            refine vv_get 0 F fl_X8_7 dX8_mark_133 rfl rfl ?_
            refine vv_bipush (v := 56) F dX8_mark_136 (by decide) ?_
            refine vv_iald 1 F dX8_mark_138 rfl (vv_ixP (j := 56) (by decide) (by decide)) ?_
            refine vv_topi ((wf 56) + 1) (pk_us) ?_
            exact vv_iret F hR dX8_mark_139 (congrArg (fun z => some (Value.int z)) ((if_pos h_1).trans ((if_pos h_2).trans ((if_pos h_3).trans ((if_pos h_4).trans ((if_neg h_5).trans rfl)))))) (by simp only [g_X8_mark_1, g_X8_mark_2, if_pos h_1, if_pos h_2, if_pos h_3, if_pos h_4, if_neg h_5])
          · refine vv_aload_n F dX8_mark_63 rfl rfl ?_
            refine vv_callV (As := []) (rest := []) [0, 2] 0 (ws' := [(qm, .inr (7, [.ref qw, .ref qk, .ref qt, .int txd, .long abv, .long blw, .ref qs, .int atp, .int stp, .int nbr, .ref qi, .ref qp, .ref qh, .ref qb, .int bmy, .ref qa, .ref q6, .long hsh])), (qw, .inl ((vv_k x).2.1.1, 456, .inl wf)), (qs, .inl ((vv_k x).2.1.1, 3, .inl (upd ss 2 ((ss 2) + 1))))]) F (c_X8_full (vv_l x) (vv_k x) qm qw qk qt txd abv blw qs atp stp nbr qi qp qh qb bmy qa q6 hsh ss) mv_X8_87 dX8_mark_64 (by decide) rfl rfl (Nat.le_of_ble_eq_true rfl) rfl (by decide) (Eq.trans (b := [qm, qs]) rfl rfl) rfl rfl ?_
            exact vv_iret F hR dX8_mark_67 (congrArg (fun z => some (Value.int z)) ((if_pos h_1).trans ((if_pos h_2).trans ((if_pos h_3).trans ((if_pos h_4).trans ((if_pos h_5).trans rfl)))))) (by simp only [g_X8_mark_1, g_X8_mark_2, if_pos h_1, if_pos h_2, if_pos h_3, if_pos h_4, if_pos h_5])
        · refine vv_aload_n F dX8_mark_44 rfl rfl ?_
          refine vv_bipush (v := (-2)) F dX8_mark_45 (by decide) ?_
          refine vv_callV (As := [.int (-2)]) (rest := []) [0, 2] 0 (ws' := [(qm, .inr (7, [.ref qw, .ref qk, .ref qt, .int txd, .long abv, .long blw, .ref qs, .int atp, .int stp, .int nbr, .ref qi, .ref qp, .ref qh, .ref qb, .int bmy, .ref qa, .ref q6, .long hsh])), (qw, .inl ((vv_k x).2.1.1, 456, .inl wf)), (qs, .inl ((vv_k x).2.1.1, 3, .inl (upd ss 0 ((ss 0) + 1))))]) F (c_X8_bad (vv_l x) (vv_k x) qm qw qk qt txd abv blw qs atp stp nbr qi qp qh qb bmy qa q6 hsh ss (-2)) mv_X8_78 dX8_mark_47 (by decide) rfl rfl (Nat.le_of_ble_eq_true rfl) rfl (by decide) (Eq.trans (b := [qm, qs]) rfl rfl) rfl rfl ?_
          exact vv_iret F hR dX8_mark_50 (congrArg (fun z => some (Value.int z)) ((if_pos h_1).trans ((if_pos h_2).trans ((if_pos h_3).trans ((if_neg h_4).trans rfl))))) (by simp only [g_X8_mark_1, g_X8_mark_2, if_pos h_1, if_pos h_2, if_pos h_3, if_neg h_4])
noncomputable def f_X8_forget (wf : Nat → Int32) (wh : Int32) : Int32 := (if p_X8_in wh.toInt64 0 2 then (if wh = 0 then (wf 18) else (if wh = 1 then (wf 31) else (wf 56))) else (-2))
noncomputable def g_X8_forget_1 (wf : Nat → Int32) (wh : Int32) : Nat → Int32 := (if p_X8_in wh.toInt64 0 2 then (if wh = 0 then (upd wf 18 0) else (if wh = 1 then (upd wf 31 0) else (upd wf 56 0))) else wf)
noncomputable def g_X8_forget_2 (ss : Nat → Int32) (wh : Int32) : Nat → Int32 := (if p_X8_in wh.toInt64 0 2 then (if wh = 0 then ss else (if wh = 1 then ss else ss)) else (upd ss 0 ((ss 0) + 1)))
theorem c_X8_forget (l : Launch) (K : vv_K) (qm qw qk qt : Nat) (txd : Int32) (abv blw : Int64) (qs : Nat) (atp stp nbr : Int32) (qi qp qh qb : Nat) (bmy : Int32) (qa q6 : Nat) (hsh : Int64) (wf ss : Nat → Int32) (wh : Int32)  : vv_C l K 3 yX8_forget cX8_forget 4 (some .int) [.ref qm, .int wh] [(qm, .inr (7, [.ref qw, .ref qk, .ref qt, .int txd, .long abv, .long blw, .ref qs, .int atp, .int stp, .int nbr, .ref qi, .ref qp, .ref qh, .ref qb, .int bmy, .ref qa, .ref q6, .long hsh])), (qw, .inl (K.2.1.1, 456, .inl wf)), (qs, .inl (K.2.1.1, 3, .inl ss))] (some (.int (f_X8_forget wf wh))) [(qm, .inr (7, [.ref qw, .ref qk, .ref qt, .int txd, .long abv, .long blw, .ref qs, .int atp, .int stp, .int nbr, .ref qi, .ref qp, .ref qh, .ref qb, .int bmy, .ref qa, .ref q6, .long hsh])), (qw, .inl (K.2.1.1, 456, .inl (g_X8_forget_1 wf wh))), (qs, .inl (K.2.1.1, 3, .inl (g_X8_forget_2 ss wh)))] := by
  refine vv_C.of (lv := [(0, .ref qm), (1, .int wh)]) (by decide +kernel) (Nat.le_of_ble_eq_true rfl) rfl ?_
  intro x hl hK F hR; subst hl; obtain rfl := hK
  refine vv_iload_n F dX8_forget_0 rfl rfl ?_
  refine vv_i2l F dX8_forget_1 ?_
  refine vv_lconst (v := 0) F dX8_forget_2 (by decide) ?_
  refine vv_ldc2 F cl_X8_131 dX8_forget_3 ?_
  refine vv_callSp (As := [.long wh.toInt64, .long 0, .long 2]) (rest := []) [] F (c_X8_in (vv_l x) (vv_k x) wh.toInt64 0 2) ms_X8_56 dX8_forget_6 (by decide) rfl rfl (Nat.le_of_ble_eq_true rfl) rfl (by decide) ?_
  refine vv_ifz_ne (tgt := 19) F dX8_forget_9 (by decide) (fun h_1 => ?_) (fun h_1 => ?_)
  · have h_1r := in_rng (a := 0) (b := 2) (by decide) (by decide) h_1
    have h_1c := nn_cl (a := wh) (by omega)
    refine vv_iload_n F dX8_forget_19 rfl rfl ?_
    refine vv_if_ne (tgt := 28) F dX8_forget_20 (by decide) (fun h_2 => ?_) (fun h_2 => ?_)
    · refine vv_iload_n F dX8_forget_28 rfl rfl ?_
      refine vv_iconst (v := 1) F dX8_forget_29 (by decide) ?_
      refine vv_icmp_ne (tgt := 38) F dX8_forget_30 (by decide) (fun h_3 => ?_) (fun h_3 => ?_)
      · refine vv_bipush (v := 56) F dX8_forget_38 (by decide) ?_
        refine vv_istore_n (lv' := [(2, .int 56), (0, .ref qm), (1, .int wh)]) F dX8_forget_40 rfl (by decide) rfl ?_
        refine vv_aload_n F dX8_forget_41 rfl rfl ?_
        refine vv_get 0 F fl_X8_7 dX8_forget_42 rfl rfl ?_
        refine vv_iload_n F dX8_forget_45 rfl rfl ?_
        refine vv_iald 1 F dX8_forget_46 rfl (vv_ixP (j := 56) (by decide) (by decide)) ?_
        refine vv_istore_n (lv' := [(3, .int (wf 56)), (2, .int 56), (0, .ref qm), (1, .int wh)]) F dX8_forget_47 rfl (by decide) rfl ?_
        refine vv_aload_n F dX8_forget_48 rfl rfl ?_
        refine vv_get 0 F fl_X8_7 dX8_forget_49 rfl rfl ?_
        refine vv_iload_n F dX8_forget_52 rfl rfl ?_
        refine vv_iconst (v := 0) F dX8_forget_53 (by decide) ?_
        refine vv_iast 1 (ws' := [(qm, .inr (7, [.ref qw, .ref qk, .ref qt, .int txd, .long abv, .long blw, .ref qs, .int atp, .int stp, .int nbr, .ref qi, .ref qp, .ref qh, .ref qb, .int bmy, .ref qa, .ref q6, .long hsh])), (qw, .inl ((vv_k x).2.1.1, 456, .inl (upd wf 56 0))), (qs, .inl ((vv_k x).2.1.1, 3, .inl ss))]) F dX8_forget_54 rfl (vv_ixP (j := 56) (by decide) (by decide)) rfl ?_
        refine vv_iload_n F dX8_forget_55 rfl rfl ?_
        exact vv_iret F hR dX8_forget_56 (congrArg (fun z => some (Value.int z)) ((if_pos h_1).trans ((if_neg h_2).trans ((if_neg h_3).trans rfl)))) (by simp only [g_X8_forget_1, g_X8_forget_2, if_pos h_1, if_neg h_2, if_neg h_3])
      · refine vv_bipush (v := 31) F dX8_forget_33 (by decide) ?_
        refine vv_goto (tgt := 40) F dX8_forget_35 (by decide) ?_
        refine vv_istore_n (lv' := [(2, .int 31), (0, .ref qm), (1, .int wh)]) F dX8_forget_40 rfl (by decide) rfl ?_
        refine vv_aload_n F dX8_forget_41 rfl rfl ?_
        refine vv_get 0 F fl_X8_7 dX8_forget_42 rfl rfl ?_
        refine vv_iload_n F dX8_forget_45 rfl rfl ?_
        refine vv_iald 1 F dX8_forget_46 rfl (vv_ixP (j := 31) (by decide) (by decide)) ?_
        refine vv_istore_n (lv' := [(3, .int (wf 31)), (2, .int 31), (0, .ref qm), (1, .int wh)]) F dX8_forget_47 rfl (by decide) rfl ?_
        refine vv_aload_n F dX8_forget_48 rfl rfl ?_
        refine vv_get 0 F fl_X8_7 dX8_forget_49 rfl rfl ?_
        refine vv_iload_n F dX8_forget_52 rfl rfl ?_
        refine vv_iconst (v := 0) F dX8_forget_53 (by decide) ?_
        refine vv_iast 1 (ws' := [(qm, .inr (7, [.ref qw, .ref qk, .ref qt, .int txd, .long abv, .long blw, .ref qs, .int atp, .int stp, .int nbr, .ref qi, .ref qp, .ref qh, .ref qb, .int bmy, .ref qa, .ref q6, .long hsh])), (qw, .inl ((vv_k x).2.1.1, 456, .inl (upd wf 31 0))), (qs, .inl ((vv_k x).2.1.1, 3, .inl ss))]) F dX8_forget_54 rfl (vv_ixP (j := 31) (by decide) (by decide)) rfl ?_
        refine vv_iload_n F dX8_forget_55 rfl rfl ?_
        exact vv_iret F hR dX8_forget_56 (congrArg (fun z => some (Value.int z)) ((if_pos h_1).trans ((if_neg h_2).trans ((if_pos h_3).trans rfl)))) (by simp only [g_X8_forget_1, g_X8_forget_2, if_pos h_1, if_neg h_2, if_pos h_3])
    · refine vv_bipush (v := 18) F dX8_forget_23 (by decide) ?_
      refine vv_goto (tgt := 40) F dX8_forget_25 (by decide) ?_
      refine vv_istore_n (lv' := [(2, .int 18), (0, .ref qm), (1, .int wh)]) F dX8_forget_40 rfl (by decide) rfl ?_
      refine vv_aload_n F dX8_forget_41 rfl rfl ?_
      refine vv_get 0 F fl_X8_7 dX8_forget_42 rfl rfl ?_
      refine vv_iload_n F dX8_forget_45 rfl rfl ?_
      refine vv_iald 1 F dX8_forget_46 rfl (vv_ixP (j := 18) (by decide) (by decide)) ?_
      refine vv_istore_n (lv' := [(3, .int (wf 18)), (2, .int 18), (0, .ref qm), (1, .int wh)]) F dX8_forget_47 rfl (by decide) rfl ?_
      refine vv_aload_n F dX8_forget_48 rfl rfl ?_
      refine vv_get 0 F fl_X8_7 dX8_forget_49 rfl rfl ?_
      refine vv_iload_n F dX8_forget_52 rfl rfl ?_
      refine vv_iconst (v := 0) F dX8_forget_53 (by decide) ?_
      refine vv_iast 1 (ws' := [(qm, .inr (7, [.ref qw, .ref qk, .ref qt, .int txd, .long abv, .long blw, .ref qs, .int atp, .int stp, .int nbr, .ref qi, .ref qp, .ref qh, .ref qb, .int bmy, .ref qa, .ref q6, .long hsh])), (qw, .inl ((vv_k x).2.1.1, 456, .inl (upd wf 18 0))), (qs, .inl ((vv_k x).2.1.1, 3, .inl ss))]) F dX8_forget_54 rfl (vv_ixP (j := 18) (by decide) (by decide)) rfl ?_
      refine vv_iload_n F dX8_forget_55 rfl rfl ?_
      exact vv_iret F hR dX8_forget_56 (congrArg (fun z => some (Value.int z)) ((if_pos h_1).trans ((if_pos h_2).trans rfl))) (by simp only [g_X8_forget_1, g_X8_forget_2, if_pos h_1, if_pos h_2])
  · refine vv_aload_n F dX8_forget_12 rfl rfl ?_
    refine vv_bipush (v := (-2)) F dX8_forget_13 (by decide) ?_
    refine vv_callV (As := [.int (-2)]) (rest := []) [0, 2] 0 (ws' := [(qm, .inr (7, [.ref qw, .ref qk, .ref qt, .int txd, .long abv, .long blw, .ref qs, .int atp, .int stp, .int nbr, .ref qi, .ref qp, .ref qh, .ref qb, .int bmy, .ref qa, .ref q6, .long hsh])), (qw, .inl ((vv_k x).2.1.1, 456, .inl wf)), (qs, .inl ((vv_k x).2.1.1, 3, .inl (upd ss 0 ((ss 0) + 1))))]) F (c_X8_bad (vv_l x) (vv_k x) qm qw qk qt txd abv blw qs atp stp nbr qi qp qh qb bmy qa q6 hsh ss (-2)) mv_X8_78 dX8_forget_15 (by decide) rfl rfl (Nat.le_of_ble_eq_true rfl) rfl (by decide) (Eq.trans (b := [qm, qs]) rfl rfl) rfl rfl ?_
    exact vv_iret F hR dX8_forget_18 (congrArg (fun z => some (Value.int z)) ((if_neg h_1).trans rfl)) (by simp only [g_X8_forget_1, g_X8_forget_2, if_neg h_1])
noncomputable def f_X8_part (abv blw : Int64) (wh : Int32) : Int64 := (if wh = 0 then abv else (if wh = 1 then blw else (-2).toInt64))
noncomputable def g_X8_part_1 (ss : Nat → Int32) (wh : Int32) : Nat → Int32 := (if wh = 0 then ss else (if wh = 1 then ss else (upd ss 0 ((ss 0) + 1))))
theorem c_X8_part (l : Launch) (K : vv_K) (qm qw qk qt : Nat) (txd : Int32) (abv blw : Int64) (qs : Nat) (atp stp nbr : Int32) (qi qp qh qb : Nat) (bmy : Int32) (qa q6 : Nat) (hsh : Int64) (ss : Nat → Int32) (wh : Int32)  : vv_C l K 2 yX8_part cX8_part 2 (some .long) [.ref qm, .int wh] [(qm, .inr (7, [.ref qw, .ref qk, .ref qt, .int txd, .long abv, .long blw, .ref qs, .int atp, .int stp, .int nbr, .ref qi, .ref qp, .ref qh, .ref qb, .int bmy, .ref qa, .ref q6, .long hsh])), (qs, .inl (K.2.1.1, 3, .inl ss))] (some (.long (f_X8_part abv blw wh))) [(qm, .inr (7, [.ref qw, .ref qk, .ref qt, .int txd, .long abv, .long blw, .ref qs, .int atp, .int stp, .int nbr, .ref qi, .ref qp, .ref qh, .ref qb, .int bmy, .ref qa, .ref q6, .long hsh])), (qs, .inl (K.2.1.1, 3, .inl (g_X8_part_1 ss wh)))] := by
  refine vv_C.of (lv := [(0, .ref qm), (1, .int wh)]) (by decide +kernel) (Nat.le_of_ble_eq_true rfl) rfl ?_
  intro x hl hK F hR; subst hl; obtain rfl := hK
  refine vv_iload_n F dX8_part_0 rfl rfl ?_
  refine vv_if_ne (tgt := 11) F dX8_part_1 (by decide) (fun h_1 => ?_) (fun h_1 => ?_)
  · refine vv_iload_n F dX8_part_11 rfl rfl ?_
    refine vv_iconst (v := 1) F dX8_part_12 (by decide) ?_
    refine vv_icmp_ne (tgt := 23) F dX8_part_13 (by decide) (fun h_2 => ?_) (fun h_2 => ?_)
    · refine vv_aload_n F dX8_part_23 rfl rfl ?_
      refine vv_bipush (v := (-2)) F dX8_part_24 (by decide) ?_
      refine vv_callV (As := [.int (-2)]) (rest := []) [0, 1] 0 (ws' := [(qm, .inr (7, [.ref qw, .ref qk, .ref qt, .int txd, .long abv, .long blw, .ref qs, .int atp, .int stp, .int nbr, .ref qi, .ref qp, .ref qh, .ref qb, .int bmy, .ref qa, .ref q6, .long hsh])), (qs, .inl ((vv_k x).2.1.1, 3, .inl (upd ss 0 ((ss 0) + 1))))]) F (c_X8_bad (vv_l x) (vv_k x) qm qw qk qt txd abv blw qs atp stp nbr qi qp qh qb bmy qa q6 hsh ss (-2)) mv_X8_78 dX8_part_26 (by decide) rfl rfl (Nat.le_of_ble_eq_true rfl) rfl (by decide) (Eq.trans (b := [qm, qs]) rfl rfl) rfl rfl ?_
      refine vv_i2l F dX8_part_29 ?_
      exact vv_lret F hR dX8_part_30 (congrArg (fun z => some (Value.long z)) ((if_neg h_1).trans ((if_neg h_2).trans rfl))) (by simp only [g_X8_part_1, if_neg h_1, if_neg h_2])
    · refine vv_aload_n F dX8_part_16 rfl rfl ?_
      refine vv_get 0 F fl_X8_24 dX8_part_17 rfl rfl ?_
      refine vv_goto (tgt := 30) F dX8_part_20 (by decide) ?_
      exact vv_lret F hR dX8_part_30 (congrArg (fun z => some (Value.long z)) ((if_neg h_1).trans ((if_pos h_2).trans rfl))) (by simp only [g_X8_part_1, if_neg h_1, if_pos h_2])
  · refine vv_aload_n F dX8_part_4 rfl rfl ?_
    refine vv_get 0 F fl_X8_20 dX8_part_5 rfl rfl ?_
    refine vv_goto (tgt := 30) F dX8_part_8 (by decide) ?_
    exact vv_lret F hR dX8_part_30 (congrArg (fun z => some (Value.long z)) ((if_pos h_1).trans rfl)) (by simp only [g_X8_part_1, if_pos h_1])
noncomputable def f_X8_image (i : Int32) : Int32 := (if p_X8_in i.toInt64 0 1 then 1 else (-2))
noncomputable def g_X8_image_1 (wf : Nat → Int32) (i : Int32) : Nat → Int32 := (if p_X8_in i.toInt64 0 1 then (va_cpy wf wf 0 (114 + 114 * i.toNatClampNeg) 114) else wf)
noncomputable def g_X8_image_2 (kp : Nat → Int32) (i : Int32) : Nat → Int32 := (if p_X8_in i.toInt64 0 1 then (upd kp i.toNatClampNeg (vp_nar .boolean 1)) else kp)
noncomputable def g_X8_image_3 (ss : Nat → Int32) (i : Int32) : Nat → Int32 := (if p_X8_in i.toInt64 0 1 then ss else (upd ss 0 ((ss 0) + 1)))
theorem c_X8_image (l : Launch) (K : vv_K) (qm qw qk qt : Nat) (txd : Int32) (abv blw : Int64) (qs : Nat) (atp stp nbr : Int32) (qi qp qh qb : Nat) (bmy : Int32) (qa q6 : Nat) (hsh : Int64) (wf kp ss : Nat → Int32) (i : Int32)  : vv_C l K 3 yX8_image cX8_image 2 (some .int) [.ref qm, .int i] [(qm, .inr (7, [.ref qw, .ref qk, .ref qt, .int txd, .long abv, .long blw, .ref qs, .int atp, .int stp, .int nbr, .ref qi, .ref qp, .ref qh, .ref qb, .int bmy, .ref qa, .ref q6, .long hsh])), (qw, .inl (K.2.1.1, 456, .inl wf)), (qk, .inl (K.2.1.2.2, 2, .inl kp)), (qs, .inl (K.2.1.1, 3, .inl ss))] (some (.int (f_X8_image i))) [(qm, .inr (7, [.ref qw, .ref qk, .ref qt, .int txd, .long abv, .long blw, .ref qs, .int atp, .int stp, .int nbr, .ref qi, .ref qp, .ref qh, .ref qb, .int bmy, .ref qa, .ref q6, .long hsh])), (qw, .inl (K.2.1.1, 456, .inl (g_X8_image_1 wf i))), (qk, .inl (K.2.1.2.2, 2, .inl (g_X8_image_2 kp i))), (qs, .inl (K.2.1.1, 3, .inl (g_X8_image_3 ss i)))] := by
  refine vv_C.of (lv := [(0, .ref qm), (1, .int i)]) (by decide +kernel) (Nat.le_of_ble_eq_true rfl) rfl ?_
  intro x hl hK F hR; subst hl; obtain rfl := hK
  refine vv_iload_n F dX8_image_0 rfl rfl ?_
  refine vv_i2l F dX8_image_1 ?_
  refine vv_lconst (v := 0) F dX8_image_2 (by decide) ?_
  refine vv_lconst (v := 1) F dX8_image_3 (by decide) ?_
  refine vv_callSp (As := [.long i.toInt64, .long 0, .long 1]) (rest := []) [] F (c_X8_in (vv_l x) (vv_k x) i.toInt64 0 1) ms_X8_56 dX8_image_4 (by decide) rfl rfl (Nat.le_of_ble_eq_true rfl) rfl (by decide) ?_
  refine vv_ifz_ne (tgt := 17) F dX8_image_7 (by decide) (fun h_1 => ?_) (fun h_1 => ?_)
  · have h_1r := in_rng (a := 0) (b := 1) (by decide) (by decide) h_1
    have h_1c := nn_cl (a := i) (by omega)
    refine vv_aload_n F dX8_image_17 rfl rfl ?_
    refine vv_iconst (v := 0) F dX8_image_18 (by decide) ?_
    refine vv_bipush (v := 114) F dX8_image_19 (by decide) ?_
    refine vv_bipush (v := 114) F dX8_image_21 (by decide) ?_
    refine vv_iload_n F dX8_image_23 rfl rfl ?_
    refine vv_imul F dX8_image_24 ?_
    refine vv_iadd F dX8_image_25 ?_
    refine vv_callV (As := [.int 0, .int (114 + (114 * i))]) (rest := []) [0, 1] 0 (ws' := [(qm, .inr (7, [.ref qw, .ref qk, .ref qt, .int txd, .long abv, .long blw, .ref qs, .int atp, .int stp, .int nbr, .ref qi, .ref qp, .ref qh, .ref qb, .int bmy, .ref qa, .ref q6, .long hsh])), (qw, .inl ((vv_k x).2.1.1, 456, .inl (va_cpy wf wf 0 (114 + 114 * i.toNatClampNeg) 114))), (qk, .inl ((vv_k x).2.1.2.2, 2, .inl kp)), (qs, .inl ((vv_k x).2.1.1, 3, .inl ss))]) F (c_X8_copy (vv_l x) (vv_k x) qm qw qk qt txd abv blw qs atp stp nbr qi qp qh qb bmy qa q6 hsh wf 0 (114 + (114 * i)) 0 (114 + 114 * i.toNatClampNeg) (by decide : (0 : Int32).toInt = ((0 : Nat) : Int)) (nn_add (by decide : (114 : Int32).toInt = ((114 : Nat) : Int)) (nn_mul (by decide : (114 : Int32).toInt = ((114 : Nat) : Int)) h_1c (by omega)) (by omega)) (by omega) (by omega) (by omega)) mv_X8_175 dX8_image_26 (by decide) rfl rfl (Nat.le_of_ble_eq_true rfl) rfl (by decide) (Eq.trans (b := [qm, qw]) rfl rfl) rfl rfl ?_
    refine vv_aload_n F dX8_image_29 rfl rfl ?_
    refine vv_get 0 F fl_X8_13 dX8_image_30 rfl rfl ?_
    refine vv_iload_n F dX8_image_33 rfl rfl ?_
    refine vv_iconst (v := 1) F dX8_image_34 (by decide) ?_
    refine vv_zast 2 (ws' := [(qm, .inr (7, [.ref qw, .ref qk, .ref qt, .int txd, .long abv, .long blw, .ref qs, .int atp, .int stp, .int nbr, .ref qi, .ref qp, .ref qh, .ref qb, .int bmy, .ref qa, .ref q6, .long hsh])), (qw, .inl ((vv_k x).2.1.1, 456, .inl (va_cpy wf wf 0 (114 + 114 * i.toNatClampNeg) 114))), (qk, .inl ((vv_k x).2.1.2.2, 2, .inl (upd kp i.toNatClampNeg (vp_nar .boolean 1)))), (qs, .inl ((vv_k x).2.1.1, 3, .inl ss))]) F dX8_image_35 rfl (vv_ixP (j := i.toNatClampNeg) (by have hz := h_1c; omega) (by omega)) rfl ?_
    refine vv_iconst (v := 1) F dX8_image_36 (by decide) ?_
    exact vv_iret F hR dX8_image_37 (congrArg (fun z => some (Value.int z)) ((if_pos h_1).trans rfl)) (by simp only [g_X8_image_1, g_X8_image_2, g_X8_image_3, if_pos h_1])
  · refine vv_aload_n F dX8_image_10 rfl rfl ?_
    refine vv_bipush (v := (-2)) F dX8_image_11 (by decide) ?_
    refine vv_callV (As := [.int (-2)]) (rest := []) [0, 3] 0 (ws' := [(qm, .inr (7, [.ref qw, .ref qk, .ref qt, .int txd, .long abv, .long blw, .ref qs, .int atp, .int stp, .int nbr, .ref qi, .ref qp, .ref qh, .ref qb, .int bmy, .ref qa, .ref q6, .long hsh])), (qw, .inl ((vv_k x).2.1.1, 456, .inl wf)), (qk, .inl ((vv_k x).2.1.2.2, 2, .inl kp)), (qs, .inl ((vv_k x).2.1.1, 3, .inl (upd ss 0 ((ss 0) + 1))))]) F (c_X8_bad (vv_l x) (vv_k x) qm qw qk qt txd abv blw qs atp stp nbr qi qp qh qb bmy qa q6 hsh ss (-2)) mv_X8_78 dX8_image_13 (by decide) rfl rfl (Nat.le_of_ble_eq_true rfl) rfl (by decide) (Eq.trans (b := [qm, qs]) rfl rfl) rfl rfl ?_
    exact vv_iret F hR dX8_image_16 (congrArg (fun z => some (Value.int z)) ((if_neg h_1).trans rfl)) (by simp only [g_X8_image_1, g_X8_image_2, g_X8_image_3, if_neg h_1])
noncomputable def f_X8_from (kp : Nat → Int32) (i : Int32) : Int32 := (if p_X8_in i.toInt64 0 1 then (if (kp i.toNatClampNeg) = 0 then (-3) else 1) else (-2))
noncomputable def g_X8_from_1 (wf kp : Nat → Int32) (i : Int32) : Nat → Int32 := (if p_X8_in i.toInt64 0 1 then (if (kp i.toNatClampNeg) = 0 then wf else (va_cpy wf wf (114 + 114 * i.toNatClampNeg) 0 114)) else wf)
noncomputable def g_X8_from_3 (kp ss : Nat → Int32) (i : Int32) : Nat → Int32 := (if p_X8_in i.toInt64 0 1 then (if (kp i.toNatClampNeg) = 0 then (upd ss 1 ((ss 1) + 1)) else ss) else (upd ss 0 ((ss 0) + 1)))
theorem c_X8_from (l : Launch) (K : vv_K) (qm qw qk qt : Nat) (txd : Int32) (abv blw : Int64) (qs : Nat) (atp stp nbr : Int32) (qi qp qh qb : Nat) (bmy : Int32) (qa q6 : Nat) (hsh : Int64) (wf kp ss : Nat → Int32) (i : Int32)  : vv_C l K 3 yX8_from cX8_from 2 (some .int) [.ref qm, .int i] [(qm, .inr (7, [.ref qw, .ref qk, .ref qt, .int txd, .long abv, .long blw, .ref qs, .int atp, .int stp, .int nbr, .ref qi, .ref qp, .ref qh, .ref qb, .int bmy, .ref qa, .ref q6, .long hsh])), (qw, .inl (K.2.1.1, 456, .inl wf)), (qk, .inl (K.2.1.2.2, 2, .inl kp)), (qs, .inl (K.2.1.1, 3, .inl ss))] (some (.int (f_X8_from kp i))) [(qm, .inr (7, [.ref qw, .ref qk, .ref qt, .int txd, .long abv, .long blw, .ref qs, .int atp, .int stp, .int nbr, .ref qi, .ref qp, .ref qh, .ref qb, .int bmy, .ref qa, .ref q6, .long hsh])), (qw, .inl (K.2.1.1, 456, .inl (g_X8_from_1 wf kp i))), (qk, .inl (K.2.1.2.2, 2, .inl kp)), (qs, .inl (K.2.1.1, 3, .inl (g_X8_from_3 kp ss i)))] := by
  refine vv_C.of (lv := [(0, .ref qm), (1, .int i)]) (by decide +kernel) (Nat.le_of_ble_eq_true rfl) rfl ?_
  intro x hl hK F hR; subst hl; obtain rfl := hK
  refine vv_iload_n F dX8_from_0 rfl rfl ?_
  refine vv_i2l F dX8_from_1 ?_
  refine vv_lconst (v := 0) F dX8_from_2 (by decide) ?_
  refine vv_lconst (v := 1) F dX8_from_3 (by decide) ?_
  refine vv_callSp (As := [.long i.toInt64, .long 0, .long 1]) (rest := []) [] F (c_X8_in (vv_l x) (vv_k x) i.toInt64 0 1) ms_X8_56 dX8_from_4 (by decide) rfl rfl (Nat.le_of_ble_eq_true rfl) rfl (by decide) ?_
  refine vv_ifz_ne (tgt := 17) F dX8_from_7 (by decide) (fun h_1 => ?_) (fun h_1 => ?_)
  · have h_1r := in_rng (a := 0) (b := 1) (by decide) (by decide) h_1
    have h_1c := nn_cl (a := i) (by omega)
    refine vv_aload_n F dX8_from_17 rfl rfl ?_
    refine vv_get 0 F fl_X8_13 dX8_from_18 rfl rfl ?_
    refine vv_iload_n F dX8_from_21 rfl rfl ?_
    refine vv_zald 2 F dX8_from_22 rfl (vv_ixP (j := i.toNatClampNeg) (by have hz := h_1c; omega) (by omega)) ?_
    refine vv_if_ne (tgt := 31) F dX8_from_23 (by decide) (fun h_2 => ?_) (fun h_2 => ?_)
    · refine vv_aload_n F dX8_from_31 rfl rfl ?_
      refine vv_bipush (v := 114) F dX8_from_32 (by decide) ?_
      refine vv_bipush (v := 114) F dX8_from_34 (by decide) ?_
      refine vv_iload_n F dX8_from_36 rfl rfl ?_
      refine vv_imul F dX8_from_37 ?_
      refine vv_iadd F dX8_from_38 ?_
      refine vv_iconst (v := 0) F dX8_from_39 (by decide) ?_
      refine vv_callV (As := [.int (114 + (114 * i)), .int 0]) (rest := []) [0, 1] 0 (ws' := [(qm, .inr (7, [.ref qw, .ref qk, .ref qt, .int txd, .long abv, .long blw, .ref qs, .int atp, .int stp, .int nbr, .ref qi, .ref qp, .ref qh, .ref qb, .int bmy, .ref qa, .ref q6, .long hsh])), (qw, .inl ((vv_k x).2.1.1, 456, .inl (va_cpy wf wf (114 + 114 * i.toNatClampNeg) 0 114))), (qk, .inl ((vv_k x).2.1.2.2, 2, .inl kp)), (qs, .inl ((vv_k x).2.1.1, 3, .inl ss))]) F (c_X8_copy (vv_l x) (vv_k x) qm qw qk qt txd abv blw qs atp stp nbr qi qp qh qb bmy qa q6 hsh wf (114 + (114 * i)) 0 (114 + 114 * i.toNatClampNeg) 0 (nn_add (by decide : (114 : Int32).toInt = ((114 : Nat) : Int)) (nn_mul (by decide : (114 : Int32).toInt = ((114 : Nat) : Int)) h_1c (by omega)) (by omega)) (by decide : (0 : Int32).toInt = ((0 : Nat) : Int)) (by omega) (by omega) (by omega)) mv_X8_175 dX8_from_40 (by decide) rfl rfl (Nat.le_of_ble_eq_true rfl) rfl (by decide) (Eq.trans (b := [qm, qw]) rfl rfl) rfl rfl ?_
      refine vv_iconst (v := 1) F dX8_from_43 (by decide) ?_
      exact vv_iret F hR dX8_from_44 (congrArg (fun z => some (Value.int z)) ((if_pos h_1).trans ((if_neg h_2).trans rfl))) (by simp only [g_X8_from_1, g_X8_from_3, if_pos h_1, if_neg h_2])
    · refine vv_aload_n F dX8_from_26 rfl rfl ?_
      refine vv_callV (As := []) (rest := []) [0, 3] 0 (ws' := [(qm, .inr (7, [.ref qw, .ref qk, .ref qt, .int txd, .long abv, .long blw, .ref qs, .int atp, .int stp, .int nbr, .ref qi, .ref qp, .ref qh, .ref qb, .int bmy, .ref qa, .ref q6, .long hsh])), (qw, .inl ((vv_k x).2.1.1, 456, .inl wf)), (qk, .inl ((vv_k x).2.1.2.2, 2, .inl kp)), (qs, .inl ((vv_k x).2.1.1, 3, .inl (upd ss 1 ((ss 1) + 1))))]) F (c_X8_no (vv_l x) (vv_k x) qm qw qk qt txd abv blw qs atp stp nbr qi qp qh qb bmy qa q6 hsh ss) mv_X8_200 dX8_from_27 (by decide) rfl rfl (Nat.le_of_ble_eq_true rfl) rfl (by decide) (Eq.trans (b := [qm, qs]) rfl rfl) rfl rfl ?_
      exact vv_iret F hR dX8_from_30 (congrArg (fun z => some (Value.int z)) ((if_pos h_1).trans ((if_pos h_2).trans rfl))) (by simp only [g_X8_from_1, g_X8_from_3, if_pos h_1, if_pos h_2])
  · refine vv_aload_n F dX8_from_10 rfl rfl ?_
    refine vv_bipush (v := (-2)) F dX8_from_11 (by decide) ?_
    refine vv_callV (As := [.int (-2)]) (rest := []) [0, 3] 0 (ws' := [(qm, .inr (7, [.ref qw, .ref qk, .ref qt, .int txd, .long abv, .long blw, .ref qs, .int atp, .int stp, .int nbr, .ref qi, .ref qp, .ref qh, .ref qb, .int bmy, .ref qa, .ref q6, .long hsh])), (qw, .inl ((vv_k x).2.1.1, 456, .inl wf)), (qk, .inl ((vv_k x).2.1.2.2, 2, .inl kp)), (qs, .inl ((vv_k x).2.1.1, 3, .inl (upd ss 0 ((ss 0) + 1))))]) F (c_X8_bad (vv_l x) (vv_k x) qm qw qk qt txd abv blw qs atp stp nbr qi qp qh qb bmy qa q6 hsh ss (-2)) mv_X8_78 dX8_from_13 (by decide) rfl rfl (Nat.le_of_ble_eq_true rfl) rfl (by decide) (Eq.trans (b := [qm, qs]) rfl rfl) rfl rfl ?_
    exact vv_iret F hR dX8_from_16 (congrArg (fun z => some (Value.int z)) ((if_neg h_1).trans rfl)) (by simp only [g_X8_from_1, g_X8_from_3, if_neg h_1])
noncomputable def f_X8_status (ss : Nat → Int32) (wh : Int32) : Int32 := (if p_X8_in wh.toInt64 0 2 then (ss wh.toNatClampNeg) else (-1))
noncomputable def g_X8_status_1 (ss : Nat → Int32) (wh : Int32) : Nat → Int32 := (if p_X8_in wh.toInt64 0 2 then ss else (upd ss 0 ((ss 0) + 1)))
theorem c_X8_status (l : Launch) (K : vv_K) (qm qw qk qt : Nat) (txd : Int32) (abv blw : Int64) (qs : Nat) (atp stp nbr : Int32) (qi qp qh qb : Nat) (bmy : Int32) (qa q6 : Nat) (hsh : Int64) (ss : Nat → Int32) (wh : Int32)  : vv_C l K 3 yX8_status cX8_status 2 (some .int) [.ref qm, .int wh] [(qm, .inr (7, [.ref qw, .ref qk, .ref qt, .int txd, .long abv, .long blw, .ref qs, .int atp, .int stp, .int nbr, .ref qi, .ref qp, .ref qh, .ref qb, .int bmy, .ref qa, .ref q6, .long hsh])), (qs, .inl (K.2.1.1, 3, .inl ss))] (some (.int (f_X8_status ss wh))) [(qm, .inr (7, [.ref qw, .ref qk, .ref qt, .int txd, .long abv, .long blw, .ref qs, .int atp, .int stp, .int nbr, .ref qi, .ref qp, .ref qh, .ref qb, .int bmy, .ref qa, .ref q6, .long hsh])), (qs, .inl (K.2.1.1, 3, .inl (g_X8_status_1 ss wh)))] := by
  refine vv_C.of (lv := [(0, .ref qm), (1, .int wh)]) (by decide +kernel) (Nat.le_of_ble_eq_true rfl) rfl ?_
  intro x hl hK F hR; subst hl; obtain rfl := hK
  refine vv_iload_n F dX8_status_0 rfl rfl ?_
  refine vv_i2l F dX8_status_1 ?_
  refine vv_lconst (v := 0) F dX8_status_2 (by decide) ?_
  refine vv_ldc2 F cl_X8_131 dX8_status_3 ?_
  refine vv_callSp (As := [.long wh.toInt64, .long 0, .long 2]) (rest := []) [] F (c_X8_in (vv_l x) (vv_k x) wh.toInt64 0 2) ms_X8_56 dX8_status_6 (by decide) rfl rfl (Nat.le_of_ble_eq_true rfl) rfl (by decide) ?_
  refine vv_ifz_eq (tgt := 21) F dX8_status_9 (by decide) (fun h_1 => ?_) (fun h_1 => ?_)
  · refine vv_aload_n F dX8_status_21 rfl rfl ?_
    refine vv_iconst (v := (-1)) F dX8_status_22 (by decide) ?_
    refine vv_callV (As := [.int (-1)]) (rest := []) [0, 1] 0 (ws' := [(qm, .inr (7, [.ref qw, .ref qk, .ref qt, .int txd, .long abv, .long blw, .ref qs, .int atp, .int stp, .int nbr, .ref qi, .ref qp, .ref qh, .ref qb, .int bmy, .ref qa, .ref q6, .long hsh])), (qs, .inl ((vv_k x).2.1.1, 3, .inl (upd ss 0 ((ss 0) + 1))))]) F (c_X8_bad (vv_l x) (vv_k x) qm qw qk qt txd abv blw qs atp stp nbr qi qp qh qb bmy qa q6 hsh ss (-1)) mv_X8_78 dX8_status_23 (by decide) rfl rfl (Nat.le_of_ble_eq_true rfl) rfl (by decide) (Eq.trans (b := [qm, qs]) rfl rfl) rfl rfl ?_
    exact vv_iret F hR dX8_status_26 (congrArg (fun z => some (Value.int z)) ((if_neg h_1).trans rfl)) (by simp only [g_X8_status_1, if_neg h_1])
  · have h_1r := in_rng (a := 0) (b := 2) (by decide) (by decide) h_1
    have h_1c := nn_cl (a := wh) (by omega)
    refine vv_aload_n F dX8_status_12 rfl rfl ?_
    refine vv_get 0 F fl_X8_27 dX8_status_13 rfl rfl ?_
    refine vv_iload_n F dX8_status_16 rfl rfl ?_
    refine vv_iald 1 F dX8_status_17 rfl (vv_ixP (j := wh.toNatClampNeg) (by have hz := h_1c; omega) (by omega)) ?_
    refine vv_goto (tgt := 26) F dX8_status_18 (by decide) ?_
    exact vv_iret F hR dX8_status_26 (congrArg (fun z => some (Value.int z)) ((if_pos h_1).trans rfl)) (by simp only [g_X8_status_1, if_pos h_1])
noncomputable def f_X8_countOf (txd : Int32) (wf : Nat → Int32) (wh : Int32) : Int32 := (if wh = 0 then (wf 0) else (if wh = 1 then (wf 18) else (if wh = 2 then (wf 31) else (if wh = 3 then (wf 56) else (if wh = 4 then (wf 81) else txd)))))
theorem c_X8_countOf (l : Launch) (K : vv_K) (qm qw qk qt : Nat) (txd : Int32) (abv blw : Int64) (qs : Nat) (atp stp nbr : Int32) (qi qp qh qb : Nat) (bmy : Int32) (qa q6 : Nat) (hsh : Int64) (wf : Nat → Int32) (wh : Int32)  : vv_C l K 1 yX8_countOf cX8_countOf 2 (some .int) [.ref qm, .int wh] [(qm, .inr (7, [.ref qw, .ref qk, .ref qt, .int txd, .long abv, .long blw, .ref qs, .int atp, .int stp, .int nbr, .ref qi, .ref qp, .ref qh, .ref qb, .int bmy, .ref qa, .ref q6, .long hsh])), (qw, .inl (K.2.1.1, 456, .inl wf))] (some (.int (f_X8_countOf txd wf wh))) [(qm, .inr (7, [.ref qw, .ref qk, .ref qt, .int txd, .long abv, .long blw, .ref qs, .int atp, .int stp, .int nbr, .ref qi, .ref qp, .ref qh, .ref qb, .int bmy, .ref qa, .ref q6, .long hsh])), (qw, .inl (K.2.1.1, 456, .inl wf))] := by
  refine vv_C.of (lv := [(0, .ref qm), (1, .int wh)]) (by decide +kernel) (Nat.le_of_ble_eq_true rfl) rfl ?_
  intro x hl hK F hR; subst hl; obtain rfl := hK
  refine vv_iload_n F dX8_countOf_0 rfl rfl ?_
  by_cases h_1 : wh = 0
  · refine vv_tabIn (tgt := 36) (off := 35) F dX8_countOf_1 (by rw [h_1]; decide) (by rw [h_1]; decide) (by rw [h_1]; rfl) (by decide) ?_
    refine vv_aload_n F dX8_countOf_36 rfl rfl ?_
    refine vv_get 0 F fl_X8_7 dX8_countOf_37 rfl rfl ?_
    refine vv_iconst (v := 0) F dX8_countOf_40 (by decide) ?_
    refine vv_iald 1 F dX8_countOf_41 rfl (vv_ixP (j := 0) (by decide) (by decide)) ?_
    exact vv_iret F hR dX8_countOf_42 (congrArg (fun z => some (Value.int z)) ((if_pos h_1).trans rfl)) rfl
  · by_cases h_2 : wh = 1
    · refine vv_tabIn (tgt := 43) (off := 42) F dX8_countOf_1 (by rw [h_2]; decide) (by rw [h_2]; decide) (by rw [h_2]; rfl) (by decide) ?_
      refine vv_aload_n F dX8_countOf_43 rfl rfl ?_
      refine vv_get 0 F fl_X8_7 dX8_countOf_44 rfl rfl ?_
      refine vv_bipush (v := 18) F dX8_countOf_47 (by decide) ?_
      refine vv_iald 1 F dX8_countOf_49 rfl (vv_ixP (j := 18) (by decide) (by decide)) ?_
      exact vv_iret F hR dX8_countOf_50 (congrArg (fun z => some (Value.int z)) ((if_neg h_1).trans ((if_pos h_2).trans rfl))) rfl
    · by_cases h_3 : wh = 2
      · refine vv_tabIn (tgt := 51) (off := 50) F dX8_countOf_1 (by rw [h_3]; decide) (by rw [h_3]; decide) (by rw [h_3]; rfl) (by decide) ?_
        refine vv_aload_n F dX8_countOf_51 rfl rfl ?_
        refine vv_get 0 F fl_X8_7 dX8_countOf_52 rfl rfl ?_
        refine vv_bipush (v := 31) F dX8_countOf_55 (by decide) ?_
        refine vv_iald 1 F dX8_countOf_57 rfl (vv_ixP (j := 31) (by decide) (by decide)) ?_
        exact vv_iret F hR dX8_countOf_58 (congrArg (fun z => some (Value.int z)) ((if_neg h_1).trans ((if_neg h_2).trans ((if_pos h_3).trans rfl)))) rfl
      · by_cases h_4 : wh = 3
        · refine vv_tabIn (tgt := 59) (off := 58) F dX8_countOf_1 (by rw [h_4]; decide) (by rw [h_4]; decide) (by rw [h_4]; rfl) (by decide) ?_
          refine vv_aload_n F dX8_countOf_59 rfl rfl ?_
          refine vv_get 0 F fl_X8_7 dX8_countOf_60 rfl rfl ?_
          refine vv_bipush (v := 56) F dX8_countOf_63 (by decide) ?_
          refine vv_iald 1 F dX8_countOf_65 rfl (vv_ixP (j := 56) (by decide) (by decide)) ?_
          exact vv_iret F hR dX8_countOf_66 (congrArg (fun z => some (Value.int z)) ((if_neg h_1).trans ((if_neg h_2).trans ((if_neg h_3).trans ((if_pos h_4).trans rfl))))) rfl
        · by_cases h_5 : wh = 4
          · refine vv_tabIn (tgt := 67) (off := 66) F dX8_countOf_1 (by rw [h_5]; decide) (by rw [h_5]; decide) (by rw [h_5]; rfl) (by decide) ?_
            refine vv_aload_n F dX8_countOf_67 rfl rfl ?_
            refine vv_get 0 F fl_X8_7 dX8_countOf_68 rfl rfl ?_
            refine vv_bipush (v := 81) F dX8_countOf_71 (by decide) ?_
            refine vv_iald 1 F dX8_countOf_73 rfl (vv_ixP (j := 81) (by decide) (by decide)) ?_
            exact vv_iret F hR dX8_countOf_74 (congrArg (fun z => some (Value.int z)) ((if_neg h_1).trans ((if_neg h_2).trans ((if_neg h_3).trans ((if_neg h_4).trans ((if_pos h_5).trans rfl)))))) rfl
          · refine vv_tabOut (tgt := 75) F dX8_countOf_1 (by have h_1i : ¬ wh.toInt = 0 := vv_ne h_1; have h_2i : ¬ wh.toInt = 1 := vv_ne h_2; have h_3i : ¬ wh.toInt = 2 := vv_ne h_3; have h_4i : ¬ wh.toInt = 3 := vv_ne h_4; have h_5i : ¬ wh.toInt = 4 := vv_ne h_5; omega) (by decide) ?_
            refine vv_aload_n F dX8_countOf_75 rfl rfl ?_
            refine vv_get 0 F fl_X8_48 dX8_countOf_76 rfl rfl ?_
            exact vv_iret F hR dX8_countOf_79 (congrArg (fun z => some (Value.int z)) ((if_neg h_1).trans ((if_neg h_2).trans ((if_neg h_3).trans ((if_neg h_4).trans ((if_neg h_5).trans rfl)))))) rfl
noncomputable def f_X8_count (txd : Int32) (wf : Nat → Int32) (wh : Int32) : Int32 := (if p_X8_in wh.toInt64 0 5 then (f_X8_countOf txd wf wh) else (-2))
noncomputable def g_X8_count_2 (ss : Nat → Int32) (wh : Int32) : Nat → Int32 := (if p_X8_in wh.toInt64 0 5 then ss else (upd ss 0 ((ss 0) + 1)))
theorem c_X8_count (l : Launch) (K : vv_K) (qm qw qk qt : Nat) (txd : Int32) (abv blw : Int64) (qs : Nat) (atp stp nbr : Int32) (qi qp qh qb : Nat) (bmy : Int32) (qa q6 : Nat) (hsh : Int64) (wf ss : Nat → Int32) (wh : Int32)  : vv_C l K 3 yX8_count cX8_count 2 (some .int) [.ref qm, .int wh] [(qm, .inr (7, [.ref qw, .ref qk, .ref qt, .int txd, .long abv, .long blw, .ref qs, .int atp, .int stp, .int nbr, .ref qi, .ref qp, .ref qh, .ref qb, .int bmy, .ref qa, .ref q6, .long hsh])), (qw, .inl (K.2.1.1, 456, .inl wf)), (qs, .inl (K.2.1.1, 3, .inl ss))] (some (.int (f_X8_count txd wf wh))) [(qm, .inr (7, [.ref qw, .ref qk, .ref qt, .int txd, .long abv, .long blw, .ref qs, .int atp, .int stp, .int nbr, .ref qi, .ref qp, .ref qh, .ref qb, .int bmy, .ref qa, .ref q6, .long hsh])), (qw, .inl (K.2.1.1, 456, .inl wf)), (qs, .inl (K.2.1.1, 3, .inl (g_X8_count_2 ss wh)))] := by
  refine vv_C.of (lv := [(0, .ref qm), (1, .int wh)]) (by decide +kernel) (Nat.le_of_ble_eq_true rfl) rfl ?_
  intro x hl hK F hR; subst hl; obtain rfl := hK
  refine vv_iload_n F dX8_count_0 rfl rfl ?_
  refine vv_i2l F dX8_count_1 ?_
  refine vv_lconst (v := 0) F dX8_count_2 (by decide) ?_
  refine vv_ldc2 F cl_X8_85 dX8_count_3 ?_
  refine vv_callSp (As := [.long wh.toInt64, .long 0, .long 5]) (rest := []) [] F (c_X8_in (vv_l x) (vv_k x) wh.toInt64 0 5) ms_X8_56 dX8_count_6 (by decide) rfl rfl (Nat.le_of_ble_eq_true rfl) rfl (by decide) ?_
  refine vv_ifz_eq (tgt := 20) F dX8_count_9 (by decide) (fun h_1 => ?_) (fun h_1 => ?_)
  · refine vv_aload_n F dX8_count_20 rfl rfl ?_
    refine vv_bipush (v := (-2)) F dX8_count_21 (by decide) ?_
    refine vv_callV (As := [.int (-2)]) (rest := []) [0, 2] 0 (ws' := [(qm, .inr (7, [.ref qw, .ref qk, .ref qt, .int txd, .long abv, .long blw, .ref qs, .int atp, .int stp, .int nbr, .ref qi, .ref qp, .ref qh, .ref qb, .int bmy, .ref qa, .ref q6, .long hsh])), (qw, .inl ((vv_k x).2.1.1, 456, .inl wf)), (qs, .inl ((vv_k x).2.1.1, 3, .inl (upd ss 0 ((ss 0) + 1))))]) F (c_X8_bad (vv_l x) (vv_k x) qm qw qk qt txd abv blw qs atp stp nbr qi qp qh qb bmy qa q6 hsh ss (-2)) mv_X8_78 dX8_count_23 (by decide) rfl rfl (Nat.le_of_ble_eq_true rfl) rfl (by decide) (Eq.trans (b := [qm, qs]) rfl rfl) rfl rfl ?_
    exact vv_iret F hR dX8_count_26 (congrArg (fun z => some (Value.int z)) ((if_neg h_1).trans rfl)) (by simp only [g_X8_count_2, if_neg h_1])
  · have h_1r := in_rng (a := 0) (b := 5) (by decide) (by decide) h_1
    have h_1c := nn_cl (a := wh) (by omega)
    refine vv_aload_n F dX8_count_12 rfl rfl ?_
    refine vv_iload_n F dX8_count_13 rfl rfl ?_
    refine vv_callVp (As := [.int wh]) (rest := []) [0, 1] 0 F (c_X8_countOf (vv_l x) (vv_k x) qm qw qk qt txd abv blw qs atp stp nbr qi qp qh qb bmy qa q6 hsh wf wh) mv_X8_259 dX8_count_14 (by decide) rfl rfl (Nat.le_of_ble_eq_true rfl) rfl (by decide) rfl ?_
    refine vv_goto (tgt := 26) F dX8_count_17 (by decide) ?_
    exact vv_iret F hR dX8_count_26 (congrArg (fun z => some (Value.int z)) ((if_pos h_1).trans rfl)) (by simp only [g_X8_count_2, if_pos h_1])
theorem c_X8_mix (l : Launch) (K : vv_K) (qm qw qk qt : Nat) (txd : Int32) (abv blw : Int64) (qs : Nat) (atp stp nbr : Int32) (qi qp qh qb : Nat) (bmy : Int32) (qa q6 : Nat) (hsh v : Int64)  : vv_C l K 1 yX8_mix cX8_mix 3 none [.ref qm, .long v] [(qm, .inr (7, [.ref qw, .ref qk, .ref qt, .int txd, .long abv, .long blw, .ref qs, .int atp, .int stp, .int nbr, .ref qi, .ref qp, .ref qh, .ref qb, .int bmy, .ref qa, .ref q6, .long hsh]))] none [(qm, .inr (7, [.ref qw, .ref qk, .ref qt, .int txd, .long abv, .long blw, .ref qs, .int atp, .int stp, .int nbr, .ref qi, .ref qp, .ref qh, .ref qb, .int bmy, .ref qa, .ref q6, .long ((31 * hsh) + v)]))] := by
  refine vv_C.of (lv := [(0, .ref qm), (1, .long v)]) (by decide +kernel) (Nat.le_of_ble_eq_true rfl) rfl ?_
  intro x hl hK F hR; subst hl; obtain rfl := hK
  refine vv_aload_n F dX8_mix_0 rfl rfl ?_
  refine vv_ldc2 F cl_X8_262 dX8_mix_1 ?_
  refine vv_aload_n F dX8_mix_4 rfl rfl ?_
  refine vv_get 0 F fl_X8_264 dX8_mix_5 rfl rfl ?_
  refine vv_lmul F dX8_mix_8 ?_
  refine vv_lload_n F dX8_mix_9 rfl rfl ?_
  refine vv_ladd F dX8_mix_10 ?_
  refine vv_put 0 (ws' := [(qm, .inr (7, [.ref qw, .ref qk, .ref qt, .int txd, .long abv, .long blw, .ref qs, .int atp, .int stp, .int nbr, .ref qi, .ref qp, .ref qh, .ref qb, .int bmy, .ref qa, .ref q6, .long ((31 * hsh) + v)]))]) F fl_X8_264 dX8_mix_11 rfl rfl rfl (Nat.le_of_ble_eq_true rfl) rfl ?_
  exact vv_vret F hR dX8_mix_14 rfl rfl
