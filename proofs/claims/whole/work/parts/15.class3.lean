theorem itr_inv {σ : Type} {f : Nat → σ → σ} (P : σ → Prop) : ∀ (n u : Nat) (s : σ), (∀ v, u ≤ v → v < u + n → ∀ s, P s → P (f v s)) → P s → P (itr f n u s)
  | 0, u, s, _, h => by rw [itr_0]; exact h
  | n + 1, u, s, hf, h => by
    rw [itr_s]
    exact itr_inv P n (u + 1) (f u s) (fun v h1 h2 => hf v (by omega) (by omega)) (hf u (by omega) (by omega) s h)
theorem c_X7_refuseBad (l : Launch) (K : vv_K) (hX hP dP i0 i1 : Nat) (k0 k1 : Int32) (hE hW hG hT : Nat) (abv blw : Int64) (rb rn rf : Int32)  : vv_C l K 1 yX7_refuseBad cX7_refuseBad 1 (some .int) [.ref hX] [(hX, .inr (6, [.ref hP, .ref dP, .ref i0, .ref i1, .int k0, .int k1, .ref hE, .ref hW, .ref hG, .ref hT, .long abv, .long blw, .int rb, .int rn, .int rf]))] (some (.int (-2))) [(hX, .inr (6, [.ref hP, .ref dP, .ref i0, .ref i1, .int k0, .int k1, .ref hE, .ref hW, .ref hG, .ref hT, .long abv, .long blw, .int (rb + 1), .int rn, .int rf]))] := by
  refine vv_C.of (lv := [(0, .ref hX)]) (by decide +kernel) (Nat.le_of_ble_eq_true rfl) rfl ?_
  intro x hl hK F hR; subst hl; obtain rfl := hK
  refine vv_aload_n F dX7_refuseBad_0 rfl rfl ?_
  refine vv_dup F dX7_refuseBad_1 rfl ?_
  refine vv_get 0 F fl_X7_262 dX7_refuseBad_2 rfl rfl ?_
  refine vv_iconst (v := 1) F dX7_refuseBad_5 (by decide) ?_
  refine vv_iadd F dX7_refuseBad_6 ?_
  refine vv_put 0 (ws' := [(hX, .inr (6, [.ref hP, .ref dP, .ref i0, .ref i1, .int k0, .int k1, .ref hE, .ref hW, .ref hG, .ref hT, .long abv, .long blw, .int (rb + 1), .int rn, .int rf]))]) F fl_X7_262 dX7_refuseBad_7 rfl rfl rfl (Nat.le_of_ble_eq_true rfl) rfl ?_
  refine vv_bipush (v := (-2)) F dX7_refuseBad_10 (by decide) ?_
  exact vv_iret F hR dX7_refuseBad_12 rfl rfl
theorem c_X7_refuseNo (l : Launch) (K : vv_K) (hX hP dP i0 i1 : Nat) (k0 k1 : Int32) (hE hW hG hT : Nat) (abv blw : Int64) (rb rn rf : Int32)  : vv_C l K 1 yX7_refuseNo cX7_refuseNo 1 (some .int) [.ref hX] [(hX, .inr (6, [.ref hP, .ref dP, .ref i0, .ref i1, .int k0, .int k1, .ref hE, .ref hW, .ref hG, .ref hT, .long abv, .long blw, .int rb, .int rn, .int rf]))] (some (.int (-3))) [(hX, .inr (6, [.ref hP, .ref dP, .ref i0, .ref i1, .int k0, .int k1, .ref hE, .ref hW, .ref hG, .ref hT, .long abv, .long blw, .int rb, .int (rn + 1), .int rf]))] := by
  refine vv_C.of (lv := [(0, .ref hX)]) (by decide +kernel) (Nat.le_of_ble_eq_true rfl) rfl ?_
  intro x hl hK F hR; subst hl; obtain rfl := hK
  refine vv_aload_n F dX7_refuseNo_0 rfl rfl ?_
  refine vv_dup F dX7_refuseNo_1 rfl ?_
  refine vv_get 0 F fl_X7_265 dX7_refuseNo_2 rfl rfl ?_
  refine vv_iconst (v := 1) F dX7_refuseNo_5 (by decide) ?_
  refine vv_iadd F dX7_refuseNo_6 ?_
  refine vv_put 0 (ws' := [(hX, .inr (6, [.ref hP, .ref dP, .ref i0, .ref i1, .int k0, .int k1, .ref hE, .ref hW, .ref hG, .ref hT, .long abv, .long blw, .int rb, .int (rn + 1), .int rf]))]) F fl_X7_265 dX7_refuseNo_7 rfl rfl rfl (Nat.le_of_ble_eq_true rfl) rfl ?_
  refine vv_bipush (v := (-3)) F dX7_refuseNo_10 (by decide) ?_
  exact vv_iret F hR dX7_refuseNo_12 rfl rfl
theorem c_X7_refuseFull (l : Launch) (K : vv_K) (hX hP dP i0 i1 : Nat) (k0 k1 : Int32) (hE hW hG hT : Nat) (abv blw : Int64) (rb rn rf : Int32)  : vv_C l K 1 yX7_refuseFull cX7_refuseFull 1 (some .int) [.ref hX] [(hX, .inr (6, [.ref hP, .ref dP, .ref i0, .ref i1, .int k0, .int k1, .ref hE, .ref hW, .ref hG, .ref hT, .long abv, .long blw, .int rb, .int rn, .int rf]))] (some (.int (-4))) [(hX, .inr (6, [.ref hP, .ref dP, .ref i0, .ref i1, .int k0, .int k1, .ref hE, .ref hW, .ref hG, .ref hT, .long abv, .long blw, .int rb, .int rn, .int (rf + 1)]))] := by
  refine vv_C.of (lv := [(0, .ref hX)]) (by decide +kernel) (Nat.le_of_ble_eq_true rfl) rfl ?_
  intro x hl hK F hR; subst hl; obtain rfl := hK
  refine vv_aload_n F dX7_refuseFull_0 rfl rfl ?_
  refine vv_dup F dX7_refuseFull_1 rfl ?_
  refine vv_get 0 F fl_X7_268 dX7_refuseFull_2 rfl rfl ?_
  refine vv_iconst (v := 1) F dX7_refuseFull_5 (by decide) ?_
  refine vv_iadd F dX7_refuseFull_6 ?_
  refine vv_put 0 (ws' := [(hX, .inr (6, [.ref hP, .ref dP, .ref i0, .ref i1, .int k0, .int k1, .ref hE, .ref hW, .ref hG, .ref hT, .long abv, .long blw, .int rb, .int rn, .int (rf + 1)]))]) F fl_X7_268 dX7_refuseFull_7 rfl rfl rfl (Nat.le_of_ble_eq_true rfl) rfl ?_
  refine vv_bipush (v := (-4)) F dX7_refuseFull_10 (by decide) ?_
  exact vv_iret F hR dX7_refuseFull_12 rfl rfl
noncomputable def f_X7_province (nS z1 z2 : Int32) : Int32 := (if p_X7_within z1 1 60 then (if p_X7_within z2 0 9999 then nS else (-2)) else (-2))
noncomputable def g_X7_province_0_12 (rb z1 z2 : Int32) : Int32 := (if p_X7_within z1 1 60 then (if p_X7_within z2 0 9999 then rb else (rb + 1)) else (rb + 1))
noncomputable def g_X7_province_1_0 (ln z1 z2 : Int32) : Int32 := (if p_X7_within z1 1 60 then (if p_X7_within z2 0 9999 then z1 else ln) else ln)
noncomputable def g_X7_province_1_1 (hb z1 z2 : Int32) : Int32 := (if p_X7_within z1 1 60 then (if p_X7_within z2 0 9999 then 0 else hb) else hb)
noncomputable def g_X7_province_1_2 (ha z1 z2 : Int32) : Int32 := (if p_X7_within z1 1 60 then (if p_X7_within z2 0 9999 then 0 else ha) else ha)
noncomputable def g_X7_province_1_3 (pu z1 z2 : Int32) : Int32 := (if p_X7_within z1 1 60 then (if p_X7_within z2 0 9999 then z2 else pu) else pu)
noncomputable def g_X7_province_1_4 (hl z1 z2 : Int32) : Int32 := (if p_X7_within z1 1 60 then (if p_X7_within z2 0 9999 then 0 else hl) else hl)
noncomputable def g_X7_province_1_5 (sm z1 z2 : Int32) : Int32 := (if p_X7_within z1 1 60 then (if p_X7_within z2 0 9999 then 0 else sm) else sm)
noncomputable def g_X7_province_1_6 (hr z1 z2 : Int32) : Int32 := (if p_X7_within z1 1 60 then (if p_X7_within z2 0 9999 then 0 else hr) else hr)
noncomputable def g_X7_province_2_2 (nS z1 z2 : Int32) : Int32 := (if p_X7_within z1 1 60 then (if p_X7_within z2 0 9999 then 0 else nS) else nS)
noncomputable def g_X7_province_3_2 (nC z1 z2 : Int32) : Int32 := (if p_X7_within z1 1 60 then (if p_X7_within z2 0 9999 then 0 else nC) else nC)
noncomputable def g_X7_province_4_2 (nN z1 z2 : Int32) : Int32 := (if p_X7_within z1 1 60 then (if p_X7_within z2 0 9999 then 0 else nN) else nN)
noncomputable def g_X7_province_5_2 (nM z1 z2 : Int32) : Int32 := (if p_X7_within z1 1 60 then (if p_X7_within z2 0 9999 then 0 else nM) else nM)
noncomputable def g_X7_province_6_2 (nU z1 z2 : Int32) : Int32 := (if p_X7_within z1 1 60 then (if p_X7_within z2 0 9999 then 0 else nU) else nU)
theorem c_X7_province (l : Launch) (K : vv_K) (hX hP dP i0 i1 : Nat) (k0 k1 : Int32) (hE hW hG hT : Nat) (abv blw : Int64) (rb rn rf : Int32) (hS hC hN hM hU : Nat) (ln hb ha pu hl sm hr : Int32) (aS : Nat) (mS nS : Int32) (aC : Nat) (mC nC : Int32) (aN : Nat) (mN nN : Int32) (aM : Nat) (mM nM : Int32) (aU : Nat) (mU nU z1 z2 : Int32)  : vv_C l K 3 yX7_province cX7_province 4 (some .int) [.ref hX, .int z1, .int z2] [(hX, .inr (6, [.ref hP, .ref dP, .ref i0, .ref i1, .int k0, .int k1, .ref hE, .ref hW, .ref hG, .ref hT, .long abv, .long blw, .int rb, .int rn, .int rf])), (hP, .inr (1, [.int ln, .int hb, .int ha, .int pu, .int hl, .int sm, .int hr, .ref hS, .ref hC, .ref hN, .ref hM, .ref hU])), (hS, .inr (2, [.ref aS, .int mS, .int nS])), (hC, .inr (2, [.ref aC, .int mC, .int nC])), (hN, .inr (2, [.ref aN, .int mN, .int nN])), (hM, .inr (2, [.ref aM, .int mM, .int nM])), (hU, .inr (2, [.ref aU, .int mU, .int nU]))] (some (.int (f_X7_province nS z1 z2))) [(hX, .inr (6, [.ref hP, .ref dP, .ref i0, .ref i1, .int k0, .int k1, .ref hE, .ref hW, .ref hG, .ref hT, .long abv, .long blw, .int (g_X7_province_0_12 rb z1 z2), .int rn, .int rf])), (hP, .inr (1, [.int (g_X7_province_1_0 ln z1 z2), .int (g_X7_province_1_1 hb z1 z2), .int (g_X7_province_1_2 ha z1 z2), .int (g_X7_province_1_3 pu z1 z2), .int (g_X7_province_1_4 hl z1 z2), .int (g_X7_province_1_5 sm z1 z2), .int (g_X7_province_1_6 hr z1 z2), .ref hS, .ref hC, .ref hN, .ref hM, .ref hU])), (hS, .inr (2, [.ref aS, .int mS, .int (g_X7_province_2_2 nS z1 z2)])), (hC, .inr (2, [.ref aC, .int mC, .int (g_X7_province_3_2 nC z1 z2)])), (hN, .inr (2, [.ref aN, .int mN, .int (g_X7_province_4_2 nN z1 z2)])), (hM, .inr (2, [.ref aM, .int mM, .int (g_X7_province_5_2 nM z1 z2)])), (hU, .inr (2, [.ref aU, .int mU, .int (g_X7_province_6_2 nU z1 z2)]))] := by
  refine vv_C.of (lv := [(0, .ref hX), (1, .int z1), (2, .int z2)]) (by decide +kernel) (Nat.le_of_ble_eq_true rfl) rfl ?_
  intro x hl hK F hR; subst hl; obtain rfl := hK
  refine vv_iload_n F dX7_province_0 rfl rfl ?_
  refine vv_iconst (v := 1) F dX7_province_1 (by decide) ?_
  refine vv_bipush (v := 60) F dX7_province_2 (by decide) ?_
  refine vv_callSp (As := [.int z1, .int 1, .int 60]) (rest := []) [] F (c_X7_within (vv_l x) (vv_k x) z1 1 60) ms_X7_60 dX7_province_4 (by decide) rfl rfl (Nat.le_of_ble_eq_true rfl) rfl (by decide) ?_
  refine vv_ifz_eq (tgt := 21) F dX7_province_7 (by decide) (fun h_1 => ?_) (fun h_1 => ?_)
  · refine vv_aload_n F dX7_province_21 rfl rfl ?_
    refine vv_callV (As := []) (rest := []) [0] 0 (ws' := [(hX, .inr (6, [.ref hP, .ref dP, .ref i0, .ref i1, .int k0, .int k1, .ref hE, .ref hW, .ref hG, .ref hT, .long abv, .long blw, .int (rb + 1), .int rn, .int rf])), (hP, .inr (1, [.int ln, .int hb, .int ha, .int pu, .int hl, .int sm, .int hr, .ref hS, .ref hC, .ref hN, .ref hM, .ref hU])), (hS, .inr (2, [.ref aS, .int mS, .int nS])), (hC, .inr (2, [.ref aC, .int mC, .int nC])), (hN, .inr (2, [.ref aN, .int mN, .int nN])), (hM, .inr (2, [.ref aM, .int mM, .int nM])), (hU, .inr (2, [.ref aU, .int mU, .int nU]))]) F (c_X7_refuseBad (vv_l x) (vv_k x) hX hP dP i0 i1 k0 k1 hE hW hG hT abv blw rb rn rf) mv_X7_64 dX7_province_22 (by decide) rfl rfl (Nat.le_of_ble_eq_true rfl) rfl (by decide) (Eq.trans (b := [hX]) rfl rfl) rfl rfl ?_
    exact vv_iret F hR dX7_province_25 (congrArg (fun z => some (Value.int z)) ((if_neg h_1).trans rfl)) (by simp only [g_X7_province_0_12, g_X7_province_1_0, g_X7_province_1_1, g_X7_province_1_2, g_X7_province_1_3, g_X7_province_1_4, g_X7_province_1_5, g_X7_province_1_6, g_X7_province_2_2, g_X7_province_3_2, g_X7_province_4_2, g_X7_province_5_2, g_X7_province_6_2, if_neg h_1])
  · have h_1r := wi_rng (a := 1) (b := 60) (by decide) (by decide) h_1
    have h_1c := nn_cl (a := z1) (by omega)
    refine vv_iload_n F dX7_province_10 rfl rfl ?_
    refine vv_iconst (v := 0) F dX7_province_11 (by decide) ?_
    refine vv_sipush (v := 9999) F dX7_province_12 (by decide) ?_
    refine vv_callSp (As := [.int z2, .int 0, .int 9999]) (rest := []) [] F (c_X7_within (vv_l x) (vv_k x) z2 0 9999) ms_X7_60 dX7_province_15 (by decide) rfl rfl (Nat.le_of_ble_eq_true rfl) rfl (by decide) ?_
    refine vv_ifz_ne (tgt := 26) F dX7_province_18 (by decide) (fun h_2 => ?_) (fun h_2 => ?_)
    · have h_2r := wi_rng (a := 0) (b := 9999) (by decide) (by decide) h_2
      have h_2c := nn_cl (a := z2) (by omega)
      refine vv_aload_n F dX7_province_26 rfl rfl ?_
      refine vv_get 0 F fl_X7_10 dX7_province_27 rfl rfl ?_
      refine vv_get 1 F fl_X7_68 dX7_province_30 rfl rfl ?_
      refine vv_get 2 F fl_X7_72 dX7_province_33 rfl rfl ?_
      refine vv_istore_n (lv' := [(3, .int nS), (0, .ref hX), (1, .int z1), (2, .int z2)]) F dX7_province_36 rfl (by decide) rfl ?_
      refine vv_aload_n F dX7_province_37 rfl rfl ?_
      refine vv_get 0 F fl_X7_10 dX7_province_38 rfl rfl ?_
      refine vv_iload_n F dX7_province_41 rfl rfl ?_
      refine vv_iload_n F dX7_province_42 rfl rfl ?_
      refine vv_callV (As := [.int z1, .int z2]) (rest := []) [1, 2, 3, 4, 5, 6] 1 (ws' := [(hX, .inr (6, [.ref hP, .ref dP, .ref i0, .ref i1, .int k0, .int k1, .ref hE, .ref hW, .ref hG, .ref hT, .long abv, .long blw, .int rb, .int rn, .int rf])), (hP, .inr (1, [.int z1, .int 0, .int 0, .int z2, .int 0, .int 0, .int 0, .ref hS, .ref hC, .ref hN, .ref hM, .ref hU])), (hS, .inr (2, [.ref aS, .int mS, .int 0])), (hC, .inr (2, [.ref aC, .int mC, .int 0])), (hN, .inr (2, [.ref aN, .int mN, .int 0])), (hM, .inr (2, [.ref aM, .int mM, .int 0])), (hU, .inr (2, [.ref aU, .int mU, .int 0]))]) F (c_X2_start (vv_l x) (vv_k x) hP hS hC hN hM hU ln hb ha pu hl sm hr aS mS nS aC mC nC aN mN nN aM mM nM aU mU nU z1 z2) mv_X7_78 dX7_province_43 (by decide) rfl rfl (Nat.le_of_ble_eq_true rfl) rfl (by decide) (Eq.trans (b := [hP, hS, hC, hN, hM, hU]) rfl rfl) rfl rfl ?_
      refine vv_iload_n F dX7_province_46 rfl rfl ?_
      exact vv_iret F hR dX7_province_47 (congrArg (fun z => some (Value.int z)) ((if_pos h_1).trans ((if_pos h_2).trans rfl))) (by simp only [g_X7_province_0_12, g_X7_province_1_0, g_X7_province_1_1, g_X7_province_1_2, g_X7_province_1_3, g_X7_province_1_4, g_X7_province_1_5, g_X7_province_1_6, g_X7_province_2_2, g_X7_province_3_2, g_X7_province_4_2, g_X7_province_5_2, g_X7_province_6_2, if_pos h_1, if_pos h_2])
    · refine vv_aload_n F dX7_province_21 rfl rfl ?_
      refine vv_callV (As := []) (rest := []) [0] 0 (ws' := [(hX, .inr (6, [.ref hP, .ref dP, .ref i0, .ref i1, .int k0, .int k1, .ref hE, .ref hW, .ref hG, .ref hT, .long abv, .long blw, .int (rb + 1), .int rn, .int rf])), (hP, .inr (1, [.int ln, .int hb, .int ha, .int pu, .int hl, .int sm, .int hr, .ref hS, .ref hC, .ref hN, .ref hM, .ref hU])), (hS, .inr (2, [.ref aS, .int mS, .int nS])), (hC, .inr (2, [.ref aC, .int mC, .int nC])), (hN, .inr (2, [.ref aN, .int mN, .int nN])), (hM, .inr (2, [.ref aM, .int mM, .int nM])), (hU, .inr (2, [.ref aU, .int mU, .int nU]))]) F (c_X7_refuseBad (vv_l x) (vv_k x) hX hP dP i0 i1 k0 k1 hE hW hG hT abv blw rb rn rf) mv_X7_64 dX7_province_22 (by decide) rfl rfl (Nat.le_of_ble_eq_true rfl) rfl (by decide) (Eq.trans (b := [hX]) rfl rfl) rfl rfl ?_
      exact vv_iret F hR dX7_province_25 (congrArg (fun z => some (Value.int z)) ((if_pos h_1).trans ((if_neg h_2).trans rfl))) (by simp only [g_X7_province_0_12, g_X7_province_1_0, g_X7_province_1_1, g_X7_province_1_2, g_X7_province_1_3, g_X7_province_1_4, g_X7_province_1_5, g_X7_province_1_6, g_X7_province_2_2, g_X7_province_3_2, g_X7_province_4_2, g_X7_province_5_2, g_X7_province_6_2, if_pos h_1, if_neg h_2])
noncomputable def f_X7_house (hb ha w kd : Int32) : Int32 := (if p_X7_within w 0 1 then (if p_X7_within kd 0 5 then (f_X2_houseKind hb ha w) else (-2)) else (-2))
noncomputable def g_X7_house_0_12 (rb w kd : Int32) : Int32 := (if p_X7_within w 0 1 then (if p_X7_within kd 0 5 then rb else (rb + 1)) else (rb + 1))
noncomputable def g_X7_house_1_1 (hb w kd : Int32) : Int32 := (if p_X7_within w 0 1 then (if p_X7_within kd 0 5 then (g_X2_setHouse_0_1 hb w kd) else hb) else hb)
noncomputable def g_X7_house_1_2 (ha w kd : Int32) : Int32 := (if p_X7_within w 0 1 then (if p_X7_within kd 0 5 then (g_X2_setHouse_0_2 ha w kd) else ha) else ha)
noncomputable def g_X7_house_2_2 (nU w kd : Int32) : Int32 := (if p_X7_within w 0 1 then (if p_X7_within kd 0 5 then 0 else nU) else nU)
theorem c_X7_house (l : Launch) (K : vv_K) (hX hP dP i0 i1 : Nat) (k0 k1 : Int32) (hE hW hG hT : Nat) (abv blw : Int64) (rb rn rf : Int32) (hS hC hN hM hU : Nat) (ln hb ha pu hl sm hr : Int32) (aU : Nat) (mU nU w kd : Int32)  : vv_C l K 3 yX7_house cX7_house 4 (some .int) [.ref hX, .int w, .int kd] [(hX, .inr (6, [.ref hP, .ref dP, .ref i0, .ref i1, .int k0, .int k1, .ref hE, .ref hW, .ref hG, .ref hT, .long abv, .long blw, .int rb, .int rn, .int rf])), (hP, .inr (1, [.int ln, .int hb, .int ha, .int pu, .int hl, .int sm, .int hr, .ref hS, .ref hC, .ref hN, .ref hM, .ref hU])), (hU, .inr (2, [.ref aU, .int mU, .int nU]))] (some (.int (f_X7_house hb ha w kd))) [(hX, .inr (6, [.ref hP, .ref dP, .ref i0, .ref i1, .int k0, .int k1, .ref hE, .ref hW, .ref hG, .ref hT, .long abv, .long blw, .int (g_X7_house_0_12 rb w kd), .int rn, .int rf])), (hP, .inr (1, [.int ln, .int (g_X7_house_1_1 hb w kd), .int (g_X7_house_1_2 ha w kd), .int pu, .int hl, .int sm, .int hr, .ref hS, .ref hC, .ref hN, .ref hM, .ref hU])), (hU, .inr (2, [.ref aU, .int mU, .int (g_X7_house_2_2 nU w kd)]))] := by
  refine vv_C.of (lv := [(0, .ref hX), (1, .int w), (2, .int kd)]) (by decide +kernel) (Nat.le_of_ble_eq_true rfl) rfl ?_
  intro x hl hK F hR; subst hl; obtain rfl := hK
  refine vv_iload_n F dX7_house_0 rfl rfl ?_
  refine vv_iconst (v := 0) F dX7_house_1 (by decide) ?_
  refine vv_iconst (v := 1) F dX7_house_2 (by decide) ?_
  refine vv_callSp (As := [.int w, .int 0, .int 1]) (rest := []) [] F (c_X7_within (vv_l x) (vv_k x) w 0 1) ms_X7_60 dX7_house_3 (by decide) rfl rfl (Nat.le_of_ble_eq_true rfl) rfl (by decide) ?_
  refine vv_ifz_eq (tgt := 16) F dX7_house_6 (by decide) (fun h_1 => ?_) (fun h_1 => ?_)
  · refine vv_aload_n F dX7_house_16 rfl rfl ?_
    refine vv_callV (As := []) (rest := []) [0] 0 (ws' := [(hX, .inr (6, [.ref hP, .ref dP, .ref i0, .ref i1, .int k0, .int k1, .ref hE, .ref hW, .ref hG, .ref hT, .long abv, .long blw, .int (rb + 1), .int rn, .int rf])), (hP, .inr (1, [.int ln, .int hb, .int ha, .int pu, .int hl, .int sm, .int hr, .ref hS, .ref hC, .ref hN, .ref hM, .ref hU])), (hU, .inr (2, [.ref aU, .int mU, .int nU]))]) F (c_X7_refuseBad (vv_l x) (vv_k x) hX hP dP i0 i1 k0 k1 hE hW hG hT abv blw rb rn rf) mv_X7_64 dX7_house_17 (by decide) rfl rfl (Nat.le_of_ble_eq_true rfl) rfl (by decide) (Eq.trans (b := [hX]) rfl rfl) rfl rfl ?_
    exact vv_iret F hR dX7_house_20 (congrArg (fun z => some (Value.int z)) ((if_neg h_1).trans rfl)) (by simp only [g_X7_house_0_12, g_X7_house_1_1, g_X7_house_1_2, g_X7_house_2_2, if_neg h_1])
  · have h_1r := wi_rng (a := 0) (b := 1) (by decide) (by decide) h_1
    have h_1c := nn_cl (a := w) (by omega)
    refine vv_iload_n F dX7_house_9 rfl rfl ?_
    refine vv_callSp (As := [.int kd]) (rest := []) [] F (c_X1_known (vv_l x) (vv_k x) kd) ms_X7_82 dX7_house_10 (by decide) rfl rfl (Nat.le_of_ble_eq_true rfl) rfl (by decide) ?_
    refine vv_ifz_ne (tgt := 21) F dX7_house_13 (by decide) (fun h_2 => ?_) (fun h_2 => ?_)
    · have h_2r := wi_rng (a := 0) (b := 5) (by decide) (by decide) h_2
      have h_2c := nn_cl (a := kd) (by omega)
      refine vv_aload_n F dX7_house_21 rfl rfl ?_
      refine vv_get 0 F fl_X7_10 dX7_house_22 rfl rfl ?_
      refine vv_iload_n F dX7_house_25 rfl rfl ?_
      refine vv_callVp (As := [.int w]) (rest := []) [1] 1 F (c_X2_houseKind (vv_l x) (vv_k x) hP hS hC hN hM hU ln hb ha pu hl sm hr w) mv_X7_88 dX7_house_26 (by decide) rfl rfl (Nat.le_of_ble_eq_true rfl) rfl (by decide) rfl ?_
      refine vv_istore_n (lv' := [(3, .int (f_X2_houseKind hb ha w)), (0, .ref hX), (1, .int w), (2, .int kd)]) F dX7_house_29 rfl (by decide) rfl ?_
      refine vv_aload_n F dX7_house_30 rfl rfl ?_
      refine vv_get 0 F fl_X7_10 dX7_house_31 rfl rfl ?_
      refine vv_iload_n F dX7_house_34 rfl rfl ?_
      refine vv_iload_n F dX7_house_35 rfl rfl ?_
      refine vv_callV (As := [.int w, .int kd]) (rest := []) [1] 1 (ws' := [(hX, .inr (6, [.ref hP, .ref dP, .ref i0, .ref i1, .int k0, .int k1, .ref hE, .ref hW, .ref hG, .ref hT, .long abv, .long blw, .int rb, .int rn, .int rf])), (hP, .inr (1, [.int ln, .int (g_X2_setHouse_0_1 hb w kd), .int (g_X2_setHouse_0_2 ha w kd), .int pu, .int hl, .int sm, .int hr, .ref hS, .ref hC, .ref hN, .ref hM, .ref hU])), (hU, .inr (2, [.ref aU, .int mU, .int nU]))]) F (c_X2_setHouse (vv_l x) (vv_k x) hP hS hC hN hM hU ln hb ha pu hl sm hr w kd) mv_X7_92 dX7_house_36 (by decide) rfl rfl (Nat.le_of_ble_eq_true rfl) rfl (by decide) (Eq.trans (b := [hP]) rfl rfl) rfl rfl ?_
      refine vv_aload_n F dX7_house_39 rfl rfl ?_
      refine vv_get 0 F fl_X7_10 dX7_house_40 rfl rfl ?_
      refine vv_get 1 F fl_X7_95 dX7_house_43 rfl rfl ?_
      refine vv_callV (As := []) (rest := []) [2] 2 (ws' := [(hX, .inr (6, [.ref hP, .ref dP, .ref i0, .ref i1, .int k0, .int k1, .ref hE, .ref hW, .ref hG, .ref hT, .long abv, .long blw, .int rb, .int rn, .int rf])), (hP, .inr (1, [.int ln, .int (g_X2_setHouse_0_1 hb w kd), .int (g_X2_setHouse_0_2 ha w kd), .int pu, .int hl, .int sm, .int hr, .ref hS, .ref hC, .ref hN, .ref hM, .ref hU])), (hU, .inr (2, [.ref aU, .int mU, .int 0]))]) F (c_X3_wipe (vv_l x) (vv_k x) hU aU mU nU) mv_X7_98 dX7_house_46 (by decide) rfl rfl (Nat.le_of_ble_eq_true rfl) rfl (by decide) (Eq.trans (b := [hU]) rfl rfl) rfl rfl ?_
      refine vv_iload_n F dX7_house_49 rfl rfl ?_
      exact vv_iret F hR dX7_house_50 (congrArg (fun z => some (Value.int z)) ((if_pos h_1).trans ((if_pos h_2).trans rfl))) (by simp only [g_X7_house_0_12, g_X7_house_1_1, g_X7_house_1_2, g_X7_house_2_2, if_pos h_1, if_pos h_2])
    · refine vv_aload_n F dX7_house_16 rfl rfl ?_
      refine vv_callV (As := []) (rest := []) [0] 0 (ws' := [(hX, .inr (6, [.ref hP, .ref dP, .ref i0, .ref i1, .int k0, .int k1, .ref hE, .ref hW, .ref hG, .ref hT, .long abv, .long blw, .int (rb + 1), .int rn, .int rf])), (hP, .inr (1, [.int ln, .int hb, .int ha, .int pu, .int hl, .int sm, .int hr, .ref hS, .ref hC, .ref hN, .ref hM, .ref hU])), (hU, .inr (2, [.ref aU, .int mU, .int nU]))]) F (c_X7_refuseBad (vv_l x) (vv_k x) hX hP dP i0 i1 k0 k1 hE hW hG hT abv blw rb rn rf) mv_X7_64 dX7_house_17 (by decide) rfl rfl (Nat.le_of_ble_eq_true rfl) rfl (by decide) (Eq.trans (b := [hX]) rfl rfl) rfl rfl ?_
      exact vv_iret F hR dX7_house_20 (congrArg (fun z => some (Value.int z)) ((if_pos h_1).trans ((if_neg h_2).trans rfl))) (by simp only [g_X7_house_0_12, g_X7_house_1_1, g_X7_house_1_2, g_X7_house_2_2, if_pos h_1, if_neg h_2])
noncomputable def f_X7_string (mS nS kd lg : Int32) : Int32 := (if p_X7_within kd 0 5 then (if p_X7_within lg 1 60 then (if p_X3_isFull mS nS then (-4) else ((g_X3_put_0_2 mS nS) - 1)) else (-2)) else (-2))
noncomputable def g_X7_string_0_12 (rb mS nS kd lg : Int32) : Int32 := (if p_X7_within kd 0 5 then (if p_X7_within lg 1 60 then (if p_X3_isFull mS nS then rb else rb) else (rb + 1)) else (rb + 1))
noncomputable def g_X7_string_0_14 (rf mS nS kd lg : Int32) : Int32 := (if p_X7_within kd 0 5 then (if p_X7_within lg 1 60 then (if p_X3_isFull mS nS then (rf + 1) else rf) else rf) else rf)
noncomputable def g_X7_string_2_2 (mS nS kd lg : Int32) : Int32 := (if p_X7_within kd 0 5 then (if p_X7_within lg 1 60 then (if p_X3_isFull mS nS then nS else (g_X3_put_0_2 mS nS)) else nS) else nS)
noncomputable def g_X7_string_3 (mS nS : Int32) (fS : Nat → Int32) (kd lg : Int32) : Nat → Int32 := (if p_X7_within kd 0 5 then (if p_X7_within lg 1 60 then (if p_X3_isFull mS nS then fS else (g_X3_put_1 mS nS fS kd lg 0 0)) else fS) else fS)
noncomputable def g_X7_string_4_2 (mS nS nU kd lg : Int32) : Int32 := (if p_X7_within kd 0 5 then (if p_X7_within lg 1 60 then (if p_X3_isFull mS nS then nU else 0) else nU) else nU)
theorem c_X7_string (l : Launch) (K : vv_K) (hX hP dP i0 i1 : Nat) (k0 k1 : Int32) (hE hW hG hT : Nat) (abv blw : Int64) (rb rn rf : Int32) (hS hC hN hM hU : Nat) (ln hb ha pu hl sm hr : Int32) (aS : Nat) (mS nS : Int32) (fS : Nat → Int32) (aU : Nat) (mU nU kd lg : Int32) (cs : Nat) (hcs : (nS).toInt = (cs : Int)) (hcs5 : cs ≤ 5) (hmS : mS.toInt = 5) : vv_C l K 3 yX7_string cX7_string 3 (some .int) [.ref hX, .int kd, .int lg] [(hX, .inr (6, [.ref hP, .ref dP, .ref i0, .ref i1, .int k0, .int k1, .ref hE, .ref hW, .ref hG, .ref hT, .long abv, .long blw, .int rb, .int rn, .int rf])), (hP, .inr (1, [.int ln, .int hb, .int ha, .int pu, .int hl, .int sm, .int hr, .ref hS, .ref hC, .ref hN, .ref hM, .ref hU])), (hS, .inr (2, [.ref aS, .int mS, .int nS])), (aS, .inl (K.2.1.1, 32, .inl fS)), (hU, .inr (2, [.ref aU, .int mU, .int nU]))] (some (.int (f_X7_string mS nS kd lg))) [(hX, .inr (6, [.ref hP, .ref dP, .ref i0, .ref i1, .int k0, .int k1, .ref hE, .ref hW, .ref hG, .ref hT, .long abv, .long blw, .int (g_X7_string_0_12 rb mS nS kd lg), .int rn, .int (g_X7_string_0_14 rf mS nS kd lg)])), (hP, .inr (1, [.int ln, .int hb, .int ha, .int pu, .int hl, .int sm, .int hr, .ref hS, .ref hC, .ref hN, .ref hM, .ref hU])), (hS, .inr (2, [.ref aS, .int mS, .int (g_X7_string_2_2 mS nS kd lg)])), (aS, .inl (K.2.1.1, 32, .inl (g_X7_string_3 mS nS fS kd lg))), (hU, .inr (2, [.ref aU, .int mU, .int (g_X7_string_4_2 mS nS nU kd lg)]))] := by
  refine vv_C.of (lv := [(0, .ref hX), (1, .int kd), (2, .int lg)]) (by decide +kernel) (Nat.le_of_ble_eq_true rfl) rfl ?_
  intro x hl hK F hR; subst hl; obtain rfl := hK
  refine vv_iload_n F dX7_string_0 rfl rfl ?_
  refine vv_callSp (As := [.int kd]) (rest := []) [] F (c_X1_known (vv_l x) (vv_k x) kd) ms_X7_82 dX7_string_1 (by decide) rfl rfl (Nat.le_of_ble_eq_true rfl) rfl (by decide) ?_
  refine vv_ifz_eq (tgt := 17) F dX7_string_4 (by decide) (fun h_1 => ?_) (fun h_1 => ?_)
  · refine vv_aload_n F dX7_string_17 rfl rfl ?_
    refine vv_callV (As := []) (rest := []) [0] 0 (ws' := [(hX, .inr (6, [.ref hP, .ref dP, .ref i0, .ref i1, .int k0, .int k1, .ref hE, .ref hW, .ref hG, .ref hT, .long abv, .long blw, .int (rb + 1), .int rn, .int rf])), (hP, .inr (1, [.int ln, .int hb, .int ha, .int pu, .int hl, .int sm, .int hr, .ref hS, .ref hC, .ref hN, .ref hM, .ref hU])), (hS, .inr (2, [.ref aS, .int mS, .int nS])), (aS, .inl ((vv_k x).2.1.1, 32, .inl fS)), (hU, .inr (2, [.ref aU, .int mU, .int nU]))]) F (c_X7_refuseBad (vv_l x) (vv_k x) hX hP dP i0 i1 k0 k1 hE hW hG hT abv blw rb rn rf) mv_X7_64 dX7_string_18 (by decide) rfl rfl (Nat.le_of_ble_eq_true rfl) rfl (by decide) (Eq.trans (b := [hX]) rfl rfl) rfl rfl ?_
    exact vv_iret F hR dX7_string_21 (congrArg (fun z => some (Value.int z)) ((if_neg h_1).trans rfl)) (by simp only [g_X7_string_0_12, g_X7_string_0_14, g_X7_string_2_2, g_X7_string_3, g_X7_string_4_2, if_neg h_1])
  · have h_1r := wi_rng (a := 0) (b := 5) (by decide) (by decide) h_1
    have h_1c := nn_cl (a := kd) (by omega)
    refine vv_iload_n F dX7_string_7 rfl rfl ?_
    refine vv_iconst (v := 1) F dX7_string_8 (by decide) ?_
    refine vv_bipush (v := 60) F dX7_string_9 (by decide) ?_
    refine vv_callSp (As := [.int lg, .int 1, .int 60]) (rest := []) [] F (c_X7_within (vv_l x) (vv_k x) lg 1 60) ms_X7_60 dX7_string_11 (by decide) rfl rfl (Nat.le_of_ble_eq_true rfl) rfl (by decide) ?_
    refine vv_ifz_ne (tgt := 22) F dX7_string_14 (by decide) (fun h_2 => ?_) (fun h_2 => ?_)
    · have h_2r := wi_rng (a := 1) (b := 60) (by decide) (by decide) h_2
      have h_2c := nn_cl (a := lg) (by omega)
      refine vv_aload_n F dX7_string_22 rfl rfl ?_
      refine vv_get 0 F fl_X7_10 dX7_string_23 rfl rfl ?_
      refine vv_get 1 F fl_X7_68 dX7_string_26 rfl rfl ?_
      refine vv_callVp (As := []) (rest := []) [2] 2 F (c_X3_isFull (vv_l x) (vv_k x) hS aS mS nS) mv_X7_101 dX7_string_29 (by decide) rfl rfl (Nat.le_of_ble_eq_true rfl) rfl (by decide) rfl ?_
      refine vv_ifz_eq (tgt := 40) F dX7_string_32 (by decide) (fun h_3 => ?_) (fun h_3 => ?_)
      · refine vv_aload_n F dX7_string_40 rfl rfl ?_
        refine vv_get 0 F fl_X7_10 dX7_string_41 rfl rfl ?_
        refine vv_get 1 F fl_X7_68 dX7_string_44 rfl rfl ?_
        refine vv_iload_n F dX7_string_47 rfl rfl ?_
        refine vv_iload_n F dX7_string_48 rfl rfl ?_
        refine vv_iconst (v := 0) F dX7_string_49 (by decide) ?_
        refine vv_iconst (v := 0) F dX7_string_50 (by decide) ?_
        refine vv_callV (As := [.int kd, .int lg, .int 0, .int 0]) (rest := []) [2, 3] 2 (ws' := [(hX, .inr (6, [.ref hP, .ref dP, .ref i0, .ref i1, .int k0, .int k1, .ref hE, .ref hW, .ref hG, .ref hT, .long abv, .long blw, .int rb, .int rn, .int rf])), (hP, .inr (1, [.int ln, .int hb, .int ha, .int pu, .int hl, .int sm, .int hr, .ref hS, .ref hC, .ref hN, .ref hM, .ref hU])), (hS, .inr (2, [.ref aS, .int mS, .int (g_X3_put_0_2 mS nS)])), (aS, .inl ((vv_k x).2.1.1, 32, .inl (g_X3_put_1 mS nS fS kd lg 0 0))), (hU, .inr (2, [.ref aU, .int mU, .int nU]))]) F (c_X3_put (vv_l x) (vv_k x) hS aS mS nS fS kd lg 0 0 (by omega) (by omega)) mv_X7_108 dX7_string_51 (by decide) rfl rfl (Nat.le_of_ble_eq_true rfl) rfl (by decide) (Eq.trans (b := [hS, aS]) rfl rfl) rfl rfl ?_
        refine vv_aload_n F dX7_string_54 rfl rfl ?_
        refine vv_get 0 F fl_X7_10 dX7_string_55 rfl rfl ?_
        refine vv_get 1 F fl_X7_95 dX7_string_58 rfl rfl ?_
        refine vv_callV (As := []) (rest := []) [4] 4 (ws' := [(hX, .inr (6, [.ref hP, .ref dP, .ref i0, .ref i1, .int k0, .int k1, .ref hE, .ref hW, .ref hG, .ref hT, .long abv, .long blw, .int rb, .int rn, .int rf])), (hP, .inr (1, [.int ln, .int hb, .int ha, .int pu, .int hl, .int sm, .int hr, .ref hS, .ref hC, .ref hN, .ref hM, .ref hU])), (hS, .inr (2, [.ref aS, .int mS, .int (g_X3_put_0_2 mS nS)])), (aS, .inl ((vv_k x).2.1.1, 32, .inl (g_X3_put_1 mS nS fS kd lg 0 0))), (hU, .inr (2, [.ref aU, .int mU, .int 0]))]) F (c_X3_wipe (vv_l x) (vv_k x) hU aU mU nU) mv_X7_98 dX7_string_61 (by decide) rfl rfl (Nat.le_of_ble_eq_true rfl) rfl (by decide) (Eq.trans (b := [hU]) rfl rfl) rfl rfl ?_
        refine vv_aload_n F dX7_string_64 rfl rfl ?_
        refine vv_get 0 F fl_X7_10 dX7_string_65 rfl rfl ?_
        refine vv_get 1 F fl_X7_68 dX7_string_68 rfl rfl ?_
        refine vv_get 2 F fl_X7_72 dX7_string_71 rfl rfl ?_
        refine vv_iconst (v := 1) F dX7_string_74 (by decide) ?_
        refine vv_isub F dX7_string_75 ?_
        exact vv_iret F hR dX7_string_76 (congrArg (fun z => some (Value.int z)) ((if_pos h_1).trans ((if_pos h_2).trans ((if_neg h_3).trans rfl)))) (by simp only [g_X7_string_0_12, g_X7_string_0_14, g_X7_string_2_2, g_X7_string_3, g_X7_string_4_2, if_pos h_1, if_pos h_2, if_neg h_3])
      · refine vv_aload_n F dX7_string_35 rfl rfl ?_
        refine vv_callV (As := []) (rest := []) [0] 0 (ws' := [(hX, .inr (6, [.ref hP, .ref dP, .ref i0, .ref i1, .int k0, .int k1, .ref hE, .ref hW, .ref hG, .ref hT, .long abv, .long blw, .int rb, .int rn, .int (rf + 1)])), (hP, .inr (1, [.int ln, .int hb, .int ha, .int pu, .int hl, .int sm, .int hr, .ref hS, .ref hC, .ref hN, .ref hM, .ref hU])), (hS, .inr (2, [.ref aS, .int mS, .int nS])), (aS, .inl ((vv_k x).2.1.1, 32, .inl fS)), (hU, .inr (2, [.ref aU, .int mU, .int nU]))]) F (c_X7_refuseFull (vv_l x) (vv_k x) hX hP dP i0 i1 k0 k1 hE hW hG hT abv blw rb rn rf) mv_X7_105 dX7_string_36 (by decide) rfl rfl (Nat.le_of_ble_eq_true rfl) rfl (by decide) (Eq.trans (b := [hX]) rfl rfl) rfl rfl ?_
        exact vv_iret F hR dX7_string_39 (congrArg (fun z => some (Value.int z)) ((if_pos h_1).trans ((if_pos h_2).trans ((if_pos h_3).trans rfl)))) (by simp only [g_X7_string_0_12, g_X7_string_0_14, g_X7_string_2_2, g_X7_string_3, g_X7_string_4_2, if_pos h_1, if_pos h_2, if_pos h_3])
    · refine vv_aload_n F dX7_string_17 rfl rfl ?_
      refine vv_callV (As := []) (rest := []) [0] 0 (ws' := [(hX, .inr (6, [.ref hP, .ref dP, .ref i0, .ref i1, .int k0, .int k1, .ref hE, .ref hW, .ref hG, .ref hT, .long abv, .long blw, .int (rb + 1), .int rn, .int rf])), (hP, .inr (1, [.int ln, .int hb, .int ha, .int pu, .int hl, .int sm, .int hr, .ref hS, .ref hC, .ref hN, .ref hM, .ref hU])), (hS, .inr (2, [.ref aS, .int mS, .int nS])), (aS, .inl ((vv_k x).2.1.1, 32, .inl fS)), (hU, .inr (2, [.ref aU, .int mU, .int nU]))]) F (c_X7_refuseBad (vv_l x) (vv_k x) hX hP dP i0 i1 k0 k1 hE hW hG hT abv blw rb rn rf) mv_X7_64 dX7_string_18 (by decide) rfl rfl (Nat.le_of_ble_eq_true rfl) rfl (by decide) (Eq.trans (b := [hX]) rfl rfl) rfl rfl ?_
      exact vv_iret F hR dX7_string_21 (congrArg (fun z => some (Value.int z)) ((if_pos h_1).trans ((if_neg h_2).trans rfl))) (by simp only [g_X7_string_0_12, g_X7_string_0_14, g_X7_string_2_2, g_X7_string_3, g_X7_string_4_2, if_pos h_1, if_neg h_2])
abbrev p_X5_put (tl : Int32) : Prop := (p_X7_within tl 0 149)
noncomputable def g_X5_put_0_1 (tl : Int32) : Int32 := (if p_X7_within tl 0 149 then (tl + 1) else tl)
noncomputable def g_X5_put_1 (tl : Int32) (by_ : Nat → Int32) (c : Int32) : Nat → Int32 := (if p_X7_within tl 0 149 then (upd by_ tl.toNatClampNeg (vp_nar .byte c.toInt8.toInt32)) else by_)
theorem c_X5_put (l : Launch) (K : vv_K) (hE aE : Nat) (tl ts tn tk tm : Int32) (by_ : Nat → Int32) (c : Int32)  : vv_C l K 2 yX5_put cX5_put 2 (some .boolean) [.ref hE, .int c] [(hE, .inr (4, [.ref aE, .int tl, .int ts, .int tn, .int tk, .int tm])), (aE, .inl (K.2.1.2.1, 150, .inl by_))] (some (.int (vv_b (p_X5_put tl)))) [(hE, .inr (4, [.ref aE, .int (g_X5_put_0_1 tl), .int ts, .int tn, .int tk, .int tm])), (aE, .inl (K.2.1.2.1, 150, .inl (g_X5_put_1 tl by_ c)))] := by
  refine vv_C.of (lv := [(0, .ref hE), (1, .int c)]) (by decide +kernel) (Nat.le_of_ble_eq_true rfl) rfl ?_
  intro x hl hK F hR; subst hl; obtain rfl := hK
  refine vv_aload_n F dX5_put_0 rfl rfl ?_
  refine vv_get 0 F fl_X5_15 dX5_put_1 rfl rfl ?_
  refine vv_iconst (v := 0) F dX5_put_4 (by decide) ?_
  refine vv_sipush (v := 149) F dX5_put_5 (by decide) ?_
  refine vv_callSp (As := [.int tl, .int 0, .int 149]) (rest := []) [] F (c_X7_within (vv_l x) (vv_k x) tl 0 149) ms_X5_19 dX5_put_8 (by decide) rfl rfl (Nat.le_of_ble_eq_true rfl) rfl (by decide) ?_
  refine vv_ifz_ne (tgt := 16) F dX5_put_11 (by decide) (fun h_1 => ?_) (fun h_1 => ?_)
  · have h_1r := wi_rng (a := 0) (b := 149) (by decide) (by decide) h_1
    have h_1c := nn_cl (a := tl) (by omega)
    refine vv_aload_n F dX5_put_16 rfl rfl ?_
    refine vv_get 0 F fl_X5_11 dX5_put_17 rfl rfl ?_
    refine vv_aload_n F dX5_put_20 rfl rfl ?_
    refine vv_get 0 F fl_X5_15 dX5_put_21 rfl rfl ?_
    refine vv_iload_n F dX5_put_24 rfl rfl ?_
    refine vv_i2b F dX5_put_25 ?_
    refine vv_bast 1 (ws' := [(hE, .inr (4, [.ref aE, .int tl, .int ts, .int tn, .int tk, .int tm])), (aE, .inl ((vv_k x).2.1.2.1, 150, .inl (upd by_ tl.toNatClampNeg (vp_nar .byte c.toInt8.toInt32))))]) F dX5_put_26 rfl (vv_ixP (j := tl.toNatClampNeg) (by have hz := h_1c; omega) (by omega)) rfl ?_
    refine vv_aload_n F dX5_put_27 rfl rfl ?_
    refine vv_dup F dX5_put_28 rfl ?_
    refine vv_get 0 F fl_X5_15 dX5_put_29 rfl rfl ?_
    refine vv_iconst (v := 1) F dX5_put_32 (by decide) ?_
    refine vv_iadd F dX5_put_33 ?_
    refine vv_put 0 (ws' := [(hE, .inr (4, [.ref aE, .int (tl + 1), .int ts, .int tn, .int tk, .int tm])), (aE, .inl ((vv_k x).2.1.2.1, 150, .inl (upd by_ tl.toNatClampNeg (vp_nar .byte c.toInt8.toInt32))))]) F fl_X5_15 dX5_put_34 rfl rfl rfl (Nat.le_of_ble_eq_true rfl) rfl ?_
    refine vv_iconst (v := 1) F dX5_put_37 (by decide) ?_
    exact vv_zret F hR dX5_put_38 rfl (vv_bt h_1) (by simp only [g_X5_put_0_1, g_X5_put_1, if_pos h_1])
  · refine vv_iconst (v := 0) F dX5_put_14 (by decide) ?_
    exact vv_zret F hR dX5_put_15 rfl (vv_bf h_1) (by simp only [g_X5_put_0_1, g_X5_put_1, if_neg h_1])
noncomputable def f_X7_type (tl c : Int32) : Int32 := (if p_X7_within c 0 127 then (if p_X5_put tl then (g_X5_put_0_1 tl) else (-4)) else (-2))
noncomputable def g_X7_type_0_12 (rb tl c : Int32) : Int32 := (if p_X7_within c 0 127 then (if p_X5_put tl then rb else rb) else (rb + 1))
noncomputable def g_X7_type_0_14 (rf tl c : Int32) : Int32 := (if p_X7_within c 0 127 then (if p_X5_put tl then rf else (rf + 1)) else rf)
noncomputable def g_X7_type_1_1 (tl c : Int32) : Int32 := (if p_X7_within c 0 127 then (if p_X5_put tl then (g_X5_put_0_1 tl) else (g_X5_put_0_1 tl)) else tl)
noncomputable def g_X7_type_2 (tl : Int32) (by_ : Nat → Int32) (c : Int32) : Nat → Int32 := (if p_X7_within c 0 127 then (if p_X5_put tl then (g_X5_put_1 tl by_ c) else (g_X5_put_1 tl by_ c)) else by_)
theorem c_X7_type (l : Launch) (K : vv_K) (hX hP dP i0 i1 : Nat) (k0 k1 : Int32) (hE hW hG hT : Nat) (abv blw : Int64) (rb rn rf : Int32) (aE : Nat) (tl ts tn tk tm : Int32) (by_ : Nat → Int32) (c : Int32)  : vv_C l K 3 yX7_type cX7_type 2 (some .int) [.ref hX, .int c] [(hX, .inr (6, [.ref hP, .ref dP, .ref i0, .ref i1, .int k0, .int k1, .ref hE, .ref hW, .ref hG, .ref hT, .long abv, .long blw, .int rb, .int rn, .int rf])), (hE, .inr (4, [.ref aE, .int tl, .int ts, .int tn, .int tk, .int tm])), (aE, .inl (K.2.1.2.1, 150, .inl by_))] (some (.int (f_X7_type tl c))) [(hX, .inr (6, [.ref hP, .ref dP, .ref i0, .ref i1, .int k0, .int k1, .ref hE, .ref hW, .ref hG, .ref hT, .long abv, .long blw, .int (g_X7_type_0_12 rb tl c), .int rn, .int (g_X7_type_0_14 rf tl c)])), (hE, .inr (4, [.ref aE, .int (g_X7_type_1_1 tl c), .int ts, .int tn, .int tk, .int tm])), (aE, .inl (K.2.1.2.1, 150, .inl (g_X7_type_2 tl by_ c)))] := by
  refine vv_C.of (lv := [(0, .ref hX), (1, .int c)]) (by decide +kernel) (Nat.le_of_ble_eq_true rfl) rfl ?_
  intro x hl hK F hR; subst hl; obtain rfl := hK
  refine vv_iload_n F dX7_type_0 rfl rfl ?_
  refine vv_iconst (v := 0) F dX7_type_1 (by decide) ?_
  refine vv_bipush (v := 127) F dX7_type_2 (by decide) ?_
  refine vv_callSp (As := [.int c, .int 0, .int 127]) (rest := []) [] F (c_X7_within (vv_l x) (vv_k x) c 0 127) ms_X7_60 dX7_type_4 (by decide) rfl rfl (Nat.le_of_ble_eq_true rfl) rfl (by decide) ?_
  refine vv_ifz_ne (tgt := 15) F dX7_type_7 (by decide) (fun h_1 => ?_) (fun h_1 => ?_)
  · have h_1r := wi_rng (a := 0) (b := 127) (by decide) (by decide) h_1
    have h_1c := nn_cl (a := c) (by omega)
    refine vv_aload_n F dX7_type_15 rfl rfl ?_
    refine vv_get 0 F fl_X7_28 dX7_type_16 rfl rfl ?_
    refine vv_iload_n F dX7_type_19 rfl rfl ?_
    refine vv_callV (As := [.int c]) (rest := []) [1, 2] 1 (ws' := [(hX, .inr (6, [.ref hP, .ref dP, .ref i0, .ref i1, .int k0, .int k1, .ref hE, .ref hW, .ref hG, .ref hT, .long abv, .long blw, .int rb, .int rn, .int rf])), (hE, .inr (4, [.ref aE, .int (g_X5_put_0_1 tl), .int ts, .int tn, .int tk, .int tm])), (aE, .inl ((vv_k x).2.1.2.1, 150, .inl (g_X5_put_1 tl by_ c)))]) F (c_X5_put (vv_l x) (vv_k x) hE aE tl ts tn tk tm by_ c) mv_X7_112 dX7_type_20 (by decide) rfl rfl (Nat.le_of_ble_eq_true rfl) rfl (by decide) (Eq.trans (b := [hE, aE]) rfl rfl) rfl rfl ?_
    refine vv_ifz_ne (tgt := 31) F dX7_type_23 (by decide) (fun h_2 => ?_) (fun h_2 => ?_)
    · refine vv_aload_n F dX7_type_31 rfl rfl ?_
      refine vv_get 0 F fl_X7_28 dX7_type_32 rfl rfl ?_
      refine vv_get 1 F fl_X7_114 dX7_type_35 rfl rfl ?_
      exact vv_iret F hR dX7_type_38 (congrArg (fun z => some (Value.int z)) ((if_pos h_1).trans ((if_pos h_2).trans rfl))) (by simp only [g_X7_type_0_12, g_X7_type_0_14, g_X7_type_1_1, g_X7_type_2, if_pos h_1, if_pos h_2])
    · refine vv_aload_n F dX7_type_26 rfl rfl ?_
      refine vv_callV (As := []) (rest := []) [0] 0 (ws' := [(hX, .inr (6, [.ref hP, .ref dP, .ref i0, .ref i1, .int k0, .int k1, .ref hE, .ref hW, .ref hG, .ref hT, .long abv, .long blw, .int rb, .int rn, .int (rf + 1)])), (hE, .inr (4, [.ref aE, .int (g_X5_put_0_1 tl), .int ts, .int tn, .int tk, .int tm])), (aE, .inl ((vv_k x).2.1.2.1, 150, .inl (g_X5_put_1 tl by_ c)))]) F (c_X7_refuseFull (vv_l x) (vv_k x) hX hP dP i0 i1 k0 k1 hE hW hG hT abv blw rb rn rf) mv_X7_105 dX7_type_27 (by decide) rfl rfl (Nat.le_of_ble_eq_true rfl) rfl (by decide) (Eq.trans (b := [hX]) rfl rfl) rfl rfl ?_
      exact vv_iret F hR dX7_type_30 (congrArg (fun z => some (Value.int z)) ((if_pos h_1).trans ((if_neg h_2).trans rfl))) (by simp only [g_X7_type_0_12, g_X7_type_0_14, g_X7_type_1_1, g_X7_type_2, if_pos h_1, if_neg h_2])
  · refine vv_aload_n F dX7_type_10 rfl rfl ?_
    refine vv_callV (As := []) (rest := []) [0] 0 (ws' := [(hX, .inr (6, [.ref hP, .ref dP, .ref i0, .ref i1, .int k0, .int k1, .ref hE, .ref hW, .ref hG, .ref hT, .long abv, .long blw, .int (rb + 1), .int rn, .int rf])), (hE, .inr (4, [.ref aE, .int tl, .int ts, .int tn, .int tk, .int tm])), (aE, .inl ((vv_k x).2.1.2.1, 150, .inl by_))]) F (c_X7_refuseBad (vv_l x) (vv_k x) hX hP dP i0 i1 k0 k1 hE hW hG hT abv blw rb rn rf) mv_X7_64 dX7_type_11 (by decide) rfl rfl (Nat.le_of_ble_eq_true rfl) rfl (by decide) (Eq.trans (b := [hX]) rfl rfl) rfl rfl ?_
    exact vv_iret F hR dX7_type_14 (congrArg (fun z => some (Value.int z)) ((if_neg h_1).trans rfl)) (by simp only [g_X7_type_0_12, g_X7_type_0_14, g_X7_type_1_1, g_X7_type_2, if_neg h_1])
theorem c_X7_clear (l : Launch) (K : vv_K) (hX hP dP i0 i1 : Nat) (k0 k1 : Int32) (hE hW hG hT : Nat) (abv blw : Int64) (rb rn rf : Int32) (aE : Nat) (tl ts tn tk tm : Int32)  : vv_C l K 1 yX7_clear cX7_clear 2 (some .int) [.ref hX] [(hX, .inr (6, [.ref hP, .ref dP, .ref i0, .ref i1, .int k0, .int k1, .ref hE, .ref hW, .ref hG, .ref hT, .long abv, .long blw, .int rb, .int rn, .int rf])), (hE, .inr (4, [.ref aE, .int tl, .int ts, .int tn, .int tk, .int tm]))] (some (.int tl)) [(hX, .inr (6, [.ref hP, .ref dP, .ref i0, .ref i1, .int k0, .int k1, .ref hE, .ref hW, .ref hG, .ref hT, .long abv, .long blw, .int rb, .int rn, .int rf])), (hE, .inr (4, [.ref aE, .int 0, .int ts, .int tn, .int tk, .int tm]))] := by
  refine vv_C.of (lv := [(0, .ref hX)]) (by decide +kernel) (Nat.le_of_ble_eq_true rfl) rfl ?_
  intro x hl hK F hR; subst hl; obtain rfl := hK
  refine vv_aload_n F dX7_clear_0 rfl rfl ?_
  refine vv_get 0 F fl_X7_28 dX7_clear_1 rfl rfl ?_
  refine vv_get 1 F fl_X7_114 dX7_clear_4 rfl rfl ?_
  refine vv_istore_n (lv' := [(1, .int tl), (0, .ref hX)]) F dX7_clear_7 rfl (by decide) rfl ?_
  refine vv_aload_n F dX7_clear_8 rfl rfl ?_
  refine vv_get 0 F fl_X7_28 dX7_clear_9 rfl rfl ?_
  refine vv_iconst (v := 0) F dX7_clear_12 (by decide) ?_
  refine vv_put 1 (ws' := [(hX, .inr (6, [.ref hP, .ref dP, .ref i0, .ref i1, .int k0, .int k1, .ref hE, .ref hW, .ref hG, .ref hT, .long abv, .long blw, .int rb, .int rn, .int rf])), (hE, .inr (4, [.ref aE, .int 0, .int ts, .int tn, .int tk, .int tm]))]) F fl_X7_114 dX7_clear_13 rfl rfl rfl (Nat.le_of_ble_eq_true rfl) rfl ?_
  refine vv_iload_n F dX7_clear_16 rfl rfl ?_
  exact vv_iret F hR dX7_clear_17 rfl rfl
noncomputable def f_X7_sends (ln hb ha pu hr nS : Int32) (fS : Nat → Int32) (i : Int32) : Int32 := (if p_X7_within i 0 (nS - 1) then (if 9999 ≤ hr then (-3) else (if (f_X2_costIn hb ha hr nS fS i 0) ≤ pu then (f_X1_brought (f_X3_cell nS fS i 1) ln) else (-3))) else (-2))
noncomputable def g_X7_sends_0_12 (rb hb ha pu hr nS : Int32) (fS : Nat → Int32) (i : Int32) : Int32 := (if p_X7_within i 0 (nS - 1) then (if 9999 ≤ hr then rb else (if (f_X2_costIn hb ha hr nS fS i 0) ≤ pu then rb else rb)) else (rb + 1))
noncomputable def g_X7_sends_0_13 (rn hb ha pu hr nS : Int32) (fS : Nat → Int32) (i : Int32) : Int32 := (if p_X7_within i 0 (nS - 1) then (if 9999 ≤ hr then (rn + 1) else (if (f_X2_costIn hb ha hr nS fS i 0) ≤ pu then rn else (rn + 1))) else rn)
noncomputable def g_X7_sends_1_3 (hb ha pu hr nS : Int32) (fS : Nat → Int32) (i : Int32) : Int32 := (if p_X7_within i 0 (nS - 1) then (if 9999 ≤ hr then pu else (if (f_X2_costIn hb ha hr nS fS i 0) ≤ pu then (g_X2_sendString_0_3 hb ha pu hr nS fS i) else pu)) else pu)
noncomputable def g_X7_sends_1_4 (ln hb ha pu hl hr nS : Int32) (fS : Nat → Int32) (i : Int32) : Int32 := (if p_X7_within i 0 (nS - 1) then (if 9999 ≤ hr then hl else (if (f_X2_costIn hb ha hr nS fS i 0) ≤ pu then (g_X2_sendString_0_4 ln hb ha pu hl hr nS fS i) else hl)) else hl)
noncomputable def g_X7_sends_1_5 (hb ha pu sm hr nS : Int32) (fS : Nat → Int32) (i : Int32) : Int32 := (if p_X7_within i 0 (nS - 1) then (if 9999 ≤ hr then sm else (if (f_X2_costIn hb ha hr nS fS i 0) ≤ pu then (g_X2_sendString_0_5 hb ha pu sm hr nS fS i) else sm)) else sm)
noncomputable def g_X7_sends_1_6 (hb ha pu hr nS : Int32) (fS : Nat → Int32) (i : Int32) : Int32 := (if p_X7_within i 0 (nS - 1) then (if 9999 ≤ hr then hr else (if (f_X2_costIn hb ha hr nS fS i 0) ≤ pu then (g_X2_sendString_0_6 hb ha pu hr nS fS i) else hr)) else hr)
noncomputable def g_X7_sends_4_2 (hb ha pu hr nS : Int32) (fS : Nat → Int32) (mU nU i : Int32) : Int32 := (if p_X7_within i 0 (nS - 1) then (if 9999 ≤ hr then nU else (if (f_X2_costIn hb ha hr nS fS i 0) ≤ pu then (g_X2_remember_1_2 mU nU) else nU)) else nU)
noncomputable def g_X7_sends_5 (hb ha pu hl sm hr nS : Int32) (fS : Nat → Int32) (mU nU : Int32) (fU : Nat → Int32) (i : Int32) (cu : Nat) : Nat → Int32 := (if p_X7_within i 0 (nS - 1) then (if 9999 ≤ hr then fU else (if (f_X2_costIn hb ha hr nS fS i 0) ≤ pu then (g_X2_remember_2 pu hl sm hr mU nU fU cu) else fU)) else fU)
theorem c_X7_sends (l : Launch) (K : vv_K) (hX hP dP i0 i1 : Nat) (k0 k1 : Int32) (hE hW hG hT : Nat) (abv blw : Int64) (rb rn rf : Int32) (hS hC hN hM hU : Nat) (ln hb ha pu hl sm hr : Int32) (aS : Nat) (mS nS : Int32) (fS : Nat → Int32) (aU : Nat) (mU nU : Int32) (fU : Nat → Int32) (i : Int32) (cs cu : Nat) (hcs : (nS).toInt = (cs : Int)) (hcu : (nU).toInt = (cu : Int)) (hcs5 : cs ≤ 5) (hcu8 : cu ≤ 8) (hmU : mU.toInt = 8) : vv_C l K 6 yX7_sends cX7_sends 2 (some .int) [.ref hX, .int i] [(hX, .inr (6, [.ref hP, .ref dP, .ref i0, .ref i1, .int k0, .int k1, .ref hE, .ref hW, .ref hG, .ref hT, .long abv, .long blw, .int rb, .int rn, .int rf])), (hP, .inr (1, [.int ln, .int hb, .int ha, .int pu, .int hl, .int sm, .int hr, .ref hS, .ref hC, .ref hN, .ref hM, .ref hU])), (hS, .inr (2, [.ref aS, .int mS, .int nS])), (aS, .inl (K.2.1.1, 32, .inl fS)), (hU, .inr (2, [.ref aU, .int mU, .int nU])), (aU, .inl (K.2.1.1, 32, .inl fU))] (some (.int (f_X7_sends ln hb ha pu hr nS fS i))) [(hX, .inr (6, [.ref hP, .ref dP, .ref i0, .ref i1, .int k0, .int k1, .ref hE, .ref hW, .ref hG, .ref hT, .long abv, .long blw, .int (g_X7_sends_0_12 rb hb ha pu hr nS fS i), .int (g_X7_sends_0_13 rn hb ha pu hr nS fS i), .int rf])), (hP, .inr (1, [.int ln, .int hb, .int ha, .int (g_X7_sends_1_3 hb ha pu hr nS fS i), .int (g_X7_sends_1_4 ln hb ha pu hl hr nS fS i), .int (g_X7_sends_1_5 hb ha pu sm hr nS fS i), .int (g_X7_sends_1_6 hb ha pu hr nS fS i), .ref hS, .ref hC, .ref hN, .ref hM, .ref hU])), (hS, .inr (2, [.ref aS, .int mS, .int nS])), (aS, .inl (K.2.1.1, 32, .inl fS)), (hU, .inr (2, [.ref aU, .int mU, .int (g_X7_sends_4_2 hb ha pu hr nS fS mU nU i)])), (aU, .inl (K.2.1.1, 32, .inl (g_X7_sends_5 hb ha pu hl sm hr nS fS mU nU fU i cu)))] := by
  refine vv_C.of (lv := [(0, .ref hX), (1, .int i)]) (by decide +kernel) (Nat.le_of_ble_eq_true rfl) rfl ?_
  intro x hl hK F hR; subst hl; obtain rfl := hK
  refine vv_aload_n F dX7_sends_0 rfl rfl ?_
  refine vv_get 0 F fl_X7_10 dX7_sends_1 rfl rfl ?_
  refine vv_iload_n F dX7_sends_4 rfl rfl ?_
  refine vv_callVp (As := [.int i]) (rest := []) [1, 2] 1 F (c_X2_has (vv_l x) (vv_k x) hP hS hC hN hM hU ln hb ha pu hl sm hr aS mS nS i) mv_X7_121 dX7_sends_5 (by decide) rfl rfl (Nat.le_of_ble_eq_true rfl) rfl (by decide) rfl ?_
  refine vv_ifz_ne (tgt := 16) F dX7_sends_8 (by decide) (fun h_1 => ?_) (fun h_1 => ?_)
  · have h_1r := wi_rngS hcs h_1
    have h_1c := nn_cl (a := i) (by omega)
    refine vv_aload_n F dX7_sends_16 rfl rfl ?_
    refine vv_get 0 F fl_X7_10 dX7_sends_17 rfl rfl ?_
    refine vv_get 1 F fl_X7_124 dX7_sends_20 rfl rfl ?_
    refine vv_sipush (v := 9999) F dX7_sends_23 (by decide) ?_
    refine vv_icmp_ge (tgt := 48) F dX7_sends_26 (by decide) (fun h_2 => ?_) (fun h_2 => ?_)
    · refine vv_aload_n F dX7_sends_48 rfl rfl ?_
      refine vv_callV (As := []) (rest := []) [0] 0 (ws' := [(hX, .inr (6, [.ref hP, .ref dP, .ref i0, .ref i1, .int k0, .int k1, .ref hE, .ref hW, .ref hG, .ref hT, .long abv, .long blw, .int rb, .int (rn + 1), .int rf])), (hP, .inr (1, [.int ln, .int hb, .int ha, .int pu, .int hl, .int sm, .int hr, .ref hS, .ref hC, .ref hN, .ref hM, .ref hU])), (hS, .inr (2, [.ref aS, .int mS, .int nS])), (aS, .inl ((vv_k x).2.1.1, 32, .inl fS)), (hU, .inr (2, [.ref aU, .int mU, .int nU])), (aU, .inl ((vv_k x).2.1.1, 32, .inl fU))]) F (c_X7_refuseNo (vv_l x) (vv_k x) hX hP dP i0 i1 k0 k1 hE hW hG hT abv blw rb rn rf) mv_X7_134 dX7_sends_49 (by decide) rfl rfl (Nat.le_of_ble_eq_true rfl) rfl (by decide) (Eq.trans (b := [hX]) rfl rfl) rfl rfl ?_
      exact vv_iret F hR dX7_sends_52 (congrArg (fun z => some (Value.int z)) ((if_pos h_1).trans ((if_pos h_2).trans rfl))) (by simp only [g_X7_sends_0_12, g_X7_sends_0_13, g_X7_sends_1_3, g_X7_sends_1_4, g_X7_sends_1_5, g_X7_sends_1_6, g_X7_sends_4_2, g_X7_sends_5, if_pos h_1, if_pos h_2])
    · refine vv_aload_n F dX7_sends_29 rfl rfl ?_
      refine vv_get 0 F fl_X7_10 dX7_sends_30 rfl rfl ?_
      refine vv_iload_n F dX7_sends_33 rfl rfl ?_
      refine vv_iconst (v := 0) F dX7_sends_34 (by decide) ?_
      refine vv_callVp (As := [.int i, .int 0]) (rest := []) [1, 2, 3] 1 F (c_X2_costIn (vv_l x) (vv_k x) hP hS hC hN hM hU ln hb ha pu hl sm hr aS mS nS fS i 0 (by omega)) mv_X7_127 dX7_sends_35 (by decide) rfl rfl (Nat.le_of_ble_eq_true rfl) rfl (by decide) rfl ?_
      refine vv_aload_n F dX7_sends_38 rfl rfl ?_
      refine vv_get 0 F fl_X7_10 dX7_sends_39 rfl rfl ?_
      refine vv_get 1 F fl_X7_131 dX7_sends_42 rfl rfl ?_
      refine vv_icmp_le (tgt := 53) F dX7_sends_45 (by decide) (fun h_3 => ?_) (fun h_3 => ?_)
      · refine vv_aload_n F dX7_sends_53 rfl rfl ?_
        refine vv_get 0 F fl_X7_10 dX7_sends_54 rfl rfl ?_
        refine vv_callV (As := []) (rest := []) [1, 4, 5] 1 (ws' := [(hX, .inr (6, [.ref hP, .ref dP, .ref i0, .ref i1, .int k0, .int k1, .ref hE, .ref hW, .ref hG, .ref hT, .long abv, .long blw, .int rb, .int rn, .int rf])), (hP, .inr (1, [.int ln, .int hb, .int ha, .int pu, .int hl, .int sm, .int hr, .ref hS, .ref hC, .ref hN, .ref hM, .ref hU])), (hS, .inr (2, [.ref aS, .int mS, .int nS])), (aS, .inl ((vv_k x).2.1.1, 32, .inl fS)), (hU, .inr (2, [.ref aU, .int mU, .int (g_X2_remember_1_2 mU nU)])), (aU, .inl ((vv_k x).2.1.1, 32, .inl (g_X2_remember_2 pu hl sm hr mU nU fU cu)))]) F (c_X2_remember (vv_l x) (vv_k x) hP hS hC hN hM hU ln hb ha pu hl sm hr aU mU nU fU cu hcu (by omega) hmU) mv_X7_137 dX7_sends_57 (by decide) rfl rfl (Nat.le_of_ble_eq_true rfl) rfl (by decide) (Eq.trans (b := [hP, hU, aU]) rfl rfl) rfl rfl ?_
        refine vv_aload_n F dX7_sends_60 rfl rfl ?_
        refine vv_get 0 F fl_X7_10 dX7_sends_61 rfl rfl ?_
        refine vv_iload_n F dX7_sends_64 rfl rfl ?_
        refine vv_callV (As := [.int i]) (rest := []) [1, 2, 3] 1 (ws' := [(hX, .inr (6, [.ref hP, .ref dP, .ref i0, .ref i1, .int k0, .int k1, .ref hE, .ref hW, .ref hG, .ref hT, .long abv, .long blw, .int rb, .int rn, .int rf])), (hP, .inr (1, [.int ln, .int hb, .int ha, .int (g_X2_sendString_0_3 hb ha pu hr nS fS i), .int (g_X2_sendString_0_4 ln hb ha pu hl hr nS fS i), .int (g_X2_sendString_0_5 hb ha pu sm hr nS fS i), .int (g_X2_sendString_0_6 hb ha pu hr nS fS i), .ref hS, .ref hC, .ref hN, .ref hM, .ref hU])), (hS, .inr (2, [.ref aS, .int mS, .int nS])), (aS, .inl ((vv_k x).2.1.1, 32, .inl fS)), (hU, .inr (2, [.ref aU, .int mU, .int (g_X2_remember_1_2 mU nU)])), (aU, .inl ((vv_k x).2.1.1, 32, .inl (g_X2_remember_2 pu hl sm hr mU nU fU cu)))]) F (c_X2_sendString (vv_l x) (vv_k x) hP hS hC hN hM hU ln hb ha pu hl sm hr aS mS nS fS i (by omega)) mv_X7_140 dX7_sends_65 (by decide) rfl rfl (Nat.le_of_ble_eq_true rfl) rfl (by decide) (Eq.trans (b := [hP, hS, aS]) rfl rfl) rfl rfl ?_
        refine vv_pop F dX7_sends_68 rfl ?_
        refine vv_aload_n F dX7_sends_69 rfl rfl ?_
        refine vv_get 0 F fl_X7_10 dX7_sends_70 rfl rfl ?_
        refine vv_iload_n F dX7_sends_73 rfl rfl ?_
        refine vv_callVp (As := [.int i]) (rest := []) [1, 2, 3] 1 F (c_X2_bringing (vv_l x) (vv_k x) hP hS hC hN hM hU ln hb ha (g_X2_sendString_0_3 hb ha pu hr nS fS i) (g_X2_sendString_0_4 ln hb ha pu hl hr nS fS i) (g_X2_sendString_0_5 hb ha pu sm hr nS fS i) (g_X2_sendString_0_6 hb ha pu hr nS fS i) aS mS nS fS i (by omega)) mv_X7_143 dX7_sends_74 (by decide) rfl rfl (Nat.le_of_ble_eq_true rfl) rfl (by decide) rfl ?_
        exact vv_iret F hR dX7_sends_77 (congrArg (fun z => some (Value.int z)) ((if_pos h_1).trans ((if_neg h_2).trans ((if_pos h_3).trans rfl)))) (by simp only [g_X7_sends_0_12, g_X7_sends_0_13, g_X7_sends_1_3, g_X7_sends_1_4, g_X7_sends_1_5, g_X7_sends_1_6, g_X7_sends_4_2, g_X7_sends_5, if_pos h_1, if_neg h_2, if_pos h_3])
      · refine vv_aload_n F dX7_sends_48 rfl rfl ?_
        refine vv_callV (As := []) (rest := []) [0] 0 (ws' := [(hX, .inr (6, [.ref hP, .ref dP, .ref i0, .ref i1, .int k0, .int k1, .ref hE, .ref hW, .ref hG, .ref hT, .long abv, .long blw, .int rb, .int (rn + 1), .int rf])), (hP, .inr (1, [.int ln, .int hb, .int ha, .int pu, .int hl, .int sm, .int hr, .ref hS, .ref hC, .ref hN, .ref hM, .ref hU])), (hS, .inr (2, [.ref aS, .int mS, .int nS])), (aS, .inl ((vv_k x).2.1.1, 32, .inl fS)), (hU, .inr (2, [.ref aU, .int mU, .int nU])), (aU, .inl ((vv_k x).2.1.1, 32, .inl fU))]) F (c_X7_refuseNo (vv_l x) (vv_k x) hX hP dP i0 i1 k0 k1 hE hW hG hT abv blw rb rn rf) mv_X7_134 dX7_sends_49 (by decide) rfl rfl (Nat.le_of_ble_eq_true rfl) rfl (by decide) (Eq.trans (b := [hX]) rfl rfl) rfl rfl ?_
        exact vv_iret F hR dX7_sends_52 (congrArg (fun z => some (Value.int z)) ((if_pos h_1).trans ((if_neg h_2).trans ((if_neg h_3).trans rfl)))) (by simp only [g_X7_sends_0_12, g_X7_sends_0_13, g_X7_sends_1_3, g_X7_sends_1_4, g_X7_sends_1_5, g_X7_sends_1_6, g_X7_sends_4_2, g_X7_sends_5, if_pos h_1, if_neg h_2, if_neg h_3])
  · refine vv_aload_n F dX7_sends_11 rfl rfl ?_
    refine vv_callV (As := []) (rest := []) [0] 0 (ws' := [(hX, .inr (6, [.ref hP, .ref dP, .ref i0, .ref i1, .int k0, .int k1, .ref hE, .ref hW, .ref hG, .ref hT, .long abv, .long blw, .int (rb + 1), .int rn, .int rf])), (hP, .inr (1, [.int ln, .int hb, .int ha, .int pu, .int hl, .int sm, .int hr, .ref hS, .ref hC, .ref hN, .ref hM, .ref hU])), (hS, .inr (2, [.ref aS, .int mS, .int nS])), (aS, .inl ((vv_k x).2.1.1, 32, .inl fS)), (hU, .inr (2, [.ref aU, .int mU, .int nU])), (aU, .inl ((vv_k x).2.1.1, 32, .inl fU))]) F (c_X7_refuseBad (vv_l x) (vv_k x) hX hP dP i0 i1 k0 k1 hE hW hG hT abv blw rb rn rf) mv_X7_64 dX7_sends_12 (by decide) rfl rfl (Nat.le_of_ble_eq_true rfl) rfl (by decide) (Eq.trans (b := [hX]) rfl rfl) rfl rfl ?_
    exact vv_iret F hR dX7_sends_15 (congrArg (fun z => some (Value.int z)) ((if_neg h_1).trans rfl)) (by simp only [g_X7_sends_0_12, g_X7_sends_0_13, g_X7_sends_1_3, g_X7_sends_1_4, g_X7_sends_1_5, g_X7_sends_1_6, g_X7_sends_4_2, g_X7_sends_5, if_neg h_1])
noncomputable def f_X7_waits (hr k : Int32) : Int32 := (if p_X7_within k 1 99 then (if 9999 < (hr + k) then 9999 else (hr + k)) else (-2))
noncomputable def g_X7_waits_0_12 (rb k : Int32) : Int32 := (if p_X7_within k 1 99 then rb else (rb + 1))
noncomputable def g_X7_waits_1_6 (hr k : Int32) : Int32 := (if p_X7_within k 1 99 then (if 9999 < (hr + k) then 9999 else (hr + k)) else hr)
noncomputable def g_X7_waits_2_2 (mU nU k : Int32) : Int32 := (if p_X7_within k 1 99 then (g_X2_remember_1_2 mU nU) else nU)
noncomputable def g_X7_waits_3 (pu hl sm hr mU nU : Int32) (fU : Nat → Int32) (k : Int32) (cu : Nat) : Nat → Int32 := (if p_X7_within k 1 99 then (g_X2_remember_2 pu hl sm hr mU nU fU cu) else fU)
theorem c_X7_waits (l : Launch) (K : vv_K) (hX hP dP i0 i1 : Nat) (k0 k1 : Int32) (hE hW hG hT : Nat) (abv blw : Int64) (rb rn rf : Int32) (hS hC hN hM hU : Nat) (ln hb ha pu hl sm hr : Int32) (aU : Nat) (mU nU : Int32) (fU : Nat → Int32) (k : Int32) (cu : Nat) (hcu : (nU).toInt = (cu : Int)) (hcu8 : cu ≤ 8) (hmU : mU.toInt = 8) : vv_C l K 5 yX7_waits cX7_waits 2 (some .int) [.ref hX, .int k] [(hX, .inr (6, [.ref hP, .ref dP, .ref i0, .ref i1, .int k0, .int k1, .ref hE, .ref hW, .ref hG, .ref hT, .long abv, .long blw, .int rb, .int rn, .int rf])), (hP, .inr (1, [.int ln, .int hb, .int ha, .int pu, .int hl, .int sm, .int hr, .ref hS, .ref hC, .ref hN, .ref hM, .ref hU])), (hU, .inr (2, [.ref aU, .int mU, .int nU])), (aU, .inl (K.2.1.1, 32, .inl fU))] (some (.int (f_X7_waits hr k))) [(hX, .inr (6, [.ref hP, .ref dP, .ref i0, .ref i1, .int k0, .int k1, .ref hE, .ref hW, .ref hG, .ref hT, .long abv, .long blw, .int (g_X7_waits_0_12 rb k), .int rn, .int rf])), (hP, .inr (1, [.int ln, .int hb, .int ha, .int pu, .int hl, .int sm, .int (g_X7_waits_1_6 hr k), .ref hS, .ref hC, .ref hN, .ref hM, .ref hU])), (hU, .inr (2, [.ref aU, .int mU, .int (g_X7_waits_2_2 mU nU k)])), (aU, .inl (K.2.1.1, 32, .inl (g_X7_waits_3 pu hl sm hr mU nU fU k cu)))] := by
  refine vv_C.of (lv := [(0, .ref hX), (1, .int k)]) (by decide +kernel) (Nat.le_of_ble_eq_true rfl) rfl ?_
  intro x hl hK F hR; subst hl; obtain rfl := hK
  refine vv_iload_n F dX7_waits_0 rfl rfl ?_
  refine vv_iconst (v := 1) F dX7_waits_1 (by decide) ?_
  refine vv_bipush (v := 99) F dX7_waits_2 (by decide) ?_
  refine vv_callSp (As := [.int k, .int 1, .int 99]) (rest := []) [] F (c_X7_within (vv_l x) (vv_k x) k 1 99) ms_X7_60 dX7_waits_4 (by decide) rfl rfl (Nat.le_of_ble_eq_true rfl) rfl (by decide) ?_
  refine vv_ifz_ne (tgt := 15) F dX7_waits_7 (by decide) (fun h_1 => ?_) (fun h_1 => ?_)
  · have h_1r := wi_rng (a := 1) (b := 99) (by decide) (by decide) h_1
    have h_1c := nn_cl (a := k) (by omega)
    refine vv_aload_n F dX7_waits_15 rfl rfl ?_
    refine vv_get 0 F fl_X7_10 dX7_waits_16 rfl rfl ?_
    refine vv_callV (As := []) (rest := []) [1, 2, 3] 1 (ws' := [(hX, .inr (6, [.ref hP, .ref dP, .ref i0, .ref i1, .int k0, .int k1, .ref hE, .ref hW, .ref hG, .ref hT, .long abv, .long blw, .int rb, .int rn, .int rf])), (hP, .inr (1, [.int ln, .int hb, .int ha, .int pu, .int hl, .int sm, .int hr, .ref hS, .ref hC, .ref hN, .ref hM, .ref hU])), (hU, .inr (2, [.ref aU, .int mU, .int (g_X2_remember_1_2 mU nU)])), (aU, .inl ((vv_k x).2.1.1, 32, .inl (g_X2_remember_2 pu hl sm hr mU nU fU cu)))]) F (c_X2_remember (vv_l x) (vv_k x) hP hS hC hN hM hU ln hb ha pu hl sm hr aU mU nU fU cu hcu (by omega) hmU) mv_X7_137 dX7_waits_19 (by decide) rfl rfl (Nat.le_of_ble_eq_true rfl) rfl (by decide) (Eq.trans (b := [hP, hU, aU]) rfl rfl) rfl rfl ?_
    refine vv_aload_n F dX7_waits_22 rfl rfl ?_
    refine vv_get 0 F fl_X7_10 dX7_waits_23 rfl rfl ?_
    refine vv_iload_n F dX7_waits_26 rfl rfl ?_
    refine vv_callV (As := [.int k]) (rest := []) [1] 1 (ws' := [(hX, .inr (6, [.ref hP, .ref dP, .ref i0, .ref i1, .int k0, .int k1, .ref hE, .ref hW, .ref hG, .ref hT, .long abv, .long blw, .int rb, .int rn, .int rf])), (hP, .inr (1, [.int ln, .int hb, .int ha, .int pu, .int hl, .int sm, .int (if 9999 < (hr + k) then 9999 else (hr + k)), .ref hS, .ref hC, .ref hN, .ref hM, .ref hU])), (hU, .inr (2, [.ref aU, .int mU, .int (g_X2_remember_1_2 mU nU)])), (aU, .inl ((vv_k x).2.1.1, 32, .inl (g_X2_remember_2 pu hl sm hr mU nU fU cu)))]) F (c_X2_waitHours (vv_l x) (vv_k x) hP hS hC hN hM hU ln hb ha pu hl sm hr k) mv_X7_146 dX7_waits_27 (by decide) rfl rfl (Nat.le_of_ble_eq_true rfl) rfl (by decide) (Eq.trans (b := [hP]) rfl rfl) rfl rfl ?_
    refine vv_aload_n F dX7_waits_30 rfl rfl ?_
    refine vv_get 0 F fl_X7_10 dX7_waits_31 rfl rfl ?_
    refine vv_get 1 F fl_X7_124 dX7_waits_34 rfl rfl ?_
    exact vv_iret F hR dX7_waits_37 (congrArg (fun z => some (Value.int z)) ((if_pos h_1).trans rfl)) (by simp only [g_X7_waits_0_12, g_X7_waits_1_6, g_X7_waits_2_2, g_X7_waits_3, if_pos h_1])
  · refine vv_aload_n F dX7_waits_10 rfl rfl ?_
    refine vv_callV (As := []) (rest := []) [0] 0 (ws' := [(hX, .inr (6, [.ref hP, .ref dP, .ref i0, .ref i1, .int k0, .int k1, .ref hE, .ref hW, .ref hG, .ref hT, .long abv, .long blw, .int (rb + 1), .int rn, .int rf])), (hP, .inr (1, [.int ln, .int hb, .int ha, .int pu, .int hl, .int sm, .int hr, .ref hS, .ref hC, .ref hN, .ref hM, .ref hU])), (hU, .inr (2, [.ref aU, .int mU, .int nU])), (aU, .inl ((vv_k x).2.1.1, 32, .inl fU))]) F (c_X7_refuseBad (vv_l x) (vv_k x) hX hP dP i0 i1 k0 k1 hE hW hG hT abv blw rb rn rf) mv_X7_64 dX7_waits_11 (by decide) rfl rfl (Nat.le_of_ble_eq_true rfl) rfl (by decide) (Eq.trans (b := [hX]) rfl rfl) rfl rfl ?_
    exact vv_iret F hR dX7_waits_14 (congrArg (fun z => some (Value.int z)) ((if_neg h_1).trans rfl)) (by simp only [g_X7_waits_0_12, g_X7_waits_1_6, g_X7_waits_2_2, g_X7_waits_3, if_neg h_1])
noncomputable def f_X7_undo (hr nU : Int32) (fU : Nat → Int32) : Int32 := (if p_X2_stepBack nU then (g_X2_stepBack_0_6 hr nU fU) else (-3))
noncomputable def g_X7_undo_0_13 (rn nU : Int32) : Int32 := (if p_X2_stepBack nU then rn else (rn + 1))
theorem c_X7_undo (l : Launch) (K : vv_K) (hX hP dP i0 i1 : Nat) (k0 k1 : Int32) (hE hW hG hT : Nat) (abv blw : Int64) (rb rn rf : Int32) (hS hC hN hM hU : Nat) (ln hb ha pu hl sm hr : Int32) (aU : Nat) (mU nU : Int32) (fU : Nat → Int32) (cu : Nat) (hcu : (nU).toInt = (cu : Int)) (hcu8 : cu ≤ 8)  : vv_C l K 4 yX7_undo cX7_undo 1 (some .int) [.ref hX] [(hX, .inr (6, [.ref hP, .ref dP, .ref i0, .ref i1, .int k0, .int k1, .ref hE, .ref hW, .ref hG, .ref hT, .long abv, .long blw, .int rb, .int rn, .int rf])), (hP, .inr (1, [.int ln, .int hb, .int ha, .int pu, .int hl, .int sm, .int hr, .ref hS, .ref hC, .ref hN, .ref hM, .ref hU])), (hU, .inr (2, [.ref aU, .int mU, .int nU])), (aU, .inl (K.2.1.1, 32, .inl fU))] (some (.int (f_X7_undo hr nU fU))) [(hX, .inr (6, [.ref hP, .ref dP, .ref i0, .ref i1, .int k0, .int k1, .ref hE, .ref hW, .ref hG, .ref hT, .long abv, .long blw, .int rb, .int (g_X7_undo_0_13 rn nU), .int rf])), (hP, .inr (1, [.int ln, .int hb, .int ha, .int (g_X2_stepBack_0_3 pu nU fU), .int (g_X2_stepBack_0_4 hl nU fU), .int (g_X2_stepBack_0_5 sm nU fU), .int (g_X2_stepBack_0_6 hr nU fU), .ref hS, .ref hC, .ref hN, .ref hM, .ref hU])), (hU, .inr (2, [.ref aU, .int mU, .int (g_X2_stepBack_1_2 nU)])), (aU, .inl (K.2.1.1, 32, .inl fU))] := by
  refine vv_C.of (lv := [(0, .ref hX)]) (by decide +kernel) (Nat.le_of_ble_eq_true rfl) rfl ?_
  intro x hl hK F hR; subst hl; obtain rfl := hK
  refine vv_aload_n F dX7_undo_0 rfl rfl ?_
  refine vv_get 0 F fl_X7_10 dX7_undo_1 rfl rfl ?_
  refine vv_callV (As := []) (rest := []) [1, 2, 3] 1 (ws' := [(hX, .inr (6, [.ref hP, .ref dP, .ref i0, .ref i1, .int k0, .int k1, .ref hE, .ref hW, .ref hG, .ref hT, .long abv, .long blw, .int rb, .int rn, .int rf])), (hP, .inr (1, [.int ln, .int hb, .int ha, .int (g_X2_stepBack_0_3 pu nU fU), .int (g_X2_stepBack_0_4 hl nU fU), .int (g_X2_stepBack_0_5 sm nU fU), .int (g_X2_stepBack_0_6 hr nU fU), .ref hS, .ref hC, .ref hN, .ref hM, .ref hU])), (hU, .inr (2, [.ref aU, .int mU, .int (g_X2_stepBack_1_2 nU)])), (aU, .inl ((vv_k x).2.1.1, 32, .inl fU))]) F (c_X2_stepBack (vv_l x) (vv_k x) hP hS hC hN hM hU ln hb ha pu hl sm hr aU mU nU fU (by omega)) mv_X7_150 dX7_undo_4 (by decide) rfl rfl (Nat.le_of_ble_eq_true rfl) rfl (by decide) (Eq.trans (b := [hP, hU, aU]) rfl rfl) rfl rfl ?_
  refine vv_ifz_ne (tgt := 15) F dX7_undo_7 (by decide) (fun h_1 => ?_) (fun h_1 => ?_)
  · refine vv_aload_n F dX7_undo_15 rfl rfl ?_
    refine vv_get 0 F fl_X7_10 dX7_undo_16 rfl rfl ?_
    refine vv_get 1 F fl_X7_124 dX7_undo_19 rfl rfl ?_
    exact vv_iret F hR dX7_undo_22 (congrArg (fun z => some (Value.int z)) ((if_pos h_1).trans rfl)) (by simp only [g_X7_undo_0_13, if_pos h_1])
  · refine vv_aload_n F dX7_undo_10 rfl rfl ?_
    refine vv_callV (As := []) (rest := []) [0] 0 (ws' := [(hX, .inr (6, [.ref hP, .ref dP, .ref i0, .ref i1, .int k0, .int k1, .ref hE, .ref hW, .ref hG, .ref hT, .long abv, .long blw, .int rb, .int (rn + 1), .int rf])), (hP, .inr (1, [.int ln, .int hb, .int ha, .int (g_X2_stepBack_0_3 pu nU fU), .int (g_X2_stepBack_0_4 hl nU fU), .int (g_X2_stepBack_0_5 sm nU fU), .int (g_X2_stepBack_0_6 hr nU fU), .ref hS, .ref hC, .ref hN, .ref hM, .ref hU])), (hU, .inr (2, [.ref aU, .int mU, .int (g_X2_stepBack_1_2 nU)])), (aU, .inl ((vv_k x).2.1.1, 32, .inl fU))]) F (c_X7_refuseNo (vv_l x) (vv_k x) hX hP dP i0 i1 k0 k1 hE hW hG hT abv blw rb rn rf) mv_X7_134 dX7_undo_11 (by decide) rfl rfl (Nat.le_of_ble_eq_true rfl) rfl (by decide) (Eq.trans (b := [hX]) rfl rfl) rfl rfl ?_
    exact vv_iret F hR dX7_undo_14 (congrArg (fun z => some (Value.int z)) ((if_neg h_1).trans rfl)) (by simp only [g_X7_undo_0_13, if_neg h_1])
noncomputable def f_X7_of (nS : Int32) (fS : Nat → Int32) (i wh : Int32) : Int32 := (if p_X7_within i 0 (nS - 1) then (if p_X7_within wh 0 1 then (if wh = 0 then (f_X3_cell nS fS i 0) else (f_X3_cell nS fS i 1)) else (-2)) else (-2))
noncomputable def g_X7_of_0_12 (rb nS i wh : Int32) : Int32 := (if p_X7_within i 0 (nS - 1) then (if p_X7_within wh 0 1 then (if wh = 0 then rb else rb) else (rb + 1)) else (rb + 1))
theorem c_X7_of (l : Launch) (K : vv_K) (hX hP dP i0 i1 : Nat) (k0 k1 : Int32) (hE hW hG hT : Nat) (abv blw : Int64) (rb rn rf : Int32) (hS hC hN hM hU : Nat) (ln hb ha pu hl sm hr : Int32) (aS : Nat) (mS nS : Int32) (fS : Nat → Int32) (i wh : Int32) (cs : Nat) (hcs : (nS).toInt = (cs : Int)) (hcs5 : cs ≤ 5)  : vv_C l K 4 yX7_of cX7_of 3 (some .int) [.ref hX, .int i, .int wh] [(hX, .inr (6, [.ref hP, .ref dP, .ref i0, .ref i1, .int k0, .int k1, .ref hE, .ref hW, .ref hG, .ref hT, .long abv, .long blw, .int rb, .int rn, .int rf])), (hP, .inr (1, [.int ln, .int hb, .int ha, .int pu, .int hl, .int sm, .int hr, .ref hS, .ref hC, .ref hN, .ref hM, .ref hU])), (hS, .inr (2, [.ref aS, .int mS, .int nS])), (aS, .inl (K.2.1.1, 32, .inl fS))] (some (.int (f_X7_of nS fS i wh))) [(hX, .inr (6, [.ref hP, .ref dP, .ref i0, .ref i1, .int k0, .int k1, .ref hE, .ref hW, .ref hG, .ref hT, .long abv, .long blw, .int (g_X7_of_0_12 rb nS i wh), .int rn, .int rf])), (hP, .inr (1, [.int ln, .int hb, .int ha, .int pu, .int hl, .int sm, .int hr, .ref hS, .ref hC, .ref hN, .ref hM, .ref hU])), (hS, .inr (2, [.ref aS, .int mS, .int nS])), (aS, .inl (K.2.1.1, 32, .inl fS))] := by
  refine vv_C.of (lv := [(0, .ref hX), (1, .int i), (2, .int wh)]) (by decide +kernel) (Nat.le_of_ble_eq_true rfl) rfl ?_
  intro x hl hK F hR; subst hl; obtain rfl := hK
  refine vv_aload_n F dX7_of_0 rfl rfl ?_
  refine vv_get 0 F fl_X7_10 dX7_of_1 rfl rfl ?_
  refine vv_iload_n F dX7_of_4 rfl rfl ?_
  refine vv_callVp (As := [.int i]) (rest := []) [1, 2] 1 F (c_X2_has (vv_l x) (vv_k x) hP hS hC hN hM hU ln hb ha pu hl sm hr aS mS nS i) mv_X7_121 dX7_of_5 (by decide) rfl rfl (Nat.le_of_ble_eq_true rfl) rfl (by decide) rfl ?_
  refine vv_ifz_eq (tgt := 20) F dX7_of_8 (by decide) (fun h_1 => ?_) (fun h_1 => ?_)
  · refine vv_aload_n F dX7_of_20 rfl rfl ?_
    refine vv_callV (As := []) (rest := []) [0] 0 (ws' := [(hX, .inr (6, [.ref hP, .ref dP, .ref i0, .ref i1, .int k0, .int k1, .ref hE, .ref hW, .ref hG, .ref hT, .long abv, .long blw, .int (rb + 1), .int rn, .int rf])), (hP, .inr (1, [.int ln, .int hb, .int ha, .int pu, .int hl, .int sm, .int hr, .ref hS, .ref hC, .ref hN, .ref hM, .ref hU])), (hS, .inr (2, [.ref aS, .int mS, .int nS])), (aS, .inl ((vv_k x).2.1.1, 32, .inl fS))]) F (c_X7_refuseBad (vv_l x) (vv_k x) hX hP dP i0 i1 k0 k1 hE hW hG hT abv blw rb rn rf) mv_X7_64 dX7_of_21 (by decide) rfl rfl (Nat.le_of_ble_eq_true rfl) rfl (by decide) (Eq.trans (b := [hX]) rfl rfl) rfl rfl ?_
    exact vv_iret F hR dX7_of_24 (congrArg (fun z => some (Value.int z)) ((if_neg h_1).trans rfl)) (by simp only [g_X7_of_0_12, if_neg h_1])
  · have h_1r := wi_rngS hcs h_1
    have h_1c := nn_cl (a := i) (by omega)
    refine vv_iload_n F dX7_of_11 rfl rfl ?_
    refine vv_iconst (v := 0) F dX7_of_12 (by decide) ?_
    refine vv_iconst (v := 1) F dX7_of_13 (by decide) ?_
    refine vv_callSp (As := [.int wh, .int 0, .int 1]) (rest := []) [] F (c_X7_within (vv_l x) (vv_k x) wh 0 1) ms_X7_60 dX7_of_14 (by decide) rfl rfl (Nat.le_of_ble_eq_true rfl) rfl (by decide) ?_
    refine vv_ifz_ne (tgt := 25) F dX7_of_17 (by decide) (fun h_2 => ?_) (fun h_2 => ?_)
    · have h_2r := wi_rng (a := 0) (b := 1) (by decide) (by decide) h_2
      have h_2c := nn_cl (a := wh) (by omega)
      refine vv_iload_n F dX7_of_25 rfl rfl ?_
      refine vv_if_ne (tgt := 40) F dX7_of_26 (by decide) (fun h_3 => ?_) (fun h_3 => ?_)
      · refine vv_aload_n F dX7_of_40 rfl rfl ?_
        refine vv_get 0 F fl_X7_10 dX7_of_41 rfl rfl ?_
        refine vv_iload_n F dX7_of_44 rfl rfl ?_
        refine vv_callVp (As := [.int i]) (rest := []) [1, 2, 3] 1 F (c_X2_lengthOf (vv_l x) (vv_k x) hP hS hC hN hM hU ln hb ha pu hl sm hr aS mS nS fS i (by omega)) mv_X7_156 dX7_of_45 (by decide) rfl rfl (Nat.le_of_ble_eq_true rfl) rfl (by decide) rfl ?_
        exact vv_iret F hR dX7_of_48 (congrArg (fun z => some (Value.int z)) ((if_pos h_1).trans ((if_pos h_2).trans ((if_neg h_3).trans rfl)))) (by simp only [g_X7_of_0_12, if_pos h_1, if_pos h_2, if_neg h_3])
      · refine vv_aload_n F dX7_of_29 rfl rfl ?_
        refine vv_get 0 F fl_X7_10 dX7_of_30 rfl rfl ?_
        refine vv_iload_n F dX7_of_33 rfl rfl ?_
        refine vv_callVp (As := [.int i]) (rest := []) [1, 2, 3] 1 F (c_X2_kindOf (vv_l x) (vv_k x) hP hS hC hN hM hU ln hb ha pu hl sm hr aS mS nS fS i (by omega)) mv_X7_153 dX7_of_34 (by decide) rfl rfl (Nat.le_of_ble_eq_true rfl) rfl (by decide) rfl ?_
        refine vv_goto (tgt := 48) F dX7_of_37 (by decide) ?_
        exact vv_iret F hR dX7_of_48 (congrArg (fun z => some (Value.int z)) ((if_pos h_1).trans ((if_pos h_2).trans ((if_pos h_3).trans rfl)))) (by simp only [g_X7_of_0_12, if_pos h_1, if_pos h_2, if_pos h_3])
    · refine vv_aload_n F dX7_of_20 rfl rfl ?_
      refine vv_callV (As := []) (rest := []) [0] 0 (ws' := [(hX, .inr (6, [.ref hP, .ref dP, .ref i0, .ref i1, .int k0, .int k1, .ref hE, .ref hW, .ref hG, .ref hT, .long abv, .long blw, .int (rb + 1), .int rn, .int rf])), (hP, .inr (1, [.int ln, .int hb, .int ha, .int pu, .int hl, .int sm, .int hr, .ref hS, .ref hC, .ref hN, .ref hM, .ref hU])), (hS, .inr (2, [.ref aS, .int mS, .int nS])), (aS, .inl ((vv_k x).2.1.1, 32, .inl fS))]) F (c_X7_refuseBad (vv_l x) (vv_k x) hX hP dP i0 i1 k0 k1 hE hW hG hT abv blw rb rn rf) mv_X7_64 dX7_of_21 (by decide) rfl rfl (Nat.le_of_ble_eq_true rfl) rfl (by decide) (Eq.trans (b := [hX]) rfl rfl) rfl rfl ?_
      exact vv_iret F hR dX7_of_24 (congrArg (fun z => some (Value.int z)) ((if_pos h_1).trans ((if_neg h_2).trans rfl))) (by simp only [g_X7_of_0_12, if_pos h_1, if_neg h_2])
noncomputable def f_X7_now (ln hb ha pu hl sm hr wh : Int32) : Int32 := (if p_X7_within wh 0 6 then (f_X2_figure ln hb ha pu hl sm hr wh) else (-2))
noncomputable def g_X7_now_0_12 (rb wh : Int32) : Int32 := (if p_X7_within wh 0 6 then rb else (rb + 1))
theorem c_X7_now (l : Launch) (K : vv_K) (hX hP dP i0 i1 : Nat) (k0 k1 : Int32) (hE hW hG hT : Nat) (abv blw : Int64) (rb rn rf : Int32) (hS hC hN hM hU : Nat) (ln hb ha pu hl sm hr wh : Int32)  : vv_C l K 3 yX7_now cX7_now 2 (some .int) [.ref hX, .int wh] [(hX, .inr (6, [.ref hP, .ref dP, .ref i0, .ref i1, .int k0, .int k1, .ref hE, .ref hW, .ref hG, .ref hT, .long abv, .long blw, .int rb, .int rn, .int rf])), (hP, .inr (1, [.int ln, .int hb, .int ha, .int pu, .int hl, .int sm, .int hr, .ref hS, .ref hC, .ref hN, .ref hM, .ref hU]))] (some (.int (f_X7_now ln hb ha pu hl sm hr wh))) [(hX, .inr (6, [.ref hP, .ref dP, .ref i0, .ref i1, .int k0, .int k1, .ref hE, .ref hW, .ref hG, .ref hT, .long abv, .long blw, .int (g_X7_now_0_12 rb wh), .int rn, .int rf])), (hP, .inr (1, [.int ln, .int hb, .int ha, .int pu, .int hl, .int sm, .int hr, .ref hS, .ref hC, .ref hN, .ref hM, .ref hU]))] := by
  refine vv_C.of (lv := [(0, .ref hX), (1, .int wh)]) (by decide +kernel) (Nat.le_of_ble_eq_true rfl) rfl ?_
  intro x hl hK F hR; subst hl; obtain rfl := hK
  refine vv_iload_n F dX7_now_0 rfl rfl ?_
  refine vv_iconst (v := 0) F dX7_now_1 (by decide) ?_
  refine vv_bipush (v := 6) F dX7_now_2 (by decide) ?_
  refine vv_callSp (As := [.int wh, .int 0, .int 6]) (rest := []) [] F (c_X7_within (vv_l x) (vv_k x) wh 0 6) ms_X7_60 dX7_now_4 (by decide) rfl rfl (Nat.le_of_ble_eq_true rfl) rfl (by decide) ?_
  refine vv_ifz_ne (tgt := 15) F dX7_now_7 (by decide) (fun h_1 => ?_) (fun h_1 => ?_)
  · have h_1r := wi_rng (a := 0) (b := 6) (by decide) (by decide) h_1
    have h_1c := nn_cl (a := wh) (by omega)
    refine vv_aload_n F dX7_now_15 rfl rfl ?_
    refine vv_get 0 F fl_X7_10 dX7_now_16 rfl rfl ?_
    refine vv_iload_n F dX7_now_19 rfl rfl ?_
    refine vv_callVp (As := [.int wh]) (rest := []) [1] 1 F (c_X2_figure (vv_l x) (vv_k x) hP hS hC hN hM hU ln hb ha pu hl sm hr wh) mv_X7_159 dX7_now_20 (by decide) rfl rfl (Nat.le_of_ble_eq_true rfl) rfl (by decide) rfl ?_
    exact vv_iret F hR dX7_now_23 (congrArg (fun z => some (Value.int z)) ((if_pos h_1).trans rfl)) (by simp only [g_X7_now_0_12, if_pos h_1])
  · refine vv_aload_n F dX7_now_10 rfl rfl ?_
    refine vv_callV (As := []) (rest := []) [0] 0 (ws' := [(hX, .inr (6, [.ref hP, .ref dP, .ref i0, .ref i1, .int k0, .int k1, .ref hE, .ref hW, .ref hG, .ref hT, .long abv, .long blw, .int (rb + 1), .int rn, .int rf])), (hP, .inr (1, [.int ln, .int hb, .int ha, .int pu, .int hl, .int sm, .int hr, .ref hS, .ref hC, .ref hN, .ref hM, .ref hU]))]) F (c_X7_refuseBad (vv_l x) (vv_k x) hX hP dP i0 i1 k0 k1 hE hW hG hT abv blw rb rn rf) mv_X7_64 dX7_now_11 (by decide) rfl rfl (Nat.le_of_ble_eq_true rfl) rfl (by decide) (Eq.trans (b := [hX]) rfl rfl) rfl rfl ?_
    exact vv_iret F hR dX7_now_14 (congrArg (fun z => some (Value.int z)) ((if_neg h_1).trans rfl)) (by simp only [g_X7_now_0_12, if_neg h_1])
noncomputable def f_X7_asks (ln hb ha hr nS : Int32) (fS : Nat → Int32) (i m wh : Int32) : Int32 := (if p_X7_within i 0 (nS - 1) then (if p_X7_within m 0 47 then (if p_X7_within wh 0 2 then (if wh = 0 then (f_X2_shownIn hr nS fS i m) else (if wh = 1 then (f_X2_costIn hb ha hr nS fS i m) else (f_X1_brought (f_X3_cell nS fS i 1) ln))) else (-2)) else (-2)) else (-2))
noncomputable def g_X7_asks_0_12 (rb nS i m wh : Int32) : Int32 := (if p_X7_within i 0 (nS - 1) then (if p_X7_within m 0 47 then (if p_X7_within wh 0 2 then (if wh = 0 then rb else (if wh = 1 then rb else rb)) else (rb + 1)) else (rb + 1)) else (rb + 1))
theorem c_X7_asks (l : Launch) (K : vv_K) (hX hP dP i0 i1 : Nat) (k0 k1 : Int32) (hE hW hG hT : Nat) (abv blw : Int64) (rb rn rf : Int32) (hS hC hN hM hU : Nat) (ln hb ha pu hl sm hr : Int32) (aS : Nat) (mS nS : Int32) (fS : Nat → Int32) (i m wh : Int32) (cs : Nat) (hcs : (nS).toInt = (cs : Int)) (hcs5 : cs ≤ 5)  : vv_C l K 5 yX7_asks cX7_asks 4 (some .int) [.ref hX, .int i, .int m, .int wh] [(hX, .inr (6, [.ref hP, .ref dP, .ref i0, .ref i1, .int k0, .int k1, .ref hE, .ref hW, .ref hG, .ref hT, .long abv, .long blw, .int rb, .int rn, .int rf])), (hP, .inr (1, [.int ln, .int hb, .int ha, .int pu, .int hl, .int sm, .int hr, .ref hS, .ref hC, .ref hN, .ref hM, .ref hU])), (hS, .inr (2, [.ref aS, .int mS, .int nS])), (aS, .inl (K.2.1.1, 32, .inl fS))] (some (.int (f_X7_asks ln hb ha hr nS fS i m wh))) [(hX, .inr (6, [.ref hP, .ref dP, .ref i0, .ref i1, .int k0, .int k1, .ref hE, .ref hW, .ref hG, .ref hT, .long abv, .long blw, .int (g_X7_asks_0_12 rb nS i m wh), .int rn, .int rf])), (hP, .inr (1, [.int ln, .int hb, .int ha, .int pu, .int hl, .int sm, .int hr, .ref hS, .ref hC, .ref hN, .ref hM, .ref hU])), (hS, .inr (2, [.ref aS, .int mS, .int nS])), (aS, .inl (K.2.1.1, 32, .inl fS))] := by
  refine vv_C.of (lv := [(0, .ref hX), (1, .int i), (2, .int m), (3, .int wh)]) (by decide +kernel) (Nat.le_of_ble_eq_true rfl) rfl ?_
  intro x hl hK F hR; subst hl; obtain rfl := hK
  refine vv_aload_n F dX7_asks_0 rfl rfl ?_
  refine vv_get 0 F fl_X7_10 dX7_asks_1 rfl rfl ?_
  refine vv_iload_n F dX7_asks_4 rfl rfl ?_
  refine vv_callVp (As := [.int i]) (rest := []) [1, 2] 1 F (c_X2_has (vv_l x) (vv_k x) hP hS hC hN hM hU ln hb ha pu hl sm hr aS mS nS i) mv_X7_121 dX7_asks_5 (by decide) rfl rfl (Nat.le_of_ble_eq_true rfl) rfl (by decide) rfl ?_
  refine vv_ifz_eq (tgt := 30) F dX7_asks_8 (by decide) (fun h_1 => ?_) (fun h_1 => ?_)
  · refine vv_aload_n F dX7_asks_30 rfl rfl ?_
    refine vv_callV (As := []) (rest := []) [0] 0 (ws' := [(hX, .inr (6, [.ref hP, .ref dP, .ref i0, .ref i1, .int k0, .int k1, .ref hE, .ref hW, .ref hG, .ref hT, .long abv, .long blw, .int (rb + 1), .int rn, .int rf])), (hP, .inr (1, [.int ln, .int hb, .int ha, .int pu, .int hl, .int sm, .int hr, .ref hS, .ref hC, .ref hN, .ref hM, .ref hU])), (hS, .inr (2, [.ref aS, .int mS, .int nS])), (aS, .inl ((vv_k x).2.1.1, 32, .inl fS))]) F (c_X7_refuseBad (vv_l x) (vv_k x) hX hP dP i0 i1 k0 k1 hE hW hG hT abv blw rb rn rf) mv_X7_64 dX7_asks_31 (by decide) rfl rfl (Nat.le_of_ble_eq_true rfl) rfl (by decide) (Eq.trans (b := [hX]) rfl rfl) rfl rfl ?_
    exact vv_iret F hR dX7_asks_34 (congrArg (fun z => some (Value.int z)) ((if_neg h_1).trans rfl)) (by simp only [g_X7_asks_0_12, if_neg h_1])
  · have h_1r := wi_rngS hcs h_1
    have h_1c := nn_cl (a := i) (by omega)
    refine vv_iload_n F dX7_asks_11 rfl rfl ?_
    refine vv_iconst (v := 0) F dX7_asks_12 (by decide) ?_
    refine vv_bipush (v := 47) F dX7_asks_13 (by decide) ?_
    refine vv_callSp (As := [.int m, .int 0, .int 47]) (rest := []) [] F (c_X7_within (vv_l x) (vv_k x) m 0 47) ms_X7_60 dX7_asks_15 (by decide) rfl rfl (Nat.le_of_ble_eq_true rfl) rfl (by decide) ?_
    refine vv_ifz_eq (tgt := 30) F dX7_asks_18 (by decide) (fun h_2 => ?_) (fun h_2 => ?_)
    · refine vv_aload_n F dX7_asks_30 rfl rfl ?_
      refine vv_callV (As := []) (rest := []) [0] 0 (ws' := [(hX, .inr (6, [.ref hP, .ref dP, .ref i0, .ref i1, .int k0, .int k1, .ref hE, .ref hW, .ref hG, .ref hT, .long abv, .long blw, .int (rb + 1), .int rn, .int rf])), (hP, .inr (1, [.int ln, .int hb, .int ha, .int pu, .int hl, .int sm, .int hr, .ref hS, .ref hC, .ref hN, .ref hM, .ref hU])), (hS, .inr (2, [.ref aS, .int mS, .int nS])), (aS, .inl ((vv_k x).2.1.1, 32, .inl fS))]) F (c_X7_refuseBad (vv_l x) (vv_k x) hX hP dP i0 i1 k0 k1 hE hW hG hT abv blw rb rn rf) mv_X7_64 dX7_asks_31 (by decide) rfl rfl (Nat.le_of_ble_eq_true rfl) rfl (by decide) (Eq.trans (b := [hX]) rfl rfl) rfl rfl ?_
      exact vv_iret F hR dX7_asks_34 (congrArg (fun z => some (Value.int z)) ((if_pos h_1).trans ((if_neg h_2).trans rfl))) (by simp only [g_X7_asks_0_12, if_pos h_1, if_neg h_2])
    · have h_2r := wi_rng (a := 0) (b := 47) (by decide) (by decide) h_2
      have h_2c := nn_cl (a := m) (by omega)
      refine vv_iload_n F dX7_asks_21 rfl rfl ?_
      refine vv_iconst (v := 0) F dX7_asks_22 (by decide) ?_
      refine vv_iconst (v := 2) F dX7_asks_23 (by decide) ?_
      refine vv_callSp (As := [.int wh, .int 0, .int 2]) (rest := []) [] F (c_X7_within (vv_l x) (vv_k x) wh 0 2) ms_X7_60 dX7_asks_24 (by decide) rfl rfl (Nat.le_of_ble_eq_true rfl) rfl (by decide) ?_
      refine vv_ifz_ne (tgt := 35) F dX7_asks_27 (by decide) (fun h_3 => ?_) (fun h_3 => ?_)
      · have h_3r := wi_rng (a := 0) (b := 2) (by decide) (by decide) h_3
        have h_3c := nn_cl (a := wh) (by omega)
        refine vv_iload_n F dX7_asks_35 rfl rfl ?_
        refine vv_if_ne (tgt := 49) F dX7_asks_36 (by decide) (fun h_4 => ?_) (fun h_4 => ?_)
        · refine vv_iload_n F dX7_asks_49 rfl rfl ?_
          refine vv_iconst (v := 1) F dX7_asks_50 (by decide) ?_
          refine vv_icmp_ne (tgt := 66) F dX7_asks_51 (by decide) (fun h_5 => ?_) (fun h_5 => ?_)
          · refine vv_aload_n F dX7_asks_66 rfl rfl ?_
            refine vv_get 0 F fl_X7_10 dX7_asks_67 rfl rfl ?_
            refine vv_iload_n F dX7_asks_70 rfl rfl ?_
            refine vv_callVp (As := [.int i]) (rest := []) [1, 2, 3] 1 F (c_X2_bringing (vv_l x) (vv_k x) hP hS hC hN hM hU ln hb ha pu hl sm hr aS mS nS fS i (by omega)) mv_X7_143 dX7_asks_71 (by decide) rfl rfl (Nat.le_of_ble_eq_true rfl) rfl (by decide) rfl ?_
            exact vv_iret F hR dX7_asks_74 (congrArg (fun z => some (Value.int z)) ((if_pos h_1).trans ((if_pos h_2).trans ((if_pos h_3).trans ((if_neg h_4).trans ((if_neg h_5).trans rfl)))))) (by simp only [g_X7_asks_0_12, if_pos h_1, if_pos h_2, if_pos h_3, if_neg h_4, if_neg h_5])
          · refine vv_aload_n F dX7_asks_54 rfl rfl ?_
            refine vv_get 0 F fl_X7_10 dX7_asks_55 rfl rfl ?_
            refine vv_iload_n F dX7_asks_58 rfl rfl ?_
            refine vv_iload_n F dX7_asks_59 rfl rfl ?_
            refine vv_callVp (As := [.int i, .int m]) (rest := []) [1, 2, 3] 1 F (c_X2_costIn (vv_l x) (vv_k x) hP hS hC hN hM hU ln hb ha pu hl sm hr aS mS nS fS i m (by omega)) mv_X7_127 dX7_asks_60 (by decide) rfl rfl (Nat.le_of_ble_eq_true rfl) rfl (by decide) rfl ?_
            refine vv_goto (tgt := 74) F dX7_asks_63 (by decide) ?_
            exact vv_iret F hR dX7_asks_74 (congrArg (fun z => some (Value.int z)) ((if_pos h_1).trans ((if_pos h_2).trans ((if_pos h_3).trans ((if_neg h_4).trans ((if_pos h_5).trans rfl)))))) (by simp only [g_X7_asks_0_12, if_pos h_1, if_pos h_2, if_pos h_3, if_neg h_4, if_pos h_5])
        · refine vv_aload_n F dX7_asks_39 rfl rfl ?_
          refine vv_get 0 F fl_X7_10 dX7_asks_40 rfl rfl ?_
          refine vv_iload_n F dX7_asks_43 rfl rfl ?_
          refine vv_iload_n F dX7_asks_44 rfl rfl ?_
          refine vv_callVp (As := [.int i, .int m]) (rest := []) [1, 2, 3] 1 F (c_X2_shownIn (vv_l x) (vv_k x) hP hS hC hN hM hU ln hb ha pu hl sm hr aS mS nS fS i m (by omega)) mv_X7_162 dX7_asks_45 (by decide) rfl rfl (Nat.le_of_ble_eq_true rfl) rfl (by decide) rfl ?_
          exact vv_iret F hR dX7_asks_48 (congrArg (fun z => some (Value.int z)) ((if_pos h_1).trans ((if_pos h_2).trans ((if_pos h_3).trans ((if_pos h_4).trans rfl))))) (by simp only [g_X7_asks_0_12, if_pos h_1, if_pos h_2, if_pos h_3, if_pos h_4])
      · refine vv_aload_n F dX7_asks_30 rfl rfl ?_
        refine vv_callV (As := []) (rest := []) [0] 0 (ws' := [(hX, .inr (6, [.ref hP, .ref dP, .ref i0, .ref i1, .int k0, .int k1, .ref hE, .ref hW, .ref hG, .ref hT, .long abv, .long blw, .int (rb + 1), .int rn, .int rf])), (hP, .inr (1, [.int ln, .int hb, .int ha, .int pu, .int hl, .int sm, .int hr, .ref hS, .ref hC, .ref hN, .ref hM, .ref hU])), (hS, .inr (2, [.ref aS, .int mS, .int nS])), (aS, .inl ((vv_k x).2.1.1, 32, .inl fS))]) F (c_X7_refuseBad (vv_l x) (vv_k x) hX hP dP i0 i1 k0 k1 hE hW hG hT abv blw rb rn rf) mv_X7_64 dX7_asks_31 (by decide) rfl rfl (Nat.le_of_ble_eq_true rfl) rfl (by decide) (Eq.trans (b := [hX]) rfl rfl) rfl rfl ?_
        exact vv_iret F hR dX7_asks_34 (congrArg (fun z => some (Value.int z)) ((if_pos h_1).trans ((if_pos h_2).trans ((if_neg h_3).trans rfl)))) (by simp only [g_X7_asks_0_12, if_pos h_1, if_pos h_2, if_neg h_3])
noncomputable def st_X7_cheapest (hb ha hr nS : Int32) (fS : Nat → Int32) (i : Int32) (u : Nat) (s : Int32 × Int32) : Int32 × Int32 := ((if s.2 ≤ (f_X2_costIn hb ha hr nS fS i (nI u)) then s.1 else (nI u)), (if s.2 ≤ (f_X2_costIn hb ha hr nS fS i (nI u)) then s.2 else (f_X2_costIn hb ha hr nS fS i (nI u))))
theorem L_X7_cheapest {x : vv_X} (F : vv_F x cX7_cheapest 7 RX7 5) (hX hP dP i0 i1 : Nat) (k0 k1 : Int32) (hE hW hG hT : Nat) (abv blw : Int64) (rb rn rf : Int32) (hS hC hN hM hU : Nat) (ln hb ha pu hl sm hr : Int32) (aS : Nat) (mS nS : Int32) (fS : Nat → Int32) (i wh : Int32) (cs : Nat) (hcs : (nS).toInt = (cs : Int)) (hcs5 : cs ≤ 5) : ∀ (n : Nat) (u : Nat) (be : Int32) (le : Int32), u + n = 48 → vv_V x 7 80 [(5, .int (nI 48)), (3, .int ((itr (st_X7_cheapest hb ha hr nS fS i) n u (be, le)).1)), (4, .int ((itr (st_X7_cheapest hb ha hr nS fS i) n u (be, le)).2)), (0, .ref hX), (1, .int i), (2, .int wh)] [] [(hX, .inr (6, [.ref hP, .ref dP, .ref i0, .ref i1, .int k0, .int k1, .ref hE, .ref hW, .ref hG, .ref hT, .long abv, .long blw, .int rb, .int rn, .int rf])), (hP, .inr (1, [.int ln, .int hb, .int ha, .int pu, .int hl, .int sm, .int hr, .ref hS, .ref hC, .ref hN, .ref hM, .ref hU])), (hS, .inr (2, [.ref aS, .int mS, .int nS])), (aS, .inl ((vv_k x).2.1.1, 32, .inl fS))] → vv_V x 7 41 [(5, .int (nI u)), (3, .int be), (4, .int le), (0, .ref hX), (1, .int i), (2, .int wh)] [] [(hX, .inr (6, [.ref hP, .ref dP, .ref i0, .ref i1, .int k0, .int k1, .ref hE, .ref hW, .ref hG, .ref hT, .long abv, .long blw, .int rb, .int rn, .int rf])), (hP, .inr (1, [.int ln, .int hb, .int ha, .int pu, .int hl, .int sm, .int hr, .ref hS, .ref hC, .ref hN, .ref hM, .ref hU])), (hS, .inr (2, [.ref aS, .int mS, .int nS])), (aS, .inl ((vv_k x).2.1.1, 32, .inl fS))] := by
  intro n
  induction n with
  | zero =>
    intro u be le hu  kx
    refine vv_iload F dX7_cheapest_41 rfl ?_
    refine vv_bipush (v := 47) F dX7_cheapest_43 (by decide) ?_
    refine vv_icmp_gt (tgt := 80) F dX7_cheapest_45 (by decide) (fun h_1 => ?_) (fun h_1 => absurd ((c_lt (by decide : (47 : Int32).toInt = ((47 : Nat) : Int)) (nI_toInt (n := u) (by omega))).mpr (by omega)) h_1)
    obtain rfl : u = 48 := by omega
    rw [itr_0] at kx
    exact vv_lv [0, 1, 2, 3, 4, 5] rfl kx
  | succ n ih =>
    intro u be le hu  kx
    refine vv_iload F dX7_cheapest_41 rfl ?_
    refine vv_bipush (v := 47) F dX7_cheapest_43 (by decide) ?_
    refine vv_icmp_gt (tgt := 80) F dX7_cheapest_45 (by decide) (fun h_1 => absurd ((c_lt (by decide : (47 : Int32).toInt = ((47 : Nat) : Int)) (nI_toInt (n := u) (by omega))).mp h_1) (by omega)) (fun h_1 => ?_)
    refine vv_aload_n F dX7_cheapest_48 rfl rfl ?_
    refine vv_get 0 F fl_X7_10 dX7_cheapest_49 rfl rfl ?_
    refine vv_iload_n F dX7_cheapest_52 rfl rfl ?_
    refine vv_iload F dX7_cheapest_53 rfl ?_
    refine vv_callVp (As := [.int i, .int (nI u)]) (rest := []) [1, 2, 3] 1 F (c_X2_costIn (vv_l x) (vv_k x) hP hS hC hN hM hU ln hb ha pu hl sm hr aS mS nS fS i (nI u) (by omega)) mv_X7_127 dX7_cheapest_55 (by decide) rfl rfl (Nat.le_of_ble_eq_true rfl) rfl (by decide) rfl ?_
    refine vv_istore (lv' := [(6, .int (f_X2_costIn hb ha hr nS fS i (nI u))), (5, .int (nI u)), (3, .int be), (4, .int le), (0, .ref hX), (1, .int i), (2, .int wh)]) F dX7_cheapest_58 (by decide) rfl ?_
    refine vv_iload F dX7_cheapest_60 rfl ?_
    refine vv_iload F dX7_cheapest_62 rfl ?_
    refine vv_icmp_ge (tgt := 74) F dX7_cheapest_64 (by decide) (fun h_2 => ?_) (fun h_2 => ?_)
    · refine vv_iinc (v := (nI (u + 1))) (lv' := [(5, .int (nI (u + 1))), (6, .int (f_X2_costIn hb ha hr nS fS i (nI u))), (3, .int be), (4, .int le), (0, .ref hX), (1, .int i), (2, .int wh)]) 1 F dX7_cheapest_74 rfl (nI_1 u) (by decide) rfl ?_
      refine vv_goto (tgt := 41) F dX7_cheapest_77 (by decide) ?_
      refine vv_lv (lv' := [(5, .int (nI (u + 1))), (3, .int be), (4, .int le), (0, .ref hX), (1, .int i), (2, .int wh)]) [0, 2, 3, 4, 5, 6] rfl ?_
      refine vv_lvE (lv' := [(5, .int (nI (u + 1))), (3, .int (if le ≤ (f_X2_costIn hb ha hr nS fS i (nI u)) then be else (nI u))), (4, .int (if le ≤ (f_X2_costIn hb ha hr nS fS i (nI u)) then le else (f_X2_costIn hb ha hr nS fS i (nI u)))), (0, .ref hX), (1, .int i), (2, .int wh)]) (by first | (simp only [if_pos h_2]; done) | (simp [vv_b, h_2]; done)) ?_
      exact ih (u + 1) (if le ≤ (f_X2_costIn hb ha hr nS fS i (nI u)) then be else (nI u)) (if le ≤ (f_X2_costIn hb ha hr nS fS i (nI u)) then le else (f_X2_costIn hb ha hr nS fS i (nI u))) (by omega) (by rw [itr_s] at kx; exact kx)
    · refine vv_iload F dX7_cheapest_67 rfl ?_
      refine vv_istore (lv' := [(4, .int (f_X2_costIn hb ha hr nS fS i (nI u))), (6, .int (f_X2_costIn hb ha hr nS fS i (nI u))), (5, .int (nI u)), (3, .int be), (0, .ref hX), (1, .int i), (2, .int wh)]) F dX7_cheapest_69 (by decide) rfl ?_
      refine vv_iload F dX7_cheapest_71 rfl ?_
      refine vv_istore_n (lv' := [(3, .int (nI u)), (4, .int (f_X2_costIn hb ha hr nS fS i (nI u))), (6, .int (f_X2_costIn hb ha hr nS fS i (nI u))), (5, .int (nI u)), (0, .ref hX), (1, .int i), (2, .int wh)]) F dX7_cheapest_73 rfl (by decide) rfl ?_
      refine vv_iinc (v := (nI (u + 1))) (lv' := [(5, .int (nI (u + 1))), (3, .int (nI u)), (4, .int (f_X2_costIn hb ha hr nS fS i (nI u))), (6, .int (f_X2_costIn hb ha hr nS fS i (nI u))), (0, .ref hX), (1, .int i), (2, .int wh)]) 3 F dX7_cheapest_74 rfl (nI_1 u) (by decide) rfl ?_
      refine vv_goto (tgt := 41) F dX7_cheapest_77 (by decide) ?_
      refine vv_lv (lv' := [(5, .int (nI (u + 1))), (3, .int (nI u)), (4, .int (f_X2_costIn hb ha hr nS fS i (nI u))), (0, .ref hX), (1, .int i), (2, .int wh)]) [0, 1, 2, 4, 5, 6] rfl ?_
      refine vv_lvE (lv' := [(5, .int (nI (u + 1))), (3, .int (if le ≤ (f_X2_costIn hb ha hr nS fS i (nI u)) then be else (nI u))), (4, .int (if le ≤ (f_X2_costIn hb ha hr nS fS i (nI u)) then le else (f_X2_costIn hb ha hr nS fS i (nI u)))), (0, .ref hX), (1, .int i), (2, .int wh)]) (by first | (simp only [if_neg h_2]; done) | (simp [vv_b, h_2]; done)) ?_
      exact ih (u + 1) (if le ≤ (f_X2_costIn hb ha hr nS fS i (nI u)) then be else (nI u)) (if le ≤ (f_X2_costIn hb ha hr nS fS i (nI u)) then le else (f_X2_costIn hb ha hr nS fS i (nI u))) (by omega) (by rw [itr_s] at kx; exact kx)
noncomputable def f_X7_cheapest (hb ha hr nS : Int32) (fS : Nat → Int32) (i wh : Int32) : Int32 := (if p_X7_within i 0 (nS - 1) then (if p_X7_within wh 0 1 then (if wh = 0 then (itr (st_X7_cheapest hb ha hr nS fS i) 47 1 (0, (f_X2_costIn hb ha hr nS fS i 0))).1 else (itr (st_X7_cheapest hb ha hr nS fS i) 47 1 (0, (f_X2_costIn hb ha hr nS fS i 0))).2) else (-2)) else (-2))
noncomputable def g_X7_cheapest_0_12 (rb nS i wh : Int32) : Int32 := (if p_X7_within i 0 (nS - 1) then (if p_X7_within wh 0 1 then (if wh = 0 then rb else rb) else (rb + 1)) else (rb + 1))
theorem c_X7_cheapest (l : Launch) (K : vv_K) (hX hP dP i0 i1 : Nat) (k0 k1 : Int32) (hE hW hG hT : Nat) (abv blw : Int64) (rb rn rf : Int32) (hS hC hN hM hU : Nat) (ln hb ha pu hl sm hr : Int32) (aS : Nat) (mS nS : Int32) (fS : Nat → Int32) (i wh : Int32) (cs : Nat) (hcs : (nS).toInt = (cs : Int)) (hcs5 : cs ≤ 5)  : vv_C l K 5 yX7_cheapest cX7_cheapest 7 (some .int) [.ref hX, .int i, .int wh] [(hX, .inr (6, [.ref hP, .ref dP, .ref i0, .ref i1, .int k0, .int k1, .ref hE, .ref hW, .ref hG, .ref hT, .long abv, .long blw, .int rb, .int rn, .int rf])), (hP, .inr (1, [.int ln, .int hb, .int ha, .int pu, .int hl, .int sm, .int hr, .ref hS, .ref hC, .ref hN, .ref hM, .ref hU])), (hS, .inr (2, [.ref aS, .int mS, .int nS])), (aS, .inl (K.2.1.1, 32, .inl fS))] (some (.int (f_X7_cheapest hb ha hr nS fS i wh))) [(hX, .inr (6, [.ref hP, .ref dP, .ref i0, .ref i1, .int k0, .int k1, .ref hE, .ref hW, .ref hG, .ref hT, .long abv, .long blw, .int (g_X7_cheapest_0_12 rb nS i wh), .int rn, .int rf])), (hP, .inr (1, [.int ln, .int hb, .int ha, .int pu, .int hl, .int sm, .int hr, .ref hS, .ref hC, .ref hN, .ref hM, .ref hU])), (hS, .inr (2, [.ref aS, .int mS, .int nS])), (aS, .inl (K.2.1.1, 32, .inl fS))] := by
  refine vv_C.of (lv := [(0, .ref hX), (1, .int i), (2, .int wh)]) (by decide +kernel) (Nat.le_of_ble_eq_true rfl) rfl ?_
  intro x hl hK F hR; subst hl; obtain rfl := hK
  refine vv_aload_n F dX7_cheapest_0 rfl rfl ?_
  refine vv_get 0 F fl_X7_10 dX7_cheapest_1 rfl rfl ?_
  refine vv_iload_n F dX7_cheapest_4 rfl rfl ?_
  refine vv_callVp (As := [.int i]) (rest := []) [1, 2] 1 F (c_X2_has (vv_l x) (vv_k x) hP hS hC hN hM hU ln hb ha pu hl sm hr aS mS nS i) mv_X7_121 dX7_cheapest_5 (by decide) rfl rfl (Nat.le_of_ble_eq_true rfl) rfl (by decide) rfl ?_
  refine vv_ifz_eq (tgt := 20) F dX7_cheapest_8 (by decide) (fun h_1 => ?_) (fun h_1 => ?_)
  · refine vv_aload_n F dX7_cheapest_20 rfl rfl ?_
    refine vv_callV (As := []) (rest := []) [0] 0 (ws' := [(hX, .inr (6, [.ref hP, .ref dP, .ref i0, .ref i1, .int k0, .int k1, .ref hE, .ref hW, .ref hG, .ref hT, .long abv, .long blw, .int (rb + 1), .int rn, .int rf])), (hP, .inr (1, [.int ln, .int hb, .int ha, .int pu, .int hl, .int sm, .int hr, .ref hS, .ref hC, .ref hN, .ref hM, .ref hU])), (hS, .inr (2, [.ref aS, .int mS, .int nS])), (aS, .inl ((vv_k x).2.1.1, 32, .inl fS))]) F (c_X7_refuseBad (vv_l x) (vv_k x) hX hP dP i0 i1 k0 k1 hE hW hG hT abv blw rb rn rf) mv_X7_64 dX7_cheapest_21 (by decide) rfl rfl (Nat.le_of_ble_eq_true rfl) rfl (by decide) (Eq.trans (b := [hX]) rfl rfl) rfl rfl ?_
    exact vv_iret F hR dX7_cheapest_24 (congrArg (fun z => some (Value.int z)) ((if_neg h_1).trans rfl)) (by simp only [g_X7_cheapest_0_12, if_neg h_1])
  · have h_1r := wi_rngS hcs h_1
    have h_1c := nn_cl (a := i) (by omega)
    refine vv_iload_n F dX7_cheapest_11 rfl rfl ?_
    refine vv_iconst (v := 0) F dX7_cheapest_12 (by decide) ?_
    refine vv_iconst (v := 1) F dX7_cheapest_13 (by decide) ?_
    refine vv_callSp (As := [.int wh, .int 0, .int 1]) (rest := []) [] F (c_X7_within (vv_l x) (vv_k x) wh 0 1) ms_X7_60 dX7_cheapest_14 (by decide) rfl rfl (Nat.le_of_ble_eq_true rfl) rfl (by decide) ?_
    refine vv_ifz_ne (tgt := 25) F dX7_cheapest_17 (by decide) (fun h_2 => ?_) (fun h_2 => ?_)
    · have h_2r := wi_rng (a := 0) (b := 1) (by decide) (by decide) h_2
      have h_2c := nn_cl (a := wh) (by omega)
      refine vv_iconst (v := 0) F dX7_cheapest_25 (by decide) ?_
      refine vv_istore_n (lv' := [(3, .int 0), (0, .ref hX), (1, .int i), (2, .int wh)]) F dX7_cheapest_26 rfl (by decide) rfl ?_
      refine vv_aload_n F dX7_cheapest_27 rfl rfl ?_
      refine vv_get 0 F fl_X7_10 dX7_cheapest_28 rfl rfl ?_
      refine vv_iload_n F dX7_cheapest_31 rfl rfl ?_
      refine vv_iconst (v := 0) F dX7_cheapest_32 (by decide) ?_
      refine vv_callVp (As := [.int i, .int 0]) (rest := []) [1, 2, 3] 1 F (c_X2_costIn (vv_l x) (vv_k x) hP hS hC hN hM hU ln hb ha pu hl sm hr aS mS nS fS i 0 (by omega)) mv_X7_127 dX7_cheapest_33 (by decide) rfl rfl (Nat.le_of_ble_eq_true rfl) rfl (by decide) rfl ?_
      refine vv_istore (lv' := [(4, .int (f_X2_costIn hb ha hr nS fS i 0)), (3, .int 0), (0, .ref hX), (1, .int i), (2, .int wh)]) F dX7_cheapest_36 (by decide) rfl ?_
      refine vv_iconst (v := 1) F dX7_cheapest_38 (by decide) ?_
      refine vv_istore (lv' := [(5, .int 1), (4, .int (f_X2_costIn hb ha hr nS fS i 0)), (3, .int 0), (0, .ref hX), (1, .int i), (2, .int wh)]) F dX7_cheapest_39 (by decide) rfl ?_
      refine vv_lv (lv' := [(5, .int 1), (3, .int 0), (4, .int (f_X2_costIn hb ha hr nS fS i 0)), (0, .ref hX), (1, .int i), (2, .int wh)]) [0, 2, 1, 3, 4, 5] rfl ?_
      refine L_X7_cheapest F hX hP dP i0 i1 k0 k1 hE hW hG hT abv blw rb rn rf hS hC hN hM hU ln hb ha pu hl sm hr aS mS nS fS i wh cs hcs (by omega) 47 1 0 (f_X2_costIn hb ha hr nS fS i 0) (by omega) ?_
      refine vv_iload_n F dX7_cheapest_80 rfl rfl ?_
      refine vv_if_ne (tgt := 88) F dX7_cheapest_81 (by decide) (fun h_3 => ?_) (fun h_3 => ?_)
      · refine vv_iload F dX7_cheapest_88 rfl ?_
        exact vv_iret F hR dX7_cheapest_90 (congrArg (fun z => some (Value.int z)) ((if_pos h_1).trans ((if_pos h_2).trans ((if_neg h_3).trans rfl)))) (by simp only [g_X7_cheapest_0_12, if_pos h_1, if_pos h_2, if_neg h_3])
      · refine vv_iload_n F dX7_cheapest_84 rfl rfl ?_
        refine vv_goto (tgt := 90) F dX7_cheapest_85 (by decide) ?_
        exact vv_iret F hR dX7_cheapest_90 (congrArg (fun z => some (Value.int z)) ((if_pos h_1).trans ((if_pos h_2).trans ((if_pos h_3).trans rfl)))) (by simp only [g_X7_cheapest_0_12, if_pos h_1, if_pos h_2, if_pos h_3])
    · refine vv_aload_n F dX7_cheapest_20 rfl rfl ?_
      refine vv_callV (As := []) (rest := []) [0] 0 (ws' := [(hX, .inr (6, [.ref hP, .ref dP, .ref i0, .ref i1, .int k0, .int k1, .ref hE, .ref hW, .ref hG, .ref hT, .long abv, .long blw, .int (rb + 1), .int rn, .int rf])), (hP, .inr (1, [.int ln, .int hb, .int ha, .int pu, .int hl, .int sm, .int hr, .ref hS, .ref hC, .ref hN, .ref hM, .ref hU])), (hS, .inr (2, [.ref aS, .int mS, .int nS])), (aS, .inl ((vv_k x).2.1.1, 32, .inl fS))]) F (c_X7_refuseBad (vv_l x) (vv_k x) hX hP dP i0 i1 k0 k1 hE hW hG hT abv blw rb rn rf) mv_X7_64 dX7_cheapest_21 (by decide) rfl rfl (Nat.le_of_ble_eq_true rfl) rfl (by decide) (Eq.trans (b := [hX]) rfl rfl) rfl rfl ?_
      exact vv_iret F hR dX7_cheapest_24 (congrArg (fun z => some (Value.int z)) ((if_pos h_1).trans ((if_neg h_2).trans rfl))) (by simp only [g_X7_cheapest_0_12, if_pos h_1, if_neg h_2])
noncomputable def st_X7_cuts (hb ha hr kd lg : Int32) (u : Nat) (s : Int32 × Int32) : Int32 × Int32 := ((if s.2 ≤ (f_X2_costOfCut hb ha hr kd (nI u) (lg - (nI u))) then s.1 else (nI u)), (if s.2 ≤ (f_X2_costOfCut hb ha hr kd (nI u) (lg - (nI u))) then s.2 else (f_X2_costOfCut hb ha hr kd (nI u) (lg - (nI u)))))
theorem L_X7_cuts {x : vv_X} (F : vv_F x cX7_cuts 8 RX7 5) (hX hP dP i0 i1 : Nat) (k0 k1 : Int32) (hE hW hG hT : Nat) (abv blw : Int64) (rb rn rf : Int32) (hS hC hN hM hU : Nat) (ln hb ha pu hl sm hr kd lg wh : Int32) (gg : Nat) (hgg : (lg).toInt = (gg : Int)) (hg60 : gg ≤ 60) : ∀ (n : Nat) (u : Nat) (be : Int32) (le : Int32), u + n = gg → vv_V x 8 94 [(6, .int (nI gg)), (4, .int ((itr (st_X7_cuts hb ha hr kd lg) n u (be, le)).1)), (5, .int ((itr (st_X7_cuts hb ha hr kd lg) n u (be, le)).2)), (0, .ref hX), (1, .int kd), (2, .int lg), (3, .int wh)] [] [(hX, .inr (6, [.ref hP, .ref dP, .ref i0, .ref i1, .int k0, .int k1, .ref hE, .ref hW, .ref hG, .ref hT, .long abv, .long blw, .int rb, .int rn, .int rf])), (hP, .inr (1, [.int ln, .int hb, .int ha, .int pu, .int hl, .int sm, .int hr, .ref hS, .ref hC, .ref hN, .ref hM, .ref hU]))] → vv_V x 8 51 [(6, .int (nI u)), (4, .int be), (5, .int le), (0, .ref hX), (1, .int kd), (2, .int lg), (3, .int wh)] [] [(hX, .inr (6, [.ref hP, .ref dP, .ref i0, .ref i1, .int k0, .int k1, .ref hE, .ref hW, .ref hG, .ref hT, .long abv, .long blw, .int rb, .int rn, .int rf])), (hP, .inr (1, [.int ln, .int hb, .int ha, .int pu, .int hl, .int sm, .int hr, .ref hS, .ref hC, .ref hN, .ref hM, .ref hU]))] := by
  intro n
  induction n with
  | zero =>
    intro u be le hu  kx
    refine vv_iload F dX7_cuts_51 rfl ?_
    refine vv_iload_n F dX7_cuts_53 rfl rfl ?_
    refine vv_icmp_ge (tgt := 94) F dX7_cuts_54 (by decide) (fun h_1 => ?_) (fun h_1 => absurd ((c_le hgg (nI_toInt (n := u) (by omega))).mpr (by omega)) h_1)
    obtain rfl : u = gg := by omega
    rw [itr_0] at kx
    exact vv_lv [0, 1, 2, 3, 4, 5, 6] rfl kx
  | succ n ih =>
    intro u be le hu  kx
    refine vv_iload F dX7_cuts_51 rfl ?_
    refine vv_iload_n F dX7_cuts_53 rfl rfl ?_
    refine vv_icmp_ge (tgt := 94) F dX7_cuts_54 (by decide) (fun h_1 => absurd ((c_le hgg (nI_toInt (n := u) (by omega))).mp h_1) (by omega)) (fun h_1 => ?_)
    refine vv_aload_n F dX7_cuts_57 rfl rfl ?_
    refine vv_get 0 F fl_X7_10 dX7_cuts_58 rfl rfl ?_
    refine vv_iload_n F dX7_cuts_61 rfl rfl ?_
    refine vv_iload F dX7_cuts_62 rfl ?_
    refine vv_iload_n F dX7_cuts_64 rfl rfl ?_
    refine vv_iload F dX7_cuts_65 rfl ?_
    refine vv_isub F dX7_cuts_67 ?_
    refine vv_callVp (As := [.int kd, .int (nI u), .int (lg - (nI u))]) (rest := []) [1] 1 F (c_X2_costOfCut (vv_l x) (vv_k x) hP hS hC hN hM hU ln hb ha pu hl sm hr kd (nI u) (lg - (nI u))) mv_X7_165 dX7_cuts_68 (by decide) rfl rfl (Nat.le_of_ble_eq_true rfl) rfl (by decide) rfl ?_
    refine vv_istore (lv' := [(7, .int (f_X2_costOfCut hb ha hr kd (nI u) (lg - (nI u)))), (6, .int (nI u)), (4, .int be), (5, .int le), (0, .ref hX), (1, .int kd), (2, .int lg), (3, .int wh)]) F dX7_cuts_71 (by decide) rfl ?_
    refine vv_iload F dX7_cuts_73 rfl ?_
    refine vv_iload F dX7_cuts_75 rfl ?_
    refine vv_icmp_ge (tgt := 88) F dX7_cuts_77 (by decide) (fun h_2 => ?_) (fun h_2 => ?_)
    · refine vv_iinc (v := (nI (u + 1))) (lv' := [(6, .int (nI (u + 1))), (7, .int (f_X2_costOfCut hb ha hr kd (nI u) (lg - (nI u)))), (4, .int be), (5, .int le), (0, .ref hX), (1, .int kd), (2, .int lg), (3, .int wh)]) 1 F dX7_cuts_88 rfl (nI_1 u) (by decide) rfl ?_
      refine vv_goto (tgt := 51) F dX7_cuts_91 (by decide) ?_
      refine vv_lv (lv' := [(6, .int (nI (u + 1))), (4, .int be), (5, .int le), (0, .ref hX), (1, .int kd), (2, .int lg), (3, .int wh)]) [0, 2, 3, 4, 5, 6, 7] rfl ?_
      refine vv_lvE (lv' := [(6, .int (nI (u + 1))), (4, .int (if le ≤ (f_X2_costOfCut hb ha hr kd (nI u) (lg - (nI u))) then be else (nI u))), (5, .int (if le ≤ (f_X2_costOfCut hb ha hr kd (nI u) (lg - (nI u))) then le else (f_X2_costOfCut hb ha hr kd (nI u) (lg - (nI u))))), (0, .ref hX), (1, .int kd), (2, .int lg), (3, .int wh)]) (by first | (simp only [if_pos h_2]; done) | (simp [vv_b, h_2]; done)) ?_
      exact ih (u + 1) (if le ≤ (f_X2_costOfCut hb ha hr kd (nI u) (lg - (nI u))) then be else (nI u)) (if le ≤ (f_X2_costOfCut hb ha hr kd (nI u) (lg - (nI u))) then le else (f_X2_costOfCut hb ha hr kd (nI u) (lg - (nI u)))) (by omega) (by rw [itr_s] at kx; exact kx)
    · refine vv_iload F dX7_cuts_80 rfl ?_
      refine vv_istore (lv' := [(5, .int (f_X2_costOfCut hb ha hr kd (nI u) (lg - (nI u)))), (7, .int (f_X2_costOfCut hb ha hr kd (nI u) (lg - (nI u)))), (6, .int (nI u)), (4, .int be), (0, .ref hX), (1, .int kd), (2, .int lg), (3, .int wh)]) F dX7_cuts_82 (by decide) rfl ?_
      refine vv_iload F dX7_cuts_84 rfl ?_
      refine vv_istore (lv' := [(4, .int (nI u)), (5, .int (f_X2_costOfCut hb ha hr kd (nI u) (lg - (nI u)))), (7, .int (f_X2_costOfCut hb ha hr kd (nI u) (lg - (nI u)))), (6, .int (nI u)), (0, .ref hX), (1, .int kd), (2, .int lg), (3, .int wh)]) F dX7_cuts_86 (by decide) rfl ?_
      refine vv_iinc (v := (nI (u + 1))) (lv' := [(6, .int (nI (u + 1))), (4, .int (nI u)), (5, .int (f_X2_costOfCut hb ha hr kd (nI u) (lg - (nI u)))), (7, .int (f_X2_costOfCut hb ha hr kd (nI u) (lg - (nI u)))), (0, .ref hX), (1, .int kd), (2, .int lg), (3, .int wh)]) 3 F dX7_cuts_88 rfl (nI_1 u) (by decide) rfl ?_
      refine vv_goto (tgt := 51) F dX7_cuts_91 (by decide) ?_
      refine vv_lv (lv' := [(6, .int (nI (u + 1))), (4, .int (nI u)), (5, .int (f_X2_costOfCut hb ha hr kd (nI u) (lg - (nI u)))), (0, .ref hX), (1, .int kd), (2, .int lg), (3, .int wh)]) [0, 1, 2, 4, 5, 6, 7] rfl ?_
      refine vv_lvE (lv' := [(6, .int (nI (u + 1))), (4, .int (if le ≤ (f_X2_costOfCut hb ha hr kd (nI u) (lg - (nI u))) then be else (nI u))), (5, .int (if le ≤ (f_X2_costOfCut hb ha hr kd (nI u) (lg - (nI u))) then le else (f_X2_costOfCut hb ha hr kd (nI u) (lg - (nI u))))), (0, .ref hX), (1, .int kd), (2, .int lg), (3, .int wh)]) (by first | (simp only [if_neg h_2]; done) | (simp [vv_b, h_2]; done)) ?_
      exact ih (u + 1) (if le ≤ (f_X2_costOfCut hb ha hr kd (nI u) (lg - (nI u))) then be else (nI u)) (if le ≤ (f_X2_costOfCut hb ha hr kd (nI u) (lg - (nI u))) then le else (f_X2_costOfCut hb ha hr kd (nI u) (lg - (nI u)))) (by omega) (by rw [itr_s] at kx; exact kx)
noncomputable def f_X7_cuts (hb ha hr kd lg wh : Int32) : Int32 := (if p_X7_within kd 0 5 then (if p_X7_within lg 2 60 then (if p_X7_within wh 0 1 then (if wh = 0 then (itr (st_X7_cuts hb ha hr kd lg) (lg.toNatClampNeg - 2) 2 (1, (f_X2_costOfCut hb ha hr kd 1 (lg - 1)))).2 else (itr (st_X7_cuts hb ha hr kd lg) (lg.toNatClampNeg - 2) 2 (1, (f_X2_costOfCut hb ha hr kd 1 (lg - 1)))).1) else (-2)) else (-2)) else (-2))
noncomputable def g_X7_cuts_0_12 (rb kd lg wh : Int32) : Int32 := (if p_X7_within kd 0 5 then (if p_X7_within lg 2 60 then (if p_X7_within wh 0 1 then (if wh = 0 then rb else rb) else (rb + 1)) else (rb + 1)) else (rb + 1))
theorem c_X7_cuts (l : Launch) (K : vv_K) (hX hP dP i0 i1 : Nat) (k0 k1 : Int32) (hE hW hG hT : Nat) (abv blw : Int64) (rb rn rf : Int32) (hS hC hN hM hU : Nat) (ln hb ha pu hl sm hr kd lg wh : Int32)  : vv_C l K 5 yX7_cuts cX7_cuts 8 (some .int) [.ref hX, .int kd, .int lg, .int wh] [(hX, .inr (6, [.ref hP, .ref dP, .ref i0, .ref i1, .int k0, .int k1, .ref hE, .ref hW, .ref hG, .ref hT, .long abv, .long blw, .int rb, .int rn, .int rf])), (hP, .inr (1, [.int ln, .int hb, .int ha, .int pu, .int hl, .int sm, .int hr, .ref hS, .ref hC, .ref hN, .ref hM, .ref hU]))] (some (.int (f_X7_cuts hb ha hr kd lg wh))) [(hX, .inr (6, [.ref hP, .ref dP, .ref i0, .ref i1, .int k0, .int k1, .ref hE, .ref hW, .ref hG, .ref hT, .long abv, .long blw, .int (g_X7_cuts_0_12 rb kd lg wh), .int rn, .int rf])), (hP, .inr (1, [.int ln, .int hb, .int ha, .int pu, .int hl, .int sm, .int hr, .ref hS, .ref hC, .ref hN, .ref hM, .ref hU]))] := by
  refine vv_C.of (lv := [(0, .ref hX), (1, .int kd), (2, .int lg), (3, .int wh)]) (by decide +kernel) (Nat.le_of_ble_eq_true rfl) rfl ?_
  intro x hl hK F hR; subst hl; obtain rfl := hK
  refine vv_iload_n F dX7_cuts_0 rfl rfl ?_
  refine vv_callSp (As := [.int kd]) (rest := []) [] F (c_X1_known (vv_l x) (vv_k x) kd) ms_X7_82 dX7_cuts_1 (by decide) rfl rfl (Nat.le_of_ble_eq_true rfl) rfl (by decide) ?_
  refine vv_ifz_eq (tgt := 26) F dX7_cuts_4 (by decide) (fun h_1 => ?_) (fun h_1 => ?_)
  · refine vv_aload_n F dX7_cuts_26 rfl rfl ?_
    refine vv_callV (As := []) (rest := []) [0] 0 (ws' := [(hX, .inr (6, [.ref hP, .ref dP, .ref i0, .ref i1, .int k0, .int k1, .ref hE, .ref hW, .ref hG, .ref hT, .long abv, .long blw, .int (rb + 1), .int rn, .int rf])), (hP, .inr (1, [.int ln, .int hb, .int ha, .int pu, .int hl, .int sm, .int hr, .ref hS, .ref hC, .ref hN, .ref hM, .ref hU]))]) F (c_X7_refuseBad (vv_l x) (vv_k x) hX hP dP i0 i1 k0 k1 hE hW hG hT abv blw rb rn rf) mv_X7_64 dX7_cuts_27 (by decide) rfl rfl (Nat.le_of_ble_eq_true rfl) rfl (by decide) (Eq.trans (b := [hX]) rfl rfl) rfl rfl ?_
    exact vv_iret F hR dX7_cuts_30 (congrArg (fun z => some (Value.int z)) ((if_neg h_1).trans rfl)) (by simp only [g_X7_cuts_0_12, if_neg h_1])
  · have h_1r := wi_rng (a := 0) (b := 5) (by decide) (by decide) h_1
    have h_1c := nn_cl (a := kd) (by omega)
    refine vv_iload_n F dX7_cuts_7 rfl rfl ?_
    refine vv_iconst (v := 2) F dX7_cuts_8 (by decide) ?_
    refine vv_bipush (v := 60) F dX7_cuts_9 (by decide) ?_
    refine vv_callSp (As := [.int lg, .int 2, .int 60]) (rest := []) [] F (c_X7_within (vv_l x) (vv_k x) lg 2 60) ms_X7_60 dX7_cuts_11 (by decide) rfl rfl (Nat.le_of_ble_eq_true rfl) rfl (by decide) ?_
    refine vv_ifz_eq (tgt := 26) F dX7_cuts_14 (by decide) (fun h_2 => ?_) (fun h_2 => ?_)
    · refine vv_aload_n F dX7_cuts_26 rfl rfl ?_
      refine vv_callV (As := []) (rest := []) [0] 0 (ws' := [(hX, .inr (6, [.ref hP, .ref dP, .ref i0, .ref i1, .int k0, .int k1, .ref hE, .ref hW, .ref hG, .ref hT, .long abv, .long blw, .int (rb + 1), .int rn, .int rf])), (hP, .inr (1, [.int ln, .int hb, .int ha, .int pu, .int hl, .int sm, .int hr, .ref hS, .ref hC, .ref hN, .ref hM, .ref hU]))]) F (c_X7_refuseBad (vv_l x) (vv_k x) hX hP dP i0 i1 k0 k1 hE hW hG hT abv blw rb rn rf) mv_X7_64 dX7_cuts_27 (by decide) rfl rfl (Nat.le_of_ble_eq_true rfl) rfl (by decide) (Eq.trans (b := [hX]) rfl rfl) rfl rfl ?_
      exact vv_iret F hR dX7_cuts_30 (congrArg (fun z => some (Value.int z)) ((if_pos h_1).trans ((if_neg h_2).trans rfl))) (by simp only [g_X7_cuts_0_12, if_pos h_1, if_neg h_2])
    · have h_2r := wi_rng (a := 2) (b := 60) (by decide) (by decide) h_2
      have h_2c := nn_cl (a := lg) (by omega)
      refine vv_iload_n F dX7_cuts_17 rfl rfl ?_
      refine vv_iconst (v := 0) F dX7_cuts_18 (by decide) ?_
      refine vv_iconst (v := 1) F dX7_cuts_19 (by decide) ?_
      refine vv_callSp (As := [.int wh, .int 0, .int 1]) (rest := []) [] F (c_X7_within (vv_l x) (vv_k x) wh 0 1) ms_X7_60 dX7_cuts_20 (by decide) rfl rfl (Nat.le_of_ble_eq_true rfl) rfl (by decide) ?_
      refine vv_ifz_ne (tgt := 31) F dX7_cuts_23 (by decide) (fun h_3 => ?_) (fun h_3 => ?_)
      · have h_3r := wi_rng (a := 0) (b := 1) (by decide) (by decide) h_3
        have h_3c := nn_cl (a := wh) (by omega)
        refine vv_iconst (v := 1) F dX7_cuts_31 (by decide) ?_
        refine vv_istore (lv' := [(4, .int 1), (0, .ref hX), (1, .int kd), (2, .int lg), (3, .int wh)]) F dX7_cuts_32 (by decide) rfl ?_
        refine vv_aload_n F dX7_cuts_34 rfl rfl ?_
        refine vv_get 0 F fl_X7_10 dX7_cuts_35 rfl rfl ?_
        refine vv_iload_n F dX7_cuts_38 rfl rfl ?_
        refine vv_iconst (v := 1) F dX7_cuts_39 (by decide) ?_
        refine vv_iload_n F dX7_cuts_40 rfl rfl ?_
        refine vv_iconst (v := 1) F dX7_cuts_41 (by decide) ?_
        refine vv_isub F dX7_cuts_42 ?_
        refine vv_callVp (As := [.int kd, .int 1, .int (lg - 1)]) (rest := []) [1] 1 F (c_X2_costOfCut (vv_l x) (vv_k x) hP hS hC hN hM hU ln hb ha pu hl sm hr kd 1 (lg - 1)) mv_X7_165 dX7_cuts_43 (by decide) rfl rfl (Nat.le_of_ble_eq_true rfl) rfl (by decide) rfl ?_
        refine vv_istore (lv' := [(5, .int (f_X2_costOfCut hb ha hr kd 1 (lg - 1))), (4, .int 1), (0, .ref hX), (1, .int kd), (2, .int lg), (3, .int wh)]) F dX7_cuts_46 (by decide) rfl ?_
        refine vv_iconst (v := 2) F dX7_cuts_48 (by decide) ?_
        refine vv_istore (lv' := [(6, .int 2), (5, .int (f_X2_costOfCut hb ha hr kd 1 (lg - 1))), (4, .int 1), (0, .ref hX), (1, .int kd), (2, .int lg), (3, .int wh)]) F dX7_cuts_49 (by decide) rfl ?_
        refine vv_lv (lv' := [(6, .int 2), (4, .int 1), (5, .int (f_X2_costOfCut hb ha hr kd 1 (lg - 1))), (0, .ref hX), (1, .int kd), (2, .int lg), (3, .int wh)]) [0, 2, 1, 3, 4, 5, 6] rfl ?_
        refine L_X7_cuts F hX hP dP i0 i1 k0 k1 hE hW hG hT abv blw rb rn rf hS hC hN hM hU ln hb ha pu hl sm hr kd lg wh lg.toNatClampNeg h_2c (by omega) (lg.toNatClampNeg - 2) 2 1 (f_X2_costOfCut hb ha hr kd 1 (lg - 1)) (by omega) ?_
        refine vv_iload_n F dX7_cuts_94 rfl rfl ?_
        refine vv_if_ne (tgt := 103) F dX7_cuts_95 (by decide) (fun h_4 => ?_) (fun h_4 => ?_)
        · refine vv_iload F dX7_cuts_103 rfl ?_
          exact vv_iret F hR dX7_cuts_105 (congrArg (fun z => some (Value.int z)) ((if_pos h_1).trans ((if_pos h_2).trans ((if_pos h_3).trans ((if_neg h_4).trans rfl))))) (by simp only [g_X7_cuts_0_12, if_pos h_1, if_pos h_2, if_pos h_3, if_neg h_4])
        · refine vv_iload F dX7_cuts_98 rfl ?_
          refine vv_goto (tgt := 105) F dX7_cuts_100 (by decide) ?_
          exact vv_iret F hR dX7_cuts_105 (congrArg (fun z => some (Value.int z)) ((if_pos h_1).trans ((if_pos h_2).trans ((if_pos h_3).trans ((if_pos h_4).trans rfl))))) (by simp only [g_X7_cuts_0_12, if_pos h_1, if_pos h_2, if_pos h_3, if_pos h_4])
      · refine vv_aload_n F dX7_cuts_26 rfl rfl ?_
        refine vv_callV (As := []) (rest := []) [0] 0 (ws' := [(hX, .inr (6, [.ref hP, .ref dP, .ref i0, .ref i1, .int k0, .int k1, .ref hE, .ref hW, .ref hG, .ref hT, .long abv, .long blw, .int (rb + 1), .int rn, .int rf])), (hP, .inr (1, [.int ln, .int hb, .int ha, .int pu, .int hl, .int sm, .int hr, .ref hS, .ref hC, .ref hN, .ref hM, .ref hU]))]) F (c_X7_refuseBad (vv_l x) (vv_k x) hX hP dP i0 i1 k0 k1 hE hW hG hT abv blw rb rn rf) mv_X7_64 dX7_cuts_27 (by decide) rfl rfl (Nat.le_of_ble_eq_true rfl) rfl (by decide) (Eq.trans (b := [hX]) rfl rfl) rfl rfl ?_
        exact vv_iret F hR dX7_cuts_30 (congrArg (fun z => some (Value.int z)) ((if_pos h_1).trans ((if_pos h_2).trans ((if_neg h_3).trans rfl)))) (by simp only [g_X7_cuts_0_12, if_pos h_1, if_pos h_2, if_neg h_3])
noncomputable def f_X7_keep (m n : Int32) : Int32 := (if p_X3_isFull m n then (-4) else (g_X3_put_0_2 m n))
noncomputable def g_X7_keep_0_14 (rf m n : Int32) : Int32 := (if p_X3_isFull m n then (rf + 1) else rf)
noncomputable def g_X7_keep_1_2 (m n : Int32) : Int32 := (if p_X3_isFull m n then n else (g_X3_put_0_2 m n))
noncomputable def g_X7_keep_2 (m n : Int32) (f : Nat → Int32) (b0 b1 b2 b3 : Int32) : Nat → Int32 := (if p_X3_isFull m n then f else (g_X3_put_1 m n f b0 b1 b2 b3))
theorem c_X7_keep (l : Launch) (K : vv_K) (hX hP dP i0 i1 : Nat) (k0 k1 : Int32) (hE hW hG hT : Nat) (abv blw : Int64) (rb rn rf : Int32) (h a : Nat) (m n : Int32) (f : Nat → Int32) (b0 b1 b2 b3 : Int32) (c : Nat) (hc : (n).toInt = (c : Int))  (hm8 : m.toInt ≤ 8) : vv_C l K 3 yX7_keep cX7_keep 6 (some .int) [.ref hX, .ref h, .int b0, .int b1, .int b2, .int b3] [(hX, .inr (6, [.ref hP, .ref dP, .ref i0, .ref i1, .int k0, .int k1, .ref hE, .ref hW, .ref hG, .ref hT, .long abv, .long blw, .int rb, .int rn, .int rf])), (h, .inr (2, [.ref a, .int m, .int n])), (a, .inl (K.2.1.1, 32, .inl f))] (some (.int (f_X7_keep m n))) [(hX, .inr (6, [.ref hP, .ref dP, .ref i0, .ref i1, .int k0, .int k1, .ref hE, .ref hW, .ref hG, .ref hT, .long abv, .long blw, .int rb, .int rn, .int (g_X7_keep_0_14 rf m n)])), (h, .inr (2, [.ref a, .int m, .int (g_X7_keep_1_2 m n)])), (a, .inl (K.2.1.1, 32, .inl (g_X7_keep_2 m n f b0 b1 b2 b3)))] := by
  refine vv_C.of (lv := [(0, .ref hX), (1, .ref h), (2, .int b0), (3, .int b1), (4, .int b2), (5, .int b3)]) (by decide +kernel) (Nat.le_of_ble_eq_true rfl) rfl ?_
  intro x hl hK F hR; subst hl; obtain rfl := hK
  refine vv_aload_n F dX7_keep_0 rfl rfl ?_
  refine vv_callVp (As := []) (rest := []) [1] 1 F (c_X3_isFull (vv_l x) (vv_k x) h a m n) mv_X7_101 dX7_keep_1 (by decide) rfl rfl (Nat.le_of_ble_eq_true rfl) rfl (by decide) rfl ?_
  refine vv_ifz_eq (tgt := 12) F dX7_keep_4 (by decide) (fun h_1 => ?_) (fun h_1 => ?_)
  · refine vv_aload_n F dX7_keep_12 rfl rfl ?_
    refine vv_iload_n F dX7_keep_13 rfl rfl ?_
    refine vv_iload_n F dX7_keep_14 rfl rfl ?_
    refine vv_iload F dX7_keep_15 rfl ?_
    refine vv_iload F dX7_keep_17 rfl ?_
    refine vv_callV (As := [.int b0, .int b1, .int b2, .int b3]) (rest := []) [1, 2] 1 (ws' := [(hX, .inr (6, [.ref hP, .ref dP, .ref i0, .ref i1, .int k0, .int k1, .ref hE, .ref hW, .ref hG, .ref hT, .long abv, .long blw, .int rb, .int rn, .int rf])), (h, .inr (2, [.ref a, .int m, .int (g_X3_put_0_2 m n)])), (a, .inl ((vv_k x).2.1.1, 32, .inl (g_X3_put_1 m n f b0 b1 b2 b3)))]) F (c_X3_put (vv_l x) (vv_k x) h a m n f b0 b1 b2 b3 (by omega) hm8) mv_X7_108 dX7_keep_19 (by decide) rfl rfl (Nat.le_of_ble_eq_true rfl) rfl (by decide) (Eq.trans (b := [h, a]) rfl rfl) rfl rfl ?_
    refine vv_aload_n F dX7_keep_22 rfl rfl ?_
    refine vv_get 1 F fl_X7_72 dX7_keep_23 rfl rfl ?_
    exact vv_iret F hR dX7_keep_26 (congrArg (fun z => some (Value.int z)) ((if_neg h_1).trans rfl)) (by simp only [g_X7_keep_0_14, g_X7_keep_1_2, g_X7_keep_2, if_neg h_1])
  · refine vv_aload_n F dX7_keep_7 rfl rfl ?_
    refine vv_callV (As := []) (rest := []) [0] 0 (ws' := [(hX, .inr (6, [.ref hP, .ref dP, .ref i0, .ref i1, .int k0, .int k1, .ref hE, .ref hW, .ref hG, .ref hT, .long abv, .long blw, .int rb, .int rn, .int (rf + 1)])), (h, .inr (2, [.ref a, .int m, .int n])), (a, .inl ((vv_k x).2.1.1, 32, .inl f))]) F (c_X7_refuseFull (vv_l x) (vv_k x) hX hP dP i0 i1 k0 k1 hE hW hG hT abv blw rb rn rf) mv_X7_105 dX7_keep_8 (by decide) rfl rfl (Nat.le_of_ble_eq_true rfl) rfl (by decide) (Eq.trans (b := [hX]) rfl rfl) rfl rfl ?_
    exact vv_iret F hR dX7_keep_11 (congrArg (fun z => some (Value.int z)) ((if_pos h_1).trans rfl)) (by simp only [g_X7_keep_0_14, g_X7_keep_1_2, g_X7_keep_2, if_pos h_1])
noncomputable def f_X7_came (mC nC l1 x1 : Int32) : Int32 := (if p_X7_within l1 1 60 then (if p_X7_within x1 0 60 then (f_X7_keep mC nC) else (-2)) else (-2))
noncomputable def g_X7_came_0_12 (rb l1 x1 : Int32) : Int32 := (if p_X7_within l1 1 60 then (if p_X7_within x1 0 60 then rb else (rb + 1)) else (rb + 1))
noncomputable def g_X7_came_0_14 (rf mC nC l1 x1 : Int32) : Int32 := (if p_X7_within l1 1 60 then (if p_X7_within x1 0 60 then (g_X7_keep_0_14 rf mC nC) else rf) else rf)
noncomputable def g_X7_came_2_2 (mC nC l1 x1 : Int32) : Int32 := (if p_X7_within l1 1 60 then (if p_X7_within x1 0 60 then (g_X7_keep_1_2 mC nC) else nC) else nC)
noncomputable def g_X7_came_3 (mC nC : Int32) (fC : Nat → Int32) (l1 x1 : Int32) : Nat → Int32 := (if p_X7_within l1 1 60 then (if p_X7_within x1 0 60 then (g_X7_keep_2 mC nC fC l1 x1 0 0) else fC) else fC)
theorem c_X7_came (l : Launch) (K : vv_K) (hX hP dP i0 i1 : Nat) (k0 k1 : Int32) (hE hW hG hT : Nat) (abv blw : Int64) (rb rn rf : Int32) (hS hC hN hM hU : Nat) (ln hb ha pu hl sm hr : Int32) (aC : Nat) (mC nC : Int32) (fC : Nat → Int32) (l1 x1 : Int32) (cc : Nat) (hcc : (nC).toInt = (cc : Int))  (hm : mC.toInt ≤ 8) : vv_C l K 4 yX7_came cX7_came 3 (some .int) [.ref hX, .int l1, .int x1] [(hX, .inr (6, [.ref hP, .ref dP, .ref i0, .ref i1, .int k0, .int k1, .ref hE, .ref hW, .ref hG, .ref hT, .long abv, .long blw, .int rb, .int rn, .int rf])), (hP, .inr (1, [.int ln, .int hb, .int ha, .int pu, .int hl, .int sm, .int hr, .ref hS, .ref hC, .ref hN, .ref hM, .ref hU])), (hC, .inr (2, [.ref aC, .int mC, .int nC])), (aC, .inl (K.2.1.1, 32, .inl fC))] (some (.int (f_X7_came mC nC l1 x1))) [(hX, .inr (6, [.ref hP, .ref dP, .ref i0, .ref i1, .int k0, .int k1, .ref hE, .ref hW, .ref hG, .ref hT, .long abv, .long blw, .int (g_X7_came_0_12 rb l1 x1), .int rn, .int (g_X7_came_0_14 rf mC nC l1 x1)])), (hP, .inr (1, [.int ln, .int hb, .int ha, .int pu, .int hl, .int sm, .int hr, .ref hS, .ref hC, .ref hN, .ref hM, .ref hU])), (hC, .inr (2, [.ref aC, .int mC, .int (g_X7_came_2_2 mC nC l1 x1)])), (aC, .inl (K.2.1.1, 32, .inl (g_X7_came_3 mC nC fC l1 x1)))] := by
  refine vv_C.of (lv := [(0, .ref hX), (1, .int l1), (2, .int x1)]) (by decide +kernel) (Nat.le_of_ble_eq_true rfl) rfl ?_
  intro x hl hK F hR; subst hl; obtain rfl := hK
  refine vv_iload_n F dX7_came_0 rfl rfl ?_
  refine vv_iconst (v := 1) F dX7_came_1 (by decide) ?_
  refine vv_bipush (v := 60) F dX7_came_2 (by decide) ?_
  refine vv_callSp (As := [.int l1, .int 1, .int 60]) (rest := []) [] F (c_X7_within (vv_l x) (vv_k x) l1 1 60) ms_X7_60 dX7_came_4 (by decide) rfl rfl (Nat.le_of_ble_eq_true rfl) rfl (by decide) ?_
  refine vv_ifz_eq (tgt := 20) F dX7_came_7 (by decide) (fun h_1 => ?_) (fun h_1 => ?_)
  · refine vv_aload_n F dX7_came_20 rfl rfl ?_
    refine vv_callV (As := []) (rest := []) [0] 0 (ws' := [(hX, .inr (6, [.ref hP, .ref dP, .ref i0, .ref i1, .int k0, .int k1, .ref hE, .ref hW, .ref hG, .ref hT, .long abv, .long blw, .int (rb + 1), .int rn, .int rf])), (hP, .inr (1, [.int ln, .int hb, .int ha, .int pu, .int hl, .int sm, .int hr, .ref hS, .ref hC, .ref hN, .ref hM, .ref hU])), (hC, .inr (2, [.ref aC, .int mC, .int nC])), (aC, .inl ((vv_k x).2.1.1, 32, .inl fC))]) F (c_X7_refuseBad (vv_l x) (vv_k x) hX hP dP i0 i1 k0 k1 hE hW hG hT abv blw rb rn rf) mv_X7_64 dX7_came_21 (by decide) rfl rfl (Nat.le_of_ble_eq_true rfl) rfl (by decide) (Eq.trans (b := [hX]) rfl rfl) rfl rfl ?_
    exact vv_iret F hR dX7_came_24 (congrArg (fun z => some (Value.int z)) ((if_neg h_1).trans rfl)) (by simp only [g_X7_came_0_12, g_X7_came_0_14, g_X7_came_2_2, g_X7_came_3, if_neg h_1])
  · have h_1r := wi_rng (a := 1) (b := 60) (by decide) (by decide) h_1
    have h_1c := nn_cl (a := l1) (by omega)
    refine vv_iload_n F dX7_came_10 rfl rfl ?_
    refine vv_iconst (v := 0) F dX7_came_11 (by decide) ?_
    refine vv_bipush (v := 60) F dX7_came_12 (by decide) ?_
    refine vv_callSp (As := [.int x1, .int 0, .int 60]) (rest := []) [] F (c_X7_within (vv_l x) (vv_k x) x1 0 60) ms_X7_60 dX7_came_14 (by decide) rfl rfl (Nat.le_of_ble_eq_true rfl) rfl (by decide) ?_
    refine vv_ifz_ne (tgt := 25) F dX7_came_17 (by decide) (fun h_2 => ?_) (fun h_2 => ?_)
    · have h_2r := wi_rng (a := 0) (b := 60) (by decide) (by decide) h_2
      have h_2c := nn_cl (a := x1) (by omega)
      refine vv_aload_n F dX7_came_25 rfl rfl ?_
      refine vv_aload_n F dX7_came_26 rfl rfl ?_
      refine vv_get 0 F fl_X7_10 dX7_came_27 rfl rfl ?_
      refine vv_get 1 F fl_X7_185 dX7_came_30 rfl rfl ?_
      refine vv_iload_n F dX7_came_33 rfl rfl ?_
      refine vv_iload_n F dX7_came_34 rfl rfl ?_
      refine vv_iconst (v := 0) F dX7_came_35 (by decide) ?_
      refine vv_iconst (v := 0) F dX7_came_36 (by decide) ?_
      refine vv_callV (As := [.ref hC, .int l1, .int x1, .int 0, .int 0]) (rest := []) [0, 2, 3] 0 (ws' := [(hX, .inr (6, [.ref hP, .ref dP, .ref i0, .ref i1, .int k0, .int k1, .ref hE, .ref hW, .ref hG, .ref hT, .long abv, .long blw, .int rb, .int rn, .int (g_X7_keep_0_14 rf mC nC)])), (hP, .inr (1, [.int ln, .int hb, .int ha, .int pu, .int hl, .int sm, .int hr, .ref hS, .ref hC, .ref hN, .ref hM, .ref hU])), (hC, .inr (2, [.ref aC, .int mC, .int (g_X7_keep_1_2 mC nC)])), (aC, .inl ((vv_k x).2.1.1, 32, .inl (g_X7_keep_2 mC nC fC l1 x1 0 0)))]) F (c_X7_keep (vv_l x) (vv_k x) hX hP dP i0 i1 k0 k1 hE hW hG hT abv blw rb rn rf hC aC mC nC fC l1 x1 0 0 cc hcc (by omega)) mv_X7_188 dX7_came_37 (by decide) rfl rfl (Nat.le_of_ble_eq_true rfl) rfl (by decide) (Eq.trans (b := [hX, hC, aC]) rfl rfl) rfl rfl ?_
      exact vv_iret F hR dX7_came_40 (congrArg (fun z => some (Value.int z)) ((if_pos h_1).trans ((if_pos h_2).trans rfl))) (by simp only [g_X7_came_0_12, g_X7_came_0_14, g_X7_came_2_2, g_X7_came_3, if_pos h_1, if_pos h_2])
    · refine vv_aload_n F dX7_came_20 rfl rfl ?_
      refine vv_callV (As := []) (rest := []) [0] 0 (ws' := [(hX, .inr (6, [.ref hP, .ref dP, .ref i0, .ref i1, .int k0, .int k1, .ref hE, .ref hW, .ref hG, .ref hT, .long abv, .long blw, .int (rb + 1), .int rn, .int rf])), (hP, .inr (1, [.int ln, .int hb, .int ha, .int pu, .int hl, .int sm, .int hr, .ref hS, .ref hC, .ref hN, .ref hM, .ref hU])), (hC, .inr (2, [.ref aC, .int mC, .int nC])), (aC, .inl ((vv_k x).2.1.1, 32, .inl fC))]) F (c_X7_refuseBad (vv_l x) (vv_k x) hX hP dP i0 i1 k0 k1 hE hW hG hT abv blw rb rn rf) mv_X7_64 dX7_came_21 (by decide) rfl rfl (Nat.le_of_ble_eq_true rfl) rfl (by decide) (Eq.trans (b := [hX]) rfl rfl) rfl rfl ?_
      exact vv_iret F hR dX7_came_24 (congrArg (fun z => some (Value.int z)) ((if_pos h_1).trans ((if_neg h_2).trans rfl))) (by simp only [g_X7_came_0_12, g_X7_came_0_14, g_X7_came_2_2, g_X7_came_3, if_pos h_1, if_neg h_2])
noncomputable def f_X7_note (nS mN nN i l1 h1 x1 : Int32) : Int32 := (if p_X7_within i 0 (nS - 1) then (if p_X7_within l1 1 60 then (if p_X7_within h1 0 23 then (if p_X7_within x1 0 200 then (f_X7_keep mN nN) else (-2)) else (-2)) else (-2)) else (-2))
noncomputable def g_X7_note_0_12 (rb nS i l1 h1 x1 : Int32) : Int32 := (if p_X7_within i 0 (nS - 1) then (if p_X7_within l1 1 60 then (if p_X7_within h1 0 23 then (if p_X7_within x1 0 200 then rb else (rb + 1)) else (rb + 1)) else (rb + 1)) else (rb + 1))
noncomputable def g_X7_note_0_14 (rf nS mN nN i l1 h1 x1 : Int32) : Int32 := (if p_X7_within i 0 (nS - 1) then (if p_X7_within l1 1 60 then (if p_X7_within h1 0 23 then (if p_X7_within x1 0 200 then (g_X7_keep_0_14 rf mN nN) else rf) else rf) else rf) else rf)
noncomputable def g_X7_note_3_2 (nS mN nN i l1 h1 x1 : Int32) : Int32 := (if p_X7_within i 0 (nS - 1) then (if p_X7_within l1 1 60 then (if p_X7_within h1 0 23 then (if p_X7_within x1 0 200 then (g_X7_keep_1_2 mN nN) else nN) else nN) else nN) else nN)
noncomputable def g_X7_note_4 (nS mN nN : Int32) (fN : Nat → Int32) (i l1 h1 x1 : Int32) : Nat → Int32 := (if p_X7_within i 0 (nS - 1) then (if p_X7_within l1 1 60 then (if p_X7_within h1 0 23 then (if p_X7_within x1 0 200 then (g_X7_keep_2 mN nN fN i l1 h1 x1) else fN) else fN) else fN) else fN)
theorem c_X7_note (l : Launch) (K : vv_K) (hX hP dP i0 i1 : Nat) (k0 k1 : Int32) (hE hW hG hT : Nat) (abv blw : Int64) (rb rn rf : Int32) (hS hC hN hM hU : Nat) (ln hb ha pu hl sm hr : Int32) (aS : Nat) (mS nS : Int32) (aN : Nat) (mN nN : Int32) (fN : Nat → Int32) (i l1 h1 x1 : Int32) (cs cn : Nat) (hcs : (nS).toInt = (cs : Int)) (hcn : (nN).toInt = (cn : Int)) (hcs5 : cs ≤ 5) (hm : mN.toInt ≤ 8) : vv_C l K 4 yX7_note cX7_note 5 (some .int) [.ref hX, .int i, .int l1, .int h1, .int x1] [(hX, .inr (6, [.ref hP, .ref dP, .ref i0, .ref i1, .int k0, .int k1, .ref hE, .ref hW, .ref hG, .ref hT, .long abv, .long blw, .int rb, .int rn, .int rf])), (hP, .inr (1, [.int ln, .int hb, .int ha, .int pu, .int hl, .int sm, .int hr, .ref hS, .ref hC, .ref hN, .ref hM, .ref hU])), (hS, .inr (2, [.ref aS, .int mS, .int nS])), (hN, .inr (2, [.ref aN, .int mN, .int nN])), (aN, .inl (K.2.1.1, 32, .inl fN))] (some (.int (f_X7_note nS mN nN i l1 h1 x1))) [(hX, .inr (6, [.ref hP, .ref dP, .ref i0, .ref i1, .int k0, .int k1, .ref hE, .ref hW, .ref hG, .ref hT, .long abv, .long blw, .int (g_X7_note_0_12 rb nS i l1 h1 x1), .int rn, .int (g_X7_note_0_14 rf nS mN nN i l1 h1 x1)])), (hP, .inr (1, [.int ln, .int hb, .int ha, .int pu, .int hl, .int sm, .int hr, .ref hS, .ref hC, .ref hN, .ref hM, .ref hU])), (hS, .inr (2, [.ref aS, .int mS, .int nS])), (hN, .inr (2, [.ref aN, .int mN, .int (g_X7_note_3_2 nS mN nN i l1 h1 x1)])), (aN, .inl (K.2.1.1, 32, .inl (g_X7_note_4 nS mN nN fN i l1 h1 x1)))] := by
  refine vv_C.of (lv := [(0, .ref hX), (1, .int i), (2, .int l1), (3, .int h1), (4, .int x1)]) (by decide +kernel) (Nat.le_of_ble_eq_true rfl) rfl ?_
  intro x hl hK F hR; subst hl; obtain rfl := hK
  refine vv_aload_n F dX7_note_0 rfl rfl ?_
  refine vv_get 0 F fl_X7_10 dX7_note_1 rfl rfl ?_
  refine vv_iload_n F dX7_note_4 rfl rfl ?_
  refine vv_callVp (As := [.int i]) (rest := []) [1, 2] 1 F (c_X2_has (vv_l x) (vv_k x) hP hS hC hN hM hU ln hb ha pu hl sm hr aS mS nS i) mv_X7_121 dX7_note_5 (by decide) rfl rfl (Nat.le_of_ble_eq_true rfl) rfl (by decide) rfl ?_
  refine vv_ifz_eq (tgt := 43) F dX7_note_8 (by decide) (fun h_1 => ?_) (fun h_1 => ?_)
  · refine vv_aload_n F dX7_note_43 rfl rfl ?_
    refine vv_callV (As := []) (rest := []) [0] 0 (ws' := [(hX, .inr (6, [.ref hP, .ref dP, .ref i0, .ref i1, .int k0, .int k1, .ref hE, .ref hW, .ref hG, .ref hT, .long abv, .long blw, .int (rb + 1), .int rn, .int rf])), (hP, .inr (1, [.int ln, .int hb, .int ha, .int pu, .int hl, .int sm, .int hr, .ref hS, .ref hC, .ref hN, .ref hM, .ref hU])), (hS, .inr (2, [.ref aS, .int mS, .int nS])), (hN, .inr (2, [.ref aN, .int mN, .int nN])), (aN, .inl ((vv_k x).2.1.1, 32, .inl fN))]) F (c_X7_refuseBad (vv_l x) (vv_k x) hX hP dP i0 i1 k0 k1 hE hW hG hT abv blw rb rn rf) mv_X7_64 dX7_note_44 (by decide) rfl rfl (Nat.le_of_ble_eq_true rfl) rfl (by decide) (Eq.trans (b := [hX]) rfl rfl) rfl rfl ?_
    exact vv_iret F hR dX7_note_47 (congrArg (fun z => some (Value.int z)) ((if_neg h_1).trans rfl)) (by simp only [g_X7_note_0_12, g_X7_note_0_14, g_X7_note_3_2, g_X7_note_4, if_neg h_1])
  · have h_1r := wi_rngS hcs h_1
    have h_1c := nn_cl (a := i) (by omega)
    refine vv_iload_n F dX7_note_11 rfl rfl ?_
    refine vv_iconst (v := 1) F dX7_note_12 (by decide) ?_
    refine vv_bipush (v := 60) F dX7_note_13 (by decide) ?_
    refine vv_callSp (As := [.int l1, .int 1, .int 60]) (rest := []) [] F (c_X7_within (vv_l x) (vv_k x) l1 1 60) ms_X7_60 dX7_note_15 (by decide) rfl rfl (Nat.le_of_ble_eq_true rfl) rfl (by decide) ?_
    refine vv_ifz_eq (tgt := 43) F dX7_note_18 (by decide) (fun h_2 => ?_) (fun h_2 => ?_)
    · refine vv_aload_n F dX7_note_43 rfl rfl ?_
      refine vv_callV (As := []) (rest := []) [0] 0 (ws' := [(hX, .inr (6, [.ref hP, .ref dP, .ref i0, .ref i1, .int k0, .int k1, .ref hE, .ref hW, .ref hG, .ref hT, .long abv, .long blw, .int (rb + 1), .int rn, .int rf])), (hP, .inr (1, [.int ln, .int hb, .int ha, .int pu, .int hl, .int sm, .int hr, .ref hS, .ref hC, .ref hN, .ref hM, .ref hU])), (hS, .inr (2, [.ref aS, .int mS, .int nS])), (hN, .inr (2, [.ref aN, .int mN, .int nN])), (aN, .inl ((vv_k x).2.1.1, 32, .inl fN))]) F (c_X7_refuseBad (vv_l x) (vv_k x) hX hP dP i0 i1 k0 k1 hE hW hG hT abv blw rb rn rf) mv_X7_64 dX7_note_44 (by decide) rfl rfl (Nat.le_of_ble_eq_true rfl) rfl (by decide) (Eq.trans (b := [hX]) rfl rfl) rfl rfl ?_
      exact vv_iret F hR dX7_note_47 (congrArg (fun z => some (Value.int z)) ((if_pos h_1).trans ((if_neg h_2).trans rfl))) (by simp only [g_X7_note_0_12, g_X7_note_0_14, g_X7_note_3_2, g_X7_note_4, if_pos h_1, if_neg h_2])
    · have h_2r := wi_rng (a := 1) (b := 60) (by decide) (by decide) h_2
      have h_2c := nn_cl (a := l1) (by omega)
      refine vv_iload_n F dX7_note_21 rfl rfl ?_
      refine vv_iconst (v := 0) F dX7_note_22 (by decide) ?_
      refine vv_bipush (v := 23) F dX7_note_23 (by decide) ?_
      refine vv_callSp (As := [.int h1, .int 0, .int 23]) (rest := []) [] F (c_X7_within (vv_l x) (vv_k x) h1 0 23) ms_X7_60 dX7_note_25 (by decide) rfl rfl (Nat.le_of_ble_eq_true rfl) rfl (by decide) ?_
      refine vv_ifz_eq (tgt := 43) F dX7_note_28 (by decide) (fun h_3 => ?_) (fun h_3 => ?_)
      · refine vv_aload_n F dX7_note_43 rfl rfl ?_
        refine vv_callV (As := []) (rest := []) [0] 0 (ws' := [(hX, .inr (6, [.ref hP, .ref dP, .ref i0, .ref i1, .int k0, .int k1, .ref hE, .ref hW, .ref hG, .ref hT, .long abv, .long blw, .int (rb + 1), .int rn, .int rf])), (hP, .inr (1, [.int ln, .int hb, .int ha, .int pu, .int hl, .int sm, .int hr, .ref hS, .ref hC, .ref hN, .ref hM, .ref hU])), (hS, .inr (2, [.ref aS, .int mS, .int nS])), (hN, .inr (2, [.ref aN, .int mN, .int nN])), (aN, .inl ((vv_k x).2.1.1, 32, .inl fN))]) F (c_X7_refuseBad (vv_l x) (vv_k x) hX hP dP i0 i1 k0 k1 hE hW hG hT abv blw rb rn rf) mv_X7_64 dX7_note_44 (by decide) rfl rfl (Nat.le_of_ble_eq_true rfl) rfl (by decide) (Eq.trans (b := [hX]) rfl rfl) rfl rfl ?_
        exact vv_iret F hR dX7_note_47 (congrArg (fun z => some (Value.int z)) ((if_pos h_1).trans ((if_pos h_2).trans ((if_neg h_3).trans rfl)))) (by simp only [g_X7_note_0_12, g_X7_note_0_14, g_X7_note_3_2, g_X7_note_4, if_pos h_1, if_pos h_2, if_neg h_3])
      · have h_3r := wi_rng (a := 0) (b := 23) (by decide) (by decide) h_3
        have h_3c := nn_cl (a := h1) (by omega)
        refine vv_iload F dX7_note_31 rfl ?_
        refine vv_iconst (v := 0) F dX7_note_33 (by decide) ?_
        refine vv_sipush (v := 200) F dX7_note_34 (by decide) ?_
        refine vv_callSp (As := [.int x1, .int 0, .int 200]) (rest := []) [] F (c_X7_within (vv_l x) (vv_k x) x1 0 200) ms_X7_60 dX7_note_37 (by decide) rfl rfl (Nat.le_of_ble_eq_true rfl) rfl (by decide) ?_
        refine vv_ifz_ne (tgt := 48) F dX7_note_40 (by decide) (fun h_4 => ?_) (fun h_4 => ?_)
        · have h_4r := wi_rng (a := 0) (b := 200) (by decide) (by decide) h_4
          have h_4c := nn_cl (a := x1) (by omega)
          refine vv_aload_n F dX7_note_48 rfl rfl ?_
          refine vv_aload_n F dX7_note_49 rfl rfl ?_
          refine vv_get 0 F fl_X7_10 dX7_note_50 rfl rfl ?_
          refine vv_get 1 F fl_X7_204 dX7_note_53 rfl rfl ?_
          refine vv_iload_n F dX7_note_56 rfl rfl ?_
          refine vv_iload_n F dX7_note_57 rfl rfl ?_
          refine vv_iload_n F dX7_note_58 rfl rfl ?_
          refine vv_iload F dX7_note_59 rfl ?_
          refine vv_callV (As := [.ref hN, .int i, .int l1, .int h1, .int x1]) (rest := []) [0, 3, 4] 0 (ws' := [(hX, .inr (6, [.ref hP, .ref dP, .ref i0, .ref i1, .int k0, .int k1, .ref hE, .ref hW, .ref hG, .ref hT, .long abv, .long blw, .int rb, .int rn, .int (g_X7_keep_0_14 rf mN nN)])), (hP, .inr (1, [.int ln, .int hb, .int ha, .int pu, .int hl, .int sm, .int hr, .ref hS, .ref hC, .ref hN, .ref hM, .ref hU])), (hS, .inr (2, [.ref aS, .int mS, .int nS])), (hN, .inr (2, [.ref aN, .int mN, .int (g_X7_keep_1_2 mN nN)])), (aN, .inl ((vv_k x).2.1.1, 32, .inl (g_X7_keep_2 mN nN fN i l1 h1 x1)))]) F (c_X7_keep (vv_l x) (vv_k x) hX hP dP i0 i1 k0 k1 hE hW hG hT abv blw rb rn rf hN aN mN nN fN i l1 h1 x1 cn hcn (by omega)) mv_X7_188 dX7_note_61 (by decide) rfl rfl (Nat.le_of_ble_eq_true rfl) rfl (by decide) (Eq.trans (b := [hX, hN, aN]) rfl rfl) rfl rfl ?_
          exact vv_iret F hR dX7_note_64 (congrArg (fun z => some (Value.int z)) ((if_pos h_1).trans ((if_pos h_2).trans ((if_pos h_3).trans ((if_pos h_4).trans rfl))))) (by simp only [g_X7_note_0_12, g_X7_note_0_14, g_X7_note_3_2, g_X7_note_4, if_pos h_1, if_pos h_2, if_pos h_3, if_pos h_4])
        · refine vv_aload_n F dX7_note_43 rfl rfl ?_
          refine vv_callV (As := []) (rest := []) [0] 0 (ws' := [(hX, .inr (6, [.ref hP, .ref dP, .ref i0, .ref i1, .int k0, .int k1, .ref hE, .ref hW, .ref hG, .ref hT, .long abv, .long blw, .int (rb + 1), .int rn, .int rf])), (hP, .inr (1, [.int ln, .int hb, .int ha, .int pu, .int hl, .int sm, .int hr, .ref hS, .ref hC, .ref hN, .ref hM, .ref hU])), (hS, .inr (2, [.ref aS, .int mS, .int nS])), (hN, .inr (2, [.ref aN, .int mN, .int nN])), (aN, .inl ((vv_k x).2.1.1, 32, .inl fN))]) F (c_X7_refuseBad (vv_l x) (vv_k x) hX hP dP i0 i1 k0 k1 hE hW hG hT abv blw rb rn rf) mv_X7_64 dX7_note_44 (by decide) rfl rfl (Nat.le_of_ble_eq_true rfl) rfl (by decide) (Eq.trans (b := [hX]) rfl rfl) rfl rfl ?_
          exact vv_iret F hR dX7_note_47 (congrArg (fun z => some (Value.int z)) ((if_pos h_1).trans ((if_pos h_2).trans ((if_pos h_3).trans ((if_neg h_4).trans rfl))))) (by simp only [g_X7_note_0_12, g_X7_note_0_14, g_X7_note_3_2, g_X7_note_4, if_pos h_1, if_pos h_2, if_pos h_3, if_neg h_4])
noncomputable def f_X7_mark (mM nM w s1 d1 x1 : Int32) : Int32 := (if p_X7_within w 0 1 then (if p_X7_within s1 0 99 then (if p_X7_within d1 0 99 then (if p_X7_within x1 0 200 then (f_X7_keep mM nM) else (-2)) else (-2)) else (-2)) else (-2))
noncomputable def g_X7_mark_0_12 (rb w s1 d1 x1 : Int32) : Int32 := (if p_X7_within w 0 1 then (if p_X7_within s1 0 99 then (if p_X7_within d1 0 99 then (if p_X7_within x1 0 200 then rb else (rb + 1)) else (rb + 1)) else (rb + 1)) else (rb + 1))
noncomputable def g_X7_mark_0_14 (rf mM nM w s1 d1 x1 : Int32) : Int32 := (if p_X7_within w 0 1 then (if p_X7_within s1 0 99 then (if p_X7_within d1 0 99 then (if p_X7_within x1 0 200 then (g_X7_keep_0_14 rf mM nM) else rf) else rf) else rf) else rf)
noncomputable def g_X7_mark_2_2 (mM nM w s1 d1 x1 : Int32) : Int32 := (if p_X7_within w 0 1 then (if p_X7_within s1 0 99 then (if p_X7_within d1 0 99 then (if p_X7_within x1 0 200 then (g_X7_keep_1_2 mM nM) else nM) else nM) else nM) else nM)
noncomputable def g_X7_mark_3 (mM nM : Int32) (fM : Nat → Int32) (w s1 d1 x1 : Int32) : Nat → Int32 := (if p_X7_within w 0 1 then (if p_X7_within s1 0 99 then (if p_X7_within d1 0 99 then (if p_X7_within x1 0 200 then (g_X7_keep_2 mM nM fM w s1 d1 x1) else fM) else fM) else fM) else fM)
theorem c_X7_mark (l : Launch) (K : vv_K) (hX hP dP i0 i1 : Nat) (k0 k1 : Int32) (hE hW hG hT : Nat) (abv blw : Int64) (rb rn rf : Int32) (hS hC hN hM hU : Nat) (ln hb ha pu hl sm hr : Int32) (aM : Nat) (mM nM : Int32) (fM : Nat → Int32) (w s1 d1 x1 : Int32) (cm : Nat) (hcm : (nM).toInt = (cm : Int))  (hm : mM.toInt ≤ 8) : vv_C l K 4 yX7_mark cX7_mark 5 (some .int) [.ref hX, .int w, .int s1, .int d1, .int x1] [(hX, .inr (6, [.ref hP, .ref dP, .ref i0, .ref i1, .int k0, .int k1, .ref hE, .ref hW, .ref hG, .ref hT, .long abv, .long blw, .int rb, .int rn, .int rf])), (hP, .inr (1, [.int ln, .int hb, .int ha, .int pu, .int hl, .int sm, .int hr, .ref hS, .ref hC, .ref hN, .ref hM, .ref hU])), (hM, .inr (2, [.ref aM, .int mM, .int nM])), (aM, .inl (K.2.1.1, 32, .inl fM))] (some (.int (f_X7_mark mM nM w s1 d1 x1))) [(hX, .inr (6, [.ref hP, .ref dP, .ref i0, .ref i1, .int k0, .int k1, .ref hE, .ref hW, .ref hG, .ref hT, .long abv, .long blw, .int (g_X7_mark_0_12 rb w s1 d1 x1), .int rn, .int (g_X7_mark_0_14 rf mM nM w s1 d1 x1)])), (hP, .inr (1, [.int ln, .int hb, .int ha, .int pu, .int hl, .int sm, .int hr, .ref hS, .ref hC, .ref hN, .ref hM, .ref hU])), (hM, .inr (2, [.ref aM, .int mM, .int (g_X7_mark_2_2 mM nM w s1 d1 x1)])), (aM, .inl (K.2.1.1, 32, .inl (g_X7_mark_3 mM nM fM w s1 d1 x1)))] := by
  refine vv_C.of (lv := [(0, .ref hX), (1, .int w), (2, .int s1), (3, .int d1), (4, .int x1)]) (by decide +kernel) (Nat.le_of_ble_eq_true rfl) rfl ?_
  intro x hl hK F hR; subst hl; obtain rfl := hK
  refine vv_iload_n F dX7_mark_0 rfl rfl ?_
  refine vv_iconst (v := 0) F dX7_mark_1 (by decide) ?_
  refine vv_iconst (v := 1) F dX7_mark_2 (by decide) ?_
  refine vv_callSp (As := [.int w, .int 0, .int 1]) (rest := []) [] F (c_X7_within (vv_l x) (vv_k x) w 0 1) ms_X7_60 dX7_mark_3 (by decide) rfl rfl (Nat.le_of_ble_eq_true rfl) rfl (by decide) ?_
  refine vv_ifz_eq (tgt := 41) F dX7_mark_6 (by decide) (fun h_1 => ?_) (fun h_1 => ?_)
  · refine vv_aload_n F dX7_mark_41 rfl rfl ?_
    refine vv_callV (As := []) (rest := []) [0] 0 (ws' := [(hX, .inr (6, [.ref hP, .ref dP, .ref i0, .ref i1, .int k0, .int k1, .ref hE, .ref hW, .ref hG, .ref hT, .long abv, .long blw, .int (rb + 1), .int rn, .int rf])), (hP, .inr (1, [.int ln, .int hb, .int ha, .int pu, .int hl, .int sm, .int hr, .ref hS, .ref hC, .ref hN, .ref hM, .ref hU])), (hM, .inr (2, [.ref aM, .int mM, .int nM])), (aM, .inl ((vv_k x).2.1.1, 32, .inl fM))]) F (c_X7_refuseBad (vv_l x) (vv_k x) hX hP dP i0 i1 k0 k1 hE hW hG hT abv blw rb rn rf) mv_X7_64 dX7_mark_42 (by decide) rfl rfl (Nat.le_of_ble_eq_true rfl) rfl (by decide) (Eq.trans (b := [hX]) rfl rfl) rfl rfl ?_
    exact vv_iret F hR dX7_mark_45 (congrArg (fun z => some (Value.int z)) ((if_neg h_1).trans rfl)) (by simp only [g_X7_mark_0_12, g_X7_mark_0_14, g_X7_mark_2_2, g_X7_mark_3, if_neg h_1])
  · have h_1r := wi_rng (a := 0) (b := 1) (by decide) (by decide) h_1
    have h_1c := nn_cl (a := w) (by omega)
    refine vv_iload_n F dX7_mark_9 rfl rfl ?_
    refine vv_iconst (v := 0) F dX7_mark_10 (by decide) ?_
    refine vv_bipush (v := 99) F dX7_mark_11 (by decide) ?_
    refine vv_callSp (As := [.int s1, .int 0, .int 99]) (rest := []) [] F (c_X7_within (vv_l x) (vv_k x) s1 0 99) ms_X7_60 dX7_mark_13 (by decide) rfl rfl (Nat.le_of_ble_eq_true rfl) rfl (by decide) ?_
    refine vv_ifz_eq (tgt := 41) F dX7_mark_16 (by decide) (fun h_2 => ?_) (fun h_2 => ?_)
    · refine vv_aload_n F dX7_mark_41 rfl rfl ?_
      refine vv_callV (As := []) (rest := []) [0] 0 (ws' := [(hX, .inr (6, [.ref hP, .ref dP, .ref i0, .ref i1, .int k0, .int k1, .ref hE, .ref hW, .ref hG, .ref hT, .long abv, .long blw, .int (rb + 1), .int rn, .int rf])), (hP, .inr (1, [.int ln, .int hb, .int ha, .int pu, .int hl, .int sm, .int hr, .ref hS, .ref hC, .ref hN, .ref hM, .ref hU])), (hM, .inr (2, [.ref aM, .int mM, .int nM])), (aM, .inl ((vv_k x).2.1.1, 32, .inl fM))]) F (c_X7_refuseBad (vv_l x) (vv_k x) hX hP dP i0 i1 k0 k1 hE hW hG hT abv blw rb rn rf) mv_X7_64 dX7_mark_42 (by decide) rfl rfl (Nat.le_of_ble_eq_true rfl) rfl (by decide) (Eq.trans (b := [hX]) rfl rfl) rfl rfl ?_
      exact vv_iret F hR dX7_mark_45 (congrArg (fun z => some (Value.int z)) ((if_pos h_1).trans ((if_neg h_2).trans rfl))) (by simp only [g_X7_mark_0_12, g_X7_mark_0_14, g_X7_mark_2_2, g_X7_mark_3, if_pos h_1, if_neg h_2])
    · have h_2r := wi_rng (a := 0) (b := 99) (by decide) (by decide) h_2
      have h_2c := nn_cl (a := s1) (by omega)
      refine vv_iload_n F dX7_mark_19 rfl rfl ?_
      refine vv_iconst (v := 0) F dX7_mark_20 (by decide) ?_
      refine vv_bipush (v := 99) F dX7_mark_21 (by decide) ?_
      refine vv_callSp (As := [.int d1, .int 0, .int 99]) (rest := []) [] F (c_X7_within (vv_l x) (vv_k x) d1 0 99) ms_X7_60 dX7_mark_23 (by decide) rfl rfl (Nat.le_of_ble_eq_true rfl) rfl (by decide) ?_
      refine vv_ifz_eq (tgt := 41) F dX7_mark_26 (by decide) (fun h_3 => ?_) (fun h_3 => ?_)
      · refine vv_aload_n F dX7_mark_41 rfl rfl ?_
        refine vv_callV (As := []) (rest := []) [0] 0 (ws' := [(hX, .inr (6, [.ref hP, .ref dP, .ref i0, .ref i1, .int k0, .int k1, .ref hE, .ref hW, .ref hG, .ref hT, .long abv, .long blw, .int (rb + 1), .int rn, .int rf])), (hP, .inr (1, [.int ln, .int hb, .int ha, .int pu, .int hl, .int sm, .int hr, .ref hS, .ref hC, .ref hN, .ref hM, .ref hU])), (hM, .inr (2, [.ref aM, .int mM, .int nM])), (aM, .inl ((vv_k x).2.1.1, 32, .inl fM))]) F (c_X7_refuseBad (vv_l x) (vv_k x) hX hP dP i0 i1 k0 k1 hE hW hG hT abv blw rb rn rf) mv_X7_64 dX7_mark_42 (by decide) rfl rfl (Nat.le_of_ble_eq_true rfl) rfl (by decide) (Eq.trans (b := [hX]) rfl rfl) rfl rfl ?_
        exact vv_iret F hR dX7_mark_45 (congrArg (fun z => some (Value.int z)) ((if_pos h_1).trans ((if_pos h_2).trans ((if_neg h_3).trans rfl)))) (by simp only [g_X7_mark_0_12, g_X7_mark_0_14, g_X7_mark_2_2, g_X7_mark_3, if_pos h_1, if_pos h_2, if_neg h_3])
      · have h_3r := wi_rng (a := 0) (b := 99) (by decide) (by decide) h_3
        have h_3c := nn_cl (a := d1) (by omega)
        refine vv_iload F dX7_mark_29 rfl ?_
        refine vv_iconst (v := 0) F dX7_mark_31 (by decide) ?_
        refine vv_sipush (v := 200) F dX7_mark_32 (by decide) ?_
        refine vv_callSp (As := [.int x1, .int 0, .int 200]) (rest := []) [] F (c_X7_within (vv_l x) (vv_k x) x1 0 200) ms_X7_60 dX7_mark_35 (by decide) rfl rfl (Nat.le_of_ble_eq_true rfl) rfl (by decide) ?_
        refine vv_ifz_ne (tgt := 46) F dX7_mark_38 (by decide) (fun h_4 => ?_) (fun h_4 => ?_)
        · have h_4r := wi_rng (a := 0) (b := 200) (by decide) (by decide) h_4
          have h_4c := nn_cl (a := x1) (by omega)
          refine vv_aload_n F dX7_mark_46 rfl rfl ?_
          refine vv_aload_n F dX7_mark_47 rfl rfl ?_
          refine vv_get 0 F fl_X7_10 dX7_mark_48 rfl rfl ?_
          refine vv_get 1 F fl_X7_207 dX7_mark_51 rfl rfl ?_
          refine vv_iload_n F dX7_mark_54 rfl rfl ?_
          refine vv_iload_n F dX7_mark_55 rfl rfl ?_
          refine vv_iload_n F dX7_mark_56 rfl rfl ?_
          refine vv_iload F dX7_mark_57 rfl ?_
          refine vv_callV (As := [.ref hM, .int w, .int s1, .int d1, .int x1]) (rest := []) [0, 2, 3] 0 (ws' := [(hX, .inr (6, [.ref hP, .ref dP, .ref i0, .ref i1, .int k0, .int k1, .ref hE, .ref hW, .ref hG, .ref hT, .long abv, .long blw, .int rb, .int rn, .int (g_X7_keep_0_14 rf mM nM)])), (hP, .inr (1, [.int ln, .int hb, .int ha, .int pu, .int hl, .int sm, .int hr, .ref hS, .ref hC, .ref hN, .ref hM, .ref hU])), (hM, .inr (2, [.ref aM, .int mM, .int (g_X7_keep_1_2 mM nM)])), (aM, .inl ((vv_k x).2.1.1, 32, .inl (g_X7_keep_2 mM nM fM w s1 d1 x1)))]) F (c_X7_keep (vv_l x) (vv_k x) hX hP dP i0 i1 k0 k1 hE hW hG hT abv blw rb rn rf hM aM mM nM fM w s1 d1 x1 cm hcm (by omega)) mv_X7_188 dX7_mark_59 (by decide) rfl rfl (Nat.le_of_ble_eq_true rfl) rfl (by decide) (Eq.trans (b := [hX, hM, aM]) rfl rfl) rfl rfl ?_
          exact vv_iret F hR dX7_mark_62 (congrArg (fun z => some (Value.int z)) ((if_pos h_1).trans ((if_pos h_2).trans ((if_pos h_3).trans ((if_pos h_4).trans rfl))))) (by simp only [g_X7_mark_0_12, g_X7_mark_0_14, g_X7_mark_2_2, g_X7_mark_3, if_pos h_1, if_pos h_2, if_pos h_3, if_pos h_4])
        · refine vv_aload_n F dX7_mark_41 rfl rfl ?_
          refine vv_callV (As := []) (rest := []) [0] 0 (ws' := [(hX, .inr (6, [.ref hP, .ref dP, .ref i0, .ref i1, .int k0, .int k1, .ref hE, .ref hW, .ref hG, .ref hT, .long abv, .long blw, .int (rb + 1), .int rn, .int rf])), (hP, .inr (1, [.int ln, .int hb, .int ha, .int pu, .int hl, .int sm, .int hr, .ref hS, .ref hC, .ref hN, .ref hM, .ref hU])), (hM, .inr (2, [.ref aM, .int mM, .int nM])), (aM, .inl ((vv_k x).2.1.1, 32, .inl fM))]) F (c_X7_refuseBad (vv_l x) (vv_k x) hX hP dP i0 i1 k0 k1 hE hW hG hT abv blw rb rn rf) mv_X7_64 dX7_mark_42 (by decide) rfl rfl (Nat.le_of_ble_eq_true rfl) rfl (by decide) (Eq.trans (b := [hX]) rfl rfl) rfl rfl ?_
          exact vv_iret F hR dX7_mark_45 (congrArg (fun z => some (Value.int z)) ((if_pos h_1).trans ((if_pos h_2).trans ((if_pos h_3).trans ((if_neg h_4).trans rfl))))) (by simp only [g_X7_mark_0_12, g_X7_mark_0_14, g_X7_mark_2_2, g_X7_mark_3, if_pos h_1, if_pos h_2, if_pos h_3, if_neg h_4])
noncomputable def f_X7_lines (nC : Int32) (fC : Nat → Int32) (wh : Int32) (cc : Nat) : Int32 := (if p_X7_within wh 0 2 then (if wh = 0 then (itr (st_X0_linesThatFit nC fC cc) 60 1 0) else (if wh = 1 then (f_X0_leastLine nC fC cc) else (f_X0_greatestLine nC fC cc))) else (-2))
noncomputable def g_X7_lines_0_12 (rb wh : Int32) : Int32 := (if p_X7_within wh 0 2 then (if wh = 0 then rb else (if wh = 1 then rb else rb)) else (rb + 1))
theorem c_X7_lines (l : Launch) (K : vv_K) (hX hP dP i0 i1 : Nat) (k0 k1 : Int32) (hE hW hG hT : Nat) (abv blw : Int64) (rb rn rf : Int32) (hS hC hN hM hU : Nat) (ln hb ha pu hl sm hr : Int32) (aC : Nat) (mC nC : Int32) (fC : Nat → Int32) (aG : Nat) (av wh : Int32) (cc : Nat) (hcc : (nC).toInt = (cc : Int)) (hcc6 : cc ≤ 6)  : vv_C l K 4 yX7_lines cX7_lines 2 (some .int) [.ref hX, .int wh] [(hX, .inr (6, [.ref hP, .ref dP, .ref i0, .ref i1, .int k0, .int k1, .ref hE, .ref hW, .ref hG, .ref hT, .long abv, .long blw, .int rb, .int rn, .int rf])), (hP, .inr (1, [.int ln, .int hb, .int ha, .int pu, .int hl, .int sm, .int hr, .ref hS, .ref hC, .ref hN, .ref hM, .ref hU])), (hC, .inr (2, [.ref aC, .int mC, .int nC])), (aC, .inl (K.2.1.1, 32, .inl fC)), (hG, .inr (0, [.ref aG, .int av]))] (some (.int (f_X7_lines nC fC wh cc))) [(hX, .inr (6, [.ref hP, .ref dP, .ref i0, .ref i1, .int k0, .int k1, .ref hE, .ref hW, .ref hG, .ref hT, .long abv, .long blw, .int (g_X7_lines_0_12 rb wh), .int rn, .int rf])), (hP, .inr (1, [.int ln, .int hb, .int ha, .int pu, .int hl, .int sm, .int hr, .ref hS, .ref hC, .ref hN, .ref hM, .ref hU])), (hC, .inr (2, [.ref aC, .int mC, .int nC])), (aC, .inl (K.2.1.1, 32, .inl fC)), (hG, .inr (0, [.ref aG, .int av]))] := by
  refine vv_C.of (lv := [(0, .ref hX), (1, .int wh)]) (by decide +kernel) (Nat.le_of_ble_eq_true rfl) rfl ?_
  intro x hl hK F hR; subst hl; obtain rfl := hK
  refine vv_iload_n F dX7_lines_0 rfl rfl ?_
  refine vv_iconst (v := 0) F dX7_lines_1 (by decide) ?_
  refine vv_iconst (v := 2) F dX7_lines_2 (by decide) ?_
  refine vv_callSp (As := [.int wh, .int 0, .int 2]) (rest := []) [] F (c_X7_within (vv_l x) (vv_k x) wh 0 2) ms_X7_60 dX7_lines_3 (by decide) rfl rfl (Nat.le_of_ble_eq_true rfl) rfl (by decide) ?_
  refine vv_ifz_ne (tgt := 14) F dX7_lines_6 (by decide) (fun h_1 => ?_) (fun h_1 => ?_)
  · have h_1r := wi_rng (a := 0) (b := 2) (by decide) (by decide) h_1
    have h_1c := nn_cl (a := wh) (by omega)
    refine vv_iload_n F dX7_lines_14 rfl rfl ?_
    refine vv_if_ne (tgt := 30) F dX7_lines_15 (by decide) (fun h_2 => ?_) (fun h_2 => ?_)
    · refine vv_iload_n F dX7_lines_30 rfl rfl ?_
      refine vv_iconst (v := 1) F dX7_lines_31 (by decide) ?_
      refine vv_icmp_ne (tgt := 49) F dX7_lines_32 (by decide) (fun h_3 => ?_) (fun h_3 => ?_)
      · refine vv_aload_n F dX7_lines_49 rfl rfl ?_
        refine vv_get 0 F fl_X7_42 dX7_lines_50 rfl rfl ?_
        refine vv_aload_n F dX7_lines_53 rfl rfl ?_
        refine vv_get 0 F fl_X7_10 dX7_lines_54 rfl rfl ?_
        refine vv_callVp (As := [.ref hP]) (rest := []) [4, 1, 2, 3] 4 F (c_X0_greatestLine (vv_l x) (vv_k x) hG aG av hP hS hC hN hM hU ln hb ha pu hl sm hr aC mC nC fC cc hcc (by omega)) mv_X7_198 dX7_lines_57 (by decide) rfl rfl (Nat.le_of_ble_eq_true rfl) rfl (by decide) rfl ?_
        exact vv_iret F hR dX7_lines_60 (congrArg (fun z => some (Value.int z)) ((if_pos h_1).trans ((if_neg h_2).trans ((if_neg h_3).trans rfl)))) (by simp only [g_X7_lines_0_12, if_pos h_1, if_neg h_2, if_neg h_3])
      · refine vv_aload_n F dX7_lines_35 rfl rfl ?_
        refine vv_get 0 F fl_X7_42 dX7_lines_36 rfl rfl ?_
        refine vv_aload_n F dX7_lines_39 rfl rfl ?_
        refine vv_get 0 F fl_X7_10 dX7_lines_40 rfl rfl ?_
        refine vv_callVp (As := [.ref hP]) (rest := []) [4, 1, 2, 3] 4 F (c_X0_leastLine (vv_l x) (vv_k x) hG aG av hP hS hC hN hM hU ln hb ha pu hl sm hr aC mC nC fC cc hcc (by omega)) mv_X7_195 dX7_lines_43 (by decide) rfl rfl (Nat.le_of_ble_eq_true rfl) rfl (by decide) rfl ?_
        refine vv_goto (tgt := 60) F dX7_lines_46 (by decide) ?_
        exact vv_iret F hR dX7_lines_60 (congrArg (fun z => some (Value.int z)) ((if_pos h_1).trans ((if_neg h_2).trans ((if_pos h_3).trans rfl)))) (by simp only [g_X7_lines_0_12, if_pos h_1, if_neg h_2, if_pos h_3])
    · refine vv_aload_n F dX7_lines_18 rfl rfl ?_
      refine vv_get 0 F fl_X7_42 dX7_lines_19 rfl rfl ?_
      refine vv_aload_n F dX7_lines_22 rfl rfl ?_
      refine vv_get 0 F fl_X7_10 dX7_lines_23 rfl rfl ?_
      refine vv_callVp (As := [.ref hP]) (rest := []) [4, 1, 2, 3] 4 F (c_X0_linesThatFit (vv_l x) (vv_k x) hG aG av hP hS hC hN hM hU ln hb ha pu hl sm hr aC mC nC fC cc hcc (by omega)) mv_X7_192 dX7_lines_26 (by decide) rfl rfl (Nat.le_of_ble_eq_true rfl) rfl (by decide) rfl ?_
      exact vv_iret F hR dX7_lines_29 (congrArg (fun z => some (Value.int z)) ((if_pos h_1).trans ((if_pos h_2).trans rfl))) (by simp only [g_X7_lines_0_12, if_pos h_1, if_pos h_2])
  · refine vv_aload_n F dX7_lines_9 rfl rfl ?_
    refine vv_callV (As := []) (rest := []) [0] 0 (ws' := [(hX, .inr (6, [.ref hP, .ref dP, .ref i0, .ref i1, .int k0, .int k1, .ref hE, .ref hW, .ref hG, .ref hT, .long abv, .long blw, .int (rb + 1), .int rn, .int rf])), (hP, .inr (1, [.int ln, .int hb, .int ha, .int pu, .int hl, .int sm, .int hr, .ref hS, .ref hC, .ref hN, .ref hM, .ref hU])), (hC, .inr (2, [.ref aC, .int mC, .int nC])), (aC, .inl ((vv_k x).2.1.1, 32, .inl fC)), (hG, .inr (0, [.ref aG, .int av]))]) F (c_X7_refuseBad (vv_l x) (vv_k x) hX hP dP i0 i1 k0 k1 hE hW hG hT abv blw rb rn rf) mv_X7_64 dX7_lines_10 (by decide) rfl rfl (Nat.le_of_ble_eq_true rfl) rfl (by decide) (Eq.trans (b := [hX]) rfl rfl) rfl rfl ?_
    exact vv_iret F hR dX7_lines_13 (congrArg (fun z => some (Value.int z)) ((if_neg h_1).trans rfl)) (by simp only [g_X7_lines_0_12, if_neg h_1])
theorem c_X7_tries (l : Launch) (K : vv_K) (hX hP dP i0 i1 : Nat) (k0 k1 : Int32) (hE hW hG hT : Nat) (abv blw : Int64) (rb rn rf : Int32) (hS hC hN hM hU : Nat) (ln hb ha pu hl sm hr : Int32) (aC : Nat) (mC nC : Int32) (fC : Nat → Int32) (aG : Nat) (av : Int32) (cc : Nat) (hcc : (nC).toInt = (cc : Int)) (hcc6 : cc ≤ 6)  : vv_C l K 5 yX7_tries cX7_tries 1 (some .int) [.ref hX] [(hX, .inr (6, [.ref hP, .ref dP, .ref i0, .ref i1, .int k0, .int k1, .ref hE, .ref hW, .ref hG, .ref hT, .long abv, .long blw, .int rb, .int rn, .int rf])), (hP, .inr (1, [.int ln, .int hb, .int ha, .int pu, .int hl, .int sm, .int hr, .ref hS, .ref hC, .ref hN, .ref hM, .ref hU])), (hC, .inr (2, [.ref aC, .int mC, .int nC])), (aC, .inl (K.2.1.1, 32, .inl fC)), (hG, .inr (0, [.ref aG, .int av]))] (some (.int (f_X0_nextLength nC fC cc))) [(hX, .inr (6, [.ref hP, .ref dP, .ref i0, .ref i1, .int k0, .int k1, .ref hE, .ref hW, .ref hG, .ref hT, .long abv, .long blw, .int rb, .int rn, .int rf])), (hP, .inr (1, [.int ln, .int hb, .int ha, .int pu, .int hl, .int sm, .int hr, .ref hS, .ref hC, .ref hN, .ref hM, .ref hU])), (hC, .inr (2, [.ref aC, .int mC, .int nC])), (aC, .inl (K.2.1.1, 32, .inl fC)), (hG, .inr (0, [.ref aG, .int av]))] := by
  refine vv_C.of (lv := [(0, .ref hX)]) (by decide +kernel) (Nat.le_of_ble_eq_true rfl) rfl ?_
  intro x hl hK F hR; subst hl; obtain rfl := hK
  refine vv_aload_n F dX7_tries_0 rfl rfl ?_
  refine vv_get 0 F fl_X7_42 dX7_tries_1 rfl rfl ?_
  refine vv_aload_n F dX7_tries_4 rfl rfl ?_
  refine vv_get 0 F fl_X7_10 dX7_tries_5 rfl rfl ?_
  refine vv_callVp (As := [.ref hP]) (rest := []) [4, 1, 2, 3] 4 F (c_X0_nextLength (vv_l x) (vv_k x) hG aG av hP hS hC hN hM hU ln hb ha pu hl sm hr aC mC nC fC cc hcc (by omega)) mv_X7_201 dX7_tries_8 (by decide) rfl rfl (Nat.le_of_ble_eq_true rfl) rfl (by decide) rfl ?_
  exact vv_iret F hR dX7_tries_11 rfl rfl
noncomputable def f_X7_forget (nC nN nM wh : Int32) : Int32 := (if p_X7_within wh 0 2 then (if wh = 0 then nC else (if wh = 1 then nN else nM)) else (-2))
noncomputable def g_X7_forget_0_12 (rb wh : Int32) : Int32 := (if p_X7_within wh 0 2 then (if wh = 0 then rb else (if wh = 1 then rb else rb)) else (rb + 1))
noncomputable def g_X7_forget_2_2 (nC wh : Int32) : Int32 := (if p_X7_within wh 0 2 then (if wh = 0 then 0 else (if wh = 1 then nC else nC)) else nC)
noncomputable def g_X7_forget_3_2 (nN wh : Int32) : Int32 := (if p_X7_within wh 0 2 then (if wh = 0 then nN else (if wh = 1 then 0 else nN)) else nN)
noncomputable def g_X7_forget_4_2 (nM wh : Int32) : Int32 := (if p_X7_within wh 0 2 then (if wh = 0 then nM else (if wh = 1 then nM else 0)) else nM)
theorem c_X7_forget (l : Launch) (K : vv_K) (hX hP dP i0 i1 : Nat) (k0 k1 : Int32) (hE hW hG hT : Nat) (abv blw : Int64) (rb rn rf : Int32) (hS hC hN hM hU : Nat) (ln hb ha pu hl sm hr : Int32) (aC : Nat) (mC nC : Int32) (aN : Nat) (mN nN : Int32) (aM : Nat) (mM nM wh : Int32)  : vv_C l K 3 yX7_forget cX7_forget 4 (some .int) [.ref hX, .int wh] [(hX, .inr (6, [.ref hP, .ref dP, .ref i0, .ref i1, .int k0, .int k1, .ref hE, .ref hW, .ref hG, .ref hT, .long abv, .long blw, .int rb, .int rn, .int rf])), (hP, .inr (1, [.int ln, .int hb, .int ha, .int pu, .int hl, .int sm, .int hr, .ref hS, .ref hC, .ref hN, .ref hM, .ref hU])), (hC, .inr (2, [.ref aC, .int mC, .int nC])), (hN, .inr (2, [.ref aN, .int mN, .int nN])), (hM, .inr (2, [.ref aM, .int mM, .int nM]))] (some (.int (f_X7_forget nC nN nM wh))) [(hX, .inr (6, [.ref hP, .ref dP, .ref i0, .ref i1, .int k0, .int k1, .ref hE, .ref hW, .ref hG, .ref hT, .long abv, .long blw, .int (g_X7_forget_0_12 rb wh), .int rn, .int rf])), (hP, .inr (1, [.int ln, .int hb, .int ha, .int pu, .int hl, .int sm, .int hr, .ref hS, .ref hC, .ref hN, .ref hM, .ref hU])), (hC, .inr (2, [.ref aC, .int mC, .int (g_X7_forget_2_2 nC wh)])), (hN, .inr (2, [.ref aN, .int mN, .int (g_X7_forget_3_2 nN wh)])), (hM, .inr (2, [.ref aM, .int mM, .int (g_X7_forget_4_2 nM wh)]))] := by
  refine vv_C.of (lv := [(0, .ref hX), (1, .int wh)]) (by decide +kernel) (Nat.le_of_ble_eq_true rfl) rfl ?_
  intro x hl hK F hR; subst hl; obtain rfl := hK
  refine vv_iload_n F dX7_forget_0 rfl rfl ?_
  refine vv_iconst (v := 0) F dX7_forget_1 (by decide) ?_
  refine vv_iconst (v := 2) F dX7_forget_2 (by decide) ?_
  refine vv_callSp (As := [.int wh, .int 0, .int 2]) (rest := []) [] F (c_X7_within (vv_l x) (vv_k x) wh 0 2) ms_X7_60 dX7_forget_3 (by decide) rfl rfl (Nat.le_of_ble_eq_true rfl) rfl (by decide) ?_
  refine vv_ifz_ne (tgt := 14) F dX7_forget_6 (by decide) (fun h_1 => ?_) (fun h_1 => ?_)
  · have h_1r := wi_rng (a := 0) (b := 2) (by decide) (by decide) h_1
    have h_1c := nn_cl (a := wh) (by omega)
    refine vv_iload_n F dX7_forget_14 rfl rfl ?_
    refine vv_if_ne (tgt := 28) F dX7_forget_15 (by decide) (fun h_2 => ?_) (fun h_2 => ?_)
    · refine vv_iload_n F dX7_forget_28 rfl rfl ?_
      refine vv_iconst (v := 1) F dX7_forget_29 (by decide) ?_
      refine vv_icmp_ne (tgt := 43) F dX7_forget_30 (by decide) (fun h_3 => ?_) (fun h_3 => ?_)
      · refine vv_aload_n F dX7_forget_43 rfl rfl ?_
        refine vv_get 0 F fl_X7_10 dX7_forget_44 rfl rfl ?_
        refine vv_get 1 F fl_X7_207 dX7_forget_47 rfl rfl ?_
        refine vv_astore_n (lv' := [(2, .ref hM), (0, .ref hX), (1, .int wh)]) F dX7_forget_50 rfl (by decide) rfl ?_
        refine vv_aload_n F dX7_forget_51 rfl rfl ?_
        refine vv_get 4 F fl_X7_72 dX7_forget_52 rfl rfl ?_
        refine vv_istore_n (lv' := [(3, .int nM), (2, .ref hM), (0, .ref hX), (1, .int wh)]) F dX7_forget_55 rfl (by decide) rfl ?_
        refine vv_aload_n F dX7_forget_56 rfl rfl ?_
        refine vv_callV (As := []) (rest := []) [4] 4 (ws' := [(hX, .inr (6, [.ref hP, .ref dP, .ref i0, .ref i1, .int k0, .int k1, .ref hE, .ref hW, .ref hG, .ref hT, .long abv, .long blw, .int rb, .int rn, .int rf])), (hP, .inr (1, [.int ln, .int hb, .int ha, .int pu, .int hl, .int sm, .int hr, .ref hS, .ref hC, .ref hN, .ref hM, .ref hU])), (hC, .inr (2, [.ref aC, .int mC, .int nC])), (hN, .inr (2, [.ref aN, .int mN, .int nN])), (hM, .inr (2, [.ref aM, .int mM, .int 0]))]) F (c_X3_wipe (vv_l x) (vv_k x) hM aM mM nM) mv_X7_98 dX7_forget_57 (by decide) rfl rfl (Nat.le_of_ble_eq_true rfl) rfl (by decide) (Eq.trans (b := [hM]) rfl rfl) rfl rfl ?_
        refine vv_iload_n F dX7_forget_60 rfl rfl ?_
        exact vv_iret F hR dX7_forget_61 (congrArg (fun z => some (Value.int z)) ((if_pos h_1).trans ((if_neg h_2).trans ((if_neg h_3).trans rfl)))) (by simp only [g_X7_forget_0_12, g_X7_forget_2_2, g_X7_forget_3_2, g_X7_forget_4_2, if_pos h_1, if_neg h_2, if_neg h_3])
      · refine vv_aload_n F dX7_forget_33 rfl rfl ?_
        refine vv_get 0 F fl_X7_10 dX7_forget_34 rfl rfl ?_
        refine vv_get 1 F fl_X7_204 dX7_forget_37 rfl rfl ?_
        refine vv_goto (tgt := 50) F dX7_forget_40 (by decide) ?_
        refine vv_astore_n (lv' := [(2, .ref hN), (0, .ref hX), (1, .int wh)]) F dX7_forget_50 rfl (by decide) rfl ?_
        refine vv_aload_n F dX7_forget_51 rfl rfl ?_
        refine vv_get 3 F fl_X7_72 dX7_forget_52 rfl rfl ?_
        refine vv_istore_n (lv' := [(3, .int nN), (2, .ref hN), (0, .ref hX), (1, .int wh)]) F dX7_forget_55 rfl (by decide) rfl ?_
        refine vv_aload_n F dX7_forget_56 rfl rfl ?_
        refine vv_callV (As := []) (rest := []) [3] 3 (ws' := [(hX, .inr (6, [.ref hP, .ref dP, .ref i0, .ref i1, .int k0, .int k1, .ref hE, .ref hW, .ref hG, .ref hT, .long abv, .long blw, .int rb, .int rn, .int rf])), (hP, .inr (1, [.int ln, .int hb, .int ha, .int pu, .int hl, .int sm, .int hr, .ref hS, .ref hC, .ref hN, .ref hM, .ref hU])), (hC, .inr (2, [.ref aC, .int mC, .int nC])), (hN, .inr (2, [.ref aN, .int mN, .int 0])), (hM, .inr (2, [.ref aM, .int mM, .int nM]))]) F (c_X3_wipe (vv_l x) (vv_k x) hN aN mN nN) mv_X7_98 dX7_forget_57 (by decide) rfl rfl (Nat.le_of_ble_eq_true rfl) rfl (by decide) (Eq.trans (b := [hN]) rfl rfl) rfl rfl ?_
        refine vv_iload_n F dX7_forget_60 rfl rfl ?_
        exact vv_iret F hR dX7_forget_61 (congrArg (fun z => some (Value.int z)) ((if_pos h_1).trans ((if_neg h_2).trans ((if_pos h_3).trans rfl)))) (by simp only [g_X7_forget_0_12, g_X7_forget_2_2, g_X7_forget_3_2, g_X7_forget_4_2, if_pos h_1, if_neg h_2, if_pos h_3])
    · refine vv_aload_n F dX7_forget_18 rfl rfl ?_
      refine vv_get 0 F fl_X7_10 dX7_forget_19 rfl rfl ?_
      refine vv_get 1 F fl_X7_185 dX7_forget_22 rfl rfl ?_
      refine vv_goto (tgt := 50) F dX7_forget_25 (by decide) ?_
      refine vv_astore_n (lv' := [(2, .ref hC), (0, .ref hX), (1, .int wh)]) F dX7_forget_50 rfl (by decide) rfl ?_
      refine vv_aload_n F dX7_forget_51 rfl rfl ?_
      refine vv_get 2 F fl_X7_72 dX7_forget_52 rfl rfl ?_
      refine vv_istore_n (lv' := [(3, .int nC), (2, .ref hC), (0, .ref hX), (1, .int wh)]) F dX7_forget_55 rfl (by decide) rfl ?_
      refine vv_aload_n F dX7_forget_56 rfl rfl ?_
      refine vv_callV (As := []) (rest := []) [2] 2 (ws' := [(hX, .inr (6, [.ref hP, .ref dP, .ref i0, .ref i1, .int k0, .int k1, .ref hE, .ref hW, .ref hG, .ref hT, .long abv, .long blw, .int rb, .int rn, .int rf])), (hP, .inr (1, [.int ln, .int hb, .int ha, .int pu, .int hl, .int sm, .int hr, .ref hS, .ref hC, .ref hN, .ref hM, .ref hU])), (hC, .inr (2, [.ref aC, .int mC, .int 0])), (hN, .inr (2, [.ref aN, .int mN, .int nN])), (hM, .inr (2, [.ref aM, .int mM, .int nM]))]) F (c_X3_wipe (vv_l x) (vv_k x) hC aC mC nC) mv_X7_98 dX7_forget_57 (by decide) rfl rfl (Nat.le_of_ble_eq_true rfl) rfl (by decide) (Eq.trans (b := [hC]) rfl rfl) rfl rfl ?_
      refine vv_iload_n F dX7_forget_60 rfl rfl ?_
      exact vv_iret F hR dX7_forget_61 (congrArg (fun z => some (Value.int z)) ((if_pos h_1).trans ((if_pos h_2).trans rfl))) (by simp only [g_X7_forget_0_12, g_X7_forget_2_2, g_X7_forget_3_2, g_X7_forget_4_2, if_pos h_1, if_pos h_2])
  · refine vv_aload_n F dX7_forget_9 rfl rfl ?_
    refine vv_callV (As := []) (rest := []) [0] 0 (ws' := [(hX, .inr (6, [.ref hP, .ref dP, .ref i0, .ref i1, .int k0, .int k1, .ref hE, .ref hW, .ref hG, .ref hT, .long abv, .long blw, .int (rb + 1), .int rn, .int rf])), (hP, .inr (1, [.int ln, .int hb, .int ha, .int pu, .int hl, .int sm, .int hr, .ref hS, .ref hC, .ref hN, .ref hM, .ref hU])), (hC, .inr (2, [.ref aC, .int mC, .int nC])), (hN, .inr (2, [.ref aN, .int mN, .int nN])), (hM, .inr (2, [.ref aM, .int mM, .int nM]))]) F (c_X7_refuseBad (vv_l x) (vv_k x) hX hP dP i0 i1 k0 k1 hE hW hG hT abv blw rb rn rf) mv_X7_64 dX7_forget_10 (by decide) rfl rfl (Nat.le_of_ble_eq_true rfl) rfl (by decide) (Eq.trans (b := [hX]) rfl rfl) rfl rfl ?_
    exact vv_iret F hR dX7_forget_13 (congrArg (fun z => some (Value.int z)) ((if_neg h_1).trans rfl)) (by simp only [g_X7_forget_0_12, g_X7_forget_2_2, g_X7_forget_3_2, g_X7_forget_4_2, if_neg h_1])
noncomputable def f_X7_is (nS nN : Int32) (fN : Nat → Int32) (i : Int32) (cn : Nat) : Int32 := (if p_X7_within i 0 (nS - 1) then (itr (st_X0_stringKinds nN fN i cn) 6 0 0) else (-2))
noncomputable def g_X7_is_0_12 (rb nS i : Int32) : Int32 := (if p_X7_within i 0 (nS - 1) then rb else (rb + 1))
theorem c_X7_is (l : Launch) (K : vv_K) (hX hP dP i0 i1 : Nat) (k0 k1 : Int32) (hE hW hG hT : Nat) (abv blw : Int64) (rb rn rf : Int32) (hS hC hN hM hU : Nat) (ln hb ha pu hl sm hr : Int32) (aS : Nat) (mS nS : Int32) (aN : Nat) (mN nN : Int32) (fN : Nat → Int32) (aG : Nat) (av i : Int32) (cs cn : Nat) (hcs : (nS).toInt = (cs : Int)) (hcn : (nN).toInt = (cn : Int)) (hcs5 : cs ≤ 5) (hcn6 : cn ≤ 6)  : vv_C l K 5 yX7_is cX7_is 2 (some .int) [.ref hX, .int i] [(hX, .inr (6, [.ref hP, .ref dP, .ref i0, .ref i1, .int k0, .int k1, .ref hE, .ref hW, .ref hG, .ref hT, .long abv, .long blw, .int rb, .int rn, .int rf])), (hP, .inr (1, [.int ln, .int hb, .int ha, .int pu, .int hl, .int sm, .int hr, .ref hS, .ref hC, .ref hN, .ref hM, .ref hU])), (hS, .inr (2, [.ref aS, .int mS, .int nS])), (hN, .inr (2, [.ref aN, .int mN, .int nN])), (aN, .inl (K.2.1.1, 32, .inl fN)), (hG, .inr (0, [.ref aG, .int av]))] (some (.int (f_X7_is nS nN fN i cn))) [(hX, .inr (6, [.ref hP, .ref dP, .ref i0, .ref i1, .int k0, .int k1, .ref hE, .ref hW, .ref hG, .ref hT, .long abv, .long blw, .int (g_X7_is_0_12 rb nS i), .int rn, .int rf])), (hP, .inr (1, [.int ln, .int hb, .int ha, .int pu, .int hl, .int sm, .int hr, .ref hS, .ref hC, .ref hN, .ref hM, .ref hU])), (hS, .inr (2, [.ref aS, .int mS, .int nS])), (hN, .inr (2, [.ref aN, .int mN, .int nN])), (aN, .inl (K.2.1.1, 32, .inl fN)), (hG, .inr (0, [.ref aG, .int av]))] := by
  refine vv_C.of (lv := [(0, .ref hX), (1, .int i)]) (by decide +kernel) (Nat.le_of_ble_eq_true rfl) rfl ?_
  intro x hl hK F hR; subst hl; obtain rfl := hK
  refine vv_aload_n F dX7_is_0 rfl rfl ?_
  refine vv_get 0 F fl_X7_10 dX7_is_1 rfl rfl ?_
  refine vv_iload_n F dX7_is_4 rfl rfl ?_
  refine vv_callVp (As := [.int i]) (rest := []) [1, 2] 1 F (c_X2_has (vv_l x) (vv_k x) hP hS hC hN hM hU ln hb ha pu hl sm hr aS mS nS i) mv_X7_121 dX7_is_5 (by decide) rfl rfl (Nat.le_of_ble_eq_true rfl) rfl (by decide) rfl ?_
  refine vv_ifz_ne (tgt := 16) F dX7_is_8 (by decide) (fun h_1 => ?_) (fun h_1 => ?_)
  · have h_1r := wi_rngS hcs h_1
    have h_1c := nn_cl (a := i) (by omega)
    refine vv_aload_n F dX7_is_16 rfl rfl ?_
    refine vv_get 0 F fl_X7_42 dX7_is_17 rfl rfl ?_
    refine vv_aload_n F dX7_is_20 rfl rfl ?_
    refine vv_get 0 F fl_X7_10 dX7_is_21 rfl rfl ?_
    refine vv_iload_n F dX7_is_24 rfl rfl ?_
    refine vv_callVp (As := [.ref hP, .int i]) (rest := []) [5, 1, 3, 4] 5 F (c_X0_stringKinds (vv_l x) (vv_k x) hG aG av hP hS hC hN hM hU ln hb ha pu hl sm hr aN mN nN fN i cn hcn (by omega)) mv_X7_210 dX7_is_25 (by decide) rfl rfl (Nat.le_of_ble_eq_true rfl) rfl (by decide) rfl ?_
    exact vv_iret F hR dX7_is_28 (congrArg (fun z => some (Value.int z)) ((if_pos h_1).trans rfl)) (by simp only [g_X7_is_0_12, if_pos h_1])
  · refine vv_aload_n F dX7_is_11 rfl rfl ?_
    refine vv_callV (As := []) (rest := []) [0] 0 (ws' := [(hX, .inr (6, [.ref hP, .ref dP, .ref i0, .ref i1, .int k0, .int k1, .ref hE, .ref hW, .ref hG, .ref hT, .long abv, .long blw, .int (rb + 1), .int rn, .int rf])), (hP, .inr (1, [.int ln, .int hb, .int ha, .int pu, .int hl, .int sm, .int hr, .ref hS, .ref hC, .ref hN, .ref hM, .ref hU])), (hS, .inr (2, [.ref aS, .int mS, .int nS])), (hN, .inr (2, [.ref aN, .int mN, .int nN])), (aN, .inl ((vv_k x).2.1.1, 32, .inl fN)), (hG, .inr (0, [.ref aG, .int av]))]) F (c_X7_refuseBad (vv_l x) (vv_k x) hX hP dP i0 i1 k0 k1 hE hW hG hT abv blw rb rn rf) mv_X7_64 dX7_is_12 (by decide) rfl rfl (Nat.le_of_ble_eq_true rfl) rfl (by decide) (Eq.trans (b := [hX]) rfl rfl) rfl rfl ?_
    exact vv_iret F hR dX7_is_15 (congrArg (fun z => some (Value.int z)) ((if_neg h_1).trans rfl)) (by simp only [g_X7_is_0_12, if_neg h_1])
noncomputable def f_X7_look (nS : Int32) (fS : Nat → Int32) (nN : Int32) (fN : Nat → Int32) (av : Int32) (an : Nat → Int32) (i : Int32) (cn : Nat) : Int32 := (if p_X7_within i 0 (nS - 1) then (f_X0_nextHour av an nN fN nS fS i cn) else (-2))
noncomputable def g_X7_look_0_12 (rb nS i : Int32) : Int32 := (if p_X7_within i 0 (nS - 1) then rb else (rb + 1))
noncomputable def g_X7_look_6_1 (nS : Int32) (fS : Nat → Int32) (nN : Int32) (fN : Nat → Int32) (av : Int32) (an : Nat → Int32) (i : Int32) (cn : Nat) : Int32 := (if p_X7_within i 0 (nS - 1) then (g_X0_nextHour_0_1 av an nN fN nS fS i cn) else av)
noncomputable def g_X7_look_7 (nS : Int32) (fS : Nat → Int32) (nN : Int32) (fN : Nat → Int32) (av : Int32) (an : Nat → Int32) (i : Int32) (cn : Nat) : Nat → Int32 := (if p_X7_within i 0 (nS - 1) then (g_X0_nextHour_1 av an nN fN nS fS i cn) else an)
theorem c_X7_look (l : Launch) (K : vv_K) (hX hP dP i0 i1 : Nat) (k0 k1 : Int32) (hE hW hG hT : Nat) (abv blw : Int64) (rb rn rf : Int32) (hS hC hN hM hU : Nat) (ln hb ha pu hl sm hr : Int32) (aS : Nat) (mS nS : Int32) (fS : Nat → Int32) (aN : Nat) (mN nN : Int32) (fN : Nat → Int32) (aG : Nat) (av : Int32) (an : Nat → Int32) (i : Int32) (cs cn : Nat) (hcs : (nS).toInt = (cs : Int)) (hcn : (nN).toInt = (cn : Int)) (hcs5 : cs ≤ 5) (hcn6 : cn ≤ 6)  : vv_C l K 6 yX7_look cX7_look 2 (some .int) [.ref hX, .int i] [(hX, .inr (6, [.ref hP, .ref dP, .ref i0, .ref i1, .int k0, .int k1, .ref hE, .ref hW, .ref hG, .ref hT, .long abv, .long blw, .int rb, .int rn, .int rf])), (hP, .inr (1, [.int ln, .int hb, .int ha, .int pu, .int hl, .int sm, .int hr, .ref hS, .ref hC, .ref hN, .ref hM, .ref hU])), (hS, .inr (2, [.ref aS, .int mS, .int nS])), (aS, .inl (K.2.1.1, 32, .inl fS)), (hN, .inr (2, [.ref aN, .int mN, .int nN])), (aN, .inl (K.2.1.1, 32, .inl fN)), (hG, .inr (0, [.ref aG, .int av])), (aG, .inl (K.2.1.1, 6, .inl an))] (some (.int (f_X7_look nS fS nN fN av an i cn))) [(hX, .inr (6, [.ref hP, .ref dP, .ref i0, .ref i1, .int k0, .int k1, .ref hE, .ref hW, .ref hG, .ref hT, .long abv, .long blw, .int (g_X7_look_0_12 rb nS i), .int rn, .int rf])), (hP, .inr (1, [.int ln, .int hb, .int ha, .int pu, .int hl, .int sm, .int hr, .ref hS, .ref hC, .ref hN, .ref hM, .ref hU])), (hS, .inr (2, [.ref aS, .int mS, .int nS])), (aS, .inl (K.2.1.1, 32, .inl fS)), (hN, .inr (2, [.ref aN, .int mN, .int nN])), (aN, .inl (K.2.1.1, 32, .inl fN)), (hG, .inr (0, [.ref aG, .int (g_X7_look_6_1 nS fS nN fN av an i cn)])), (aG, .inl (K.2.1.1, 6, .inl (g_X7_look_7 nS fS nN fN av an i cn)))] := by
  refine vv_C.of (lv := [(0, .ref hX), (1, .int i)]) (by decide +kernel) (Nat.le_of_ble_eq_true rfl) rfl ?_
  intro x hl hK F hR; subst hl; obtain rfl := hK
  refine vv_aload_n F dX7_look_0 rfl rfl ?_
  refine vv_get 0 F fl_X7_10 dX7_look_1 rfl rfl ?_
  refine vv_iload_n F dX7_look_4 rfl rfl ?_
  refine vv_callVp (As := [.int i]) (rest := []) [1, 2] 1 F (c_X2_has (vv_l x) (vv_k x) hP hS hC hN hM hU ln hb ha pu hl sm hr aS mS nS i) mv_X7_121 dX7_look_5 (by decide) rfl rfl (Nat.le_of_ble_eq_true rfl) rfl (by decide) rfl ?_
  refine vv_ifz_ne (tgt := 16) F dX7_look_8 (by decide) (fun h_1 => ?_) (fun h_1 => ?_)
  · have h_1r := wi_rngS hcs h_1
    have h_1c := nn_cl (a := i) (by omega)
    refine vv_aload_n F dX7_look_16 rfl rfl ?_
    refine vv_get 0 F fl_X7_42 dX7_look_17 rfl rfl ?_
    refine vv_aload_n F dX7_look_20 rfl rfl ?_
    refine vv_get 0 F fl_X7_10 dX7_look_21 rfl rfl ?_
    refine vv_iload_n F dX7_look_24 rfl rfl ?_
    refine vv_callV (As := [.ref hP, .int i]) (rest := []) [6, 7, 1, 4, 5, 2, 3] 6 (ws' := [(hX, .inr (6, [.ref hP, .ref dP, .ref i0, .ref i1, .int k0, .int k1, .ref hE, .ref hW, .ref hG, .ref hT, .long abv, .long blw, .int rb, .int rn, .int rf])), (hP, .inr (1, [.int ln, .int hb, .int ha, .int pu, .int hl, .int sm, .int hr, .ref hS, .ref hC, .ref hN, .ref hM, .ref hU])), (hS, .inr (2, [.ref aS, .int mS, .int nS])), (aS, .inl ((vv_k x).2.1.1, 32, .inl fS)), (hN, .inr (2, [.ref aN, .int mN, .int nN])), (aN, .inl ((vv_k x).2.1.1, 32, .inl fN)), (hG, .inr (0, [.ref aG, .int (g_X0_nextHour_0_1 av an nN fN nS fS i cn)])), (aG, .inl ((vv_k x).2.1.1, 6, .inl (g_X0_nextHour_1 av an nN fN nS fS i cn)))]) F (c_X0_nextHour (vv_l x) (vv_k x) hG aG av an hP hS hC hN hM hU ln hb ha pu hl sm hr aN mN nN fN aS mS nS fS i cn cs hcn hcs (by omega) (by omega)) mv_X7_214 dX7_look_25 (by decide) rfl rfl (Nat.le_of_ble_eq_true rfl) rfl (by decide) (Eq.trans (b := [hG, aG, hP, hN, aN, hS, aS]) rfl rfl) rfl rfl ?_
    exact vv_iret F hR dX7_look_28 (congrArg (fun z => some (Value.int z)) ((if_pos h_1).trans rfl)) (by simp only [g_X7_look_0_12, g_X7_look_6_1, g_X7_look_7, if_pos h_1])
  · refine vv_aload_n F dX7_look_11 rfl rfl ?_
    refine vv_callV (As := []) (rest := []) [0] 0 (ws' := [(hX, .inr (6, [.ref hP, .ref dP, .ref i0, .ref i1, .int k0, .int k1, .ref hE, .ref hW, .ref hG, .ref hT, .long abv, .long blw, .int (rb + 1), .int rn, .int rf])), (hP, .inr (1, [.int ln, .int hb, .int ha, .int pu, .int hl, .int sm, .int hr, .ref hS, .ref hC, .ref hN, .ref hM, .ref hU])), (hS, .inr (2, [.ref aS, .int mS, .int nS])), (aS, .inl ((vv_k x).2.1.1, 32, .inl fS)), (hN, .inr (2, [.ref aN, .int mN, .int nN])), (aN, .inl ((vv_k x).2.1.1, 32, .inl fN)), (hG, .inr (0, [.ref aG, .int av])), (aG, .inl ((vv_k x).2.1.1, 6, .inl an))]) F (c_X7_refuseBad (vv_l x) (vv_k x) hX hP dP i0 i1 k0 k1 hE hW hG hT abv blw rb rn rf) mv_X7_64 dX7_look_12 (by decide) rfl rfl (Nat.le_of_ble_eq_true rfl) rfl (by decide) (Eq.trans (b := [hX]) rfl rfl) rfl rfl ?_
    exact vv_iret F hR dX7_look_15 (congrArg (fun z => some (Value.int z)) ((if_neg h_1).trans rfl)) (by simp only [g_X7_look_0_12, g_X7_look_6_1, g_X7_look_7, if_neg h_1])
noncomputable def f_X7_kinds (nM : Int32) (fM : Nat → Int32) (w : Int32) (cm : Nat) : Int32 := (if p_X7_within w 0 1 then (itr (st_X0_houseKinds nM fM w cm) 6 0 0) else (-2))
noncomputable def g_X7_kinds_0_12 (rb w : Int32) : Int32 := (if p_X7_within w 0 1 then rb else (rb + 1))
theorem c_X7_kinds (l : Launch) (K : vv_K) (hX hP dP i0 i1 : Nat) (k0 k1 : Int32) (hE hW hG hT : Nat) (abv blw : Int64) (rb rn rf : Int32) (hS hC hN hM hU : Nat) (ln hb ha pu hl sm hr : Int32) (aM : Nat) (mM nM : Int32) (fM : Nat → Int32) (aG : Nat) (av w : Int32) (cm : Nat) (hcm : (nM).toInt = (cm : Int)) (hcm6 : cm ≤ 6)  : vv_C l K 5 yX7_kinds cX7_kinds 2 (some .int) [.ref hX, .int w] [(hX, .inr (6, [.ref hP, .ref dP, .ref i0, .ref i1, .int k0, .int k1, .ref hE, .ref hW, .ref hG, .ref hT, .long abv, .long blw, .int rb, .int rn, .int rf])), (hP, .inr (1, [.int ln, .int hb, .int ha, .int pu, .int hl, .int sm, .int hr, .ref hS, .ref hC, .ref hN, .ref hM, .ref hU])), (hM, .inr (2, [.ref aM, .int mM, .int nM])), (aM, .inl (K.2.1.1, 32, .inl fM)), (hG, .inr (0, [.ref aG, .int av]))] (some (.int (f_X7_kinds nM fM w cm))) [(hX, .inr (6, [.ref hP, .ref dP, .ref i0, .ref i1, .int k0, .int k1, .ref hE, .ref hW, .ref hG, .ref hT, .long abv, .long blw, .int (g_X7_kinds_0_12 rb w), .int rn, .int rf])), (hP, .inr (1, [.int ln, .int hb, .int ha, .int pu, .int hl, .int sm, .int hr, .ref hS, .ref hC, .ref hN, .ref hM, .ref hU])), (hM, .inr (2, [.ref aM, .int mM, .int nM])), (aM, .inl (K.2.1.1, 32, .inl fM)), (hG, .inr (0, [.ref aG, .int av]))] := by
  refine vv_C.of (lv := [(0, .ref hX), (1, .int w)]) (by decide +kernel) (Nat.le_of_ble_eq_true rfl) rfl ?_
  intro x hl hK F hR; subst hl; obtain rfl := hK
  refine vv_iload_n F dX7_kinds_0 rfl rfl ?_
  refine vv_iconst (v := 0) F dX7_kinds_1 (by decide) ?_
  refine vv_iconst (v := 1) F dX7_kinds_2 (by decide) ?_
  refine vv_callSp (As := [.int w, .int 0, .int 1]) (rest := []) [] F (c_X7_within (vv_l x) (vv_k x) w 0 1) ms_X7_60 dX7_kinds_3 (by decide) rfl rfl (Nat.le_of_ble_eq_true rfl) rfl (by decide) ?_
  refine vv_ifz_ne (tgt := 14) F dX7_kinds_6 (by decide) (fun h_1 => ?_) (fun h_1 => ?_)
  · have h_1r := wi_rng (a := 0) (b := 1) (by decide) (by decide) h_1
    have h_1c := nn_cl (a := w) (by omega)
    refine vv_aload_n F dX7_kinds_14 rfl rfl ?_
    refine vv_get 0 F fl_X7_42 dX7_kinds_15 rfl rfl ?_
    refine vv_aload_n F dX7_kinds_18 rfl rfl ?_
    refine vv_get 0 F fl_X7_10 dX7_kinds_19 rfl rfl ?_
    refine vv_iload_n F dX7_kinds_22 rfl rfl ?_
    refine vv_callVp (As := [.ref hP, .int w]) (rest := []) [4, 1, 2, 3] 4 F (c_X0_houseKinds (vv_l x) (vv_k x) hG aG av hP hS hC hN hM hU ln hb ha pu hl sm hr aM mM nM fM w cm hcm (by omega)) mv_X7_217 dX7_kinds_23 (by decide) rfl rfl (Nat.le_of_ble_eq_true rfl) rfl (by decide) rfl ?_
    exact vv_iret F hR dX7_kinds_26 (congrArg (fun z => some (Value.int z)) ((if_pos h_1).trans rfl)) (by simp only [g_X7_kinds_0_12, if_pos h_1])
  · refine vv_aload_n F dX7_kinds_9 rfl rfl ?_
    refine vv_callV (As := []) (rest := []) [0] 0 (ws' := [(hX, .inr (6, [.ref hP, .ref dP, .ref i0, .ref i1, .int k0, .int k1, .ref hE, .ref hW, .ref hG, .ref hT, .long abv, .long blw, .int (rb + 1), .int rn, .int rf])), (hP, .inr (1, [.int ln, .int hb, .int ha, .int pu, .int hl, .int sm, .int hr, .ref hS, .ref hC, .ref hN, .ref hM, .ref hU])), (hM, .inr (2, [.ref aM, .int mM, .int nM])), (aM, .inl ((vv_k x).2.1.1, 32, .inl fM)), (hG, .inr (0, [.ref aG, .int av]))]) F (c_X7_refuseBad (vv_l x) (vv_k x) hX hP dP i0 i1 k0 k1 hE hW hG hT abv blw rb rn rf) mv_X7_64 dX7_kinds_10 (by decide) rfl rfl (Nat.le_of_ble_eq_true rfl) rfl (by decide) (Eq.trans (b := [hX]) rfl rfl) rfl rfl ?_
    exact vv_iret F hR dX7_kinds_13 (congrArg (fun z => some (Value.int z)) ((if_neg h_1).trans rfl)) (by simp only [g_X7_kinds_0_12, if_neg h_1])
noncomputable def f_X7_ask (nM : Int32) (fM : Nat → Int32) (av : Int32) (an : Nat → Int32) (w : Int32) (cm : Nat) : Int32 := (if p_X7_within w 0 1 then (f_X0_nextQuestion av an nM fM w cm) else (-2))
noncomputable def g_X7_ask_0_12 (rb w : Int32) : Int32 := (if p_X7_within w 0 1 then rb else (rb + 1))
noncomputable def g_X7_ask_4_1 (nM : Int32) (fM : Nat → Int32) (av : Int32) (an : Nat → Int32) (w : Int32) (cm : Nat) : Int32 := (if p_X7_within w 0 1 then (g_X0_nextQuestion_0_1 av an nM fM w cm) else av)
noncomputable def g_X7_ask_5 (nM : Int32) (fM : Nat → Int32) (av : Int32) (an : Nat → Int32) (w : Int32) (cm : Nat) : Nat → Int32 := (if p_X7_within w 0 1 then (g_X0_nextQuestion_1 av an nM fM w cm) else an)
theorem c_X7_ask (l : Launch) (K : vv_K) (hX hP dP i0 i1 : Nat) (k0 k1 : Int32) (hE hW hG hT : Nat) (abv blw : Int64) (rb rn rf : Int32) (hS hC hN hM hU : Nat) (ln hb ha pu hl sm hr : Int32) (aM : Nat) (mM nM : Int32) (fM : Nat → Int32) (aG : Nat) (av : Int32) (an : Nat → Int32) (w : Int32) (cm : Nat) (hcm : (nM).toInt = (cm : Int)) (hcm6 : cm ≤ 6)  : vv_C l K 6 yX7_ask cX7_ask 2 (some .int) [.ref hX, .int w] [(hX, .inr (6, [.ref hP, .ref dP, .ref i0, .ref i1, .int k0, .int k1, .ref hE, .ref hW, .ref hG, .ref hT, .long abv, .long blw, .int rb, .int rn, .int rf])), (hP, .inr (1, [.int ln, .int hb, .int ha, .int pu, .int hl, .int sm, .int hr, .ref hS, .ref hC, .ref hN, .ref hM, .ref hU])), (hM, .inr (2, [.ref aM, .int mM, .int nM])), (aM, .inl (K.2.1.1, 32, .inl fM)), (hG, .inr (0, [.ref aG, .int av])), (aG, .inl (K.2.1.1, 6, .inl an))] (some (.int (f_X7_ask nM fM av an w cm))) [(hX, .inr (6, [.ref hP, .ref dP, .ref i0, .ref i1, .int k0, .int k1, .ref hE, .ref hW, .ref hG, .ref hT, .long abv, .long blw, .int (g_X7_ask_0_12 rb w), .int rn, .int rf])), (hP, .inr (1, [.int ln, .int hb, .int ha, .int pu, .int hl, .int sm, .int hr, .ref hS, .ref hC, .ref hN, .ref hM, .ref hU])), (hM, .inr (2, [.ref aM, .int mM, .int nM])), (aM, .inl (K.2.1.1, 32, .inl fM)), (hG, .inr (0, [.ref aG, .int (g_X7_ask_4_1 nM fM av an w cm)])), (aG, .inl (K.2.1.1, 6, .inl (g_X7_ask_5 nM fM av an w cm)))] := by
  refine vv_C.of (lv := [(0, .ref hX), (1, .int w)]) (by decide +kernel) (Nat.le_of_ble_eq_true rfl) rfl ?_
  intro x hl hK F hR; subst hl; obtain rfl := hK
  refine vv_iload_n F dX7_ask_0 rfl rfl ?_
  refine vv_iconst (v := 0) F dX7_ask_1 (by decide) ?_
  refine vv_iconst (v := 1) F dX7_ask_2 (by decide) ?_
  refine vv_callSp (As := [.int w, .int 0, .int 1]) (rest := []) [] F (c_X7_within (vv_l x) (vv_k x) w 0 1) ms_X7_60 dX7_ask_3 (by decide) rfl rfl (Nat.le_of_ble_eq_true rfl) rfl (by decide) ?_
  refine vv_ifz_ne (tgt := 14) F dX7_ask_6 (by decide) (fun h_1 => ?_) (fun h_1 => ?_)
  · have h_1r := wi_rng (a := 0) (b := 1) (by decide) (by decide) h_1
    have h_1c := nn_cl (a := w) (by omega)
    refine vv_aload_n F dX7_ask_14 rfl rfl ?_
    refine vv_get 0 F fl_X7_42 dX7_ask_15 rfl rfl ?_
    refine vv_aload_n F dX7_ask_18 rfl rfl ?_
    refine vv_get 0 F fl_X7_10 dX7_ask_19 rfl rfl ?_
    refine vv_iload_n F dX7_ask_22 rfl rfl ?_
    refine vv_callV (As := [.ref hP, .int w]) (rest := []) [4, 5, 1, 2, 3] 4 (ws' := [(hX, .inr (6, [.ref hP, .ref dP, .ref i0, .ref i1, .int k0, .int k1, .ref hE, .ref hW, .ref hG, .ref hT, .long abv, .long blw, .int rb, .int rn, .int rf])), (hP, .inr (1, [.int ln, .int hb, .int ha, .int pu, .int hl, .int sm, .int hr, .ref hS, .ref hC, .ref hN, .ref hM, .ref hU])), (hM, .inr (2, [.ref aM, .int mM, .int nM])), (aM, .inl ((vv_k x).2.1.1, 32, .inl fM)), (hG, .inr (0, [.ref aG, .int (g_X0_nextQuestion_0_1 av an nM fM w cm)])), (aG, .inl ((vv_k x).2.1.1, 6, .inl (g_X0_nextQuestion_1 av an nM fM w cm)))]) F (c_X0_nextQuestion (vv_l x) (vv_k x) hG aG av an hP hS hC hN hM hU ln hb ha pu hl sm hr aM mM nM fM w cm hcm (by omega)) mv_X7_220 dX7_ask_23 (by decide) rfl rfl (Nat.le_of_ble_eq_true rfl) rfl (by decide) (Eq.trans (b := [hG, aG, hP, hM, aM]) rfl rfl) rfl rfl ?_
    exact vv_iret F hR dX7_ask_26 (congrArg (fun z => some (Value.int z)) ((if_pos h_1).trans rfl)) (by simp only [g_X7_ask_0_12, g_X7_ask_4_1, g_X7_ask_5, if_pos h_1])
  · refine vv_aload_n F dX7_ask_9 rfl rfl ?_
    refine vv_callV (As := []) (rest := []) [0] 0 (ws' := [(hX, .inr (6, [.ref hP, .ref dP, .ref i0, .ref i1, .int k0, .int k1, .ref hE, .ref hW, .ref hG, .ref hT, .long abv, .long blw, .int (rb + 1), .int rn, .int rf])), (hP, .inr (1, [.int ln, .int hb, .int ha, .int pu, .int hl, .int sm, .int hr, .ref hS, .ref hC, .ref hN, .ref hM, .ref hU])), (hM, .inr (2, [.ref aM, .int mM, .int nM])), (aM, .inl ((vv_k x).2.1.1, 32, .inl fM)), (hG, .inr (0, [.ref aG, .int av])), (aG, .inl ((vv_k x).2.1.1, 6, .inl an))]) F (c_X7_refuseBad (vv_l x) (vv_k x) hX hP dP i0 i1 k0 k1 hE hW hG hT abv blw rb rn rf) mv_X7_64 dX7_ask_10 (by decide) rfl rfl (Nat.le_of_ble_eq_true rfl) rfl (by decide) (Eq.trans (b := [hX]) rfl rfl) rfl rfl ?_
    exact vv_iret F hR dX7_ask_13 (congrArg (fun z => some (Value.int z)) ((if_neg h_1).trans rfl)) (by simp only [g_X7_ask_0_12, g_X7_ask_4_1, g_X7_ask_5, if_neg h_1])
noncomputable def f_X7_ends (ln hr nS : Int32) (fS tb ta : Nat → Int32) (k : Int32) (cs : Nat) : Int32 := (if (-1) ≤ k then (if k = (-1) then (itr (st_X6_pairs ((itr (st_X6_reckon ln hr nS fS cs) 6 0 (tb, ta)).1) ((itr (st_X6_reckon ln hr nS fS cs) 6 0 (tb, ta)).2)) 6 0 0) else (if (f_X6_pair ((itr (st_X6_reckon ln hr nS fS cs) 6 0 (tb, ta)).1) ((itr (st_X6_reckon ln hr nS fS cs) 6 0 (tb, ta)).2) k) = (-1) then (-5) else (f_X6_pair ((itr (st_X6_reckon ln hr nS fS cs) 6 0 (tb, ta)).1) ((itr (st_X6_reckon ln hr nS fS cs) 6 0 (tb, ta)).2) k))) else (-10))
noncomputable def g_X7_ends_0_12 (rb ln hr nS : Int32) (fS tb ta : Nat → Int32) (k : Int32) (cs : Nat) : Int32 := (if (-1) ≤ k then (if k = (-1) then rb else (if (f_X6_pair ((itr (st_X6_reckon ln hr nS fS cs) 6 0 (tb, ta)).1) ((itr (st_X6_reckon ln hr nS fS cs) 6 0 (tb, ta)).2) k) = (-1) then rb else rb)) else (rb + 1))
noncomputable def g_X7_ends_5 (ln hr nS : Int32) (fS tb ta : Nat → Int32) (k : Int32) (cs : Nat) : Nat → Int32 := (if (-1) ≤ k then (if k = (-1) then ((itr (st_X6_reckon ln hr nS fS cs) 6 0 (tb, ta)).1) else (if (f_X6_pair ((itr (st_X6_reckon ln hr nS fS cs) 6 0 (tb, ta)).1) ((itr (st_X6_reckon ln hr nS fS cs) 6 0 (tb, ta)).2) k) = (-1) then ((itr (st_X6_reckon ln hr nS fS cs) 6 0 (tb, ta)).1) else ((itr (st_X6_reckon ln hr nS fS cs) 6 0 (tb, ta)).1))) else tb)
noncomputable def g_X7_ends_6 (ln hr nS : Int32) (fS tb ta : Nat → Int32) (k : Int32) (cs : Nat) : Nat → Int32 := (if (-1) ≤ k then (if k = (-1) then ((itr (st_X6_reckon ln hr nS fS cs) 6 0 (tb, ta)).2) else (if (f_X6_pair ((itr (st_X6_reckon ln hr nS fS cs) 6 0 (tb, ta)).1) ((itr (st_X6_reckon ln hr nS fS cs) 6 0 (tb, ta)).2) k) = (-1) then ((itr (st_X6_reckon ln hr nS fS cs) 6 0 (tb, ta)).2) else ((itr (st_X6_reckon ln hr nS fS cs) 6 0 (tb, ta)).2))) else ta)
theorem c_X7_ends (l : Launch) (K : vv_K) (hX hP dP i0 i1 : Nat) (k0 k1 : Int32) (hE hW hG hT : Nat) (abv blw : Int64) (rb rn rf : Int32) (hS hC hN hM hU : Nat) (ln hb ha pu hl sm hr : Int32) (aS : Nat) (mS nS : Int32) (fS : Nat → Int32) (aB aA : Nat) (tb ta : Nat → Int32) (k : Int32) (cs : Nat) (hcs : (nS).toInt = (cs : Int)) (hcs5 : cs ≤ 5)  : vv_C l K 6 yX7_ends cX7_ends 3 (some .int) [.ref hX, .int k] [(hX, .inr (6, [.ref hP, .ref dP, .ref i0, .ref i1, .int k0, .int k1, .ref hE, .ref hW, .ref hG, .ref hT, .long abv, .long blw, .int rb, .int rn, .int rf])), (hP, .inr (1, [.int ln, .int hb, .int ha, .int pu, .int hl, .int sm, .int hr, .ref hS, .ref hC, .ref hN, .ref hM, .ref hU])), (hS, .inr (2, [.ref aS, .int mS, .int nS])), (aS, .inl (K.2.1.1, 32, .inl fS)), (hT, .inr (5, [.ref aB, .ref aA])), (aB, .inl (K.2.1.1, 36, .inl tb)), (aA, .inl (K.2.1.1, 36, .inl ta))] (some (.int (f_X7_ends ln hr nS fS tb ta k cs))) [(hX, .inr (6, [.ref hP, .ref dP, .ref i0, .ref i1, .int k0, .int k1, .ref hE, .ref hW, .ref hG, .ref hT, .long abv, .long blw, .int (g_X7_ends_0_12 rb ln hr nS fS tb ta k cs), .int rn, .int rf])), (hP, .inr (1, [.int ln, .int hb, .int ha, .int pu, .int hl, .int sm, .int hr, .ref hS, .ref hC, .ref hN, .ref hM, .ref hU])), (hS, .inr (2, [.ref aS, .int mS, .int nS])), (aS, .inl (K.2.1.1, 32, .inl fS)), (hT, .inr (5, [.ref aB, .ref aA])), (aB, .inl (K.2.1.1, 36, .inl (g_X7_ends_5 ln hr nS fS tb ta k cs))), (aA, .inl (K.2.1.1, 36, .inl (g_X7_ends_6 ln hr nS fS tb ta k cs)))] := by
  refine vv_C.of (lv := [(0, .ref hX), (1, .int k)]) (by decide +kernel) (Nat.le_of_ble_eq_true rfl) rfl ?_
  intro x hl hK F hR; subst hl; obtain rfl := hK
  refine vv_iload_n F dX7_ends_0 rfl rfl ?_
  refine vv_iconst (v := (-1)) F dX7_ends_1 (by decide) ?_
  refine vv_icmp_ge (tgt := 13) F dX7_ends_2 (by decide) (fun h_1 => ?_) (fun h_1 => ?_)
  · refine vv_aload_n F dX7_ends_13 rfl rfl ?_
    refine vv_get 0 F fl_X7_49 dX7_ends_14 rfl rfl ?_
    refine vv_aload_n F dX7_ends_17 rfl rfl ?_
    refine vv_get 0 F fl_X7_10 dX7_ends_18 rfl rfl ?_
    refine vv_callV (As := [.ref hP]) (rest := []) [4, 5, 6, 1, 2, 3] 4 (ws' := [(hX, .inr (6, [.ref hP, .ref dP, .ref i0, .ref i1, .int k0, .int k1, .ref hE, .ref hW, .ref hG, .ref hT, .long abv, .long blw, .int rb, .int rn, .int rf])), (hP, .inr (1, [.int ln, .int hb, .int ha, .int pu, .int hl, .int sm, .int hr, .ref hS, .ref hC, .ref hN, .ref hM, .ref hU])), (hS, .inr (2, [.ref aS, .int mS, .int nS])), (aS, .inl ((vv_k x).2.1.1, 32, .inl fS)), (hT, .inr (5, [.ref aB, .ref aA])), (aB, .inl ((vv_k x).2.1.1, 36, .inl ((itr (st_X6_reckon ln hr nS fS cs) 6 0 (tb, ta)).1))), (aA, .inl ((vv_k x).2.1.1, 36, .inl ((itr (st_X6_reckon ln hr nS fS cs) 6 0 (tb, ta)).2)))]) F (c_X6_reckon (vv_l x) (vv_k x) hT aB aA tb ta hP hS hC hN hM hU ln hb ha pu hl sm hr aS mS nS fS cs hcs (by omega)) mv_X7_223 dX7_ends_21 (by decide) rfl rfl (Nat.le_of_ble_eq_true rfl) rfl (by decide) (Eq.trans (b := [hT, aB, aA, hP, hS, aS]) rfl rfl) rfl rfl ?_
    refine vv_iload_n F dX7_ends_24 rfl rfl ?_
    refine vv_iconst (v := (-1)) F dX7_ends_25 (by decide) ?_
    refine vv_icmp_ne (tgt := 37) F dX7_ends_26 (by decide) (fun h_2 => ?_) (fun h_2 => ?_)
    · refine vv_aload_n F dX7_ends_37 rfl rfl ?_
      refine vv_get 0 F fl_X7_49 dX7_ends_38 rfl rfl ?_
      refine vv_iload_n F dX7_ends_41 rfl rfl ?_
      refine vv_callVp (As := [.int k]) (rest := []) [4, 5, 6] 4 F (c_X6_pair (vv_l x) (vv_k x) hT aB aA ((itr (st_X6_reckon ln hr nS fS cs) 6 0 (tb, ta)).1) ((itr (st_X6_reckon ln hr nS fS cs) 6 0 (tb, ta)).2) k) mv_X7_229 dX7_ends_42 (by decide) rfl rfl (Nat.le_of_ble_eq_true rfl) rfl (by decide) rfl ?_
      refine vv_istore_n (lv' := [(2, .int (f_X6_pair ((itr (st_X6_reckon ln hr nS fS cs) 6 0 (tb, ta)).1) ((itr (st_X6_reckon ln hr nS fS cs) 6 0 (tb, ta)).2) k)), (0, .ref hX), (1, .int k)]) F dX7_ends_45 rfl (by decide) rfl ?_
      refine vv_iload_n F dX7_ends_46 rfl rfl ?_
      refine vv_iconst (v := (-1)) F dX7_ends_47 (by decide) ?_
      refine vv_icmp_ne (tgt := 56) F dX7_ends_48 (by decide) (fun h_3 => ?_) (fun h_3 => ?_)
      · refine vv_iload_n F dX7_ends_56 rfl rfl ?_
        exact vv_iret F hR dX7_ends_57 (congrArg (fun z => some (Value.int z)) ((if_pos h_1).trans ((if_neg h_2).trans ((if_neg h_3).trans rfl)))) (by simp only [g_X7_ends_0_12, g_X7_ends_5, g_X7_ends_6, if_pos h_1, if_neg h_2, if_neg h_3])
      · refine vv_bipush (v := (-5)) F dX7_ends_51 (by decide) ?_
        refine vv_goto (tgt := 57) F dX7_ends_53 (by decide) ?_
        exact vv_iret F hR dX7_ends_57 (congrArg (fun z => some (Value.int z)) ((if_pos h_1).trans ((if_neg h_2).trans ((if_pos h_3).trans rfl)))) (by simp only [g_X7_ends_0_12, g_X7_ends_5, g_X7_ends_6, if_pos h_1, if_neg h_2, if_pos h_3])
    · refine vv_aload_n F dX7_ends_29 rfl rfl ?_
      refine vv_get 0 F fl_X7_49 dX7_ends_30 rfl rfl ?_
      refine vv_callVp (As := []) (rest := []) [4, 5, 6] 4 F (c_X6_pairs (vv_l x) (vv_k x) hT aB aA ((itr (st_X6_reckon ln hr nS fS cs) 6 0 (tb, ta)).1) ((itr (st_X6_reckon ln hr nS fS cs) 6 0 (tb, ta)).2)) mv_X7_226 dX7_ends_33 (by decide) rfl rfl (Nat.le_of_ble_eq_true rfl) rfl (by decide) rfl ?_
      exact vv_iret F hR dX7_ends_36 (congrArg (fun z => some (Value.int z)) ((if_pos h_1).trans ((if_pos h_2).trans rfl))) (by simp only [g_X7_ends_0_12, g_X7_ends_5, g_X7_ends_6, if_pos h_1, if_pos h_2])
  · refine vv_aload_n F dX7_ends_5 rfl rfl ?_
    refine vv_callV (As := []) (rest := []) [0] 0 (ws' := [(hX, .inr (6, [.ref hP, .ref dP, .ref i0, .ref i1, .int k0, .int k1, .ref hE, .ref hW, .ref hG, .ref hT, .long abv, .long blw, .int (rb + 1), .int rn, .int rf])), (hP, .inr (1, [.int ln, .int hb, .int ha, .int pu, .int hl, .int sm, .int hr, .ref hS, .ref hC, .ref hN, .ref hM, .ref hU])), (hS, .inr (2, [.ref aS, .int mS, .int nS])), (aS, .inl ((vv_k x).2.1.1, 32, .inl fS)), (hT, .inr (5, [.ref aB, .ref aA])), (aB, .inl ((vv_k x).2.1.1, 36, .inl tb)), (aA, .inl ((vv_k x).2.1.1, 36, .inl ta))]) F (c_X7_refuseBad (vv_l x) (vv_k x) hX hP dP i0 i1 k0 k1 hE hW hG hT abv blw rb rn rf) mv_X7_64 dX7_ends_6 (by decide) rfl rfl (Nat.le_of_ble_eq_true rfl) rfl (by decide) (Eq.trans (b := [hX]) rfl rfl) rfl rfl ?_
    refine vv_pop F dX7_ends_9 rfl ?_
    refine vv_bipush (v := (-10)) F dX7_ends_10 (by decide) ?_
    exact vv_iret F hR dX7_ends_12 (congrArg (fun z => some (Value.int z)) ((if_neg h_1).trans rfl)) (by simp only [g_X7_ends_0_12, g_X7_ends_5, g_X7_ends_6, if_neg h_1])
noncomputable def st_X7_setFraction (tn_ : Int32) (u : Nat) (s : Int32) : Int32 := (if (vv_rem tn_ (nI u)) = 0 then (if (vv_rem 10 (nI u)) = 0 then (nI u) else s) else s)
theorem L_X7_setFraction {x : vv_X} (F : vv_F x cX7_setFraction 4 RX7 1) (hX hP dP i0 i1 : Nat) (k0 k1 : Int32) (hE hW hG hT : Nat) (abv blw : Int64) (rb rn rf tn_ : Int32)  : ∀ (n : Nat) (u : Nat) (co : Int32), u + n = 11 → 2 ≤ u → vv_V x 4 31 [(3, .int (nI 11)), (2, .int (itr (st_X7_setFraction tn_) n u co)), (0, .ref hX), (1, .int tn_)] [] [(hX, .inr (6, [.ref hP, .ref dP, .ref i0, .ref i1, .int k0, .int k1, .ref hE, .ref hW, .ref hG, .ref hT, .long abv, .long blw, .int rb, .int rn, .int rf]))] → vv_V x 4 4 [(3, .int (nI u)), (2, .int co), (0, .ref hX), (1, .int tn_)] [] [(hX, .inr (6, [.ref hP, .ref dP, .ref i0, .ref i1, .int k0, .int k1, .ref hE, .ref hW, .ref hG, .ref hT, .long abv, .long blw, .int rb, .int rn, .int rf]))] := by
  intro n
  induction n with
  | zero =>
    intro u co hu hu2  kx
    refine vv_iload_n F dX7_setFraction_4 rfl rfl ?_
    refine vv_bipush (v := 10) F dX7_setFraction_5 (by decide) ?_
    refine vv_icmp_gt (tgt := 31) F dX7_setFraction_7 (by decide) (fun h_1 => ?_) (fun h_1 => absurd ((c_lt (by decide : (10 : Int32).toInt = ((10 : Nat) : Int)) (nI_toInt (n := u) (by omega))).mpr (by omega)) h_1)
    obtain rfl : u = 11 := by omega
    rw [itr_0] at kx
    exact vv_lv [0, 1, 2, 3] rfl kx
  | succ n ih =>
    intro u co hu hu2  kx
    refine vv_iload_n F dX7_setFraction_4 rfl rfl ?_
    refine vv_bipush (v := 10) F dX7_setFraction_5 (by decide) ?_
    refine vv_icmp_gt (tgt := 31) F dX7_setFraction_7 (by decide) (fun h_1 => absurd ((c_lt (by decide : (10 : Int32).toInt = ((10 : Nat) : Int)) (nI_toInt (n := u) (by omega))).mp h_1) (by omega)) (fun h_1 => ?_)
    refine vv_iload_n F dX7_setFraction_10 rfl rfl ?_
    refine vv_iload_n F dX7_setFraction_11 rfl rfl ?_
    refine vv_iremR F dX7_setFraction_12 (nI_ne0 (by omega) (by omega)) ?_
    refine vv_if_ne (tgt := 25) F dX7_setFraction_13 (by decide) (fun h_2 => ?_) (fun h_2 => ?_)
    · refine vv_iinc (v := (nI (u + 1))) (lv' := [(3, .int (nI (u + 1))), (2, .int co), (0, .ref hX), (1, .int tn_)]) 0 F dX7_setFraction_25 rfl (nI_1 u) (by decide) rfl ?_
      refine vv_goto (tgt := 4) F dX7_setFraction_28 (by decide) ?_
      refine vv_lv (lv' := [(3, .int (nI (u + 1))), (2, .int co), (0, .ref hX), (1, .int tn_)]) [0, 1, 2, 3] rfl ?_
      refine vv_lvE (lv' := [(3, .int (nI (u + 1))), (2, .int (if (vv_rem tn_ (nI u)) = 0 then (if (vv_rem 10 (nI u)) = 0 then (nI u) else co) else co)), (0, .ref hX), (1, .int tn_)]) (by first | (simp only [if_neg h_2]; done) | (simp [vv_b, h_2]; done)) ?_
      exact ih (u + 1) (if (vv_rem tn_ (nI u)) = 0 then (if (vv_rem 10 (nI u)) = 0 then (nI u) else co) else co) (by omega) (by omega) (by rw [itr_s] at kx; exact kx)
    · refine vv_bipush (v := 10) F dX7_setFraction_16 (by decide) ?_
      refine vv_iload_n F dX7_setFraction_18 rfl rfl ?_
      refine vv_iremR F dX7_setFraction_19 (nI_ne0 (by omega) (by omega)) ?_
      refine vv_if_ne (tgt := 25) F dX7_setFraction_20 (by decide) (fun h_3 => ?_) (fun h_3 => ?_)
      · refine vv_iinc (v := (nI (u + 1))) (lv' := [(3, .int (nI (u + 1))), (2, .int co), (0, .ref hX), (1, .int tn_)]) 0 F dX7_setFraction_25 rfl (nI_1 u) (by decide) rfl ?_
        refine vv_goto (tgt := 4) F dX7_setFraction_28 (by decide) ?_
        refine vv_lv (lv' := [(3, .int (nI (u + 1))), (2, .int co), (0, .ref hX), (1, .int tn_)]) [0, 1, 2, 3] rfl ?_
        refine vv_lvE (lv' := [(3, .int (nI (u + 1))), (2, .int (if (vv_rem tn_ (nI u)) = 0 then (if (vv_rem 10 (nI u)) = 0 then (nI u) else co) else co)), (0, .ref hX), (1, .int tn_)]) (by first | (simp only [if_pos h_2, if_neg h_3]; done) | (simp [vv_b, h_2, h_3]; done)) ?_
        exact ih (u + 1) (if (vv_rem tn_ (nI u)) = 0 then (if (vv_rem 10 (nI u)) = 0 then (nI u) else co) else co) (by omega) (by omega) (by rw [itr_s] at kx; exact kx)
      · refine vv_iload_n F dX7_setFraction_23 rfl rfl ?_
        refine vv_istore_n (lv' := [(2, .int (nI u)), (3, .int (nI u)), (0, .ref hX), (1, .int tn_)]) F dX7_setFraction_24 rfl (by decide) rfl ?_
        refine vv_iinc (v := (nI (u + 1))) (lv' := [(3, .int (nI (u + 1))), (2, .int (nI u)), (0, .ref hX), (1, .int tn_)]) 1 F dX7_setFraction_25 rfl (nI_1 u) (by decide) rfl ?_
        refine vv_goto (tgt := 4) F dX7_setFraction_28 (by decide) ?_
        refine vv_lv (lv' := [(3, .int (nI (u + 1))), (2, .int (nI u)), (0, .ref hX), (1, .int tn_)]) [0, 1, 2, 3] rfl ?_
        refine vv_lvE (lv' := [(3, .int (nI (u + 1))), (2, .int (if (vv_rem tn_ (nI u)) = 0 then (if (vv_rem 10 (nI u)) = 0 then (nI u) else co) else co)), (0, .ref hX), (1, .int tn_)]) (by first | (simp only [if_pos h_2, if_pos h_3]; done) | (simp [vv_b, h_2, h_3]; done)) ?_
        exact ih (u + 1) (if (vv_rem tn_ (nI u)) = 0 then (if (vv_rem 10 (nI u)) = 0 then (nI u) else co) else co) (by omega) (by omega) (by rw [itr_s] at kx; exact kx)
theorem ne_setFraction (t : Int32) : ¬ itr (st_X7_setFraction t) 9 2 1 = 0 := itr_inv (fun s => ¬ s = 0) 9 2 1 (fun v h1 h2 s hs => by
  unfold st_X7_setFraction; split
  · split
    · exact nI_ne0 (by omega) (by omega)
    · exact hs
  · exact hs) (by decide)
theorem c_X7_setFraction (l : Launch) (K : vv_K) (hX hP dP i0 i1 : Nat) (k0 k1 : Int32) (hE hW hG hT : Nat) (abv blw : Int64) (rb rn rf tn_ : Int32)  : vv_C l K 1 yX7_setFraction cX7_setFraction 4 none [.ref hX, .int tn_] [(hX, .inr (6, [.ref hP, .ref dP, .ref i0, .ref i1, .int k0, .int k1, .ref hE, .ref hW, .ref hG, .ref hT, .long abv, .long blw, .int rb, .int rn, .int rf]))] none [(hX, .inr (6, [.ref hP, .ref dP, .ref i0, .ref i1, .int k0, .int k1, .ref hE, .ref hW, .ref hG, .ref hT, .long ((tn_ / (itr (st_X7_setFraction tn_) 9 2 1)).toInt64), .long ((10 / (itr (st_X7_setFraction tn_) 9 2 1)).toInt64), .int rb, .int rn, .int rf]))] := by
  refine vv_C.of (lv := [(0, .ref hX), (1, .int tn_)]) (by decide +kernel) (Nat.le_of_ble_eq_true rfl) rfl ?_
  intro x hl hK F hR; subst hl; obtain rfl := hK
  refine vv_iconst (v := 1) F dX7_setFraction_0 (by decide) ?_
  refine vv_istore_n (lv' := [(2, .int 1), (0, .ref hX), (1, .int tn_)]) F dX7_setFraction_1 rfl (by decide) rfl ?_
  refine vv_iconst (v := 2) F dX7_setFraction_2 (by decide) ?_
  refine vv_istore_n (lv' := [(3, .int 2), (2, .int 1), (0, .ref hX), (1, .int tn_)]) F dX7_setFraction_3 rfl (by decide) rfl ?_
  refine vv_lv (lv' := [(3, .int 2), (2, .int 1), (0, .ref hX), (1, .int tn_)]) [0, 1, 2, 3] rfl ?_
  refine L_X7_setFraction F hX hP dP i0 i1 k0 k1 hE hW hG hT abv blw rb rn rf tn_ 9 2 1 (by omega) (by omega) ?_
  refine vv_aload_n F dX7_setFraction_31 rfl rfl ?_
  refine vv_iload_n F dX7_setFraction_32 rfl rfl ?_
  refine vv_iload_n F dX7_setFraction_33 rfl rfl ?_
  refine vv_idiv F dX7_setFraction_34 (ne_setFraction _) ?_
  refine vv_i2l F dX7_setFraction_35 ?_
  refine vv_put 0 (ws' := [(hX, .inr (6, [.ref hP, .ref dP, .ref i0, .ref i1, .int k0, .int k1, .ref hE, .ref hW, .ref hG, .ref hT, .long ((tn_ / (itr (st_X7_setFraction tn_) 9 2 1)).toInt64), .long blw, .int rb, .int rn, .int rf]))]) F fl_X7_53 dX7_setFraction_36 rfl rfl rfl (Nat.le_of_ble_eq_true rfl) rfl ?_
  refine vv_aload_n F dX7_setFraction_39 rfl rfl ?_
  refine vv_bipush (v := 10) F dX7_setFraction_40 (by decide) ?_
  refine vv_iload_n F dX7_setFraction_42 rfl rfl ?_
  refine vv_idiv F dX7_setFraction_43 (ne_setFraction _) ?_
  refine vv_i2l F dX7_setFraction_44 ?_
  refine vv_put 0 (ws' := [(hX, .inr (6, [.ref hP, .ref dP, .ref i0, .ref i1, .int k0, .int k1, .ref hE, .ref hW, .ref hG, .ref hT, .long ((tn_ / (itr (st_X7_setFraction tn_) 9 2 1)).toInt64), .long ((10 / (itr (st_X7_setFraction tn_) 9 2 1)).toInt64), .int rb, .int rn, .int rf]))]) F fl_X7_57 dX7_setFraction_45 rfl rfl rfl (Nat.le_of_ble_eq_true rfl) rfl ?_
  exact vv_vret F hR dX7_setFraction_48 rfl rfl
noncomputable def st_X7_scissors (ln nS : Int32) (fS : Nat → Int32) (c : Int32) (u : Nat) (s : Int32) : Int32 := (s + ((c * (f_X1_brought ((f_X3_cell nS fS (nI u) 1) / 2) ln)) + ((10 - c) * (f_X1_brought (f_X3_cell nS fS (nI u) 1) ln))))
theorem L_X7_scissors {x : vv_X} (F : vv_F x cX7_scissors 5 RX7 4) (hX hP dP i0 i1 : Nat) (k0 k1 : Int32) (hE hW hG hT : Nat) (abv blw : Int64) (rb rn rf : Int32) (hS hC hN hM hU : Nat) (ln hb ha pu hl sm hr : Int32) (aS : Nat) (mS nS : Int32) (fS : Nat → Int32) (c : Int32) (cs : Nat) (hcs : (nS).toInt = (cs : Int)) (hcs5 : cs ≤ 5) : ∀ (n : Nat) (u : Nat) (sm_ : Int32), u + n = cs → vv_V x 5 82 [(3, .int (nI cs)), (2, .int (itr (st_X7_scissors ln nS fS c) n u sm_)), (0, .ref hX), (1, .int c)] [] [(hX, .inr (6, [.ref hP, .ref dP, .ref i0, .ref i1, .int k0, .int k1, .ref hE, .ref hW, .ref hG, .ref hT, .long abv, .long blw, .int rb, .int rn, .int rf])), (hP, .inr (1, [.int ln, .int hb, .int ha, .int pu, .int hl, .int sm, .int hr, .ref hS, .ref hC, .ref hN, .ref hM, .ref hU])), (hS, .inr (2, [.ref aS, .int mS, .int nS])), (aS, .inl ((vv_k x).2.1.1, 32, .inl fS))] → vv_V x 5 19 [(3, .int (nI u)), (2, .int sm_), (0, .ref hX), (1, .int c)] [] [(hX, .inr (6, [.ref hP, .ref dP, .ref i0, .ref i1, .int k0, .int k1, .ref hE, .ref hW, .ref hG, .ref hT, .long abv, .long blw, .int rb, .int rn, .int rf])), (hP, .inr (1, [.int ln, .int hb, .int ha, .int pu, .int hl, .int sm, .int hr, .ref hS, .ref hC, .ref hN, .ref hM, .ref hU])), (hS, .inr (2, [.ref aS, .int mS, .int nS])), (aS, .inl ((vv_k x).2.1.1, 32, .inl fS))] := by
  intro n
  induction n with
  | zero =>
    intro u sm_ hu  kx
    refine vv_iload_n F dX7_scissors_19 rfl rfl ?_
    refine vv_aload_n F dX7_scissors_20 rfl rfl ?_
    refine vv_get 0 F fl_X7_10 dX7_scissors_21 rfl rfl ?_
    refine vv_get 1 F fl_X7_68 dX7_scissors_24 rfl rfl ?_
    refine vv_get 2 F fl_X7_72 dX7_scissors_27 rfl rfl ?_
    refine vv_icmp_ge (tgt := 82) F dX7_scissors_30 (by decide) (fun h_1 => ?_) (fun h_1 => absurd ((c_le hcs (nI_toInt (n := u) (by omega))).mpr (by omega)) h_1)
    obtain rfl : u = cs := by omega
    rw [itr_0] at kx
    exact vv_lv [0, 1, 2, 3] rfl kx
  | succ n ih =>
    intro u sm_ hu  kx
    refine vv_iload_n F dX7_scissors_19 rfl rfl ?_
    refine vv_aload_n F dX7_scissors_20 rfl rfl ?_
    refine vv_get 0 F fl_X7_10 dX7_scissors_21 rfl rfl ?_
    refine vv_get 1 F fl_X7_68 dX7_scissors_24 rfl rfl ?_
    refine vv_get 2 F fl_X7_72 dX7_scissors_27 rfl rfl ?_
    refine vv_icmp_ge (tgt := 82) F dX7_scissors_30 (by decide) (fun h_1 => absurd ((c_le hcs (nI_toInt (n := u) (by omega))).mp h_1) (by omega)) (fun h_1 => ?_)
    refine vv_aload_n F dX7_scissors_33 rfl rfl ?_
    refine vv_get 0 F fl_X7_10 dX7_scissors_34 rfl rfl ?_
    refine vv_iload_n F dX7_scissors_37 rfl rfl ?_
    refine vv_callVp (As := [.int (nI u)]) (rest := []) [1, 2, 3] 1 F (c_X2_lengthOf (vv_l x) (vv_k x) hP hS hC hN hM hU ln hb ha pu hl sm hr aS mS nS fS (nI u) (by omega)) mv_X7_156 dX7_scissors_38 (by decide) rfl rfl (Nat.le_of_ble_eq_true rfl) rfl (by decide) rfl ?_
    refine vv_iconst (v := 2) F dX7_scissors_41 (by decide) ?_
    refine vv_idiv F dX7_scissors_42 (by decide) ?_
    refine vv_aload_n F dX7_scissors_43 rfl rfl ?_
    refine vv_get 0 F fl_X7_10 dX7_scissors_44 rfl rfl ?_
    refine vv_get 1 F fl_X7_232 dX7_scissors_47 rfl rfl ?_
    refine vv_callSp (As := [.int ((f_X3_cell nS fS (nI u) 1) / 2), .int ln]) (rest := []) [] F (c_X1_brought (vv_l x) (vv_k x) ((f_X3_cell nS fS (nI u) 1) / 2) ln) ms_X7_235 dX7_scissors_50 (by decide) rfl rfl (Nat.le_of_ble_eq_true rfl) rfl (by decide) ?_
    refine vv_istore (lv' := [(4, .int (f_X1_brought ((f_X3_cell nS fS (nI u) 1) / 2) ln)), (3, .int (nI u)), (2, .int sm_), (0, .ref hX), (1, .int c)]) F dX7_scissors_53 (by decide) rfl ?_
    refine vv_iload_n F dX7_scissors_55 rfl rfl ?_
    refine vv_iload_n F dX7_scissors_56 rfl rfl ?_
    refine vv_iload F dX7_scissors_57 rfl ?_
    refine vv_imul F dX7_scissors_59 ?_
    refine vv_bipush (v := 10) F dX7_scissors_60 (by decide) ?_
    refine vv_iload_n F dX7_scissors_62 rfl rfl ?_
    refine vv_isub F dX7_scissors_63 ?_
    refine vv_aload_n F dX7_scissors_64 rfl rfl ?_
    refine vv_get 0 F fl_X7_10 dX7_scissors_65 rfl rfl ?_
    refine vv_iload_n F dX7_scissors_68 rfl rfl ?_
    refine vv_callVp (As := [.int (nI u)]) (rest := [.int (10 - c), .int (c * (f_X1_brought ((f_X3_cell nS fS (nI u) 1) / 2) ln)), .int sm_]) [1, 2, 3] 1 F (c_X2_bringing (vv_l x) (vv_k x) hP hS hC hN hM hU ln hb ha pu hl sm hr aS mS nS fS (nI u) (by omega)) mv_X7_143 dX7_scissors_69 (by decide) rfl rfl (Nat.le_of_ble_eq_true rfl) rfl (by decide) rfl ?_
    refine vv_imul F dX7_scissors_72 ?_
    refine vv_iadd F dX7_scissors_73 ?_
    refine vv_iadd F dX7_scissors_74 ?_
    refine vv_istore_n (lv' := [(2, .int (sm_ + ((c * (f_X1_brought ((f_X3_cell nS fS (nI u) 1) / 2) ln)) + ((10 - c) * (f_X1_brought (f_X3_cell nS fS (nI u) 1) ln))))), (4, .int (f_X1_brought ((f_X3_cell nS fS (nI u) 1) / 2) ln)), (3, .int (nI u)), (0, .ref hX), (1, .int c)]) F dX7_scissors_75 rfl (by decide) rfl ?_
    refine vv_iinc (v := (nI (u + 1))) (lv' := [(3, .int (nI (u + 1))), (2, .int (sm_ + ((c * (f_X1_brought ((f_X3_cell nS fS (nI u) 1) / 2) ln)) + ((10 - c) * (f_X1_brought (f_X3_cell nS fS (nI u) 1) ln))))), (4, .int (f_X1_brought ((f_X3_cell nS fS (nI u) 1) / 2) ln)), (0, .ref hX), (1, .int c)]) 2 F dX7_scissors_76 rfl (nI_1 u) (by decide) rfl ?_
    refine vv_goto (tgt := 19) F dX7_scissors_79 (by decide) ?_
    refine vv_lv (lv' := [(3, .int (nI (u + 1))), (2, .int (sm_ + ((c * (f_X1_brought ((f_X3_cell nS fS (nI u) 1) / 2) ln)) + ((10 - c) * (f_X1_brought (f_X3_cell nS fS (nI u) 1) ln))))), (0, .ref hX), (1, .int c)]) [0, 1, 3, 4] rfl ?_
    refine vv_lvE (lv' := [(3, .int (nI (u + 1))), (2, .int (sm_ + ((c * (f_X1_brought ((f_X3_cell nS fS (nI u) 1) / 2) ln)) + ((10 - c) * (f_X1_brought (f_X3_cell nS fS (nI u) 1) ln))))), (0, .ref hX), (1, .int c)]) (by rfl) ?_
    exact ih (u + 1) (sm_ + ((c * (f_X1_brought ((f_X3_cell nS fS (nI u) 1) / 2) ln)) + ((10 - c) * (f_X1_brought (f_X3_cell nS fS (nI u) 1) ln)))) (by omega) (by rw [itr_s] at kx; exact kx)
noncomputable def f_X7_scissors (c : Int32) : Int32 := (if p_X7_within c 0 10 then 1 else (-2))
noncomputable def g_X7_scissors_0_10 (abv : Int64) (ln nS : Int32) (fS : Nat → Int32) (c : Int32) (cs : Nat) : Int64 := (if p_X7_within c 0 10 then ((itr (st_X7_scissors ln nS fS c) cs 0 0) / (itr (st_X7_setFraction (itr (st_X7_scissors ln nS fS c) cs 0 0)) 9 2 1)).toInt64 else abv)
noncomputable def g_X7_scissors_0_11 (blw : Int64) (ln nS : Int32) (fS : Nat → Int32) (c : Int32) (cs : Nat) : Int64 := (if p_X7_within c 0 10 then (10 / (itr (st_X7_setFraction (itr (st_X7_scissors ln nS fS c) cs 0 0)) 9 2 1)).toInt64 else blw)
noncomputable def g_X7_scissors_0_12 (rb c : Int32) : Int32 := (if p_X7_within c 0 10 then rb else (rb + 1))
theorem c_X7_scissors (l : Launch) (K : vv_K) (hX hP dP i0 i1 : Nat) (k0 k1 : Int32) (hE hW hG hT : Nat) (abv blw : Int64) (rb rn rf : Int32) (hS hC hN hM hU : Nat) (ln hb ha pu hl sm hr : Int32) (aS : Nat) (mS nS : Int32) (fS : Nat → Int32) (c : Int32) (cs : Nat) (hcs : (nS).toInt = (cs : Int)) (hcs5 : cs ≤ 5)  : vv_C l K 4 yX7_scissors cX7_scissors 5 (some .int) [.ref hX, .int c] [(hX, .inr (6, [.ref hP, .ref dP, .ref i0, .ref i1, .int k0, .int k1, .ref hE, .ref hW, .ref hG, .ref hT, .long abv, .long blw, .int rb, .int rn, .int rf])), (hP, .inr (1, [.int ln, .int hb, .int ha, .int pu, .int hl, .int sm, .int hr, .ref hS, .ref hC, .ref hN, .ref hM, .ref hU])), (hS, .inr (2, [.ref aS, .int mS, .int nS])), (aS, .inl (K.2.1.1, 32, .inl fS))] (some (.int (f_X7_scissors c))) [(hX, .inr (6, [.ref hP, .ref dP, .ref i0, .ref i1, .int k0, .int k1, .ref hE, .ref hW, .ref hG, .ref hT, .long (g_X7_scissors_0_10 abv ln nS fS c cs), .long (g_X7_scissors_0_11 blw ln nS fS c cs), .int (g_X7_scissors_0_12 rb c), .int rn, .int rf])), (hP, .inr (1, [.int ln, .int hb, .int ha, .int pu, .int hl, .int sm, .int hr, .ref hS, .ref hC, .ref hN, .ref hM, .ref hU])), (hS, .inr (2, [.ref aS, .int mS, .int nS])), (aS, .inl (K.2.1.1, 32, .inl fS))] := by
  refine vv_C.of (lv := [(0, .ref hX), (1, .int c)]) (by decide +kernel) (Nat.le_of_ble_eq_true rfl) rfl ?_
  intro x hl hK F hR; subst hl; obtain rfl := hK
  refine vv_iload_n F dX7_scissors_0 rfl rfl ?_
  refine vv_iconst (v := 0) F dX7_scissors_1 (by decide) ?_
  refine vv_bipush (v := 10) F dX7_scissors_2 (by decide) ?_
  refine vv_callSp (As := [.int c, .int 0, .int 10]) (rest := []) [] F (c_X7_within (vv_l x) (vv_k x) c 0 10) ms_X7_60 dX7_scissors_4 (by decide) rfl rfl (Nat.le_of_ble_eq_true rfl) rfl (by decide) ?_
  refine vv_ifz_ne (tgt := 15) F dX7_scissors_7 (by decide) (fun h_1 => ?_) (fun h_1 => ?_)
  · have h_1r := wi_rng (a := 0) (b := 10) (by decide) (by decide) h_1
    have h_1c := nn_cl (a := c) (by omega)
    refine vv_iconst (v := 0) F dX7_scissors_15 (by decide) ?_
    refine vv_istore_n (lv' := [(2, .int 0), (0, .ref hX), (1, .int c)]) F dX7_scissors_16 rfl (by decide) rfl ?_
    refine vv_iconst (v := 0) F dX7_scissors_17 (by decide) ?_
    refine vv_istore_n (lv' := [(3, .int 0), (2, .int 0), (0, .ref hX), (1, .int c)]) F dX7_scissors_18 rfl (by decide) rfl ?_
    refine vv_lv (lv' := [(3, .int 0), (2, .int 0), (0, .ref hX), (1, .int c)]) [0, 1, 2, 3] rfl ?_
    refine L_X7_scissors F hX hP dP i0 i1 k0 k1 hE hW hG hT abv blw rb rn rf hS hC hN hM hU ln hb ha pu hl sm hr aS mS nS fS c cs hcs (by omega) cs 0 0 (by omega) ?_
    refine vv_aload_n F dX7_scissors_82 rfl rfl ?_
    refine vv_iload_n F dX7_scissors_83 rfl rfl ?_
    refine vv_callV (As := [.int (itr (st_X7_scissors ln nS fS c) cs 0 0)]) (rest := []) [0] 0 (ws' := [(hX, .inr (6, [.ref hP, .ref dP, .ref i0, .ref i1, .int k0, .int k1, .ref hE, .ref hW, .ref hG, .ref hT, .long (((itr (st_X7_scissors ln nS fS c) cs 0 0) / (itr (st_X7_setFraction (itr (st_X7_scissors ln nS fS c) cs 0 0)) 9 2 1)).toInt64), .long ((10 / (itr (st_X7_setFraction (itr (st_X7_scissors ln nS fS c) cs 0 0)) 9 2 1)).toInt64), .int rb, .int rn, .int rf])), (hP, .inr (1, [.int ln, .int hb, .int ha, .int pu, .int hl, .int sm, .int hr, .ref hS, .ref hC, .ref hN, .ref hM, .ref hU])), (hS, .inr (2, [.ref aS, .int mS, .int nS])), (aS, .inl ((vv_k x).2.1.1, 32, .inl fS))]) F (c_X7_setFraction (vv_l x) (vv_k x) hX hP dP i0 i1 k0 k1 hE hW hG hT abv blw rb rn rf (itr (st_X7_scissors ln nS fS c) cs 0 0)) mv_X7_238 dX7_scissors_84 (by decide) rfl rfl (Nat.le_of_ble_eq_true rfl) rfl (by decide) (Eq.trans (b := [hX]) rfl rfl) rfl rfl ?_
    refine vv_iconst (v := 1) F dX7_scissors_87 (by decide) ?_
    exact vv_iret F hR dX7_scissors_88 (congrArg (fun z => some (Value.int z)) ((if_pos h_1).trans rfl)) (by simp only [g_X7_scissors_0_10, g_X7_scissors_0_11, g_X7_scissors_0_12, if_pos h_1])
  · refine vv_aload_n F dX7_scissors_10 rfl rfl ?_
    refine vv_callV (As := []) (rest := []) [0] 0 (ws' := [(hX, .inr (6, [.ref hP, .ref dP, .ref i0, .ref i1, .int k0, .int k1, .ref hE, .ref hW, .ref hG, .ref hT, .long abv, .long blw, .int (rb + 1), .int rn, .int rf])), (hP, .inr (1, [.int ln, .int hb, .int ha, .int pu, .int hl, .int sm, .int hr, .ref hS, .ref hC, .ref hN, .ref hM, .ref hU])), (hS, .inr (2, [.ref aS, .int mS, .int nS])), (aS, .inl ((vv_k x).2.1.1, 32, .inl fS))]) F (c_X7_refuseBad (vv_l x) (vv_k x) hX hP dP i0 i1 k0 k1 hE hW hG hT abv blw rb rn rf) mv_X7_64 dX7_scissors_11 (by decide) rfl rfl (Nat.le_of_ble_eq_true rfl) rfl (by decide) (Eq.trans (b := [hX]) rfl rfl) rfl rfl ?_
    exact vv_iret F hR dX7_scissors_14 (congrArg (fun z => some (Value.int z)) ((if_neg h_1).trans rfl)) (by simp only [g_X7_scissors_0_10, g_X7_scissors_0_11, g_X7_scissors_0_12, if_neg h_1])
noncomputable def st_X7_nights (ln hb ha hr nS : Int32) (fS : Nat → Int32) (u : Nat) (s : Nat × Int32 × Int32) : Nat × Int32 × Int32 := ((ng s.1), (if p_X7_within (nI ((ng s.1) / 65536 % 6)) 0 (nS - 1) then (if s.2.1 < (f_X2_costIn hb ha hr nS fS (nI ((ng s.1) / 65536 % 6)) (nI u)) then s.2.1 else (s.2.1 - (f_X2_costIn hb ha hr nS fS (nI ((ng s.1) / 65536 % 6)) (nI u)))) else s.2.1), (if p_X7_within (nI ((ng s.1) / 65536 % 6)) 0 (nS - 1) then (if s.2.1 < (f_X2_costIn hb ha hr nS fS (nI ((ng s.1) / 65536 % 6)) (nI u)) then s.2.2 else (s.2.2 + (f_X1_brought (f_X3_cell nS fS (nI ((ng s.1) / 65536 % 6)) 1) ln))) else s.2.2))
theorem L_X7_nights {x : vv_X} (F : vv_F x cX7_nights 9 RX7 5) (hX hP dP i0 i1 : Nat) (k0 k1 : Int32) (hE hW hG hT : Nat) (abv blw : Int64) (rb rn rf : Int32) (hS hC hN hM hU : Nat) (ln hb ha pu hl sm hr : Int32) (aS : Nat) (mS nS : Int32) (fS : Nat → Int32) (se ni : Int32) (cs gg : Nat) (hcs : (nS).toInt = (cs : Int)) (hgg : (ni).toInt = (gg : Int)) (hcs5 : cs ≤ 5) (hg : gg ≤ 60) : ∀ (n : Nat) (u : Nat) (p : Nat) (pz : Int32) (hz : Int32), u + n = gg → p < 2147483648 → vv_V x 9 139 [(7, .int (nI gg)), (3, .long (lN ((itr (st_X7_nights ln hb ha hr nS fS) n u (p, pz, hz)).1))), (5, .int ((itr (st_X7_nights ln hb ha hr nS fS) n u (p, pz, hz)).2.1)), (6, .int ((itr (st_X7_nights ln hb ha hr nS fS) n u (p, pz, hz)).2.2)), (0, .ref hX), (1, .int se), (2, .int ni)] [] [(hX, .inr (6, [.ref hP, .ref dP, .ref i0, .ref i1, .int k0, .int k1, .ref hE, .ref hW, .ref hG, .ref hT, .long abv, .long blw, .int rb, .int rn, .int rf])), (hP, .inr (1, [.int ln, .int hb, .int ha, .int pu, .int hl, .int sm, .int hr, .ref hS, .ref hC, .ref hN, .ref hM, .ref hU])), (hS, .inr (2, [.ref aS, .int mS, .int nS])), (aS, .inl ((vv_k x).2.1.1, 32, .inl fS))] → vv_V x 9 43 [(7, .int (nI u)), (3, .long (lN p)), (5, .int pz), (6, .int hz), (0, .ref hX), (1, .int se), (2, .int ni)] [] [(hX, .inr (6, [.ref hP, .ref dP, .ref i0, .ref i1, .int k0, .int k1, .ref hE, .ref hW, .ref hG, .ref hT, .long abv, .long blw, .int rb, .int rn, .int rf])), (hP, .inr (1, [.int ln, .int hb, .int ha, .int pu, .int hl, .int sm, .int hr, .ref hS, .ref hC, .ref hN, .ref hM, .ref hU])), (hS, .inr (2, [.ref aS, .int mS, .int nS])), (aS, .inl ((vv_k x).2.1.1, 32, .inl fS))] := by
  intro n
  induction n with
  | zero =>
    intro u p pz hz hu hp  kx
    refine vv_iload F dX7_nights_43 rfl ?_
    refine vv_iload_n F dX7_nights_45 rfl rfl ?_
    refine vv_icmp_ge (tgt := 139) F dX7_nights_46 (by decide) (fun h_1 => ?_) (fun h_1 => absurd ((c_le hgg (nI_toInt (n := u) (by omega))).mpr (by omega)) h_1)
    obtain rfl : u = gg := by omega
    rw [itr_0] at kx
    exact vv_lv [0, 1, 2, 3, 4, 5, 6] rfl kx
  | succ n ih =>
    intro u p pz hz hu hp  kx
    refine vv_iload F dX7_nights_43 rfl ?_
    refine vv_iload_n F dX7_nights_45 rfl rfl ?_
    refine vv_icmp_ge (tgt := 139) F dX7_nights_46 (by decide) (fun h_1 => absurd ((c_le hgg (nI_toInt (n := u) (by omega))).mp h_1) (by omega)) (fun h_1 => ?_)
    refine vv_lload_n F dX7_nights_49 rfl rfl ?_
    refine vv_ldc2 F cl_X7_242 dX7_nights_50 ?_
    refine vv_lmul F dX7_nights_53 ?_
    refine vv_ldc2 F cl_X7_244 dX7_nights_54 ?_
    refine vv_ladd F dX7_nights_57 ?_
    refine vv_ldc2 F cl_X7_246 dX7_nights_58 ?_
    refine vv_lremR F dX7_nights_61 (by decide) ?_
    refine vv_topl (lN (ng p)) (ng_next hp) ?_
    refine vv_lstore_n (lv' := [(3, .long (lN (ng p))), (7, .int (nI u)), (5, .int pz), (6, .int hz), (0, .ref hX), (1, .int se), (2, .int ni)]) F dX7_nights_62 rfl (by decide) rfl ?_
    refine vv_lload_n F dX7_nights_63 rfl rfl ?_
    refine vv_ldc2 F cl_X7_248 dX7_nights_64 ?_
    refine vv_ldiv F dX7_nights_67 (by decide) ?_
    refine vv_ldc2 F cl_X7_250 dX7_nights_68 ?_
    refine vv_lremR F dX7_nights_71 (by decide) ?_
    refine vv_l2i F dX7_nights_72 ?_
    refine vv_topi (nI ((ng p) / 65536 % 6)) (ng_i (ng_lt p)) ?_
    refine vv_istore (lv' := [(8, .int (nI ((ng p) / 65536 % 6))), (3, .long (lN (ng p))), (7, .int (nI u)), (5, .int pz), (6, .int hz), (0, .ref hX), (1, .int se), (2, .int ni)]) F dX7_nights_73 (by decide) rfl ?_
    refine vv_aload_n F dX7_nights_75 rfl rfl ?_
    refine vv_get 0 F fl_X7_10 dX7_nights_76 rfl rfl ?_
    refine vv_iload F dX7_nights_79 rfl ?_
    refine vv_callVp (As := [.int (nI ((ng p) / 65536 % 6))]) (rest := []) [1, 2] 1 F (c_X2_has (vv_l x) (vv_k x) hP hS hC hN hM hU ln hb ha pu hl sm hr aS mS nS (nI ((ng p) / 65536 % 6))) mv_X7_121 dX7_nights_81 (by decide) rfl rfl (Nat.le_of_ble_eq_true rfl) rfl (by decide) rfl ?_
    refine vv_ifz_eq (tgt := 133) F dX7_nights_84 (by decide) (fun h_2 => ?_) (fun h_2 => ?_)
    · refine vv_iinc (v := (nI (u + 1))) (lv' := [(7, .int (nI (u + 1))), (8, .int (nI ((ng p) / 65536 % 6))), (3, .long (lN (ng p))), (5, .int pz), (6, .int hz), (0, .ref hX), (1, .int se), (2, .int ni)]) 2 F dX7_nights_133 rfl (nI_1 u) (by decide) rfl ?_
      refine vv_goto (tgt := 43) F dX7_nights_136 (by decide) ?_
      refine vv_lv (lv' := [(7, .int (nI (u + 1))), (3, .long (lN (ng p))), (5, .int pz), (6, .int hz), (0, .ref hX), (1, .int se), (2, .int ni)]) [0, 2, 3, 4, 5, 6, 7] rfl ?_
      refine vv_lvE (lv' := [(7, .int (nI (u + 1))), (3, .long (lN (ng p))), (5, .int (if p_X7_within (nI ((ng p) / 65536 % 6)) 0 (nS - 1) then (if pz < (f_X2_costIn hb ha hr nS fS (nI ((ng p) / 65536 % 6)) (nI u)) then pz else (pz - (f_X2_costIn hb ha hr nS fS (nI ((ng p) / 65536 % 6)) (nI u)))) else pz)), (6, .int (if p_X7_within (nI ((ng p) / 65536 % 6)) 0 (nS - 1) then (if pz < (f_X2_costIn hb ha hr nS fS (nI ((ng p) / 65536 % 6)) (nI u)) then hz else (hz + (f_X1_brought (f_X3_cell nS fS (nI ((ng p) / 65536 % 6)) 1) ln))) else hz)), (0, .ref hX), (1, .int se), (2, .int ni)]) (by first | (simp only [if_neg h_2]; done) | (simp [vv_b, h_2]; done)) ?_
      exact ih (u + 1) (ng p) (if p_X7_within (nI ((ng p) / 65536 % 6)) 0 (nS - 1) then (if pz < (f_X2_costIn hb ha hr nS fS (nI ((ng p) / 65536 % 6)) (nI u)) then pz else (pz - (f_X2_costIn hb ha hr nS fS (nI ((ng p) / 65536 % 6)) (nI u)))) else pz) (if p_X7_within (nI ((ng p) / 65536 % 6)) 0 (nS - 1) then (if pz < (f_X2_costIn hb ha hr nS fS (nI ((ng p) / 65536 % 6)) (nI u)) then hz else (hz + (f_X1_brought (f_X3_cell nS fS (nI ((ng p) / 65536 % 6)) 1) ln))) else hz) (by omega) (ng_lt p) (by rw [itr_s] at kx; exact kx)
    · refine vv_aload_n F dX7_nights_87 rfl rfl ?_
      refine vv_get 0 F fl_X7_10 dX7_nights_88 rfl rfl ?_
      refine vv_iload F dX7_nights_91 rfl ?_
      refine vv_iload F dX7_nights_93 rfl ?_
      refine vv_callVp (As := [.int (nI ((ng p) / 65536 % 6)), .int (nI u)]) (rest := []) [1, 2, 3] 1 F (c_X2_costIn (vv_l x) (vv_k x) hP hS hC hN hM hU ln hb ha pu hl sm hr aS mS nS fS (nI ((ng p) / 65536 % 6)) (nI u) (by omega)) mv_X7_127 dX7_nights_95 (by decide) rfl rfl (Nat.le_of_ble_eq_true rfl) rfl (by decide) rfl ?_
      refine vv_iload F dX7_nights_98 rfl ?_
      refine vv_icmp_gt (tgt := 133) F dX7_nights_100 (by decide) (fun h_3 => ?_) (fun h_3 => ?_)
      · refine vv_iinc (v := (nI (u + 1))) (lv' := [(7, .int (nI (u + 1))), (8, .int (nI ((ng p) / 65536 % 6))), (3, .long (lN (ng p))), (5, .int pz), (6, .int hz), (0, .ref hX), (1, .int se), (2, .int ni)]) 2 F dX7_nights_133 rfl (nI_1 u) (by decide) rfl ?_
        refine vv_goto (tgt := 43) F dX7_nights_136 (by decide) ?_
        refine vv_lv (lv' := [(7, .int (nI (u + 1))), (3, .long (lN (ng p))), (5, .int pz), (6, .int hz), (0, .ref hX), (1, .int se), (2, .int ni)]) [0, 2, 3, 4, 5, 6, 7] rfl ?_
        refine vv_lvE (lv' := [(7, .int (nI (u + 1))), (3, .long (lN (ng p))), (5, .int (if p_X7_within (nI ((ng p) / 65536 % 6)) 0 (nS - 1) then (if pz < (f_X2_costIn hb ha hr nS fS (nI ((ng p) / 65536 % 6)) (nI u)) then pz else (pz - (f_X2_costIn hb ha hr nS fS (nI ((ng p) / 65536 % 6)) (nI u)))) else pz)), (6, .int (if p_X7_within (nI ((ng p) / 65536 % 6)) 0 (nS - 1) then (if pz < (f_X2_costIn hb ha hr nS fS (nI ((ng p) / 65536 % 6)) (nI u)) then hz else (hz + (f_X1_brought (f_X3_cell nS fS (nI ((ng p) / 65536 % 6)) 1) ln))) else hz)), (0, .ref hX), (1, .int se), (2, .int ni)]) (by first | (simp only [if_pos h_2, if_pos h_3]; done) | (simp [vv_b, h_2, h_3]; done)) ?_
        exact ih (u + 1) (ng p) (if p_X7_within (nI ((ng p) / 65536 % 6)) 0 (nS - 1) then (if pz < (f_X2_costIn hb ha hr nS fS (nI ((ng p) / 65536 % 6)) (nI u)) then pz else (pz - (f_X2_costIn hb ha hr nS fS (nI ((ng p) / 65536 % 6)) (nI u)))) else pz) (if p_X7_within (nI ((ng p) / 65536 % 6)) 0 (nS - 1) then (if pz < (f_X2_costIn hb ha hr nS fS (nI ((ng p) / 65536 % 6)) (nI u)) then hz else (hz + (f_X1_brought (f_X3_cell nS fS (nI ((ng p) / 65536 % 6)) 1) ln))) else hz) (by omega) (ng_lt p) (by rw [itr_s] at kx; exact kx)
      · refine vv_iload F dX7_nights_103 rfl ?_
        refine vv_aload_n F dX7_nights_105 rfl rfl ?_
        refine vv_get 0 F fl_X7_10 dX7_nights_106 rfl rfl ?_
        refine vv_iload F dX7_nights_109 rfl ?_
        refine vv_iload F dX7_nights_111 rfl ?_
        refine vv_callVp (As := [.int (nI ((ng p) / 65536 % 6)), .int (nI u)]) (rest := [.int pz]) [1, 2, 3] 1 F (c_X2_costIn (vv_l x) (vv_k x) hP hS hC hN hM hU ln hb ha pu hl sm hr aS mS nS fS (nI ((ng p) / 65536 % 6)) (nI u) (by omega)) mv_X7_127 dX7_nights_113 (by decide) rfl rfl (Nat.le_of_ble_eq_true rfl) rfl (by decide) rfl ?_
        refine vv_isub F dX7_nights_116 ?_
        refine vv_istore (lv' := [(5, .int (pz - (f_X2_costIn hb ha hr nS fS (nI ((ng p) / 65536 % 6)) (nI u)))), (8, .int (nI ((ng p) / 65536 % 6))), (3, .long (lN (ng p))), (7, .int (nI u)), (6, .int hz), (0, .ref hX), (1, .int se), (2, .int ni)]) F dX7_nights_117 (by decide) rfl ?_
        refine vv_iload F dX7_nights_119 rfl ?_
        refine vv_aload_n F dX7_nights_121 rfl rfl ?_
        refine vv_get 0 F fl_X7_10 dX7_nights_122 rfl rfl ?_
        refine vv_iload F dX7_nights_125 rfl ?_
        refine vv_callVp (As := [.int (nI ((ng p) / 65536 % 6))]) (rest := [.int hz]) [1, 2, 3] 1 F (c_X2_bringing (vv_l x) (vv_k x) hP hS hC hN hM hU ln hb ha pu hl sm hr aS mS nS fS (nI ((ng p) / 65536 % 6)) (by omega)) mv_X7_143 dX7_nights_127 (by decide) rfl rfl (Nat.le_of_ble_eq_true rfl) rfl (by decide) rfl ?_
        refine vv_iadd F dX7_nights_130 ?_
        refine vv_istore (lv' := [(6, .int (hz + (f_X1_brought (f_X3_cell nS fS (nI ((ng p) / 65536 % 6)) 1) ln))), (5, .int (pz - (f_X2_costIn hb ha hr nS fS (nI ((ng p) / 65536 % 6)) (nI u)))), (8, .int (nI ((ng p) / 65536 % 6))), (3, .long (lN (ng p))), (7, .int (nI u)), (0, .ref hX), (1, .int se), (2, .int ni)]) F dX7_nights_131 (by decide) rfl ?_
        refine vv_iinc (v := (nI (u + 1))) (lv' := [(7, .int (nI (u + 1))), (6, .int (hz + (f_X1_brought (f_X3_cell nS fS (nI ((ng p) / 65536 % 6)) 1) ln))), (5, .int (pz - (f_X2_costIn hb ha hr nS fS (nI ((ng p) / 65536 % 6)) (nI u)))), (8, .int (nI ((ng p) / 65536 % 6))), (3, .long (lN (ng p))), (0, .ref hX), (1, .int se), (2, .int ni)]) 4 F dX7_nights_133 rfl (nI_1 u) (by decide) rfl ?_
        refine vv_goto (tgt := 43) F dX7_nights_136 (by decide) ?_
        refine vv_lv (lv' := [(7, .int (nI (u + 1))), (3, .long (lN (ng p))), (5, .int (pz - (f_X2_costIn hb ha hr nS fS (nI ((ng p) / 65536 % 6)) (nI u)))), (6, .int (hz + (f_X1_brought (f_X3_cell nS fS (nI ((ng p) / 65536 % 6)) 1) ln))), (0, .ref hX), (1, .int se), (2, .int ni)]) [0, 4, 2, 1, 5, 6, 7] rfl ?_
        refine vv_lvE (lv' := [(7, .int (nI (u + 1))), (3, .long (lN (ng p))), (5, .int (if p_X7_within (nI ((ng p) / 65536 % 6)) 0 (nS - 1) then (if pz < (f_X2_costIn hb ha hr nS fS (nI ((ng p) / 65536 % 6)) (nI u)) then pz else (pz - (f_X2_costIn hb ha hr nS fS (nI ((ng p) / 65536 % 6)) (nI u)))) else pz)), (6, .int (if p_X7_within (nI ((ng p) / 65536 % 6)) 0 (nS - 1) then (if pz < (f_X2_costIn hb ha hr nS fS (nI ((ng p) / 65536 % 6)) (nI u)) then hz else (hz + (f_X1_brought (f_X3_cell nS fS (nI ((ng p) / 65536 % 6)) 1) ln))) else hz)), (0, .ref hX), (1, .int se), (2, .int ni)]) (by first | (simp only [if_pos h_2, if_neg h_3]; done) | (simp [vv_b, h_2, h_3]; done)) ?_
        exact ih (u + 1) (ng p) (if p_X7_within (nI ((ng p) / 65536 % 6)) 0 (nS - 1) then (if pz < (f_X2_costIn hb ha hr nS fS (nI ((ng p) / 65536 % 6)) (nI u)) then pz else (pz - (f_X2_costIn hb ha hr nS fS (nI ((ng p) / 65536 % 6)) (nI u)))) else pz) (if p_X7_within (nI ((ng p) / 65536 % 6)) 0 (nS - 1) then (if pz < (f_X2_costIn hb ha hr nS fS (nI ((ng p) / 65536 % 6)) (nI u)) then hz else (hz + (f_X1_brought (f_X3_cell nS fS (nI ((ng p) / 65536 % 6)) 1) ln))) else hz) (by omega) (ng_lt p) (by rw [itr_s] at kx; exact kx)
noncomputable def f_X7_nights (ln hb ha pu hr nS : Int32) (fS : Nat → Int32) (se ni : Int32) : Int32 := (if p_X7_within se 0 999999 then (if p_X7_within ni 0 60 then (itr (st_X7_nights ln hb ha hr nS fS) ni.toNatClampNeg 0 (se.toNatClampNeg, pu, 0)).2.2 else (-2)) else (-2))
noncomputable def g_X7_nights_0_12 (rb se ni : Int32) : Int32 := (if p_X7_within se 0 999999 then (if p_X7_within ni 0 60 then rb else (rb + 1)) else (rb + 1))
theorem c_X7_nights (l : Launch) (K : vv_K) (hX hP dP i0 i1 : Nat) (k0 k1 : Int32) (hE hW hG hT : Nat) (abv blw : Int64) (rb rn rf : Int32) (hS hC hN hM hU : Nat) (ln hb ha pu hl sm hr : Int32) (aS : Nat) (mS nS : Int32) (fS : Nat → Int32) (se ni : Int32) (cs : Nat) (hcs : (nS).toInt = (cs : Int)) (hcs5 : cs ≤ 5)  : vv_C l K 5 yX7_nights cX7_nights 9 (some .int) [.ref hX, .int se, .int ni] [(hX, .inr (6, [.ref hP, .ref dP, .ref i0, .ref i1, .int k0, .int k1, .ref hE, .ref hW, .ref hG, .ref hT, .long abv, .long blw, .int rb, .int rn, .int rf])), (hP, .inr (1, [.int ln, .int hb, .int ha, .int pu, .int hl, .int sm, .int hr, .ref hS, .ref hC, .ref hN, .ref hM, .ref hU])), (hS, .inr (2, [.ref aS, .int mS, .int nS])), (aS, .inl (K.2.1.1, 32, .inl fS))] (some (.int (f_X7_nights ln hb ha pu hr nS fS se ni))) [(hX, .inr (6, [.ref hP, .ref dP, .ref i0, .ref i1, .int k0, .int k1, .ref hE, .ref hW, .ref hG, .ref hT, .long abv, .long blw, .int (g_X7_nights_0_12 rb se ni), .int rn, .int rf])), (hP, .inr (1, [.int ln, .int hb, .int ha, .int pu, .int hl, .int sm, .int hr, .ref hS, .ref hC, .ref hN, .ref hM, .ref hU])), (hS, .inr (2, [.ref aS, .int mS, .int nS])), (aS, .inl (K.2.1.1, 32, .inl fS))] := by
  refine vv_C.of (lv := [(0, .ref hX), (1, .int se), (2, .int ni)]) (by decide +kernel) (Nat.le_of_ble_eq_true rfl) rfl ?_
  intro x hl hK F hR; subst hl; obtain rfl := hK
  refine vv_iload_n F dX7_nights_0 rfl rfl ?_
  refine vv_iconst (v := 0) F dX7_nights_1 (by decide) ?_
  refine vv_ldc F cw_X7_241 dX7_nights_2 ?_
  refine vv_callSp (As := [.int se, .int 0, .int 999999]) (rest := []) [] F (c_X7_within (vv_l x) (vv_k x) se 0 999999) ms_X7_60 dX7_nights_4 (by decide) rfl rfl (Nat.le_of_ble_eq_true rfl) rfl (by decide) ?_
  refine vv_ifz_eq (tgt := 20) F dX7_nights_7 (by decide) (fun h_1 => ?_) (fun h_1 => ?_)
  · refine vv_aload_n F dX7_nights_20 rfl rfl ?_
    refine vv_callV (As := []) (rest := []) [0] 0 (ws' := [(hX, .inr (6, [.ref hP, .ref dP, .ref i0, .ref i1, .int k0, .int k1, .ref hE, .ref hW, .ref hG, .ref hT, .long abv, .long blw, .int (rb + 1), .int rn, .int rf])), (hP, .inr (1, [.int ln, .int hb, .int ha, .int pu, .int hl, .int sm, .int hr, .ref hS, .ref hC, .ref hN, .ref hM, .ref hU])), (hS, .inr (2, [.ref aS, .int mS, .int nS])), (aS, .inl ((vv_k x).2.1.1, 32, .inl fS))]) F (c_X7_refuseBad (vv_l x) (vv_k x) hX hP dP i0 i1 k0 k1 hE hW hG hT abv blw rb rn rf) mv_X7_64 dX7_nights_21 (by decide) rfl rfl (Nat.le_of_ble_eq_true rfl) rfl (by decide) (Eq.trans (b := [hX]) rfl rfl) rfl rfl ?_
    exact vv_iret F hR dX7_nights_24 (congrArg (fun z => some (Value.int z)) ((if_neg h_1).trans rfl)) (by simp only [g_X7_nights_0_12, if_neg h_1])
  · have h_1r := wi_rng (a := 0) (b := 999999) (by decide) (by decide) h_1
    have h_1c := nn_cl (a := se) (by omega)
    refine vv_iload_n F dX7_nights_10 rfl rfl ?_
    refine vv_iconst (v := 0) F dX7_nights_11 (by decide) ?_
    refine vv_bipush (v := 60) F dX7_nights_12 (by decide) ?_
    refine vv_callSp (As := [.int ni, .int 0, .int 60]) (rest := []) [] F (c_X7_within (vv_l x) (vv_k x) ni 0 60) ms_X7_60 dX7_nights_14 (by decide) rfl rfl (Nat.le_of_ble_eq_true rfl) rfl (by decide) ?_
    refine vv_ifz_ne (tgt := 25) F dX7_nights_17 (by decide) (fun h_2 => ?_) (fun h_2 => ?_)
    · have h_2r := wi_rng (a := 0) (b := 60) (by decide) (by decide) h_2
      have h_2c := nn_cl (a := ni) (by omega)
      refine vv_iload_n F dX7_nights_25 rfl rfl ?_
      refine vv_i2l F dX7_nights_26 ?_
      refine vv_topl (lN se.toNatClampNeg) (i2l_nn h_1c (by omega)) ?_
      refine vv_lstore_n (lv' := [(3, .long (lN se.toNatClampNeg)), (0, .ref hX), (1, .int se), (2, .int ni)]) F dX7_nights_27 rfl (by decide) rfl ?_
      refine vv_aload_n F dX7_nights_28 rfl rfl ?_
      refine vv_get 0 F fl_X7_10 dX7_nights_29 rfl rfl ?_
      refine vv_get 1 F fl_X7_131 dX7_nights_32 rfl rfl ?_
      refine vv_istore (lv' := [(5, .int pu), (3, .long (lN se.toNatClampNeg)), (0, .ref hX), (1, .int se), (2, .int ni)]) F dX7_nights_35 (by decide) rfl ?_
      refine vv_iconst (v := 0) F dX7_nights_37 (by decide) ?_
      refine vv_istore (lv' := [(6, .int 0), (5, .int pu), (3, .long (lN se.toNatClampNeg)), (0, .ref hX), (1, .int se), (2, .int ni)]) F dX7_nights_38 (by decide) rfl ?_
      refine vv_iconst (v := 0) F dX7_nights_40 (by decide) ?_
      refine vv_istore (lv' := [(7, .int 0), (6, .int 0), (5, .int pu), (3, .long (lN se.toNatClampNeg)), (0, .ref hX), (1, .int se), (2, .int ni)]) F dX7_nights_41 (by decide) rfl ?_
      refine vv_lv (lv' := [(7, .int 0), (3, .long (lN se.toNatClampNeg)), (5, .int pu), (6, .int 0), (0, .ref hX), (1, .int se), (2, .int ni)]) [0, 3, 2, 1, 4, 5, 6] rfl ?_
      refine L_X7_nights F hX hP dP i0 i1 k0 k1 hE hW hG hT abv blw rb rn rf hS hC hN hM hU ln hb ha pu hl sm hr aS mS nS fS se ni cs ni.toNatClampNeg hcs h_2c (by omega) (by omega) ni.toNatClampNeg 0 se.toNatClampNeg pu 0 (by omega) (by omega) ?_
      refine vv_iload F dX7_nights_139 rfl ?_
      exact vv_iret F hR dX7_nights_141 (congrArg (fun z => some (Value.int z)) ((if_pos h_1).trans ((if_pos h_2).trans rfl))) (by simp only [g_X7_nights_0_12, if_pos h_1, if_pos h_2])
    · refine vv_aload_n F dX7_nights_20 rfl rfl ?_
      refine vv_callV (As := []) (rest := []) [0] 0 (ws' := [(hX, .inr (6, [.ref hP, .ref dP, .ref i0, .ref i1, .int k0, .int k1, .ref hE, .ref hW, .ref hG, .ref hT, .long abv, .long blw, .int (rb + 1), .int rn, .int rf])), (hP, .inr (1, [.int ln, .int hb, .int ha, .int pu, .int hl, .int sm, .int hr, .ref hS, .ref hC, .ref hN, .ref hM, .ref hU])), (hS, .inr (2, [.ref aS, .int mS, .int nS])), (aS, .inl ((vv_k x).2.1.1, 32, .inl fS))]) F (c_X7_refuseBad (vv_l x) (vv_k x) hX hP dP i0 i1 k0 k1 hE hW hG hT abv blw rb rn rf) mv_X7_64 dX7_nights_21 (by decide) rfl rfl (Nat.le_of_ble_eq_true rfl) rfl (by decide) (Eq.trans (b := [hX]) rfl rfl) rfl rfl ?_
      exact vv_iret F hR dX7_nights_24 (congrArg (fun z => some (Value.int z)) ((if_pos h_1).trans ((if_neg h_2).trans rfl))) (by simp only [g_X7_nights_0_12, if_pos h_1, if_neg h_2])
noncomputable def f_X7_part (abv blw : Int64) (wh : Int32) : Int64 := (if p_X7_within wh 0 1 then (if wh = 0 then abv else blw) else (-2).toInt64)
noncomputable def g_X7_part_0_12 (rb wh : Int32) : Int32 := (if p_X7_within wh 0 1 then (if wh = 0 then rb else rb) else (rb + 1))
theorem c_X7_part (l : Launch) (K : vv_K) (hX hP dP i0 i1 : Nat) (k0 k1 : Int32) (hE hW hG hT : Nat) (abv blw : Int64) (rb rn rf wh : Int32)  : vv_C l K 2 yX7_part cX7_part 2 (some .long) [.ref hX, .int wh] [(hX, .inr (6, [.ref hP, .ref dP, .ref i0, .ref i1, .int k0, .int k1, .ref hE, .ref hW, .ref hG, .ref hT, .long abv, .long blw, .int rb, .int rn, .int rf]))] (some (.long (f_X7_part abv blw wh))) [(hX, .inr (6, [.ref hP, .ref dP, .ref i0, .ref i1, .int k0, .int k1, .ref hE, .ref hW, .ref hG, .ref hT, .long abv, .long blw, .int (g_X7_part_0_12 rb wh), .int rn, .int rf]))] := by
  refine vv_C.of (lv := [(0, .ref hX), (1, .int wh)]) (by decide +kernel) (Nat.le_of_ble_eq_true rfl) rfl ?_
  intro x hl hK F hR; subst hl; obtain rfl := hK
  refine vv_iload_n F dX7_part_0 rfl rfl ?_
  refine vv_iconst (v := 0) F dX7_part_1 (by decide) ?_
  refine vv_iconst (v := 1) F dX7_part_2 (by decide) ?_
  refine vv_callSp (As := [.int wh, .int 0, .int 1]) (rest := []) [] F (c_X7_within (vv_l x) (vv_k x) wh 0 1) ms_X7_60 dX7_part_3 (by decide) rfl rfl (Nat.le_of_ble_eq_true rfl) rfl (by decide) ?_
  refine vv_ifz_ne (tgt := 15) F dX7_part_6 (by decide) (fun h_1 => ?_) (fun h_1 => ?_)
  · have h_1r := wi_rng (a := 0) (b := 1) (by decide) (by decide) h_1
    have h_1c := nn_cl (a := wh) (by omega)
    refine vv_iload_n F dX7_part_15 rfl rfl ?_
    refine vv_if_ne (tgt := 26) F dX7_part_16 (by decide) (fun h_2 => ?_) (fun h_2 => ?_)
    · refine vv_aload_n F dX7_part_26 rfl rfl ?_
      refine vv_get 0 F fl_X7_57 dX7_part_27 rfl rfl ?_
      exact vv_lret F hR dX7_part_30 (congrArg (fun z => some (Value.long z)) ((if_pos h_1).trans ((if_neg h_2).trans rfl))) (by simp only [g_X7_part_0_12, if_pos h_1, if_neg h_2])
    · refine vv_aload_n F dX7_part_19 rfl rfl ?_
      refine vv_get 0 F fl_X7_53 dX7_part_20 rfl rfl ?_
      refine vv_goto (tgt := 30) F dX7_part_23 (by decide) ?_
      exact vv_lret F hR dX7_part_30 (congrArg (fun z => some (Value.long z)) ((if_pos h_1).trans ((if_pos h_2).trans rfl))) (by simp only [g_X7_part_0_12, if_pos h_1, if_pos h_2])
  · refine vv_aload_n F dX7_part_9 rfl rfl ?_
    refine vv_callV (As := []) (rest := []) [0] 0 (ws' := [(hX, .inr (6, [.ref hP, .ref dP, .ref i0, .ref i1, .int k0, .int k1, .ref hE, .ref hW, .ref hG, .ref hT, .long abv, .long blw, .int (rb + 1), .int rn, .int rf]))]) F (c_X7_refuseBad (vv_l x) (vv_k x) hX hP dP i0 i1 k0 k1 hE hW hG hT abv blw rb rn rf) mv_X7_64 dX7_part_10 (by decide) rfl rfl (Nat.le_of_ble_eq_true rfl) rfl (by decide) (Eq.trans (b := [hX]) rfl rfl) rfl rfl ?_
    refine vv_i2l F dX7_part_13 ?_
    exact vv_lret F hR dX7_part_14 (congrArg (fun z => some (Value.long z)) ((if_neg h_1).trans rfl)) (by simp only [g_X7_part_0_12, if_neg h_1])
noncomputable def f_X7_image (i : Int32) : Int32 := (if p_X7_within i 0 1 then (if i = 0 then 1 else 1) else (-2))
noncomputable def g_X7_image_0_4 (k0 i : Int32) : Int32 := (if p_X7_within i 0 1 then (if i = 0 then 1 else k0) else k0)
noncomputable def g_X7_image_0_5 (k1 i : Int32) : Int32 := (if p_X7_within i 0 1 then (if i = 0 then k1 else 1) else k1)
noncomputable def g_X7_image_0_12 (rb i : Int32) : Int32 := (if p_X7_within i 0 1 then (if i = 0 then rb else rb) else (rb + 1))
noncomputable def g_X7_image_12_0 (ln o_ln i : Int32) : Int32 := (if p_X7_within i 0 1 then (if i = 0 then ln else o_ln) else o_ln)
noncomputable def g_X7_image_12_1 (hb o_hb i : Int32) : Int32 := (if p_X7_within i 0 1 then (if i = 0 then hb else o_hb) else o_hb)
noncomputable def g_X7_image_12_2 (ha o_ha i : Int32) : Int32 := (if p_X7_within i 0 1 then (if i = 0 then ha else o_ha) else o_ha)
noncomputable def g_X7_image_12_3 (pu o_pu i : Int32) : Int32 := (if p_X7_within i 0 1 then (if i = 0 then pu else o_pu) else o_pu)
noncomputable def g_X7_image_12_4 (hl o_hl i : Int32) : Int32 := (if p_X7_within i 0 1 then (if i = 0 then hl else o_hl) else o_hl)
noncomputable def g_X7_image_12_5 (sm o_sm i : Int32) : Int32 := (if p_X7_within i 0 1 then (if i = 0 then sm else o_sm) else o_sm)
noncomputable def g_X7_image_12_6 (hr o_hr i : Int32) : Int32 := (if p_X7_within i 0 1 then (if i = 0 then hr else o_hr) else o_hr)
noncomputable def g_X7_image_13_2 (nS o_nS i : Int32) : Int32 := (if p_X7_within i 0 1 then (if i = 0 then nS else o_nS) else o_nS)
noncomputable def g_X7_image_14 (fS o_fS : Nat → Int32) (i : Int32) : Nat → Int32 := (if p_X7_within i 0 1 then (if i = 0 then (va_cpy fS o_fS 0 0 32) else o_fS) else o_fS)
noncomputable def g_X7_image_15_2 (nC o_nC i : Int32) : Int32 := (if p_X7_within i 0 1 then (if i = 0 then nC else o_nC) else o_nC)
noncomputable def g_X7_image_16 (fC o_fC : Nat → Int32) (i : Int32) : Nat → Int32 := (if p_X7_within i 0 1 then (if i = 0 then (va_cpy fC o_fC 0 0 32) else o_fC) else o_fC)
noncomputable def g_X7_image_17_2 (nN o_nN i : Int32) : Int32 := (if p_X7_within i 0 1 then (if i = 0 then nN else o_nN) else o_nN)
noncomputable def g_X7_image_18 (fN o_fN : Nat → Int32) (i : Int32) : Nat → Int32 := (if p_X7_within i 0 1 then (if i = 0 then (va_cpy fN o_fN 0 0 32) else o_fN) else o_fN)
noncomputable def g_X7_image_19_2 (nM o_nM i : Int32) : Int32 := (if p_X7_within i 0 1 then (if i = 0 then nM else o_nM) else o_nM)
noncomputable def g_X7_image_20 (fM o_fM : Nat → Int32) (i : Int32) : Nat → Int32 := (if p_X7_within i 0 1 then (if i = 0 then (va_cpy fM o_fM 0 0 32) else o_fM) else o_fM)
noncomputable def g_X7_image_21_2 (nU o_nU i : Int32) : Int32 := (if p_X7_within i 0 1 then (if i = 0 then nU else o_nU) else o_nU)
noncomputable def g_X7_image_22 (fU o_fU : Nat → Int32) (i : Int32) : Nat → Int32 := (if p_X7_within i 0 1 then (if i = 0 then (va_cpy fU o_fU 0 0 32) else o_fU) else o_fU)
noncomputable def g_X7_image_23_0 (ln p_ln i : Int32) : Int32 := (if p_X7_within i 0 1 then (if i = 0 then p_ln else ln) else p_ln)
noncomputable def g_X7_image_23_1 (hb p_hb i : Int32) : Int32 := (if p_X7_within i 0 1 then (if i = 0 then p_hb else hb) else p_hb)
noncomputable def g_X7_image_23_2 (ha p_ha i : Int32) : Int32 := (if p_X7_within i 0 1 then (if i = 0 then p_ha else ha) else p_ha)
noncomputable def g_X7_image_23_3 (pu p_pu i : Int32) : Int32 := (if p_X7_within i 0 1 then (if i = 0 then p_pu else pu) else p_pu)
noncomputable def g_X7_image_23_4 (hl p_hl i : Int32) : Int32 := (if p_X7_within i 0 1 then (if i = 0 then p_hl else hl) else p_hl)
noncomputable def g_X7_image_23_5 (sm p_sm i : Int32) : Int32 := (if p_X7_within i 0 1 then (if i = 0 then p_sm else sm) else p_sm)
noncomputable def g_X7_image_23_6 (hr p_hr i : Int32) : Int32 := (if p_X7_within i 0 1 then (if i = 0 then p_hr else hr) else p_hr)
noncomputable def g_X7_image_24_2 (nS p_nS i : Int32) : Int32 := (if p_X7_within i 0 1 then (if i = 0 then p_nS else nS) else p_nS)
noncomputable def g_X7_image_25 (fS p_fS : Nat → Int32) (i : Int32) : Nat → Int32 := (if p_X7_within i 0 1 then (if i = 0 then p_fS else (va_cpy fS p_fS 0 0 32)) else p_fS)
noncomputable def g_X7_image_26_2 (nC p_nC i : Int32) : Int32 := (if p_X7_within i 0 1 then (if i = 0 then p_nC else nC) else p_nC)
noncomputable def g_X7_image_27 (fC p_fC : Nat → Int32) (i : Int32) : Nat → Int32 := (if p_X7_within i 0 1 then (if i = 0 then p_fC else (va_cpy fC p_fC 0 0 32)) else p_fC)
noncomputable def g_X7_image_28_2 (nN p_nN i : Int32) : Int32 := (if p_X7_within i 0 1 then (if i = 0 then p_nN else nN) else p_nN)
noncomputable def g_X7_image_29 (fN p_fN : Nat → Int32) (i : Int32) : Nat → Int32 := (if p_X7_within i 0 1 then (if i = 0 then p_fN else (va_cpy fN p_fN 0 0 32)) else p_fN)
noncomputable def g_X7_image_30_2 (nM p_nM i : Int32) : Int32 := (if p_X7_within i 0 1 then (if i = 0 then p_nM else nM) else p_nM)
noncomputable def g_X7_image_31 (fM p_fM : Nat → Int32) (i : Int32) : Nat → Int32 := (if p_X7_within i 0 1 then (if i = 0 then p_fM else (va_cpy fM p_fM 0 0 32)) else p_fM)
noncomputable def g_X7_image_32_2 (nU p_nU i : Int32) : Int32 := (if p_X7_within i 0 1 then (if i = 0 then p_nU else nU) else p_nU)
noncomputable def g_X7_image_33 (fU p_fU : Nat → Int32) (i : Int32) : Nat → Int32 := (if p_X7_within i 0 1 then (if i = 0 then p_fU else (va_cpy fU p_fU 0 0 32)) else p_fU)
theorem c_X7_image (l : Launch) (K : vv_K) (hX hP dP i0 i1 : Nat) (k0 k1 : Int32) (hE hW hG hT : Nat) (abv blw : Int64) (rb rn rf : Int32) (hS hC hN hM hU : Nat) (ln hb ha pu hl sm hr : Int32) (aS : Nat) (mS nS : Int32) (fS : Nat → Int32) (aC : Nat) (mC nC : Int32) (fC : Nat → Int32) (aN : Nat) (mN nN : Int32) (fN : Nat → Int32) (aM : Nat) (mM nM : Int32) (fM : Nat → Int32) (aU : Nat) (mU nU : Int32) (fU : Nat → Int32) (o_hS o_hC o_hN o_hM o_hU : Nat) (o_ln o_hb o_ha o_pu o_hl o_sm o_hr : Int32) (o_aS : Nat) (o_mS o_nS : Int32) (o_fS : Nat → Int32) (o_aC : Nat) (o_mC o_nC : Int32) (o_fC : Nat → Int32) (o_aN : Nat) (o_mN o_nN : Int32) (o_fN : Nat → Int32) (o_aM : Nat) (o_mM o_nM : Int32) (o_fM : Nat → Int32) (o_aU : Nat) (o_mU o_nU : Int32) (o_fU : Nat → Int32) (p_hS p_hC p_hN p_hM p_hU : Nat) (p_ln p_hb p_ha p_pu p_hl p_sm p_hr : Int32) (p_aS : Nat) (p_mS p_nS : Int32) (p_fS : Nat → Int32) (p_aC : Nat) (p_mC p_nC : Int32) (p_fC : Nat → Int32) (p_aN : Nat) (p_mN p_nN : Int32) (p_fN : Nat → Int32) (p_aM : Nat) (p_mM p_nM : Int32) (p_fM : Nat → Int32) (p_aU : Nat) (p_mU p_nU : Int32) (p_fU : Nat → Int32) (i : Int32)  : vv_C l K 4 yX7_image cX7_image 2 (some .int) [.ref hX, .int i] [(hX, .inr (6, [.ref hP, .ref dP, .ref i0, .ref i1, .int k0, .int k1, .ref hE, .ref hW, .ref hG, .ref hT, .long abv, .long blw, .int rb, .int rn, .int rf])), (hP, .inr (1, [.int ln, .int hb, .int ha, .int pu, .int hl, .int sm, .int hr, .ref hS, .ref hC, .ref hN, .ref hM, .ref hU])), (hS, .inr (2, [.ref aS, .int mS, .int nS])), (aS, .inl (K.2.1.1, 32, .inl fS)), (hC, .inr (2, [.ref aC, .int mC, .int nC])), (aC, .inl (K.2.1.1, 32, .inl fC)), (hN, .inr (2, [.ref aN, .int mN, .int nN])), (aN, .inl (K.2.1.1, 32, .inl fN)), (hM, .inr (2, [.ref aM, .int mM, .int nM])), (aM, .inl (K.2.1.1, 32, .inl fM)), (hU, .inr (2, [.ref aU, .int mU, .int nU])), (aU, .inl (K.2.1.1, 32, .inl fU)), (i0, .inr (1, [.int o_ln, .int o_hb, .int o_ha, .int o_pu, .int o_hl, .int o_sm, .int o_hr, .ref o_hS, .ref o_hC, .ref o_hN, .ref o_hM, .ref o_hU])), (o_hS, .inr (2, [.ref o_aS, .int o_mS, .int o_nS])), (o_aS, .inl (K.2.1.1, 32, .inl o_fS)), (o_hC, .inr (2, [.ref o_aC, .int o_mC, .int o_nC])), (o_aC, .inl (K.2.1.1, 32, .inl o_fC)), (o_hN, .inr (2, [.ref o_aN, .int o_mN, .int o_nN])), (o_aN, .inl (K.2.1.1, 32, .inl o_fN)), (o_hM, .inr (2, [.ref o_aM, .int o_mM, .int o_nM])), (o_aM, .inl (K.2.1.1, 32, .inl o_fM)), (o_hU, .inr (2, [.ref o_aU, .int o_mU, .int o_nU])), (o_aU, .inl (K.2.1.1, 32, .inl o_fU)), (i1, .inr (1, [.int p_ln, .int p_hb, .int p_ha, .int p_pu, .int p_hl, .int p_sm, .int p_hr, .ref p_hS, .ref p_hC, .ref p_hN, .ref p_hM, .ref p_hU])), (p_hS, .inr (2, [.ref p_aS, .int p_mS, .int p_nS])), (p_aS, .inl (K.2.1.1, 32, .inl p_fS)), (p_hC, .inr (2, [.ref p_aC, .int p_mC, .int p_nC])), (p_aC, .inl (K.2.1.1, 32, .inl p_fC)), (p_hN, .inr (2, [.ref p_aN, .int p_mN, .int p_nN])), (p_aN, .inl (K.2.1.1, 32, .inl p_fN)), (p_hM, .inr (2, [.ref p_aM, .int p_mM, .int p_nM])), (p_aM, .inl (K.2.1.1, 32, .inl p_fM)), (p_hU, .inr (2, [.ref p_aU, .int p_mU, .int p_nU])), (p_aU, .inl (K.2.1.1, 32, .inl p_fU))] (some (.int (f_X7_image i))) [(hX, .inr (6, [.ref hP, .ref dP, .ref i0, .ref i1, .int (g_X7_image_0_4 k0 i), .int (g_X7_image_0_5 k1 i), .ref hE, .ref hW, .ref hG, .ref hT, .long abv, .long blw, .int (g_X7_image_0_12 rb i), .int rn, .int rf])), (hP, .inr (1, [.int ln, .int hb, .int ha, .int pu, .int hl, .int sm, .int hr, .ref hS, .ref hC, .ref hN, .ref hM, .ref hU])), (hS, .inr (2, [.ref aS, .int mS, .int nS])), (aS, .inl (K.2.1.1, 32, .inl fS)), (hC, .inr (2, [.ref aC, .int mC, .int nC])), (aC, .inl (K.2.1.1, 32, .inl fC)), (hN, .inr (2, [.ref aN, .int mN, .int nN])), (aN, .inl (K.2.1.1, 32, .inl fN)), (hM, .inr (2, [.ref aM, .int mM, .int nM])), (aM, .inl (K.2.1.1, 32, .inl fM)), (hU, .inr (2, [.ref aU, .int mU, .int nU])), (aU, .inl (K.2.1.1, 32, .inl fU)), (i0, .inr (1, [.int (g_X7_image_12_0 ln o_ln i), .int (g_X7_image_12_1 hb o_hb i), .int (g_X7_image_12_2 ha o_ha i), .int (g_X7_image_12_3 pu o_pu i), .int (g_X7_image_12_4 hl o_hl i), .int (g_X7_image_12_5 sm o_sm i), .int (g_X7_image_12_6 hr o_hr i), .ref o_hS, .ref o_hC, .ref o_hN, .ref o_hM, .ref o_hU])), (o_hS, .inr (2, [.ref o_aS, .int o_mS, .int (g_X7_image_13_2 nS o_nS i)])), (o_aS, .inl (K.2.1.1, 32, .inl (g_X7_image_14 fS o_fS i))), (o_hC, .inr (2, [.ref o_aC, .int o_mC, .int (g_X7_image_15_2 nC o_nC i)])), (o_aC, .inl (K.2.1.1, 32, .inl (g_X7_image_16 fC o_fC i))), (o_hN, .inr (2, [.ref o_aN, .int o_mN, .int (g_X7_image_17_2 nN o_nN i)])), (o_aN, .inl (K.2.1.1, 32, .inl (g_X7_image_18 fN o_fN i))), (o_hM, .inr (2, [.ref o_aM, .int o_mM, .int (g_X7_image_19_2 nM o_nM i)])), (o_aM, .inl (K.2.1.1, 32, .inl (g_X7_image_20 fM o_fM i))), (o_hU, .inr (2, [.ref o_aU, .int o_mU, .int (g_X7_image_21_2 nU o_nU i)])), (o_aU, .inl (K.2.1.1, 32, .inl (g_X7_image_22 fU o_fU i))), (i1, .inr (1, [.int (g_X7_image_23_0 ln p_ln i), .int (g_X7_image_23_1 hb p_hb i), .int (g_X7_image_23_2 ha p_ha i), .int (g_X7_image_23_3 pu p_pu i), .int (g_X7_image_23_4 hl p_hl i), .int (g_X7_image_23_5 sm p_sm i), .int (g_X7_image_23_6 hr p_hr i), .ref p_hS, .ref p_hC, .ref p_hN, .ref p_hM, .ref p_hU])), (p_hS, .inr (2, [.ref p_aS, .int p_mS, .int (g_X7_image_24_2 nS p_nS i)])), (p_aS, .inl (K.2.1.1, 32, .inl (g_X7_image_25 fS p_fS i))), (p_hC, .inr (2, [.ref p_aC, .int p_mC, .int (g_X7_image_26_2 nC p_nC i)])), (p_aC, .inl (K.2.1.1, 32, .inl (g_X7_image_27 fC p_fC i))), (p_hN, .inr (2, [.ref p_aN, .int p_mN, .int (g_X7_image_28_2 nN p_nN i)])), (p_aN, .inl (K.2.1.1, 32, .inl (g_X7_image_29 fN p_fN i))), (p_hM, .inr (2, [.ref p_aM, .int p_mM, .int (g_X7_image_30_2 nM p_nM i)])), (p_aM, .inl (K.2.1.1, 32, .inl (g_X7_image_31 fM p_fM i))), (p_hU, .inr (2, [.ref p_aU, .int p_mU, .int (g_X7_image_32_2 nU p_nU i)])), (p_aU, .inl (K.2.1.1, 32, .inl (g_X7_image_33 fU p_fU i)))] := by
  refine vv_C.of (lv := [(0, .ref hX), (1, .int i)]) (by decide +kernel) (Nat.le_of_ble_eq_true rfl) rfl ?_
  intro x hl hK F hR; subst hl; obtain rfl := hK
  refine vv_iload_n F dX7_image_0 rfl rfl ?_
  refine vv_iconst (v := 0) F dX7_image_1 (by decide) ?_
  refine vv_iconst (v := 1) F dX7_image_2 (by decide) ?_
  refine vv_callSp (As := [.int i, .int 0, .int 1]) (rest := []) [] F (c_X7_within (vv_l x) (vv_k x) i 0 1) ms_X7_60 dX7_image_3 (by decide) rfl rfl (Nat.le_of_ble_eq_true rfl) rfl (by decide) ?_
  refine vv_ifz_ne (tgt := 14) F dX7_image_6 (by decide) (fun h_1 => ?_) (fun h_1 => ?_)
  · have h_1r := wi_rng (a := 0) (b := 1) (by decide) (by decide) h_1
    have h_1c := nn_cl (a := i) (by omega)
    refine vv_iload_n F dX7_image_14 rfl rfl ?_
    refine vv_if_ne (tgt := 37) F dX7_image_15 (by decide) (fun h_2 => ?_) (fun h_2 => ?_)
    · refine vv_aload_n F dX7_image_37 rfl rfl ?_
      refine vv_get 0 F fl_X7_22 dX7_image_38 rfl rfl ?_
      refine vv_aload_n F dX7_image_41 rfl rfl ?_
      refine vv_get 0 F fl_X7_10 dX7_image_42 rfl rfl ?_
      refine vv_callV (As := [.ref hP]) (rest := []) [23, 24, 25, 26, 27, 28, 29, 30, 31, 32, 33, 1, 2, 3, 4, 5, 6, 7, 8, 9, 10, 11] 23 (ws' := [(hX, .inr (6, [.ref hP, .ref dP, .ref i0, .ref i1, .int k0, .int k1, .ref hE, .ref hW, .ref hG, .ref hT, .long abv, .long blw, .int rb, .int rn, .int rf])), (hP, .inr (1, [.int ln, .int hb, .int ha, .int pu, .int hl, .int sm, .int hr, .ref hS, .ref hC, .ref hN, .ref hM, .ref hU])), (hS, .inr (2, [.ref aS, .int mS, .int nS])), (aS, .inl ((vv_k x).2.1.1, 32, .inl fS)), (hC, .inr (2, [.ref aC, .int mC, .int nC])), (aC, .inl ((vv_k x).2.1.1, 32, .inl fC)), (hN, .inr (2, [.ref aN, .int mN, .int nN])), (aN, .inl ((vv_k x).2.1.1, 32, .inl fN)), (hM, .inr (2, [.ref aM, .int mM, .int nM])), (aM, .inl ((vv_k x).2.1.1, 32, .inl fM)), (hU, .inr (2, [.ref aU, .int mU, .int nU])), (aU, .inl ((vv_k x).2.1.1, 32, .inl fU)), (i0, .inr (1, [.int o_ln, .int o_hb, .int o_ha, .int o_pu, .int o_hl, .int o_sm, .int o_hr, .ref o_hS, .ref o_hC, .ref o_hN, .ref o_hM, .ref o_hU])), (o_hS, .inr (2, [.ref o_aS, .int o_mS, .int o_nS])), (o_aS, .inl ((vv_k x).2.1.1, 32, .inl o_fS)), (o_hC, .inr (2, [.ref o_aC, .int o_mC, .int o_nC])), (o_aC, .inl ((vv_k x).2.1.1, 32, .inl o_fC)), (o_hN, .inr (2, [.ref o_aN, .int o_mN, .int o_nN])), (o_aN, .inl ((vv_k x).2.1.1, 32, .inl o_fN)), (o_hM, .inr (2, [.ref o_aM, .int o_mM, .int o_nM])), (o_aM, .inl ((vv_k x).2.1.1, 32, .inl o_fM)), (o_hU, .inr (2, [.ref o_aU, .int o_mU, .int o_nU])), (o_aU, .inl ((vv_k x).2.1.1, 32, .inl o_fU)), (i1, .inr (1, [.int ln, .int hb, .int ha, .int pu, .int hl, .int sm, .int hr, .ref p_hS, .ref p_hC, .ref p_hN, .ref p_hM, .ref p_hU])), (p_hS, .inr (2, [.ref p_aS, .int p_mS, .int nS])), (p_aS, .inl ((vv_k x).2.1.1, 32, .inl (va_cpy fS p_fS 0 0 32))), (p_hC, .inr (2, [.ref p_aC, .int p_mC, .int nC])), (p_aC, .inl ((vv_k x).2.1.1, 32, .inl (va_cpy fC p_fC 0 0 32))), (p_hN, .inr (2, [.ref p_aN, .int p_mN, .int nN])), (p_aN, .inl ((vv_k x).2.1.1, 32, .inl (va_cpy fN p_fN 0 0 32))), (p_hM, .inr (2, [.ref p_aM, .int p_mM, .int nM])), (p_aM, .inl ((vv_k x).2.1.1, 32, .inl (va_cpy fM p_fM 0 0 32))), (p_hU, .inr (2, [.ref p_aU, .int p_mU, .int nU])), (p_aU, .inl ((vv_k x).2.1.1, 32, .inl (va_cpy fU p_fU 0 0 32)))]) F (c_X2_copyFrom (vv_l x) (vv_k x) i1 p_hS p_hC p_hN p_hM p_hU p_ln p_hb p_ha p_pu p_hl p_sm p_hr p_aS p_mS p_nS p_fS p_aC p_mC p_nC p_fC p_aN p_mN p_nN p_fN p_aM p_mM p_nM p_fM p_aU p_mU p_nU p_fU hP hS hC hN hM hU ln hb ha pu hl sm hr aS mS nS fS aC mC nC fC aN mN nN fN aM mM nM fM aU mU nU fU) mv_X7_252 dX7_image_45 (by decide) rfl rfl (Nat.le_of_ble_eq_true rfl) rfl (by decide) (Eq.trans (b := [i1, p_hS, p_aS, p_hC, p_aC, p_hN, p_aN, p_hM, p_aM, p_hU, p_aU, hP, hS, aS, hC, aC, hN, aN, hM, aM, hU, aU]) rfl rfl) rfl (by simp only [vv_up, List.set_cons_zero, List.set_cons_succ]) ?_
      refine vv_aload_n F dX7_image_48 rfl rfl ?_
      refine vv_iconst (v := 1) F dX7_image_49 (by decide) ?_
      refine vv_put 0 (ws' := [(hX, .inr (6, [.ref hP, .ref dP, .ref i0, .ref i1, .int k0, .int 1, .ref hE, .ref hW, .ref hG, .ref hT, .long abv, .long blw, .int rb, .int rn, .int rf])), (hP, .inr (1, [.int ln, .int hb, .int ha, .int pu, .int hl, .int sm, .int hr, .ref hS, .ref hC, .ref hN, .ref hM, .ref hU])), (hS, .inr (2, [.ref aS, .int mS, .int nS])), (aS, .inl ((vv_k x).2.1.1, 32, .inl fS)), (hC, .inr (2, [.ref aC, .int mC, .int nC])), (aC, .inl ((vv_k x).2.1.1, 32, .inl fC)), (hN, .inr (2, [.ref aN, .int mN, .int nN])), (aN, .inl ((vv_k x).2.1.1, 32, .inl fN)), (hM, .inr (2, [.ref aM, .int mM, .int nM])), (aM, .inl ((vv_k x).2.1.1, 32, .inl fM)), (hU, .inr (2, [.ref aU, .int mU, .int nU])), (aU, .inl ((vv_k x).2.1.1, 32, .inl fU)), (i0, .inr (1, [.int o_ln, .int o_hb, .int o_ha, .int o_pu, .int o_hl, .int o_sm, .int o_hr, .ref o_hS, .ref o_hC, .ref o_hN, .ref o_hM, .ref o_hU])), (o_hS, .inr (2, [.ref o_aS, .int o_mS, .int o_nS])), (o_aS, .inl ((vv_k x).2.1.1, 32, .inl o_fS)), (o_hC, .inr (2, [.ref o_aC, .int o_mC, .int o_nC])), (o_aC, .inl ((vv_k x).2.1.1, 32, .inl o_fC)), (o_hN, .inr (2, [.ref o_aN, .int o_mN, .int o_nN])), (o_aN, .inl ((vv_k x).2.1.1, 32, .inl o_fN)), (o_hM, .inr (2, [.ref o_aM, .int o_mM, .int o_nM])), (o_aM, .inl ((vv_k x).2.1.1, 32, .inl o_fM)), (o_hU, .inr (2, [.ref o_aU, .int o_mU, .int o_nU])), (o_aU, .inl ((vv_k x).2.1.1, 32, .inl o_fU)), (i1, .inr (1, [.int ln, .int hb, .int ha, .int pu, .int hl, .int sm, .int hr, .ref p_hS, .ref p_hC, .ref p_hN, .ref p_hM, .ref p_hU])), (p_hS, .inr (2, [.ref p_aS, .int p_mS, .int nS])), (p_aS, .inl ((vv_k x).2.1.1, 32, .inl (va_cpy fS p_fS 0 0 32))), (p_hC, .inr (2, [.ref p_aC, .int p_mC, .int nC])), (p_aC, .inl ((vv_k x).2.1.1, 32, .inl (va_cpy fC p_fC 0 0 32))), (p_hN, .inr (2, [.ref p_aN, .int p_mN, .int nN])), (p_aN, .inl ((vv_k x).2.1.1, 32, .inl (va_cpy fN p_fN 0 0 32))), (p_hM, .inr (2, [.ref p_aM, .int p_mM, .int nM])), (p_aM, .inl ((vv_k x).2.1.1, 32, .inl (va_cpy fM p_fM 0 0 32))), (p_hU, .inr (2, [.ref p_aU, .int p_mU, .int nU])), (p_aU, .inl ((vv_k x).2.1.1, 32, .inl (va_cpy fU p_fU 0 0 32)))]) F fl_X7_259 dX7_image_50 rfl (by decide) (by decide) (Nat.le_of_ble_eq_true rfl) rfl ?_
      refine vv_iconst (v := 1) F dX7_image_53 (by decide) ?_
      exact vv_iret F hR dX7_image_54 (congrArg (fun z => some (Value.int z)) ((if_pos h_1).trans ((if_neg h_2).trans rfl))) (by simp only [g_X7_image_0_4, g_X7_image_0_5, g_X7_image_0_12, g_X7_image_12_0, g_X7_image_12_1, g_X7_image_12_2, g_X7_image_12_3, g_X7_image_12_4, g_X7_image_12_5, g_X7_image_12_6, g_X7_image_13_2, g_X7_image_14, g_X7_image_15_2, g_X7_image_16, g_X7_image_17_2, g_X7_image_18, g_X7_image_19_2, g_X7_image_20, g_X7_image_21_2, g_X7_image_22, g_X7_image_23_0, g_X7_image_23_1, g_X7_image_23_2, g_X7_image_23_3, g_X7_image_23_4, g_X7_image_23_5, g_X7_image_23_6, g_X7_image_24_2, g_X7_image_25, g_X7_image_26_2, g_X7_image_27, g_X7_image_28_2, g_X7_image_29, g_X7_image_30_2, g_X7_image_31, g_X7_image_32_2, g_X7_image_33, if_pos h_1, if_neg h_2])
    · refine vv_aload_n F dX7_image_18 rfl rfl ?_
      refine vv_get 0 F fl_X7_19 dX7_image_19 rfl rfl ?_
      refine vv_aload_n F dX7_image_22 rfl rfl ?_
      refine vv_get 0 F fl_X7_10 dX7_image_23 rfl rfl ?_
      refine vv_callV (As := [.ref hP]) (rest := []) [12, 13, 14, 15, 16, 17, 18, 19, 20, 21, 22, 1, 2, 3, 4, 5, 6, 7, 8, 9, 10, 11] 12 (ws' := [(hX, .inr (6, [.ref hP, .ref dP, .ref i0, .ref i1, .int k0, .int k1, .ref hE, .ref hW, .ref hG, .ref hT, .long abv, .long blw, .int rb, .int rn, .int rf])), (hP, .inr (1, [.int ln, .int hb, .int ha, .int pu, .int hl, .int sm, .int hr, .ref hS, .ref hC, .ref hN, .ref hM, .ref hU])), (hS, .inr (2, [.ref aS, .int mS, .int nS])), (aS, .inl ((vv_k x).2.1.1, 32, .inl fS)), (hC, .inr (2, [.ref aC, .int mC, .int nC])), (aC, .inl ((vv_k x).2.1.1, 32, .inl fC)), (hN, .inr (2, [.ref aN, .int mN, .int nN])), (aN, .inl ((vv_k x).2.1.1, 32, .inl fN)), (hM, .inr (2, [.ref aM, .int mM, .int nM])), (aM, .inl ((vv_k x).2.1.1, 32, .inl fM)), (hU, .inr (2, [.ref aU, .int mU, .int nU])), (aU, .inl ((vv_k x).2.1.1, 32, .inl fU)), (i0, .inr (1, [.int ln, .int hb, .int ha, .int pu, .int hl, .int sm, .int hr, .ref o_hS, .ref o_hC, .ref o_hN, .ref o_hM, .ref o_hU])), (o_hS, .inr (2, [.ref o_aS, .int o_mS, .int nS])), (o_aS, .inl ((vv_k x).2.1.1, 32, .inl (va_cpy fS o_fS 0 0 32))), (o_hC, .inr (2, [.ref o_aC, .int o_mC, .int nC])), (o_aC, .inl ((vv_k x).2.1.1, 32, .inl (va_cpy fC o_fC 0 0 32))), (o_hN, .inr (2, [.ref o_aN, .int o_mN, .int nN])), (o_aN, .inl ((vv_k x).2.1.1, 32, .inl (va_cpy fN o_fN 0 0 32))), (o_hM, .inr (2, [.ref o_aM, .int o_mM, .int nM])), (o_aM, .inl ((vv_k x).2.1.1, 32, .inl (va_cpy fM o_fM 0 0 32))), (o_hU, .inr (2, [.ref o_aU, .int o_mU, .int nU])), (o_aU, .inl ((vv_k x).2.1.1, 32, .inl (va_cpy fU o_fU 0 0 32))), (i1, .inr (1, [.int p_ln, .int p_hb, .int p_ha, .int p_pu, .int p_hl, .int p_sm, .int p_hr, .ref p_hS, .ref p_hC, .ref p_hN, .ref p_hM, .ref p_hU])), (p_hS, .inr (2, [.ref p_aS, .int p_mS, .int p_nS])), (p_aS, .inl ((vv_k x).2.1.1, 32, .inl p_fS)), (p_hC, .inr (2, [.ref p_aC, .int p_mC, .int p_nC])), (p_aC, .inl ((vv_k x).2.1.1, 32, .inl p_fC)), (p_hN, .inr (2, [.ref p_aN, .int p_mN, .int p_nN])), (p_aN, .inl ((vv_k x).2.1.1, 32, .inl p_fN)), (p_hM, .inr (2, [.ref p_aM, .int p_mM, .int p_nM])), (p_aM, .inl ((vv_k x).2.1.1, 32, .inl p_fM)), (p_hU, .inr (2, [.ref p_aU, .int p_mU, .int p_nU])), (p_aU, .inl ((vv_k x).2.1.1, 32, .inl p_fU))]) F (c_X2_copyFrom (vv_l x) (vv_k x) i0 o_hS o_hC o_hN o_hM o_hU o_ln o_hb o_ha o_pu o_hl o_sm o_hr o_aS o_mS o_nS o_fS o_aC o_mC o_nC o_fC o_aN o_mN o_nN o_fN o_aM o_mM o_nM o_fM o_aU o_mU o_nU o_fU hP hS hC hN hM hU ln hb ha pu hl sm hr aS mS nS fS aC mC nC fC aN mN nN fN aM mM nM fM aU mU nU fU) mv_X7_252 dX7_image_26 (by decide) rfl rfl (Nat.le_of_ble_eq_true rfl) rfl (by decide) (Eq.trans (b := [i0, o_hS, o_aS, o_hC, o_aC, o_hN, o_aN, o_hM, o_aM, o_hU, o_aU, hP, hS, aS, hC, aC, hN, aN, hM, aM, hU, aU]) rfl rfl) rfl (by simp only [vv_up, List.set_cons_zero, List.set_cons_succ]) ?_
      refine vv_aload_n F dX7_image_29 rfl rfl ?_
      refine vv_iconst (v := 1) F dX7_image_30 (by decide) ?_
      refine vv_put 0 (ws' := [(hX, .inr (6, [.ref hP, .ref dP, .ref i0, .ref i1, .int 1, .int k1, .ref hE, .ref hW, .ref hG, .ref hT, .long abv, .long blw, .int rb, .int rn, .int rf])), (hP, .inr (1, [.int ln, .int hb, .int ha, .int pu, .int hl, .int sm, .int hr, .ref hS, .ref hC, .ref hN, .ref hM, .ref hU])), (hS, .inr (2, [.ref aS, .int mS, .int nS])), (aS, .inl ((vv_k x).2.1.1, 32, .inl fS)), (hC, .inr (2, [.ref aC, .int mC, .int nC])), (aC, .inl ((vv_k x).2.1.1, 32, .inl fC)), (hN, .inr (2, [.ref aN, .int mN, .int nN])), (aN, .inl ((vv_k x).2.1.1, 32, .inl fN)), (hM, .inr (2, [.ref aM, .int mM, .int nM])), (aM, .inl ((vv_k x).2.1.1, 32, .inl fM)), (hU, .inr (2, [.ref aU, .int mU, .int nU])), (aU, .inl ((vv_k x).2.1.1, 32, .inl fU)), (i0, .inr (1, [.int ln, .int hb, .int ha, .int pu, .int hl, .int sm, .int hr, .ref o_hS, .ref o_hC, .ref o_hN, .ref o_hM, .ref o_hU])), (o_hS, .inr (2, [.ref o_aS, .int o_mS, .int nS])), (o_aS, .inl ((vv_k x).2.1.1, 32, .inl (va_cpy fS o_fS 0 0 32))), (o_hC, .inr (2, [.ref o_aC, .int o_mC, .int nC])), (o_aC, .inl ((vv_k x).2.1.1, 32, .inl (va_cpy fC o_fC 0 0 32))), (o_hN, .inr (2, [.ref o_aN, .int o_mN, .int nN])), (o_aN, .inl ((vv_k x).2.1.1, 32, .inl (va_cpy fN o_fN 0 0 32))), (o_hM, .inr (2, [.ref o_aM, .int o_mM, .int nM])), (o_aM, .inl ((vv_k x).2.1.1, 32, .inl (va_cpy fM o_fM 0 0 32))), (o_hU, .inr (2, [.ref o_aU, .int o_mU, .int nU])), (o_aU, .inl ((vv_k x).2.1.1, 32, .inl (va_cpy fU o_fU 0 0 32))), (i1, .inr (1, [.int p_ln, .int p_hb, .int p_ha, .int p_pu, .int p_hl, .int p_sm, .int p_hr, .ref p_hS, .ref p_hC, .ref p_hN, .ref p_hM, .ref p_hU])), (p_hS, .inr (2, [.ref p_aS, .int p_mS, .int p_nS])), (p_aS, .inl ((vv_k x).2.1.1, 32, .inl p_fS)), (p_hC, .inr (2, [.ref p_aC, .int p_mC, .int p_nC])), (p_aC, .inl ((vv_k x).2.1.1, 32, .inl p_fC)), (p_hN, .inr (2, [.ref p_aN, .int p_mN, .int p_nN])), (p_aN, .inl ((vv_k x).2.1.1, 32, .inl p_fN)), (p_hM, .inr (2, [.ref p_aM, .int p_mM, .int p_nM])), (p_aM, .inl ((vv_k x).2.1.1, 32, .inl p_fM)), (p_hU, .inr (2, [.ref p_aU, .int p_mU, .int p_nU])), (p_aU, .inl ((vv_k x).2.1.1, 32, .inl p_fU))]) F fl_X7_255 dX7_image_31 rfl (by decide) (by decide) (Nat.le_of_ble_eq_true rfl) rfl ?_
      refine vv_goto (tgt := 53) F dX7_image_34 (by decide) ?_
      refine vv_iconst (v := 1) F dX7_image_53 (by decide) ?_
      exact vv_iret F hR dX7_image_54 (congrArg (fun z => some (Value.int z)) ((if_pos h_1).trans ((if_pos h_2).trans rfl))) (by simp only [g_X7_image_0_4, g_X7_image_0_5, g_X7_image_0_12, g_X7_image_12_0, g_X7_image_12_1, g_X7_image_12_2, g_X7_image_12_3, g_X7_image_12_4, g_X7_image_12_5, g_X7_image_12_6, g_X7_image_13_2, g_X7_image_14, g_X7_image_15_2, g_X7_image_16, g_X7_image_17_2, g_X7_image_18, g_X7_image_19_2, g_X7_image_20, g_X7_image_21_2, g_X7_image_22, g_X7_image_23_0, g_X7_image_23_1, g_X7_image_23_2, g_X7_image_23_3, g_X7_image_23_4, g_X7_image_23_5, g_X7_image_23_6, g_X7_image_24_2, g_X7_image_25, g_X7_image_26_2, g_X7_image_27, g_X7_image_28_2, g_X7_image_29, g_X7_image_30_2, g_X7_image_31, g_X7_image_32_2, g_X7_image_33, if_pos h_1, if_pos h_2])
  · refine vv_aload_n F dX7_image_9 rfl rfl ?_
    refine vv_callV (As := []) (rest := []) [0] 0 (ws' := [(hX, .inr (6, [.ref hP, .ref dP, .ref i0, .ref i1, .int k0, .int k1, .ref hE, .ref hW, .ref hG, .ref hT, .long abv, .long blw, .int (rb + 1), .int rn, .int rf])), (hP, .inr (1, [.int ln, .int hb, .int ha, .int pu, .int hl, .int sm, .int hr, .ref hS, .ref hC, .ref hN, .ref hM, .ref hU])), (hS, .inr (2, [.ref aS, .int mS, .int nS])), (aS, .inl ((vv_k x).2.1.1, 32, .inl fS)), (hC, .inr (2, [.ref aC, .int mC, .int nC])), (aC, .inl ((vv_k x).2.1.1, 32, .inl fC)), (hN, .inr (2, [.ref aN, .int mN, .int nN])), (aN, .inl ((vv_k x).2.1.1, 32, .inl fN)), (hM, .inr (2, [.ref aM, .int mM, .int nM])), (aM, .inl ((vv_k x).2.1.1, 32, .inl fM)), (hU, .inr (2, [.ref aU, .int mU, .int nU])), (aU, .inl ((vv_k x).2.1.1, 32, .inl fU)), (i0, .inr (1, [.int o_ln, .int o_hb, .int o_ha, .int o_pu, .int o_hl, .int o_sm, .int o_hr, .ref o_hS, .ref o_hC, .ref o_hN, .ref o_hM, .ref o_hU])), (o_hS, .inr (2, [.ref o_aS, .int o_mS, .int o_nS])), (o_aS, .inl ((vv_k x).2.1.1, 32, .inl o_fS)), (o_hC, .inr (2, [.ref o_aC, .int o_mC, .int o_nC])), (o_aC, .inl ((vv_k x).2.1.1, 32, .inl o_fC)), (o_hN, .inr (2, [.ref o_aN, .int o_mN, .int o_nN])), (o_aN, .inl ((vv_k x).2.1.1, 32, .inl o_fN)), (o_hM, .inr (2, [.ref o_aM, .int o_mM, .int o_nM])), (o_aM, .inl ((vv_k x).2.1.1, 32, .inl o_fM)), (o_hU, .inr (2, [.ref o_aU, .int o_mU, .int o_nU])), (o_aU, .inl ((vv_k x).2.1.1, 32, .inl o_fU)), (i1, .inr (1, [.int p_ln, .int p_hb, .int p_ha, .int p_pu, .int p_hl, .int p_sm, .int p_hr, .ref p_hS, .ref p_hC, .ref p_hN, .ref p_hM, .ref p_hU])), (p_hS, .inr (2, [.ref p_aS, .int p_mS, .int p_nS])), (p_aS, .inl ((vv_k x).2.1.1, 32, .inl p_fS)), (p_hC, .inr (2, [.ref p_aC, .int p_mC, .int p_nC])), (p_aC, .inl ((vv_k x).2.1.1, 32, .inl p_fC)), (p_hN, .inr (2, [.ref p_aN, .int p_mN, .int p_nN])), (p_aN, .inl ((vv_k x).2.1.1, 32, .inl p_fN)), (p_hM, .inr (2, [.ref p_aM, .int p_mM, .int p_nM])), (p_aM, .inl ((vv_k x).2.1.1, 32, .inl p_fM)), (p_hU, .inr (2, [.ref p_aU, .int p_mU, .int p_nU])), (p_aU, .inl ((vv_k x).2.1.1, 32, .inl p_fU))]) F (c_X7_refuseBad (vv_l x) (vv_k x) hX hP dP i0 i1 k0 k1 hE hW hG hT abv blw rb rn rf) mv_X7_64 dX7_image_10 (by decide) rfl rfl (Nat.le_of_ble_eq_true rfl) rfl (by decide) (Eq.trans (b := [hX]) rfl rfl) rfl rfl ?_
    exact vv_iret F hR dX7_image_13 (congrArg (fun z => some (Value.int z)) ((if_neg h_1).trans rfl)) (by simp only [g_X7_image_0_4, g_X7_image_0_5, g_X7_image_0_12, g_X7_image_12_0, g_X7_image_12_1, g_X7_image_12_2, g_X7_image_12_3, g_X7_image_12_4, g_X7_image_12_5, g_X7_image_12_6, g_X7_image_13_2, g_X7_image_14, g_X7_image_15_2, g_X7_image_16, g_X7_image_17_2, g_X7_image_18, g_X7_image_19_2, g_X7_image_20, g_X7_image_21_2, g_X7_image_22, g_X7_image_23_0, g_X7_image_23_1, g_X7_image_23_2, g_X7_image_23_3, g_X7_image_23_4, g_X7_image_23_5, g_X7_image_23_6, g_X7_image_24_2, g_X7_image_25, g_X7_image_26_2, g_X7_image_27, g_X7_image_28_2, g_X7_image_29, g_X7_image_30_2, g_X7_image_31, g_X7_image_32_2, g_X7_image_33, if_neg h_1])
noncomputable def f_X7_from (k0 k1 i : Int32) : Int32 := (if p_X7_within i 0 1 then (if i = 0 then (if k0 = 0 then (-3) else 1) else (if k1 = 0 then (-3) else 1)) else (-2))
noncomputable def g_X7_from_0_12 (k0 k1 rb i : Int32) : Int32 := (if p_X7_within i 0 1 then (if i = 0 then (if k0 = 0 then rb else rb) else (if k1 = 0 then rb else rb)) else (rb + 1))
noncomputable def g_X7_from_0_13 (k0 k1 rn i : Int32) : Int32 := (if p_X7_within i 0 1 then (if i = 0 then (if k0 = 0 then (rn + 1) else rn) else (if k1 = 0 then (rn + 1) else rn)) else rn)
noncomputable def g_X7_from_1_0 (k0 k1 ln o_ln p_ln i : Int32) : Int32 := (if p_X7_within i 0 1 then (if i = 0 then (if k0 = 0 then ln else o_ln) else (if k1 = 0 then ln else p_ln)) else ln)
noncomputable def g_X7_from_1_1 (k0 k1 hb o_hb p_hb i : Int32) : Int32 := (if p_X7_within i 0 1 then (if i = 0 then (if k0 = 0 then hb else o_hb) else (if k1 = 0 then hb else p_hb)) else hb)
noncomputable def g_X7_from_1_2 (k0 k1 ha o_ha p_ha i : Int32) : Int32 := (if p_X7_within i 0 1 then (if i = 0 then (if k0 = 0 then ha else o_ha) else (if k1 = 0 then ha else p_ha)) else ha)
noncomputable def g_X7_from_1_3 (k0 k1 pu o_pu p_pu i : Int32) : Int32 := (if p_X7_within i 0 1 then (if i = 0 then (if k0 = 0 then pu else o_pu) else (if k1 = 0 then pu else p_pu)) else pu)
noncomputable def g_X7_from_1_4 (k0 k1 hl o_hl p_hl i : Int32) : Int32 := (if p_X7_within i 0 1 then (if i = 0 then (if k0 = 0 then hl else o_hl) else (if k1 = 0 then hl else p_hl)) else hl)
noncomputable def g_X7_from_1_5 (k0 k1 sm o_sm p_sm i : Int32) : Int32 := (if p_X7_within i 0 1 then (if i = 0 then (if k0 = 0 then sm else o_sm) else (if k1 = 0 then sm else p_sm)) else sm)
noncomputable def g_X7_from_1_6 (k0 k1 hr o_hr p_hr i : Int32) : Int32 := (if p_X7_within i 0 1 then (if i = 0 then (if k0 = 0 then hr else o_hr) else (if k1 = 0 then hr else p_hr)) else hr)
noncomputable def g_X7_from_2_2 (k0 k1 nS o_nS p_nS i : Int32) : Int32 := (if p_X7_within i 0 1 then (if i = 0 then (if k0 = 0 then nS else o_nS) else (if k1 = 0 then nS else p_nS)) else nS)
noncomputable def g_X7_from_3 (k0 k1 : Int32) (fS o_fS p_fS : Nat → Int32) (i : Int32) : Nat → Int32 := (if p_X7_within i 0 1 then (if i = 0 then (if k0 = 0 then fS else (va_cpy o_fS fS 0 0 32)) else (if k1 = 0 then fS else (va_cpy p_fS fS 0 0 32))) else fS)
noncomputable def g_X7_from_4_2 (k0 k1 nC o_nC p_nC i : Int32) : Int32 := (if p_X7_within i 0 1 then (if i = 0 then (if k0 = 0 then nC else o_nC) else (if k1 = 0 then nC else p_nC)) else nC)
noncomputable def g_X7_from_5 (k0 k1 : Int32) (fC o_fC p_fC : Nat → Int32) (i : Int32) : Nat → Int32 := (if p_X7_within i 0 1 then (if i = 0 then (if k0 = 0 then fC else (va_cpy o_fC fC 0 0 32)) else (if k1 = 0 then fC else (va_cpy p_fC fC 0 0 32))) else fC)
noncomputable def g_X7_from_6_2 (k0 k1 nN o_nN p_nN i : Int32) : Int32 := (if p_X7_within i 0 1 then (if i = 0 then (if k0 = 0 then nN else o_nN) else (if k1 = 0 then nN else p_nN)) else nN)
noncomputable def g_X7_from_7 (k0 k1 : Int32) (fN o_fN p_fN : Nat → Int32) (i : Int32) : Nat → Int32 := (if p_X7_within i 0 1 then (if i = 0 then (if k0 = 0 then fN else (va_cpy o_fN fN 0 0 32)) else (if k1 = 0 then fN else (va_cpy p_fN fN 0 0 32))) else fN)
noncomputable def g_X7_from_8_2 (k0 k1 nM o_nM p_nM i : Int32) : Int32 := (if p_X7_within i 0 1 then (if i = 0 then (if k0 = 0 then nM else o_nM) else (if k1 = 0 then nM else p_nM)) else nM)
noncomputable def g_X7_from_9 (k0 k1 : Int32) (fM o_fM p_fM : Nat → Int32) (i : Int32) : Nat → Int32 := (if p_X7_within i 0 1 then (if i = 0 then (if k0 = 0 then fM else (va_cpy o_fM fM 0 0 32)) else (if k1 = 0 then fM else (va_cpy p_fM fM 0 0 32))) else fM)
noncomputable def g_X7_from_10_2 (k0 k1 nU o_nU p_nU i : Int32) : Int32 := (if p_X7_within i 0 1 then (if i = 0 then (if k0 = 0 then nU else o_nU) else (if k1 = 0 then nU else p_nU)) else nU)
noncomputable def g_X7_from_11 (k0 k1 : Int32) (fU o_fU p_fU : Nat → Int32) (i : Int32) : Nat → Int32 := (if p_X7_within i 0 1 then (if i = 0 then (if k0 = 0 then fU else (va_cpy o_fU fU 0 0 32)) else (if k1 = 0 then fU else (va_cpy p_fU fU 0 0 32))) else fU)
theorem c_X7_from (l : Launch) (K : vv_K) (hX hP dP i0 i1 : Nat) (k0 k1 : Int32) (hE hW hG hT : Nat) (abv blw : Int64) (rb rn rf : Int32) (hS hC hN hM hU : Nat) (ln hb ha pu hl sm hr : Int32) (aS : Nat) (mS nS : Int32) (fS : Nat → Int32) (aC : Nat) (mC nC : Int32) (fC : Nat → Int32) (aN : Nat) (mN nN : Int32) (fN : Nat → Int32) (aM : Nat) (mM nM : Int32) (fM : Nat → Int32) (aU : Nat) (mU nU : Int32) (fU : Nat → Int32) (o_hS o_hC o_hN o_hM o_hU : Nat) (o_ln o_hb o_ha o_pu o_hl o_sm o_hr : Int32) (o_aS : Nat) (o_mS o_nS : Int32) (o_fS : Nat → Int32) (o_aC : Nat) (o_mC o_nC : Int32) (o_fC : Nat → Int32) (o_aN : Nat) (o_mN o_nN : Int32) (o_fN : Nat → Int32) (o_aM : Nat) (o_mM o_nM : Int32) (o_fM : Nat → Int32) (o_aU : Nat) (o_mU o_nU : Int32) (o_fU : Nat → Int32) (p_hS p_hC p_hN p_hM p_hU : Nat) (p_ln p_hb p_ha p_pu p_hl p_sm p_hr : Int32) (p_aS : Nat) (p_mS p_nS : Int32) (p_fS : Nat → Int32) (p_aC : Nat) (p_mC p_nC : Int32) (p_fC : Nat → Int32) (p_aN : Nat) (p_mN p_nN : Int32) (p_fN : Nat → Int32) (p_aM : Nat) (p_mM p_nM : Int32) (p_fM : Nat → Int32) (p_aU : Nat) (p_mU p_nU : Int32) (p_fU : Nat → Int32) (i : Int32)  : vv_C l K 4 yX7_from cX7_from 2 (some .int) [.ref hX, .int i] [(hX, .inr (6, [.ref hP, .ref dP, .ref i0, .ref i1, .int k0, .int k1, .ref hE, .ref hW, .ref hG, .ref hT, .long abv, .long blw, .int rb, .int rn, .int rf])), (hP, .inr (1, [.int ln, .int hb, .int ha, .int pu, .int hl, .int sm, .int hr, .ref hS, .ref hC, .ref hN, .ref hM, .ref hU])), (hS, .inr (2, [.ref aS, .int mS, .int nS])), (aS, .inl (K.2.1.1, 32, .inl fS)), (hC, .inr (2, [.ref aC, .int mC, .int nC])), (aC, .inl (K.2.1.1, 32, .inl fC)), (hN, .inr (2, [.ref aN, .int mN, .int nN])), (aN, .inl (K.2.1.1, 32, .inl fN)), (hM, .inr (2, [.ref aM, .int mM, .int nM])), (aM, .inl (K.2.1.1, 32, .inl fM)), (hU, .inr (2, [.ref aU, .int mU, .int nU])), (aU, .inl (K.2.1.1, 32, .inl fU)), (i0, .inr (1, [.int o_ln, .int o_hb, .int o_ha, .int o_pu, .int o_hl, .int o_sm, .int o_hr, .ref o_hS, .ref o_hC, .ref o_hN, .ref o_hM, .ref o_hU])), (o_hS, .inr (2, [.ref o_aS, .int o_mS, .int o_nS])), (o_aS, .inl (K.2.1.1, 32, .inl o_fS)), (o_hC, .inr (2, [.ref o_aC, .int o_mC, .int o_nC])), (o_aC, .inl (K.2.1.1, 32, .inl o_fC)), (o_hN, .inr (2, [.ref o_aN, .int o_mN, .int o_nN])), (o_aN, .inl (K.2.1.1, 32, .inl o_fN)), (o_hM, .inr (2, [.ref o_aM, .int o_mM, .int o_nM])), (o_aM, .inl (K.2.1.1, 32, .inl o_fM)), (o_hU, .inr (2, [.ref o_aU, .int o_mU, .int o_nU])), (o_aU, .inl (K.2.1.1, 32, .inl o_fU)), (i1, .inr (1, [.int p_ln, .int p_hb, .int p_ha, .int p_pu, .int p_hl, .int p_sm, .int p_hr, .ref p_hS, .ref p_hC, .ref p_hN, .ref p_hM, .ref p_hU])), (p_hS, .inr (2, [.ref p_aS, .int p_mS, .int p_nS])), (p_aS, .inl (K.2.1.1, 32, .inl p_fS)), (p_hC, .inr (2, [.ref p_aC, .int p_mC, .int p_nC])), (p_aC, .inl (K.2.1.1, 32, .inl p_fC)), (p_hN, .inr (2, [.ref p_aN, .int p_mN, .int p_nN])), (p_aN, .inl (K.2.1.1, 32, .inl p_fN)), (p_hM, .inr (2, [.ref p_aM, .int p_mM, .int p_nM])), (p_aM, .inl (K.2.1.1, 32, .inl p_fM)), (p_hU, .inr (2, [.ref p_aU, .int p_mU, .int p_nU])), (p_aU, .inl (K.2.1.1, 32, .inl p_fU))] (some (.int (f_X7_from k0 k1 i))) [(hX, .inr (6, [.ref hP, .ref dP, .ref i0, .ref i1, .int k0, .int k1, .ref hE, .ref hW, .ref hG, .ref hT, .long abv, .long blw, .int (g_X7_from_0_12 k0 k1 rb i), .int (g_X7_from_0_13 k0 k1 rn i), .int rf])), (hP, .inr (1, [.int (g_X7_from_1_0 k0 k1 ln o_ln p_ln i), .int (g_X7_from_1_1 k0 k1 hb o_hb p_hb i), .int (g_X7_from_1_2 k0 k1 ha o_ha p_ha i), .int (g_X7_from_1_3 k0 k1 pu o_pu p_pu i), .int (g_X7_from_1_4 k0 k1 hl o_hl p_hl i), .int (g_X7_from_1_5 k0 k1 sm o_sm p_sm i), .int (g_X7_from_1_6 k0 k1 hr o_hr p_hr i), .ref hS, .ref hC, .ref hN, .ref hM, .ref hU])), (hS, .inr (2, [.ref aS, .int mS, .int (g_X7_from_2_2 k0 k1 nS o_nS p_nS i)])), (aS, .inl (K.2.1.1, 32, .inl (g_X7_from_3 k0 k1 fS o_fS p_fS i))), (hC, .inr (2, [.ref aC, .int mC, .int (g_X7_from_4_2 k0 k1 nC o_nC p_nC i)])), (aC, .inl (K.2.1.1, 32, .inl (g_X7_from_5 k0 k1 fC o_fC p_fC i))), (hN, .inr (2, [.ref aN, .int mN, .int (g_X7_from_6_2 k0 k1 nN o_nN p_nN i)])), (aN, .inl (K.2.1.1, 32, .inl (g_X7_from_7 k0 k1 fN o_fN p_fN i))), (hM, .inr (2, [.ref aM, .int mM, .int (g_X7_from_8_2 k0 k1 nM o_nM p_nM i)])), (aM, .inl (K.2.1.1, 32, .inl (g_X7_from_9 k0 k1 fM o_fM p_fM i))), (hU, .inr (2, [.ref aU, .int mU, .int (g_X7_from_10_2 k0 k1 nU o_nU p_nU i)])), (aU, .inl (K.2.1.1, 32, .inl (g_X7_from_11 k0 k1 fU o_fU p_fU i))), (i0, .inr (1, [.int o_ln, .int o_hb, .int o_ha, .int o_pu, .int o_hl, .int o_sm, .int o_hr, .ref o_hS, .ref o_hC, .ref o_hN, .ref o_hM, .ref o_hU])), (o_hS, .inr (2, [.ref o_aS, .int o_mS, .int o_nS])), (o_aS, .inl (K.2.1.1, 32, .inl o_fS)), (o_hC, .inr (2, [.ref o_aC, .int o_mC, .int o_nC])), (o_aC, .inl (K.2.1.1, 32, .inl o_fC)), (o_hN, .inr (2, [.ref o_aN, .int o_mN, .int o_nN])), (o_aN, .inl (K.2.1.1, 32, .inl o_fN)), (o_hM, .inr (2, [.ref o_aM, .int o_mM, .int o_nM])), (o_aM, .inl (K.2.1.1, 32, .inl o_fM)), (o_hU, .inr (2, [.ref o_aU, .int o_mU, .int o_nU])), (o_aU, .inl (K.2.1.1, 32, .inl o_fU)), (i1, .inr (1, [.int p_ln, .int p_hb, .int p_ha, .int p_pu, .int p_hl, .int p_sm, .int p_hr, .ref p_hS, .ref p_hC, .ref p_hN, .ref p_hM, .ref p_hU])), (p_hS, .inr (2, [.ref p_aS, .int p_mS, .int p_nS])), (p_aS, .inl (K.2.1.1, 32, .inl p_fS)), (p_hC, .inr (2, [.ref p_aC, .int p_mC, .int p_nC])), (p_aC, .inl (K.2.1.1, 32, .inl p_fC)), (p_hN, .inr (2, [.ref p_aN, .int p_mN, .int p_nN])), (p_aN, .inl (K.2.1.1, 32, .inl p_fN)), (p_hM, .inr (2, [.ref p_aM, .int p_mM, .int p_nM])), (p_aM, .inl (K.2.1.1, 32, .inl p_fM)), (p_hU, .inr (2, [.ref p_aU, .int p_mU, .int p_nU])), (p_aU, .inl (K.2.1.1, 32, .inl p_fU))] := by
  refine vv_C.of (lv := [(0, .ref hX), (1, .int i)]) (by decide +kernel) (Nat.le_of_ble_eq_true rfl) rfl ?_
  intro x hl hK F hR; subst hl; obtain rfl := hK
  refine vv_iload_n F dX7_from_0 rfl rfl ?_
  refine vv_iconst (v := 0) F dX7_from_1 (by decide) ?_
  refine vv_iconst (v := 1) F dX7_from_2 (by decide) ?_
  refine vv_callSp (As := [.int i, .int 0, .int 1]) (rest := []) [] F (c_X7_within (vv_l x) (vv_k x) i 0 1) ms_X7_60 dX7_from_3 (by decide) rfl rfl (Nat.le_of_ble_eq_true rfl) rfl (by decide) ?_
  refine vv_ifz_ne (tgt := 14) F dX7_from_6 (by decide) (fun h_1 => ?_) (fun h_1 => ?_)
  · have h_1r := wi_rng (a := 0) (b := 1) (by decide) (by decide) h_1
    have h_1c := nn_cl (a := i) (by omega)
    refine vv_iload_n F dX7_from_14 rfl rfl ?_
    refine vv_if_ne (tgt := 28) F dX7_from_15 (by decide) (fun h_2 => ?_) (fun h_2 => ?_)
    · refine vv_aload_n F dX7_from_28 rfl rfl ?_
      refine vv_get 0 F fl_X7_259 dX7_from_29 rfl rfl ?_
      refine vv_if_ne (tgt := 40) F dX7_from_32 (by decide) (fun h_3 => ?_) (fun h_3 => ?_)
      · refine vv_aload_n F dX7_from_40 rfl rfl ?_
        refine vv_get 0 F fl_X7_10 dX7_from_41 rfl rfl ?_
        refine vv_iload_n F dX7_from_44 rfl rfl ?_
        refine vv_if_ne (tgt := 55) F dX7_from_45 (by decide) (fun h_4 => ?_) (fun h_4 => ?_)
        · refine vv_aload_n F dX7_from_55 rfl rfl ?_
          refine vv_get 0 F fl_X7_22 dX7_from_56 rfl rfl ?_
          refine vv_callV (As := [.ref i1]) (rest := []) [1, 2, 3, 4, 5, 6, 7, 8, 9, 10, 11, 23, 24, 25, 26, 27, 28, 29, 30, 31, 32, 33] 1 (ws' := [(hX, .inr (6, [.ref hP, .ref dP, .ref i0, .ref i1, .int k0, .int k1, .ref hE, .ref hW, .ref hG, .ref hT, .long abv, .long blw, .int rb, .int rn, .int rf])), (hP, .inr (1, [.int p_ln, .int p_hb, .int p_ha, .int p_pu, .int p_hl, .int p_sm, .int p_hr, .ref hS, .ref hC, .ref hN, .ref hM, .ref hU])), (hS, .inr (2, [.ref aS, .int mS, .int p_nS])), (aS, .inl ((vv_k x).2.1.1, 32, .inl (va_cpy p_fS fS 0 0 32))), (hC, .inr (2, [.ref aC, .int mC, .int p_nC])), (aC, .inl ((vv_k x).2.1.1, 32, .inl (va_cpy p_fC fC 0 0 32))), (hN, .inr (2, [.ref aN, .int mN, .int p_nN])), (aN, .inl ((vv_k x).2.1.1, 32, .inl (va_cpy p_fN fN 0 0 32))), (hM, .inr (2, [.ref aM, .int mM, .int p_nM])), (aM, .inl ((vv_k x).2.1.1, 32, .inl (va_cpy p_fM fM 0 0 32))), (hU, .inr (2, [.ref aU, .int mU, .int p_nU])), (aU, .inl ((vv_k x).2.1.1, 32, .inl (va_cpy p_fU fU 0 0 32))), (i0, .inr (1, [.int o_ln, .int o_hb, .int o_ha, .int o_pu, .int o_hl, .int o_sm, .int o_hr, .ref o_hS, .ref o_hC, .ref o_hN, .ref o_hM, .ref o_hU])), (o_hS, .inr (2, [.ref o_aS, .int o_mS, .int o_nS])), (o_aS, .inl ((vv_k x).2.1.1, 32, .inl o_fS)), (o_hC, .inr (2, [.ref o_aC, .int o_mC, .int o_nC])), (o_aC, .inl ((vv_k x).2.1.1, 32, .inl o_fC)), (o_hN, .inr (2, [.ref o_aN, .int o_mN, .int o_nN])), (o_aN, .inl ((vv_k x).2.1.1, 32, .inl o_fN)), (o_hM, .inr (2, [.ref o_aM, .int o_mM, .int o_nM])), (o_aM, .inl ((vv_k x).2.1.1, 32, .inl o_fM)), (o_hU, .inr (2, [.ref o_aU, .int o_mU, .int o_nU])), (o_aU, .inl ((vv_k x).2.1.1, 32, .inl o_fU)), (i1, .inr (1, [.int p_ln, .int p_hb, .int p_ha, .int p_pu, .int p_hl, .int p_sm, .int p_hr, .ref p_hS, .ref p_hC, .ref p_hN, .ref p_hM, .ref p_hU])), (p_hS, .inr (2, [.ref p_aS, .int p_mS, .int p_nS])), (p_aS, .inl ((vv_k x).2.1.1, 32, .inl p_fS)), (p_hC, .inr (2, [.ref p_aC, .int p_mC, .int p_nC])), (p_aC, .inl ((vv_k x).2.1.1, 32, .inl p_fC)), (p_hN, .inr (2, [.ref p_aN, .int p_mN, .int p_nN])), (p_aN, .inl ((vv_k x).2.1.1, 32, .inl p_fN)), (p_hM, .inr (2, [.ref p_aM, .int p_mM, .int p_nM])), (p_aM, .inl ((vv_k x).2.1.1, 32, .inl p_fM)), (p_hU, .inr (2, [.ref p_aU, .int p_mU, .int p_nU])), (p_aU, .inl ((vv_k x).2.1.1, 32, .inl p_fU))]) F (c_X2_copyFrom (vv_l x) (vv_k x) hP hS hC hN hM hU ln hb ha pu hl sm hr aS mS nS fS aC mC nC fC aN mN nN fN aM mM nM fM aU mU nU fU i1 p_hS p_hC p_hN p_hM p_hU p_ln p_hb p_ha p_pu p_hl p_sm p_hr p_aS p_mS p_nS p_fS p_aC p_mC p_nC p_fC p_aN p_mN p_nN p_fN p_aM p_mM p_nM p_fM p_aU p_mU p_nU p_fU) mv_X7_252 dX7_from_59 (by decide) rfl rfl (Nat.le_of_ble_eq_true rfl) rfl (by decide) (Eq.trans (b := [hP, hS, aS, hC, aC, hN, aN, hM, aM, hU, aU, i1, p_hS, p_aS, p_hC, p_aC, p_hN, p_aN, p_hM, p_aM, p_hU, p_aU]) rfl rfl) rfl (by simp only [vv_up, List.set_cons_zero, List.set_cons_succ]) ?_
          refine vv_iconst (v := 1) F dX7_from_62 (by decide) ?_
          exact vv_iret F hR dX7_from_63 (congrArg (fun z => some (Value.int z)) ((if_pos h_1).trans ((if_neg h_2).trans ((if_neg h_3).trans rfl)))) (by simp only [g_X7_from_0_12, g_X7_from_0_13, g_X7_from_1_0, g_X7_from_1_1, g_X7_from_1_2, g_X7_from_1_3, g_X7_from_1_4, g_X7_from_1_5, g_X7_from_1_6, g_X7_from_2_2, g_X7_from_3, g_X7_from_4_2, g_X7_from_5, g_X7_from_6_2, g_X7_from_7, g_X7_from_8_2, g_X7_from_9, g_X7_from_10_2, g_X7_from_11, if_pos h_1, if_neg h_2, if_neg h_3])
        · exact absurd h_4 h_2
      · refine vv_aload_n F dX7_from_35 rfl rfl ?_
        refine vv_callV (As := []) (rest := []) [0] 0 (ws' := [(hX, .inr (6, [.ref hP, .ref dP, .ref i0, .ref i1, .int k0, .int k1, .ref hE, .ref hW, .ref hG, .ref hT, .long abv, .long blw, .int rb, .int (rn + 1), .int rf])), (hP, .inr (1, [.int ln, .int hb, .int ha, .int pu, .int hl, .int sm, .int hr, .ref hS, .ref hC, .ref hN, .ref hM, .ref hU])), (hS, .inr (2, [.ref aS, .int mS, .int nS])), (aS, .inl ((vv_k x).2.1.1, 32, .inl fS)), (hC, .inr (2, [.ref aC, .int mC, .int nC])), (aC, .inl ((vv_k x).2.1.1, 32, .inl fC)), (hN, .inr (2, [.ref aN, .int mN, .int nN])), (aN, .inl ((vv_k x).2.1.1, 32, .inl fN)), (hM, .inr (2, [.ref aM, .int mM, .int nM])), (aM, .inl ((vv_k x).2.1.1, 32, .inl fM)), (hU, .inr (2, [.ref aU, .int mU, .int nU])), (aU, .inl ((vv_k x).2.1.1, 32, .inl fU)), (i0, .inr (1, [.int o_ln, .int o_hb, .int o_ha, .int o_pu, .int o_hl, .int o_sm, .int o_hr, .ref o_hS, .ref o_hC, .ref o_hN, .ref o_hM, .ref o_hU])), (o_hS, .inr (2, [.ref o_aS, .int o_mS, .int o_nS])), (o_aS, .inl ((vv_k x).2.1.1, 32, .inl o_fS)), (o_hC, .inr (2, [.ref o_aC, .int o_mC, .int o_nC])), (o_aC, .inl ((vv_k x).2.1.1, 32, .inl o_fC)), (o_hN, .inr (2, [.ref o_aN, .int o_mN, .int o_nN])), (o_aN, .inl ((vv_k x).2.1.1, 32, .inl o_fN)), (o_hM, .inr (2, [.ref o_aM, .int o_mM, .int o_nM])), (o_aM, .inl ((vv_k x).2.1.1, 32, .inl o_fM)), (o_hU, .inr (2, [.ref o_aU, .int o_mU, .int o_nU])), (o_aU, .inl ((vv_k x).2.1.1, 32, .inl o_fU)), (i1, .inr (1, [.int p_ln, .int p_hb, .int p_ha, .int p_pu, .int p_hl, .int p_sm, .int p_hr, .ref p_hS, .ref p_hC, .ref p_hN, .ref p_hM, .ref p_hU])), (p_hS, .inr (2, [.ref p_aS, .int p_mS, .int p_nS])), (p_aS, .inl ((vv_k x).2.1.1, 32, .inl p_fS)), (p_hC, .inr (2, [.ref p_aC, .int p_mC, .int p_nC])), (p_aC, .inl ((vv_k x).2.1.1, 32, .inl p_fC)), (p_hN, .inr (2, [.ref p_aN, .int p_mN, .int p_nN])), (p_aN, .inl ((vv_k x).2.1.1, 32, .inl p_fN)), (p_hM, .inr (2, [.ref p_aM, .int p_mM, .int p_nM])), (p_aM, .inl ((vv_k x).2.1.1, 32, .inl p_fM)), (p_hU, .inr (2, [.ref p_aU, .int p_mU, .int p_nU])), (p_aU, .inl ((vv_k x).2.1.1, 32, .inl p_fU))]) F (c_X7_refuseNo (vv_l x) (vv_k x) hX hP dP i0 i1 k0 k1 hE hW hG hT abv blw rb rn rf) mv_X7_134 dX7_from_36 (by decide) rfl rfl (Nat.le_of_ble_eq_true rfl) rfl (by decide) (Eq.trans (b := [hX]) rfl rfl) rfl rfl ?_
        exact vv_iret F hR dX7_from_39 (congrArg (fun z => some (Value.int z)) ((if_pos h_1).trans ((if_neg h_2).trans ((if_pos h_3).trans rfl)))) (by simp only [g_X7_from_0_12, g_X7_from_0_13, g_X7_from_1_0, g_X7_from_1_1, g_X7_from_1_2, g_X7_from_1_3, g_X7_from_1_4, g_X7_from_1_5, g_X7_from_1_6, g_X7_from_2_2, g_X7_from_3, g_X7_from_4_2, g_X7_from_5, g_X7_from_6_2, g_X7_from_7, g_X7_from_8_2, g_X7_from_9, g_X7_from_10_2, g_X7_from_11, if_pos h_1, if_neg h_2, if_pos h_3])
    · refine vv_aload_n F dX7_from_18 rfl rfl ?_
      refine vv_get 0 F fl_X7_255 dX7_from_19 rfl rfl ?_
      refine vv_if_ne (tgt := 40) F dX7_from_22 (by decide) (fun h_5 => ?_) (fun h_5 => ?_)
      · refine vv_aload_n F dX7_from_40 rfl rfl ?_
        refine vv_get 0 F fl_X7_10 dX7_from_41 rfl rfl ?_
        refine vv_iload_n F dX7_from_44 rfl rfl ?_
        refine vv_if_ne (tgt := 55) F dX7_from_45 (by decide) (fun h_6 => ?_) (fun h_6 => ?_)
        · exact absurd h_2 h_6
        · refine vv_aload_n F dX7_from_48 rfl rfl ?_
          refine vv_get 0 F fl_X7_19 dX7_from_49 rfl rfl ?_
          refine vv_goto (tgt := 59) F dX7_from_52 (by decide) ?_
          refine vv_callV (As := [.ref i0]) (rest := []) [1, 2, 3, 4, 5, 6, 7, 8, 9, 10, 11, 12, 13, 14, 15, 16, 17, 18, 19, 20, 21, 22] 1 (ws' := [(hX, .inr (6, [.ref hP, .ref dP, .ref i0, .ref i1, .int k0, .int k1, .ref hE, .ref hW, .ref hG, .ref hT, .long abv, .long blw, .int rb, .int rn, .int rf])), (hP, .inr (1, [.int o_ln, .int o_hb, .int o_ha, .int o_pu, .int o_hl, .int o_sm, .int o_hr, .ref hS, .ref hC, .ref hN, .ref hM, .ref hU])), (hS, .inr (2, [.ref aS, .int mS, .int o_nS])), (aS, .inl ((vv_k x).2.1.1, 32, .inl (va_cpy o_fS fS 0 0 32))), (hC, .inr (2, [.ref aC, .int mC, .int o_nC])), (aC, .inl ((vv_k x).2.1.1, 32, .inl (va_cpy o_fC fC 0 0 32))), (hN, .inr (2, [.ref aN, .int mN, .int o_nN])), (aN, .inl ((vv_k x).2.1.1, 32, .inl (va_cpy o_fN fN 0 0 32))), (hM, .inr (2, [.ref aM, .int mM, .int o_nM])), (aM, .inl ((vv_k x).2.1.1, 32, .inl (va_cpy o_fM fM 0 0 32))), (hU, .inr (2, [.ref aU, .int mU, .int o_nU])), (aU, .inl ((vv_k x).2.1.1, 32, .inl (va_cpy o_fU fU 0 0 32))), (i0, .inr (1, [.int o_ln, .int o_hb, .int o_ha, .int o_pu, .int o_hl, .int o_sm, .int o_hr, .ref o_hS, .ref o_hC, .ref o_hN, .ref o_hM, .ref o_hU])), (o_hS, .inr (2, [.ref o_aS, .int o_mS, .int o_nS])), (o_aS, .inl ((vv_k x).2.1.1, 32, .inl o_fS)), (o_hC, .inr (2, [.ref o_aC, .int o_mC, .int o_nC])), (o_aC, .inl ((vv_k x).2.1.1, 32, .inl o_fC)), (o_hN, .inr (2, [.ref o_aN, .int o_mN, .int o_nN])), (o_aN, .inl ((vv_k x).2.1.1, 32, .inl o_fN)), (o_hM, .inr (2, [.ref o_aM, .int o_mM, .int o_nM])), (o_aM, .inl ((vv_k x).2.1.1, 32, .inl o_fM)), (o_hU, .inr (2, [.ref o_aU, .int o_mU, .int o_nU])), (o_aU, .inl ((vv_k x).2.1.1, 32, .inl o_fU)), (i1, .inr (1, [.int p_ln, .int p_hb, .int p_ha, .int p_pu, .int p_hl, .int p_sm, .int p_hr, .ref p_hS, .ref p_hC, .ref p_hN, .ref p_hM, .ref p_hU])), (p_hS, .inr (2, [.ref p_aS, .int p_mS, .int p_nS])), (p_aS, .inl ((vv_k x).2.1.1, 32, .inl p_fS)), (p_hC, .inr (2, [.ref p_aC, .int p_mC, .int p_nC])), (p_aC, .inl ((vv_k x).2.1.1, 32, .inl p_fC)), (p_hN, .inr (2, [.ref p_aN, .int p_mN, .int p_nN])), (p_aN, .inl ((vv_k x).2.1.1, 32, .inl p_fN)), (p_hM, .inr (2, [.ref p_aM, .int p_mM, .int p_nM])), (p_aM, .inl ((vv_k x).2.1.1, 32, .inl p_fM)), (p_hU, .inr (2, [.ref p_aU, .int p_mU, .int p_nU])), (p_aU, .inl ((vv_k x).2.1.1, 32, .inl p_fU))]) F (c_X2_copyFrom (vv_l x) (vv_k x) hP hS hC hN hM hU ln hb ha pu hl sm hr aS mS nS fS aC mC nC fC aN mN nN fN aM mM nM fM aU mU nU fU i0 o_hS o_hC o_hN o_hM o_hU o_ln o_hb o_ha o_pu o_hl o_sm o_hr o_aS o_mS o_nS o_fS o_aC o_mC o_nC o_fC o_aN o_mN o_nN o_fN o_aM o_mM o_nM o_fM o_aU o_mU o_nU o_fU) mv_X7_252 dX7_from_59 (by decide) rfl rfl (Nat.le_of_ble_eq_true rfl) rfl (by decide) (Eq.trans (b := [hP, hS, aS, hC, aC, hN, aN, hM, aM, hU, aU, i0, o_hS, o_aS, o_hC, o_aC, o_hN, o_aN, o_hM, o_aM, o_hU, o_aU]) rfl rfl) rfl (by simp only [vv_up, List.set_cons_zero, List.set_cons_succ]) ?_
          refine vv_iconst (v := 1) F dX7_from_62 (by decide) ?_
          exact vv_iret F hR dX7_from_63 (congrArg (fun z => some (Value.int z)) ((if_pos h_1).trans ((if_pos h_2).trans ((if_neg h_5).trans rfl)))) (by simp only [g_X7_from_0_12, g_X7_from_0_13, g_X7_from_1_0, g_X7_from_1_1, g_X7_from_1_2, g_X7_from_1_3, g_X7_from_1_4, g_X7_from_1_5, g_X7_from_1_6, g_X7_from_2_2, g_X7_from_3, g_X7_from_4_2, g_X7_from_5, g_X7_from_6_2, g_X7_from_7, g_X7_from_8_2, g_X7_from_9, g_X7_from_10_2, g_X7_from_11, if_pos h_1, if_pos h_2, if_neg h_5])
      · refine vv_goto (tgt := 35) F dX7_from_25 (by decide) ?_
        refine vv_aload_n F dX7_from_35 rfl rfl ?_
        refine vv_callV (As := []) (rest := []) [0] 0 (ws' := [(hX, .inr (6, [.ref hP, .ref dP, .ref i0, .ref i1, .int k0, .int k1, .ref hE, .ref hW, .ref hG, .ref hT, .long abv, .long blw, .int rb, .int (rn + 1), .int rf])), (hP, .inr (1, [.int ln, .int hb, .int ha, .int pu, .int hl, .int sm, .int hr, .ref hS, .ref hC, .ref hN, .ref hM, .ref hU])), (hS, .inr (2, [.ref aS, .int mS, .int nS])), (aS, .inl ((vv_k x).2.1.1, 32, .inl fS)), (hC, .inr (2, [.ref aC, .int mC, .int nC])), (aC, .inl ((vv_k x).2.1.1, 32, .inl fC)), (hN, .inr (2, [.ref aN, .int mN, .int nN])), (aN, .inl ((vv_k x).2.1.1, 32, .inl fN)), (hM, .inr (2, [.ref aM, .int mM, .int nM])), (aM, .inl ((vv_k x).2.1.1, 32, .inl fM)), (hU, .inr (2, [.ref aU, .int mU, .int nU])), (aU, .inl ((vv_k x).2.1.1, 32, .inl fU)), (i0, .inr (1, [.int o_ln, .int o_hb, .int o_ha, .int o_pu, .int o_hl, .int o_sm, .int o_hr, .ref o_hS, .ref o_hC, .ref o_hN, .ref o_hM, .ref o_hU])), (o_hS, .inr (2, [.ref o_aS, .int o_mS, .int o_nS])), (o_aS, .inl ((vv_k x).2.1.1, 32, .inl o_fS)), (o_hC, .inr (2, [.ref o_aC, .int o_mC, .int o_nC])), (o_aC, .inl ((vv_k x).2.1.1, 32, .inl o_fC)), (o_hN, .inr (2, [.ref o_aN, .int o_mN, .int o_nN])), (o_aN, .inl ((vv_k x).2.1.1, 32, .inl o_fN)), (o_hM, .inr (2, [.ref o_aM, .int o_mM, .int o_nM])), (o_aM, .inl ((vv_k x).2.1.1, 32, .inl o_fM)), (o_hU, .inr (2, [.ref o_aU, .int o_mU, .int o_nU])), (o_aU, .inl ((vv_k x).2.1.1, 32, .inl o_fU)), (i1, .inr (1, [.int p_ln, .int p_hb, .int p_ha, .int p_pu, .int p_hl, .int p_sm, .int p_hr, .ref p_hS, .ref p_hC, .ref p_hN, .ref p_hM, .ref p_hU])), (p_hS, .inr (2, [.ref p_aS, .int p_mS, .int p_nS])), (p_aS, .inl ((vv_k x).2.1.1, 32, .inl p_fS)), (p_hC, .inr (2, [.ref p_aC, .int p_mC, .int p_nC])), (p_aC, .inl ((vv_k x).2.1.1, 32, .inl p_fC)), (p_hN, .inr (2, [.ref p_aN, .int p_mN, .int p_nN])), (p_aN, .inl ((vv_k x).2.1.1, 32, .inl p_fN)), (p_hM, .inr (2, [.ref p_aM, .int p_mM, .int p_nM])), (p_aM, .inl ((vv_k x).2.1.1, 32, .inl p_fM)), (p_hU, .inr (2, [.ref p_aU, .int p_mU, .int p_nU])), (p_aU, .inl ((vv_k x).2.1.1, 32, .inl p_fU))]) F (c_X7_refuseNo (vv_l x) (vv_k x) hX hP dP i0 i1 k0 k1 hE hW hG hT abv blw rb rn rf) mv_X7_134 dX7_from_36 (by decide) rfl rfl (Nat.le_of_ble_eq_true rfl) rfl (by decide) (Eq.trans (b := [hX]) rfl rfl) rfl rfl ?_
        exact vv_iret F hR dX7_from_39 (congrArg (fun z => some (Value.int z)) ((if_pos h_1).trans ((if_pos h_2).trans ((if_pos h_5).trans rfl)))) (by simp only [g_X7_from_0_12, g_X7_from_0_13, g_X7_from_1_0, g_X7_from_1_1, g_X7_from_1_2, g_X7_from_1_3, g_X7_from_1_4, g_X7_from_1_5, g_X7_from_1_6, g_X7_from_2_2, g_X7_from_3, g_X7_from_4_2, g_X7_from_5, g_X7_from_6_2, g_X7_from_7, g_X7_from_8_2, g_X7_from_9, g_X7_from_10_2, g_X7_from_11, if_pos h_1, if_pos h_2, if_pos h_5])
  · refine vv_aload_n F dX7_from_9 rfl rfl ?_
    refine vv_callV (As := []) (rest := []) [0] 0 (ws' := [(hX, .inr (6, [.ref hP, .ref dP, .ref i0, .ref i1, .int k0, .int k1, .ref hE, .ref hW, .ref hG, .ref hT, .long abv, .long blw, .int (rb + 1), .int rn, .int rf])), (hP, .inr (1, [.int ln, .int hb, .int ha, .int pu, .int hl, .int sm, .int hr, .ref hS, .ref hC, .ref hN, .ref hM, .ref hU])), (hS, .inr (2, [.ref aS, .int mS, .int nS])), (aS, .inl ((vv_k x).2.1.1, 32, .inl fS)), (hC, .inr (2, [.ref aC, .int mC, .int nC])), (aC, .inl ((vv_k x).2.1.1, 32, .inl fC)), (hN, .inr (2, [.ref aN, .int mN, .int nN])), (aN, .inl ((vv_k x).2.1.1, 32, .inl fN)), (hM, .inr (2, [.ref aM, .int mM, .int nM])), (aM, .inl ((vv_k x).2.1.1, 32, .inl fM)), (hU, .inr (2, [.ref aU, .int mU, .int nU])), (aU, .inl ((vv_k x).2.1.1, 32, .inl fU)), (i0, .inr (1, [.int o_ln, .int o_hb, .int o_ha, .int o_pu, .int o_hl, .int o_sm, .int o_hr, .ref o_hS, .ref o_hC, .ref o_hN, .ref o_hM, .ref o_hU])), (o_hS, .inr (2, [.ref o_aS, .int o_mS, .int o_nS])), (o_aS, .inl ((vv_k x).2.1.1, 32, .inl o_fS)), (o_hC, .inr (2, [.ref o_aC, .int o_mC, .int o_nC])), (o_aC, .inl ((vv_k x).2.1.1, 32, .inl o_fC)), (o_hN, .inr (2, [.ref o_aN, .int o_mN, .int o_nN])), (o_aN, .inl ((vv_k x).2.1.1, 32, .inl o_fN)), (o_hM, .inr (2, [.ref o_aM, .int o_mM, .int o_nM])), (o_aM, .inl ((vv_k x).2.1.1, 32, .inl o_fM)), (o_hU, .inr (2, [.ref o_aU, .int o_mU, .int o_nU])), (o_aU, .inl ((vv_k x).2.1.1, 32, .inl o_fU)), (i1, .inr (1, [.int p_ln, .int p_hb, .int p_ha, .int p_pu, .int p_hl, .int p_sm, .int p_hr, .ref p_hS, .ref p_hC, .ref p_hN, .ref p_hM, .ref p_hU])), (p_hS, .inr (2, [.ref p_aS, .int p_mS, .int p_nS])), (p_aS, .inl ((vv_k x).2.1.1, 32, .inl p_fS)), (p_hC, .inr (2, [.ref p_aC, .int p_mC, .int p_nC])), (p_aC, .inl ((vv_k x).2.1.1, 32, .inl p_fC)), (p_hN, .inr (2, [.ref p_aN, .int p_mN, .int p_nN])), (p_aN, .inl ((vv_k x).2.1.1, 32, .inl p_fN)), (p_hM, .inr (2, [.ref p_aM, .int p_mM, .int p_nM])), (p_aM, .inl ((vv_k x).2.1.1, 32, .inl p_fM)), (p_hU, .inr (2, [.ref p_aU, .int p_mU, .int p_nU])), (p_aU, .inl ((vv_k x).2.1.1, 32, .inl p_fU))]) F (c_X7_refuseBad (vv_l x) (vv_k x) hX hP dP i0 i1 k0 k1 hE hW hG hT abv blw rb rn rf) mv_X7_64 dX7_from_10 (by decide) rfl rfl (Nat.le_of_ble_eq_true rfl) rfl (by decide) (Eq.trans (b := [hX]) rfl rfl) rfl rfl ?_
    exact vv_iret F hR dX7_from_13 (congrArg (fun z => some (Value.int z)) ((if_neg h_1).trans rfl)) (by simp only [g_X7_from_0_12, g_X7_from_0_13, g_X7_from_1_0, g_X7_from_1_1, g_X7_from_1_2, g_X7_from_1_3, g_X7_from_1_4, g_X7_from_1_5, g_X7_from_1_6, g_X7_from_2_2, g_X7_from_3, g_X7_from_4_2, g_X7_from_5, g_X7_from_6_2, g_X7_from_7, g_X7_from_8_2, g_X7_from_9, g_X7_from_10_2, g_X7_from_11, if_neg h_1])
noncomputable def f_X7_status (rb rn rf wh : Int32) : Int32 := (if wh = 0 then rb else (if wh = 1 then rn else (if wh = 2 then rf else (-1))))
noncomputable def g_X7_status_0_12 (rb wh : Int32) : Int32 := (if wh = 0 then rb else (if wh = 1 then rb else (if wh = 2 then rb else (rb + 1))))
theorem c_X7_status (l : Launch) (K : vv_K) (hX hP dP i0 i1 : Nat) (k0 k1 : Int32) (hE hW hG hT : Nat) (abv blw : Int64) (rb rn rf wh : Int32)  : vv_C l K 2 yX7_status cX7_status 2 (some .int) [.ref hX, .int wh] [(hX, .inr (6, [.ref hP, .ref dP, .ref i0, .ref i1, .int k0, .int k1, .ref hE, .ref hW, .ref hG, .ref hT, .long abv, .long blw, .int rb, .int rn, .int rf]))] (some (.int (f_X7_status rb rn rf wh))) [(hX, .inr (6, [.ref hP, .ref dP, .ref i0, .ref i1, .int k0, .int k1, .ref hE, .ref hW, .ref hG, .ref hT, .long abv, .long blw, .int (g_X7_status_0_12 rb wh), .int rn, .int rf]))] := by
  refine vv_C.of (lv := [(0, .ref hX), (1, .int wh)]) (by decide +kernel) (Nat.le_of_ble_eq_true rfl) rfl ?_
  intro x hl hK F hR; subst hl; obtain rfl := hK
  refine vv_iload_n F dX7_status_0 rfl rfl ?_
  by_cases h_1 : wh = 0
  · refine vv_tabIn (tgt := 28) (off := 27) F dX7_status_1 (by rw [h_1]; decide) (by rw [h_1]; decide) (by rw [h_1]; rfl) (by decide) ?_
    refine vv_aload_n F dX7_status_28 rfl rfl ?_
    refine vv_get 0 F fl_X7_262 dX7_status_29 rfl rfl ?_
    exact vv_iret F hR dX7_status_32 (congrArg (fun z => some (Value.int z)) ((if_pos h_1).trans rfl)) (by simp only [g_X7_status_0_12, if_pos h_1])
  · by_cases h_2 : wh = 1
    · refine vv_tabIn (tgt := 33) (off := 32) F dX7_status_1 (by rw [h_2]; decide) (by rw [h_2]; decide) (by rw [h_2]; rfl) (by decide) ?_
      refine vv_aload_n F dX7_status_33 rfl rfl ?_
      refine vv_get 0 F fl_X7_265 dX7_status_34 rfl rfl ?_
      exact vv_iret F hR dX7_status_37 (congrArg (fun z => some (Value.int z)) ((if_neg h_1).trans ((if_pos h_2).trans rfl))) (by simp only [g_X7_status_0_12, if_neg h_1, if_pos h_2])
    · by_cases h_3 : wh = 2
      · refine vv_tabIn (tgt := 38) (off := 37) F dX7_status_1 (by rw [h_3]; decide) (by rw [h_3]; decide) (by rw [h_3]; rfl) (by decide) ?_
        refine vv_aload_n F dX7_status_38 rfl rfl ?_
        refine vv_get 0 F fl_X7_268 dX7_status_39 rfl rfl ?_
        exact vv_iret F hR dX7_status_42 (congrArg (fun z => some (Value.int z)) ((if_neg h_1).trans ((if_neg h_2).trans ((if_pos h_3).trans rfl)))) (by simp only [g_X7_status_0_12, if_neg h_1, if_neg h_2, if_pos h_3])
      · refine vv_tabOut (tgt := 43) F dX7_status_1 (by have h_1i : ¬ wh.toInt = 0 := vv_ne h_1; have h_2i : ¬ wh.toInt = 1 := vv_ne h_2; have h_3i : ¬ wh.toInt = 2 := vv_ne h_3; omega) (by decide) ?_
        refine vv_aload_n F dX7_status_43 rfl rfl ?_
        refine vv_callV (As := []) (rest := []) [0] 0 (ws' := [(hX, .inr (6, [.ref hP, .ref dP, .ref i0, .ref i1, .int k0, .int k1, .ref hE, .ref hW, .ref hG, .ref hT, .long abv, .long blw, .int (rb + 1), .int rn, .int rf]))]) F (c_X7_refuseBad (vv_l x) (vv_k x) hX hP dP i0 i1 k0 k1 hE hW hG hT abv blw rb rn rf) mv_X7_64 dX7_status_44 (by decide) rfl rfl (Nat.le_of_ble_eq_true rfl) rfl (by decide) (Eq.trans (b := [hX]) rfl rfl) rfl rfl ?_
        refine vv_pop F dX7_status_47 rfl ?_
        refine vv_iconst (v := (-1)) F dX7_status_48 (by decide) ?_
        exact vv_iret F hR dX7_status_49 (congrArg (fun z => some (Value.int z)) ((if_neg h_1).trans ((if_neg h_2).trans ((if_neg h_3).trans rfl)))) (by simp only [g_X7_status_0_12, if_neg h_1, if_neg h_2, if_neg h_3])
noncomputable def f_X7_howMany (nS nC nN nM nU tl wh : Int32) : Int32 := (if wh = 0 then nS else (if wh = 1 then nC else (if wh = 2 then nN else (if wh = 3 then nM else (if wh = 4 then nU else tl)))))
theorem c_X7_howMany (l : Launch) (K : vv_K) (hX hP dP i0 i1 : Nat) (k0 k1 : Int32) (hE hW hG hT : Nat) (abv blw : Int64) (rb rn rf : Int32) (hS hC hN hM hU : Nat) (ln hb ha pu hl sm hr : Int32) (aS : Nat) (mS nS : Int32) (aC : Nat) (mC nC : Int32) (aN : Nat) (mN nN : Int32) (aM : Nat) (mM nM : Int32) (aU : Nat) (mU nU : Int32) (aE : Nat) (tl ts tn tk tm wh : Int32)  : vv_C l K 1 yX7_howMany cX7_howMany 2 (some .int) [.ref hX, .int wh] [(hX, .inr (6, [.ref hP, .ref dP, .ref i0, .ref i1, .int k0, .int k1, .ref hE, .ref hW, .ref hG, .ref hT, .long abv, .long blw, .int rb, .int rn, .int rf])), (hP, .inr (1, [.int ln, .int hb, .int ha, .int pu, .int hl, .int sm, .int hr, .ref hS, .ref hC, .ref hN, .ref hM, .ref hU])), (hS, .inr (2, [.ref aS, .int mS, .int nS])), (hC, .inr (2, [.ref aC, .int mC, .int nC])), (hN, .inr (2, [.ref aN, .int mN, .int nN])), (hM, .inr (2, [.ref aM, .int mM, .int nM])), (hU, .inr (2, [.ref aU, .int mU, .int nU])), (hE, .inr (4, [.ref aE, .int tl, .int ts, .int tn, .int tk, .int tm]))] (some (.int (f_X7_howMany nS nC nN nM nU tl wh))) [(hX, .inr (6, [.ref hP, .ref dP, .ref i0, .ref i1, .int k0, .int k1, .ref hE, .ref hW, .ref hG, .ref hT, .long abv, .long blw, .int rb, .int rn, .int rf])), (hP, .inr (1, [.int ln, .int hb, .int ha, .int pu, .int hl, .int sm, .int hr, .ref hS, .ref hC, .ref hN, .ref hM, .ref hU])), (hS, .inr (2, [.ref aS, .int mS, .int nS])), (hC, .inr (2, [.ref aC, .int mC, .int nC])), (hN, .inr (2, [.ref aN, .int mN, .int nN])), (hM, .inr (2, [.ref aM, .int mM, .int nM])), (hU, .inr (2, [.ref aU, .int mU, .int nU])), (hE, .inr (4, [.ref aE, .int tl, .int ts, .int tn, .int tk, .int tm]))] := by
  refine vv_C.of (lv := [(0, .ref hX), (1, .int wh)]) (by decide +kernel) (Nat.le_of_ble_eq_true rfl) rfl ?_
  intro x hl hK F hR; subst hl; obtain rfl := hK
  refine vv_iload_n F dX7_howMany_0 rfl rfl ?_
  by_cases h_1 : wh = 0
  · refine vv_tabIn (tgt := 36) (off := 35) F dX7_howMany_1 (by rw [h_1]; decide) (by rw [h_1]; decide) (by rw [h_1]; rfl) (by decide) ?_
    refine vv_aload_n F dX7_howMany_36 rfl rfl ?_
    refine vv_get 0 F fl_X7_10 dX7_howMany_37 rfl rfl ?_
    refine vv_get 1 F fl_X7_68 dX7_howMany_40 rfl rfl ?_
    refine vv_get 2 F fl_X7_72 dX7_howMany_43 rfl rfl ?_
    exact vv_iret F hR dX7_howMany_46 (congrArg (fun z => some (Value.int z)) ((if_pos h_1).trans rfl)) rfl
  · by_cases h_2 : wh = 1
    · refine vv_tabIn (tgt := 47) (off := 46) F dX7_howMany_1 (by rw [h_2]; decide) (by rw [h_2]; decide) (by rw [h_2]; rfl) (by decide) ?_
      refine vv_aload_n F dX7_howMany_47 rfl rfl ?_
      refine vv_get 0 F fl_X7_10 dX7_howMany_48 rfl rfl ?_
      refine vv_get 1 F fl_X7_185 dX7_howMany_51 rfl rfl ?_
      refine vv_get 3 F fl_X7_72 dX7_howMany_54 rfl rfl ?_
      exact vv_iret F hR dX7_howMany_57 (congrArg (fun z => some (Value.int z)) ((if_neg h_1).trans ((if_pos h_2).trans rfl))) rfl
    · by_cases h_3 : wh = 2
      · refine vv_tabIn (tgt := 58) (off := 57) F dX7_howMany_1 (by rw [h_3]; decide) (by rw [h_3]; decide) (by rw [h_3]; rfl) (by decide) ?_
        refine vv_aload_n F dX7_howMany_58 rfl rfl ?_
        refine vv_get 0 F fl_X7_10 dX7_howMany_59 rfl rfl ?_
        refine vv_get 1 F fl_X7_204 dX7_howMany_62 rfl rfl ?_
        refine vv_get 4 F fl_X7_72 dX7_howMany_65 rfl rfl ?_
        exact vv_iret F hR dX7_howMany_68 (congrArg (fun z => some (Value.int z)) ((if_neg h_1).trans ((if_neg h_2).trans ((if_pos h_3).trans rfl)))) rfl
      · by_cases h_4 : wh = 3
        · refine vv_tabIn (tgt := 69) (off := 68) F dX7_howMany_1 (by rw [h_4]; decide) (by rw [h_4]; decide) (by rw [h_4]; rfl) (by decide) ?_
          refine vv_aload_n F dX7_howMany_69 rfl rfl ?_
          refine vv_get 0 F fl_X7_10 dX7_howMany_70 rfl rfl ?_
          refine vv_get 1 F fl_X7_207 dX7_howMany_73 rfl rfl ?_
          refine vv_get 5 F fl_X7_72 dX7_howMany_76 rfl rfl ?_
          exact vv_iret F hR dX7_howMany_79 (congrArg (fun z => some (Value.int z)) ((if_neg h_1).trans ((if_neg h_2).trans ((if_neg h_3).trans ((if_pos h_4).trans rfl))))) rfl
        · by_cases h_5 : wh = 4
          · refine vv_tabIn (tgt := 80) (off := 79) F dX7_howMany_1 (by rw [h_5]; decide) (by rw [h_5]; decide) (by rw [h_5]; rfl) (by decide) ?_
            refine vv_aload_n F dX7_howMany_80 rfl rfl ?_
            refine vv_get 0 F fl_X7_10 dX7_howMany_81 rfl rfl ?_
            refine vv_get 1 F fl_X7_95 dX7_howMany_84 rfl rfl ?_
            refine vv_get 6 F fl_X7_72 dX7_howMany_87 rfl rfl ?_
            exact vv_iret F hR dX7_howMany_90 (congrArg (fun z => some (Value.int z)) ((if_neg h_1).trans ((if_neg h_2).trans ((if_neg h_3).trans ((if_neg h_4).trans ((if_pos h_5).trans rfl)))))) rfl
          · refine vv_tabOut (tgt := 91) F dX7_howMany_1 (by have h_1i : ¬ wh.toInt = 0 := vv_ne h_1; have h_2i : ¬ wh.toInt = 1 := vv_ne h_2; have h_3i : ¬ wh.toInt = 2 := vv_ne h_3; have h_4i : ¬ wh.toInt = 3 := vv_ne h_4; have h_5i : ¬ wh.toInt = 4 := vv_ne h_5; omega) (by decide) ?_
            refine vv_aload_n F dX7_howMany_91 rfl rfl ?_
            refine vv_get 0 F fl_X7_28 dX7_howMany_92 rfl rfl ?_
            refine vv_get 7 F fl_X7_114 dX7_howMany_95 rfl rfl ?_
            exact vv_iret F hR dX7_howMany_98 (congrArg (fun z => some (Value.int z)) ((if_neg h_1).trans ((if_neg h_2).trans ((if_neg h_3).trans ((if_neg h_4).trans ((if_neg h_5).trans rfl)))))) rfl
noncomputable def f_X7_count (nS nC nN nM nU tl wh : Int32) : Int32 := (if p_X7_within wh 0 5 then (f_X7_howMany nS nC nN nM nU tl wh) else (-2))
noncomputable def g_X7_count_0_12 (rb wh : Int32) : Int32 := (if p_X7_within wh 0 5 then rb else (rb + 1))
theorem c_X7_count (l : Launch) (K : vv_K) (hX hP dP i0 i1 : Nat) (k0 k1 : Int32) (hE hW hG hT : Nat) (abv blw : Int64) (rb rn rf : Int32) (hS hC hN hM hU : Nat) (ln hb ha pu hl sm hr : Int32) (aS : Nat) (mS nS : Int32) (aC : Nat) (mC nC : Int32) (aN : Nat) (mN nN : Int32) (aM : Nat) (mM nM : Int32) (aU : Nat) (mU nU : Int32) (aE : Nat) (tl ts tn tk tm wh : Int32)  : vv_C l K 3 yX7_count cX7_count 2 (some .int) [.ref hX, .int wh] [(hX, .inr (6, [.ref hP, .ref dP, .ref i0, .ref i1, .int k0, .int k1, .ref hE, .ref hW, .ref hG, .ref hT, .long abv, .long blw, .int rb, .int rn, .int rf])), (hP, .inr (1, [.int ln, .int hb, .int ha, .int pu, .int hl, .int sm, .int hr, .ref hS, .ref hC, .ref hN, .ref hM, .ref hU])), (hS, .inr (2, [.ref aS, .int mS, .int nS])), (hC, .inr (2, [.ref aC, .int mC, .int nC])), (hN, .inr (2, [.ref aN, .int mN, .int nN])), (hM, .inr (2, [.ref aM, .int mM, .int nM])), (hU, .inr (2, [.ref aU, .int mU, .int nU])), (hE, .inr (4, [.ref aE, .int tl, .int ts, .int tn, .int tk, .int tm]))] (some (.int (f_X7_count nS nC nN nM nU tl wh))) [(hX, .inr (6, [.ref hP, .ref dP, .ref i0, .ref i1, .int k0, .int k1, .ref hE, .ref hW, .ref hG, .ref hT, .long abv, .long blw, .int (g_X7_count_0_12 rb wh), .int rn, .int rf])), (hP, .inr (1, [.int ln, .int hb, .int ha, .int pu, .int hl, .int sm, .int hr, .ref hS, .ref hC, .ref hN, .ref hM, .ref hU])), (hS, .inr (2, [.ref aS, .int mS, .int nS])), (hC, .inr (2, [.ref aC, .int mC, .int nC])), (hN, .inr (2, [.ref aN, .int mN, .int nN])), (hM, .inr (2, [.ref aM, .int mM, .int nM])), (hU, .inr (2, [.ref aU, .int mU, .int nU])), (hE, .inr (4, [.ref aE, .int tl, .int ts, .int tn, .int tk, .int tm]))] := by
  refine vv_C.of (lv := [(0, .ref hX), (1, .int wh)]) (by decide +kernel) (Nat.le_of_ble_eq_true rfl) rfl ?_
  intro x hl hK F hR; subst hl; obtain rfl := hK
  refine vv_iload_n F dX7_count_0 rfl rfl ?_
  refine vv_iconst (v := 0) F dX7_count_1 (by decide) ?_
  refine vv_iconst (v := 5) F dX7_count_2 (by decide) ?_
  refine vv_callSp (As := [.int wh, .int 0, .int 5]) (rest := []) [] F (c_X7_within (vv_l x) (vv_k x) wh 0 5) ms_X7_60 dX7_count_3 (by decide) rfl rfl (Nat.le_of_ble_eq_true rfl) rfl (by decide) ?_
  refine vv_ifz_ne (tgt := 14) F dX7_count_6 (by decide) (fun h_1 => ?_) (fun h_1 => ?_)
  · have h_1r := wi_rng (a := 0) (b := 5) (by decide) (by decide) h_1
    have h_1c := nn_cl (a := wh) (by omega)
    refine vv_aload_n F dX7_count_14 rfl rfl ?_
    refine vv_iload_n F dX7_count_15 rfl rfl ?_
    refine vv_callVp (As := [.int wh]) (rest := []) [0, 1, 2, 3, 4, 5, 6, 7] 0 F (c_X7_howMany (vv_l x) (vv_k x) hX hP dP i0 i1 k0 k1 hE hW hG hT abv blw rb rn rf hS hC hN hM hU ln hb ha pu hl sm hr aS mS nS aC mC nC aN mN nN aM mM nM aU mU nU aE tl ts tn tk tm wh) mv_X7_271 dX7_count_16 (by decide) rfl rfl (Nat.le_of_ble_eq_true rfl) rfl (by decide) rfl ?_
    exact vv_iret F hR dX7_count_19 (congrArg (fun z => some (Value.int z)) ((if_pos h_1).trans rfl)) (by simp only [g_X7_count_0_12, if_pos h_1])
  · refine vv_aload_n F dX7_count_9 rfl rfl ?_
    refine vv_callV (As := []) (rest := []) [0] 0 (ws' := [(hX, .inr (6, [.ref hP, .ref dP, .ref i0, .ref i1, .int k0, .int k1, .ref hE, .ref hW, .ref hG, .ref hT, .long abv, .long blw, .int (rb + 1), .int rn, .int rf])), (hP, .inr (1, [.int ln, .int hb, .int ha, .int pu, .int hl, .int sm, .int hr, .ref hS, .ref hC, .ref hN, .ref hM, .ref hU])), (hS, .inr (2, [.ref aS, .int mS, .int nS])), (hC, .inr (2, [.ref aC, .int mC, .int nC])), (hN, .inr (2, [.ref aN, .int mN, .int nN])), (hM, .inr (2, [.ref aM, .int mM, .int nM])), (hU, .inr (2, [.ref aU, .int mU, .int nU])), (hE, .inr (4, [.ref aE, .int tl, .int ts, .int tn, .int tk, .int tm]))]) F (c_X7_refuseBad (vv_l x) (vv_k x) hX hP dP i0 i1 k0 k1 hE hW hG hT abv blw rb rn rf) mv_X7_64 dX7_count_10 (by decide) rfl rfl (Nat.le_of_ble_eq_true rfl) rfl (by decide) (Eq.trans (b := [hX]) rfl rfl) rfl rfl ?_
    exact vv_iret F hR dX7_count_13 (congrArg (fun z => some (Value.int z)) ((if_neg h_1).trans rfl)) (by simp only [g_X7_count_0_12, if_neg h_1])
noncomputable def st_X7_digest_1 (nS nC nN nM nU tl : Int32) (u : Nat) (s : Int64) : Int64 := ((31 * s) + (f_X7_howMany nS nC nN nM nU tl (nI u)).toInt64)
theorem L_X7_digest_1 {x : vv_X} (F : vv_F x cX7_digest 4 RX7 3) (hX hP dP i0 i1 : Nat) (k0 k1 : Int32) (hE hW hG hT : Nat) (abv blw : Int64) (rb rn rf : Int32) (hS hC hN hM hU : Nat) (ln hb ha pu hl sm hr : Int32) (aS : Nat) (mS nS : Int32) (fS : Nat → Int32) (aC : Nat) (mC nC : Int32) (fC : Nat → Int32) (aN : Nat) (mN nN : Int32) (fN : Nat → Int32) (aM : Nat) (mM nM : Int32) (fM : Nat → Int32) (aU : Nat) (mU nU : Int32) (aE : Nat) (tl ts tn tk tm : Int32)  : ∀ (n : Nat) (u : Nat) (hq : Int64), u + n = 6 → vv_V x 4 30 [(3, .int (nI 6)), (1, .long (itr (st_X7_digest_1 nS nC nN nM nU tl) n u hq)), (0, .ref hX)] [] [(hX, .inr (6, [.ref hP, .ref dP, .ref i0, .ref i1, .int k0, .int k1, .ref hE, .ref hW, .ref hG, .ref hT, .long abv, .long blw, .int rb, .int rn, .int rf])), (hP, .inr (1, [.int ln, .int hb, .int ha, .int pu, .int hl, .int sm, .int hr, .ref hS, .ref hC, .ref hN, .ref hM, .ref hU])), (hS, .inr (2, [.ref aS, .int mS, .int nS])), (aS, .inl ((vv_k x).2.1.1, 32, .inl fS)), (hC, .inr (2, [.ref aC, .int mC, .int nC])), (aC, .inl ((vv_k x).2.1.1, 32, .inl fC)), (hN, .inr (2, [.ref aN, .int mN, .int nN])), (aN, .inl ((vv_k x).2.1.1, 32, .inl fN)), (hM, .inr (2, [.ref aM, .int mM, .int nM])), (aM, .inl ((vv_k x).2.1.1, 32, .inl fM)), (hU, .inr (2, [.ref aU, .int mU, .int nU])), (hE, .inr (4, [.ref aE, .int tl, .int ts, .int tn, .int tk, .int tm]))] → vv_V x 4 6 [(3, .int (nI u)), (1, .long hq), (0, .ref hX)] [] [(hX, .inr (6, [.ref hP, .ref dP, .ref i0, .ref i1, .int k0, .int k1, .ref hE, .ref hW, .ref hG, .ref hT, .long abv, .long blw, .int rb, .int rn, .int rf])), (hP, .inr (1, [.int ln, .int hb, .int ha, .int pu, .int hl, .int sm, .int hr, .ref hS, .ref hC, .ref hN, .ref hM, .ref hU])), (hS, .inr (2, [.ref aS, .int mS, .int nS])), (aS, .inl ((vv_k x).2.1.1, 32, .inl fS)), (hC, .inr (2, [.ref aC, .int mC, .int nC])), (aC, .inl ((vv_k x).2.1.1, 32, .inl fC)), (hN, .inr (2, [.ref aN, .int mN, .int nN])), (aN, .inl ((vv_k x).2.1.1, 32, .inl fN)), (hM, .inr (2, [.ref aM, .int mM, .int nM])), (aM, .inl ((vv_k x).2.1.1, 32, .inl fM)), (hU, .inr (2, [.ref aU, .int mU, .int nU])), (hE, .inr (4, [.ref aE, .int tl, .int ts, .int tn, .int tk, .int tm]))] := by
  intro n
  induction n with
  | zero =>
    intro u hq hu  kx
    refine vv_iload_n F dX7_digest_6 rfl rfl ?_
    refine vv_iconst (v := 5) F dX7_digest_7 (by decide) ?_
    refine vv_icmp_gt (tgt := 30) F dX7_digest_8 (by decide) (fun h_1 => ?_) (fun h_1 => absurd ((c_lt (by decide : (5 : Int32).toInt = ((5 : Nat) : Int)) (nI_toInt (n := u) (by omega))).mpr (by omega)) h_1)
    obtain rfl : u = 6 := by omega
    rw [itr_0] at kx
    exact vv_lv [0, 1, 2] rfl kx
  | succ n ih =>
    intro u hq hu  kx
    refine vv_iload_n F dX7_digest_6 rfl rfl ?_
    refine vv_iconst (v := 5) F dX7_digest_7 (by decide) ?_
    refine vv_icmp_gt (tgt := 30) F dX7_digest_8 (by decide) (fun h_1 => absurd ((c_lt (by decide : (5 : Int32).toInt = ((5 : Nat) : Int)) (nI_toInt (n := u) (by omega))).mp h_1) (by omega)) (fun h_1 => ?_)
    refine vv_ldc2 F cl_X7_276 dX7_digest_11 ?_
    refine vv_lload_n F dX7_digest_14 rfl rfl ?_
    refine vv_lmul F dX7_digest_15 ?_
    refine vv_aload_n F dX7_digest_16 rfl rfl ?_
    refine vv_iload_n F dX7_digest_17 rfl rfl ?_
    refine vv_callVp (As := [.int (nI u)]) (rest := [.long (31 * hq)]) [0, 1, 2, 4, 6, 8, 10, 11] 0 F (c_X7_howMany (vv_l x) (vv_k x) hX hP dP i0 i1 k0 k1 hE hW hG hT abv blw rb rn rf hS hC hN hM hU ln hb ha pu hl sm hr aS mS nS aC mC nC aN mN nN aM mM nM aU mU nU aE tl ts tn tk tm (nI u)) mv_X7_271 dX7_digest_18 (by decide) rfl rfl (Nat.le_of_ble_eq_true rfl) rfl (by decide) rfl ?_
    refine vv_i2l F dX7_digest_21 ?_
    refine vv_ladd F dX7_digest_22 ?_
    refine vv_lstore_n (lv' := [(1, .long ((31 * hq) + ((f_X7_howMany nS nC nN nM nU tl (nI u)).toInt64))), (3, .int (nI u)), (0, .ref hX)]) F dX7_digest_23 rfl (by decide) rfl ?_
    refine vv_iinc (v := (nI (u + 1))) (lv' := [(3, .int (nI (u + 1))), (1, .long ((31 * hq) + ((f_X7_howMany nS nC nN nM nU tl (nI u)).toInt64))), (0, .ref hX)]) 1 F dX7_digest_24 rfl (nI_1 u) (by decide) rfl ?_
    refine vv_goto (tgt := 6) F dX7_digest_27 (by decide) ?_
    refine vv_lv (lv' := [(3, .int (nI (u + 1))), (1, .long ((31 * hq) + ((f_X7_howMany nS nC nN nM nU tl (nI u)).toInt64))), (0, .ref hX)]) [0, 1, 2] rfl ?_
    refine vv_lvE (lv' := [(3, .int (nI (u + 1))), (1, .long ((31 * hq) + (f_X7_howMany nS nC nN nM nU tl (nI u)).toInt64)), (0, .ref hX)]) (by rfl) ?_
    exact ih (u + 1) ((31 * hq) + (f_X7_howMany nS nC nN nM nU tl (nI u)).toInt64) (by omega) (by rw [itr_s] at kx; exact kx)
noncomputable def st_X7_digest_2 (ln hb ha pu hl sm hr : Int32) (u : Nat) (s : Int64) : Int64 := ((31 * s) + (f_X2_figure ln hb ha pu hl sm hr (nI u)).toInt64)
theorem L_X7_digest_2 {x : vv_X} (F : vv_F x cX7_digest 4 RX7 3) (hX hP dP i0 i1 : Nat) (k0 k1 : Int32) (hE hW hG hT : Nat) (abv blw : Int64) (rb rn rf : Int32) (hS hC hN hM hU : Nat) (ln hb ha pu hl sm hr : Int32) (aS : Nat) (mS nS : Int32) (fS : Nat → Int32) (aC : Nat) (mC nC : Int32) (fC : Nat → Int32) (aN : Nat) (mN nN : Int32) (fN : Nat → Int32) (aM : Nat) (mM nM : Int32) (fM : Nat → Int32) (aU : Nat) (mU nU : Int32) (aE : Nat) (tl ts tn tk tm : Int32)  : ∀ (n : Nat) (u : Nat) (hq : Int64), u + n = 7 → vv_V x 4 60 [(3, .int (nI 7)), (1, .long (itr (st_X7_digest_2 ln hb ha pu hl sm hr) n u hq)), (0, .ref hX)] [] [(hX, .inr (6, [.ref hP, .ref dP, .ref i0, .ref i1, .int k0, .int k1, .ref hE, .ref hW, .ref hG, .ref hT, .long abv, .long blw, .int rb, .int rn, .int rf])), (hP, .inr (1, [.int ln, .int hb, .int ha, .int pu, .int hl, .int sm, .int hr, .ref hS, .ref hC, .ref hN, .ref hM, .ref hU])), (hS, .inr (2, [.ref aS, .int mS, .int nS])), (aS, .inl ((vv_k x).2.1.1, 32, .inl fS)), (hC, .inr (2, [.ref aC, .int mC, .int nC])), (aC, .inl ((vv_k x).2.1.1, 32, .inl fC)), (hN, .inr (2, [.ref aN, .int mN, .int nN])), (aN, .inl ((vv_k x).2.1.1, 32, .inl fN)), (hM, .inr (2, [.ref aM, .int mM, .int nM])), (aM, .inl ((vv_k x).2.1.1, 32, .inl fM)), (hU, .inr (2, [.ref aU, .int mU, .int nU])), (hE, .inr (4, [.ref aE, .int tl, .int ts, .int tn, .int tk, .int tm]))] → vv_V x 4 32 [(3, .int (nI u)), (1, .long hq), (0, .ref hX)] [] [(hX, .inr (6, [.ref hP, .ref dP, .ref i0, .ref i1, .int k0, .int k1, .ref hE, .ref hW, .ref hG, .ref hT, .long abv, .long blw, .int rb, .int rn, .int rf])), (hP, .inr (1, [.int ln, .int hb, .int ha, .int pu, .int hl, .int sm, .int hr, .ref hS, .ref hC, .ref hN, .ref hM, .ref hU])), (hS, .inr (2, [.ref aS, .int mS, .int nS])), (aS, .inl ((vv_k x).2.1.1, 32, .inl fS)), (hC, .inr (2, [.ref aC, .int mC, .int nC])), (aC, .inl ((vv_k x).2.1.1, 32, .inl fC)), (hN, .inr (2, [.ref aN, .int mN, .int nN])), (aN, .inl ((vv_k x).2.1.1, 32, .inl fN)), (hM, .inr (2, [.ref aM, .int mM, .int nM])), (aM, .inl ((vv_k x).2.1.1, 32, .inl fM)), (hU, .inr (2, [.ref aU, .int mU, .int nU])), (hE, .inr (4, [.ref aE, .int tl, .int ts, .int tn, .int tk, .int tm]))] := by
  intro n
  induction n with
  | zero =>
    intro u hq hu  kx
    refine vv_iload_n F dX7_digest_32 rfl rfl ?_
    refine vv_bipush (v := 6) F dX7_digest_33 (by decide) ?_
    refine vv_icmp_gt (tgt := 60) F dX7_digest_35 (by decide) (fun h_1 => ?_) (fun h_1 => absurd ((c_lt (by decide : (6 : Int32).toInt = ((6 : Nat) : Int)) (nI_toInt (n := u) (by omega))).mpr (by omega)) h_1)
    obtain rfl : u = 7 := by omega
    rw [itr_0] at kx
    exact vv_lv [0, 1, 2] rfl kx
  | succ n ih =>
    intro u hq hu  kx
    refine vv_iload_n F dX7_digest_32 rfl rfl ?_
    refine vv_bipush (v := 6) F dX7_digest_33 (by decide) ?_
    refine vv_icmp_gt (tgt := 60) F dX7_digest_35 (by decide) (fun h_1 => absurd ((c_lt (by decide : (6 : Int32).toInt = ((6 : Nat) : Int)) (nI_toInt (n := u) (by omega))).mp h_1) (by omega)) (fun h_1 => ?_)
    refine vv_ldc2 F cl_X7_276 dX7_digest_38 ?_
    refine vv_lload_n F dX7_digest_41 rfl rfl ?_
    refine vv_lmul F dX7_digest_42 ?_
    refine vv_aload_n F dX7_digest_43 rfl rfl ?_
    refine vv_get 0 F fl_X7_10 dX7_digest_44 rfl rfl ?_
    refine vv_iload_n F dX7_digest_47 rfl rfl ?_
    refine vv_callVp (As := [.int (nI u)]) (rest := [.long (31 * hq)]) [1] 1 F (c_X2_figure (vv_l x) (vv_k x) hP hS hC hN hM hU ln hb ha pu hl sm hr (nI u)) mv_X7_159 dX7_digest_48 (by decide) rfl rfl (Nat.le_of_ble_eq_true rfl) rfl (by decide) rfl ?_
    refine vv_i2l F dX7_digest_51 ?_
    refine vv_ladd F dX7_digest_52 ?_
    refine vv_lstore_n (lv' := [(1, .long ((31 * hq) + ((f_X2_figure ln hb ha pu hl sm hr (nI u)).toInt64))), (3, .int (nI u)), (0, .ref hX)]) F dX7_digest_53 rfl (by decide) rfl ?_
    refine vv_iinc (v := (nI (u + 1))) (lv' := [(3, .int (nI (u + 1))), (1, .long ((31 * hq) + ((f_X2_figure ln hb ha pu hl sm hr (nI u)).toInt64))), (0, .ref hX)]) 1 F dX7_digest_54 rfl (nI_1 u) (by decide) rfl ?_
    refine vv_goto (tgt := 32) F dX7_digest_57 (by decide) ?_
    refine vv_lv (lv' := [(3, .int (nI (u + 1))), (1, .long ((31 * hq) + ((f_X2_figure ln hb ha pu hl sm hr (nI u)).toInt64))), (0, .ref hX)]) [0, 1, 2] rfl ?_
    refine vv_lvE (lv' := [(3, .int (nI (u + 1))), (1, .long ((31 * hq) + (f_X2_figure ln hb ha pu hl sm hr (nI u)).toInt64)), (0, .ref hX)]) (by rfl) ?_
    exact ih (u + 1) ((31 * hq) + (f_X2_figure ln hb ha pu hl sm hr (nI u)).toInt64) (by omega) (by rw [itr_s] at kx; exact kx)
noncomputable def f_X7_digest (abv blw : Int64) (ln hb ha pu hl sm hr nS : Int32) (fS : Nat → Int32) (nC : Int32) (fC : Nat → Int32) (nN : Int32) (fN : Nat → Int32) (nM : Int32) (fM : Nat → Int32) (nU tl : Int32) (cs cc cn cm : Nat) : Int64 := ((31 * ((31 * (itr (st_X3_digestOn fM nM 4) cm 0 (itr (st_X3_digestOn fN nN 4) cn 0 (itr (st_X3_digestOn fC nC 2) cc 0 (itr (st_X3_digestOn fS nS 2) cs 0 (itr (st_X7_digest_2 ln hb ha pu hl sm hr) 7 0 (itr (st_X7_digest_1 nS nC nN nM nU tl) 6 0 1579))))))) + abv)) + blw)
theorem c_X7_digest (l : Launch) (K : vv_K) (hX hP dP i0 i1 : Nat) (k0 k1 : Int32) (hE hW hG hT : Nat) (abv blw : Int64) (rb rn rf : Int32) (hS hC hN hM hU : Nat) (ln hb ha pu hl sm hr : Int32) (aS : Nat) (mS nS : Int32) (fS : Nat → Int32) (aC : Nat) (mC nC : Int32) (fC : Nat → Int32) (aN : Nat) (mN nN : Int32) (fN : Nat → Int32) (aM : Nat) (mM nM : Int32) (fM : Nat → Int32) (aU : Nat) (mU nU : Int32) (aE : Nat) (tl ts tn tk tm : Int32) (cs cc cn cm : Nat) (hcs : (nS).toInt = (cs : Int)) (hcc : (nC).toInt = (cc : Int)) (hcn : (nN).toInt = (cn : Int)) (hcm : (nM).toInt = (cm : Int)) (hcs5 : cs ≤ 5) (hcc6 : cc ≤ 6) (hcn6 : cn ≤ 6) (hcm6 : cm ≤ 6)  : vv_C l K 3 yX7_digest cX7_digest 4 (some .long) [.ref hX] [(hX, .inr (6, [.ref hP, .ref dP, .ref i0, .ref i1, .int k0, .int k1, .ref hE, .ref hW, .ref hG, .ref hT, .long abv, .long blw, .int rb, .int rn, .int rf])), (hP, .inr (1, [.int ln, .int hb, .int ha, .int pu, .int hl, .int sm, .int hr, .ref hS, .ref hC, .ref hN, .ref hM, .ref hU])), (hS, .inr (2, [.ref aS, .int mS, .int nS])), (aS, .inl (K.2.1.1, 32, .inl fS)), (hC, .inr (2, [.ref aC, .int mC, .int nC])), (aC, .inl (K.2.1.1, 32, .inl fC)), (hN, .inr (2, [.ref aN, .int mN, .int nN])), (aN, .inl (K.2.1.1, 32, .inl fN)), (hM, .inr (2, [.ref aM, .int mM, .int nM])), (aM, .inl (K.2.1.1, 32, .inl fM)), (hU, .inr (2, [.ref aU, .int mU, .int nU])), (hE, .inr (4, [.ref aE, .int tl, .int ts, .int tn, .int tk, .int tm]))] (some (.long (f_X7_digest abv blw ln hb ha pu hl sm hr nS fS nC fC nN fN nM fM nU tl cs cc cn cm))) [(hX, .inr (6, [.ref hP, .ref dP, .ref i0, .ref i1, .int k0, .int k1, .ref hE, .ref hW, .ref hG, .ref hT, .long abv, .long blw, .int rb, .int rn, .int rf])), (hP, .inr (1, [.int ln, .int hb, .int ha, .int pu, .int hl, .int sm, .int hr, .ref hS, .ref hC, .ref hN, .ref hM, .ref hU])), (hS, .inr (2, [.ref aS, .int mS, .int nS])), (aS, .inl (K.2.1.1, 32, .inl fS)), (hC, .inr (2, [.ref aC, .int mC, .int nC])), (aC, .inl (K.2.1.1, 32, .inl fC)), (hN, .inr (2, [.ref aN, .int mN, .int nN])), (aN, .inl (K.2.1.1, 32, .inl fN)), (hM, .inr (2, [.ref aM, .int mM, .int nM])), (aM, .inl (K.2.1.1, 32, .inl fM)), (hU, .inr (2, [.ref aU, .int mU, .int nU])), (hE, .inr (4, [.ref aE, .int tl, .int ts, .int tn, .int tk, .int tm]))] := by
  refine vv_C.of (lv := [(0, .ref hX)]) (by decide +kernel) (Nat.le_of_ble_eq_true rfl) rfl ?_
  intro x hl hK F hR; subst hl; obtain rfl := hK
  refine vv_ldc2 F cl_X7_274 dX7_digest_0 ?_
  refine vv_lstore_n (lv' := [(1, .long 1579), (0, .ref hX)]) F dX7_digest_3 rfl (by decide) rfl ?_
  refine vv_iconst (v := 0) F dX7_digest_4 (by decide) ?_
  refine vv_istore_n (lv' := [(3, .int 0), (1, .long 1579), (0, .ref hX)]) F dX7_digest_5 rfl (by decide) rfl ?_
  refine vv_lv (lv' := [(3, .int 0), (1, .long 1579), (0, .ref hX)]) [0, 1, 2] rfl ?_
  refine L_X7_digest_1 F hX hP dP i0 i1 k0 k1 hE hW hG hT abv blw rb rn rf hS hC hN hM hU ln hb ha pu hl sm hr aS mS nS fS aC mC nC fC aN mN nN fN aM mM nM fM aU mU nU aE tl ts tn tk tm 6 0 1579 (by omega) ?_
  refine vv_iconst (v := 0) F dX7_digest_30 (by decide) ?_
  refine vv_istore_n (lv' := [(3, .int 0), (1, .long (itr (st_X7_digest_1 nS nC nN nM nU tl) 6 0 1579)), (0, .ref hX)]) F dX7_digest_31 rfl (by decide) rfl ?_
  refine vv_lv (lv' := [(3, .int 0), (1, .long (itr (st_X7_digest_1 nS nC nN nM nU tl) 6 0 1579)), (0, .ref hX)]) [0, 1, 2] rfl ?_
  refine L_X7_digest_2 F hX hP dP i0 i1 k0 k1 hE hW hG hT abv blw rb rn rf hS hC hN hM hU ln hb ha pu hl sm hr aS mS nS fS aC mC nC fC aN mN nN fN aM mM nM fM aU mU nU aE tl ts tn tk tm 7 0 (itr (st_X7_digest_1 nS nC nN nM nU tl) 6 0 1579) (by omega) ?_
  refine vv_aload_n F dX7_digest_60 rfl rfl ?_
  refine vv_get 0 F fl_X7_10 dX7_digest_61 rfl rfl ?_
  refine vv_get 1 F fl_X7_68 dX7_digest_64 rfl rfl ?_
  refine vv_lload_n F dX7_digest_67 rfl rfl ?_
  refine vv_iconst (v := 2) F dX7_digest_68 (by decide) ?_
  refine vv_callVp (As := [.long (itr (st_X7_digest_2 ln hb ha pu hl sm hr) 7 0 (itr (st_X7_digest_1 nS nC nN nM nU tl) 6 0 1579)), .int 2]) (rest := []) [2, 3] 2 F (c_X3_digestOn (vv_l x) (vv_k x) hS aS mS fS nS (itr (st_X7_digest_2 ln hb ha pu hl sm hr) 7 0 (itr (st_X7_digest_1 nS nC nN nM nU tl) 6 0 1579)) 2 cs 2 hcs (by decide : (2 : Int32).toInt = ((2 : Nat) : Int)) (by omega) (by omega)) mv_X7_278 dX7_digest_69 (by decide) rfl rfl (Nat.le_of_ble_eq_true rfl) rfl (by decide) rfl ?_
  refine vv_lstore_n (lv' := [(1, .long (itr (st_X3_digestOn fS nS 2) cs 0 (itr (st_X7_digest_2 ln hb ha pu hl sm hr) 7 0 (itr (st_X7_digest_1 nS nC nN nM nU tl) 6 0 1579)))), (3, .int (nI 7)), (0, .ref hX)]) F dX7_digest_72 rfl (by decide) rfl ?_
  refine vv_aload_n F dX7_digest_73 rfl rfl ?_
  refine vv_get 0 F fl_X7_10 dX7_digest_74 rfl rfl ?_
  refine vv_get 1 F fl_X7_185 dX7_digest_77 rfl rfl ?_
  refine vv_lload_n F dX7_digest_80 rfl rfl ?_
  refine vv_iconst (v := 2) F dX7_digest_81 (by decide) ?_
  refine vv_callVp (As := [.long (itr (st_X3_digestOn fS nS 2) cs 0 (itr (st_X7_digest_2 ln hb ha pu hl sm hr) 7 0 (itr (st_X7_digest_1 nS nC nN nM nU tl) 6 0 1579))), .int 2]) (rest := []) [4, 5] 4 F (c_X3_digestOn (vv_l x) (vv_k x) hC aC mC fC nC (itr (st_X3_digestOn fS nS 2) cs 0 (itr (st_X7_digest_2 ln hb ha pu hl sm hr) 7 0 (itr (st_X7_digest_1 nS nC nN nM nU tl) 6 0 1579))) 2 cc 2 hcc (by decide : (2 : Int32).toInt = ((2 : Nat) : Int)) (by omega) (by omega)) mv_X7_278 dX7_digest_82 (by decide) rfl rfl (Nat.le_of_ble_eq_true rfl) rfl (by decide) rfl ?_
  refine vv_lstore_n (lv' := [(1, .long (itr (st_X3_digestOn fC nC 2) cc 0 (itr (st_X3_digestOn fS nS 2) cs 0 (itr (st_X7_digest_2 ln hb ha pu hl sm hr) 7 0 (itr (st_X7_digest_1 nS nC nN nM nU tl) 6 0 1579))))), (3, .int (nI 7)), (0, .ref hX)]) F dX7_digest_85 rfl (by decide) rfl ?_
  refine vv_aload_n F dX7_digest_86 rfl rfl ?_
  refine vv_get 0 F fl_X7_10 dX7_digest_87 rfl rfl ?_
  refine vv_get 1 F fl_X7_204 dX7_digest_90 rfl rfl ?_
  refine vv_lload_n F dX7_digest_93 rfl rfl ?_
  refine vv_iconst (v := 4) F dX7_digest_94 (by decide) ?_
  refine vv_callVp (As := [.long (itr (st_X3_digestOn fC nC 2) cc 0 (itr (st_X3_digestOn fS nS 2) cs 0 (itr (st_X7_digest_2 ln hb ha pu hl sm hr) 7 0 (itr (st_X7_digest_1 nS nC nN nM nU tl) 6 0 1579)))), .int 4]) (rest := []) [6, 7] 6 F (c_X3_digestOn (vv_l x) (vv_k x) hN aN mN fN nN (itr (st_X3_digestOn fC nC 2) cc 0 (itr (st_X3_digestOn fS nS 2) cs 0 (itr (st_X7_digest_2 ln hb ha pu hl sm hr) 7 0 (itr (st_X7_digest_1 nS nC nN nM nU tl) 6 0 1579)))) 4 cn 4 hcn (by decide : (4 : Int32).toInt = ((4 : Nat) : Int)) (by omega) (by omega)) mv_X7_278 dX7_digest_95 (by decide) rfl rfl (Nat.le_of_ble_eq_true rfl) rfl (by decide) rfl ?_
  refine vv_lstore_n (lv' := [(1, .long (itr (st_X3_digestOn fN nN 4) cn 0 (itr (st_X3_digestOn fC nC 2) cc 0 (itr (st_X3_digestOn fS nS 2) cs 0 (itr (st_X7_digest_2 ln hb ha pu hl sm hr) 7 0 (itr (st_X7_digest_1 nS nC nN nM nU tl) 6 0 1579)))))), (3, .int (nI 7)), (0, .ref hX)]) F dX7_digest_98 rfl (by decide) rfl ?_
  refine vv_aload_n F dX7_digest_99 rfl rfl ?_
  refine vv_get 0 F fl_X7_10 dX7_digest_100 rfl rfl ?_
  refine vv_get 1 F fl_X7_207 dX7_digest_103 rfl rfl ?_
  refine vv_lload_n F dX7_digest_106 rfl rfl ?_
  refine vv_iconst (v := 4) F dX7_digest_107 (by decide) ?_
  refine vv_callVp (As := [.long (itr (st_X3_digestOn fN nN 4) cn 0 (itr (st_X3_digestOn fC nC 2) cc 0 (itr (st_X3_digestOn fS nS 2) cs 0 (itr (st_X7_digest_2 ln hb ha pu hl sm hr) 7 0 (itr (st_X7_digest_1 nS nC nN nM nU tl) 6 0 1579))))), .int 4]) (rest := []) [8, 9] 8 F (c_X3_digestOn (vv_l x) (vv_k x) hM aM mM fM nM (itr (st_X3_digestOn fN nN 4) cn 0 (itr (st_X3_digestOn fC nC 2) cc 0 (itr (st_X3_digestOn fS nS 2) cs 0 (itr (st_X7_digest_2 ln hb ha pu hl sm hr) 7 0 (itr (st_X7_digest_1 nS nC nN nM nU tl) 6 0 1579))))) 4 cm 4 hcm (by decide : (4 : Int32).toInt = ((4 : Nat) : Int)) (by omega) (by omega)) mv_X7_278 dX7_digest_108 (by decide) rfl rfl (Nat.le_of_ble_eq_true rfl) rfl (by decide) rfl ?_
  refine vv_lstore_n (lv' := [(1, .long (itr (st_X3_digestOn fM nM 4) cm 0 (itr (st_X3_digestOn fN nN 4) cn 0 (itr (st_X3_digestOn fC nC 2) cc 0 (itr (st_X3_digestOn fS nS 2) cs 0 (itr (st_X7_digest_2 ln hb ha pu hl sm hr) 7 0 (itr (st_X7_digest_1 nS nC nN nM nU tl) 6 0 1579))))))), (3, .int (nI 7)), (0, .ref hX)]) F dX7_digest_111 rfl (by decide) rfl ?_
  refine vv_ldc2 F cl_X7_276 dX7_digest_112 ?_
  refine vv_lload_n F dX7_digest_115 rfl rfl ?_
  refine vv_lmul F dX7_digest_116 ?_
  refine vv_aload_n F dX7_digest_117 rfl rfl ?_
  refine vv_get 0 F fl_X7_53 dX7_digest_118 rfl rfl ?_
  refine vv_ladd F dX7_digest_121 ?_
  refine vv_lstore_n (lv' := [(1, .long ((31 * (itr (st_X3_digestOn fM nM 4) cm 0 (itr (st_X3_digestOn fN nN 4) cn 0 (itr (st_X3_digestOn fC nC 2) cc 0 (itr (st_X3_digestOn fS nS 2) cs 0 (itr (st_X7_digest_2 ln hb ha pu hl sm hr) 7 0 (itr (st_X7_digest_1 nS nC nN nM nU tl) 6 0 1579))))))) + abv)), (3, .int (nI 7)), (0, .ref hX)]) F dX7_digest_122 rfl (by decide) rfl ?_
  refine vv_ldc2 F cl_X7_276 dX7_digest_123 ?_
  refine vv_lload_n F dX7_digest_126 rfl rfl ?_
  refine vv_lmul F dX7_digest_127 ?_
  refine vv_aload_n F dX7_digest_128 rfl rfl ?_
  refine vv_get 0 F fl_X7_57 dX7_digest_129 rfl rfl ?_
  refine vv_ladd F dX7_digest_132 ?_
  exact vv_lret F hR dX7_digest_133 rfl rfl
