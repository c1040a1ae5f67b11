theorem itr_cnt {σ : Type} {f : Nat → σ → σ} (μ : σ → Nat) (h : ∀ u s, μ (f u s) ≤ μ s + 1) : ∀ (n u : Nat) (s : σ), μ (itr f n u s) ≤ μ s + n
  | 0, u, s => by rw [itr_0]; omega
  | n + 1, u, s => by
    rw [itr_s]
    have h1 := itr_cnt μ h n (u + 1) (f u s)
    have h2 := h u s
    omega
noncomputable def st_X0_nextLength (nC : Int32) (fC : Nat → Int32) (c : Nat) (u : Nat) (s : Int32 × Int32 × Int32) : Int32 × Int32 × Int32 := if s.2.2 ≤ 1 then s else ((if (itr (st_X0_fits nC fC (nI u)) c 0 true) = true then (s.1 + (-1)) else s.1), (if s.2.2 ≤ (if (if (itr (st_X0_fits nC fC (nI u)) c 0 true) = true then (s.1 + (-1)) else s.1) < 1 then 1 else (if (itr (st_X0_fits nC fC (nI u)) c 0 true) = true then (s.1 + (-1)) else s.1)) then s.2.1 else (nI u)), (if s.2.2 ≤ (if (if (itr (st_X0_fits nC fC (nI u)) c 0 true) = true then (s.1 + (-1)) else s.1) < 1 then 1 else (if (itr (st_X0_fits nC fC (nI u)) c 0 true) = true then (s.1 + (-1)) else s.1)) then s.2.2 else (if (if (itr (st_X0_fits nC fC (nI u)) c 0 true) = true then (s.1 + (-1)) else s.1) < 1 then 1 else (if (itr (st_X0_fits nC fC (nI u)) c 0 true) = true then (s.1 + (-1)) else s.1))))
theorem L_X0_nextLength {x : vv_X} (F : vv_F x cX0_nextLength 7 RX0 4) (hG aG : Nat) (av : Int32) (hP hS hC hN hM hU : Nat) (ln hb ha pu hl sm hr : Int32) (aC : Nat) (mC nC : Int32) (fC : Nat → Int32) (c : Nat) (hc : (nC).toInt = (c : Int)) (hc6 : c ≤ 6) : ∀ (n : Nat) (u : Nat) (bey : Int32) (bst : Int32) (few : Int32), u + n = 61 → vv_V x 7 69 [(3, .int ((itr (st_X0_nextLength nC fC c) n u (bey, bst, few)).2.1)), (0, .ref hG), (1, .ref hP)] [] [(hG, .inr (0, [.ref aG, .int av])), (hP, .inr (1, [.int ln, .int hb, .int ha, .int pu, .int hl, .int sm, .int hr, .ref hS, .ref hC, .ref hN, .ref hM, .ref hU])), (hC, .inr (2, [.ref aC, .int mC, .int nC])), (aC, .inl ((vv_k x).2.1.1, 32, .inl fC))] → vv_V x 7 16 [(5, .int (nI u)), (2, .int bey), (3, .int bst), (4, .int few), (0, .ref hG), (1, .ref hP)] [] [(hG, .inr (0, [.ref aG, .int av])), (hP, .inr (1, [.int ln, .int hb, .int ha, .int pu, .int hl, .int sm, .int hr, .ref hS, .ref hC, .ref hN, .ref hM, .ref hU])), (hC, .inr (2, [.ref aC, .int mC, .int nC])), (aC, .inl ((vv_k x).2.1.1, 32, .inl fC))] := by
  intro n
  induction n with
  | zero =>
    intro u bey bst few hu  kx
    refine vv_iload F dX0_nextLength_16 rfl ?_
    refine vv_bipush (v := 60) F dX0_nextLength_18 (by decide) ?_
    refine vv_icmp_gt (tgt := 69) F dX0_nextLength_20 (by decide) (fun h_1 => ?_) (fun h_1 => absurd ((c_lt (by decide : (60 : Int32).toInt = ((60 : Nat) : Int)) (nI_toInt (n := u) (by omega))).mpr (by omega)) h_1)
    rw [itr_0] at kx
    exact vv_lv [2, 4, 5] rfl kx
  | succ n ih =>
    intro u bey bst few hu  kx
    refine vv_iload F dX0_nextLength_16 rfl ?_
    refine vv_bipush (v := 60) F dX0_nextLength_18 (by decide) ?_
    refine vv_icmp_gt (tgt := 69) F dX0_nextLength_20 (by decide) (fun h_1 => absurd ((c_lt (by decide : (60 : Int32).toInt = ((60 : Nat) : Int)) (nI_toInt (n := u) (by omega))).mp h_1) (by omega)) (fun h_1 => ?_)
    refine vv_iload F dX0_nextLength_23 rfl ?_
    refine vv_iconst (v := 1) F dX0_nextLength_25 (by decide) ?_
    refine vv_icmp_le (tgt := 69) F dX0_nextLength_26 (by decide) (fun h_2 => ?_) (fun h_2 => ?_)
    · rw [itr_abs (f := (st_X0_nextLength nC fC c)) (s := (bey, bst, few)) (fun _ => if_pos h_2)] at kx
      exact vv_lv [2, 4, 5] rfl kx
    · refine vv_aload_n F dX0_nextLength_29 rfl rfl ?_
      refine vv_aload_n F dX0_nextLength_30 rfl rfl ?_
      refine vv_iload F dX0_nextLength_31 rfl ?_
      refine vv_callVp (As := [.ref hP, .int (nI u)]) (rest := []) [0, 1, 2, 3] 0 F (c_X0_fits (vv_l x) (vv_k x) hG aG av hP hS hC hN hM hU ln hb ha pu hl sm hr aC mC nC fC (nI u) c hc (by omega)) mv_X0_17 dX0_nextLength_33 (by decide) rfl rfl (Nat.le_of_ble_eq_true rfl) rfl (by decide) rfl ?_
      refine vv_ifz_eq (tgt := 42) F dX0_nextLength_36 (by decide) (fun h_3 => ?_) (fun h_3 => ?_)
      · refine vv_iload_n F dX0_nextLength_42 rfl rfl ?_
        refine vv_iconst (v := 1) F dX0_nextLength_43 (by decide) ?_
        refine vv_mmax F mm_X0_25 st_max in_Math co_max (by decide) (Nat.le_of_ble_eq_true rfl) dX0_nextLength_44 ?_
        refine vv_istore (lv' := [(6, .int (if bey < 1 then 1 else bey)), (5, .int (nI u)), (2, .int bey), (3, .int bst), (4, .int few), (0, .ref hG), (1, .ref hP)]) F dX0_nextLength_47 (by decide) rfl ?_
        refine vv_iload F dX0_nextLength_49 rfl ?_
        refine vv_iload F dX0_nextLength_51 rfl ?_
        refine vv_icmp_ge (tgt := 63) F dX0_nextLength_53 (by decide) (fun h_4 => ?_) (fun h_4 => ?_)
        · refine vv_iinc (v := (nI (u + 1))) (lv' := [(5, .int (nI (u + 1))), (6, .int (if bey < 1 then 1 else bey)), (2, .int bey), (3, .int bst), (4, .int few), (0, .ref hG), (1, .ref hP)]) 1 F dX0_nextLength_63 rfl (nI_1 u) (by decide) rfl ?_
          refine vv_goto (tgt := 16) F dX0_nextLength_66 (by decide) ?_
          refine vv_lv [0, 2, 3, 4, 5, 6] rfl ?_
          exact ih (u + 1) bey bst few (by omega) (by rw [itr_s, show (st_X0_nextLength nC fC c) u (bey, bst, few) = (bey, bst, few) from (by simp only [st_X0_nextLength, if_neg h_2, if_neg h_3, if_pos h_4])] at kx; exact kx)
        · refine vv_iload F dX0_nextLength_56 rfl ?_
          refine vv_istore (lv' := [(4, .int (if bey < 1 then 1 else bey)), (6, .int (if bey < 1 then 1 else bey)), (5, .int (nI u)), (2, .int bey), (3, .int bst), (0, .ref hG), (1, .ref hP)]) F dX0_nextLength_58 (by decide) rfl ?_
          refine vv_iload F dX0_nextLength_60 rfl ?_
          refine vv_istore_n (lv' := [(3, .int (nI u)), (4, .int (if bey < 1 then 1 else bey)), (6, .int (if bey < 1 then 1 else bey)), (5, .int (nI u)), (2, .int bey), (0, .ref hG), (1, .ref hP)]) F dX0_nextLength_62 rfl (by decide) rfl ?_
          refine vv_iinc (v := (nI (u + 1))) (lv' := [(5, .int (nI (u + 1))), (3, .int (nI u)), (4, .int (if bey < 1 then 1 else bey)), (6, .int (if bey < 1 then 1 else bey)), (2, .int bey), (0, .ref hG), (1, .ref hP)]) 3 F dX0_nextLength_63 rfl (nI_1 u) (by decide) rfl ?_
          refine vv_goto (tgt := 16) F dX0_nextLength_66 (by decide) ?_
          refine vv_lv [0, 4, 1, 2, 5, 6] rfl ?_
          exact ih (u + 1) bey (nI u) (if bey < 1 then 1 else bey) (by omega) (by rw [itr_s, show (st_X0_nextLength nC fC c) u (bey, bst, few) = (bey, (nI u), (if bey < 1 then 1 else bey)) from (by simp only [st_X0_nextLength, if_neg h_2, if_neg h_3, if_neg h_4])] at kx; exact kx)
      · refine vv_iinc (v := (bey + (-1))) (lv' := [(2, .int (bey + (-1))), (5, .int (nI u)), (3, .int bst), (4, .int few), (0, .ref hG), (1, .ref hP)]) 1 F dX0_nextLength_39 rfl rfl (by decide) rfl ?_
        refine vv_iload_n F dX0_nextLength_42 rfl rfl ?_
        refine vv_iconst (v := 1) F dX0_nextLength_43 (by decide) ?_
        refine vv_mmax F mm_X0_25 st_max in_Math co_max (by decide) (Nat.le_of_ble_eq_true rfl) dX0_nextLength_44 ?_
        refine vv_istore (lv' := [(6, .int (if (bey + (-1)) < 1 then 1 else (bey + (-1)))), (2, .int (bey + (-1))), (5, .int (nI u)), (3, .int bst), (4, .int few), (0, .ref hG), (1, .ref hP)]) F dX0_nextLength_47 (by decide) rfl ?_
        refine vv_iload F dX0_nextLength_49 rfl ?_
        refine vv_iload F dX0_nextLength_51 rfl ?_
        refine vv_icmp_ge (tgt := 63) F dX0_nextLength_53 (by decide) (fun h_5 => ?_) (fun h_5 => ?_)
        · refine vv_iinc (v := (nI (u + 1))) (lv' := [(5, .int (nI (u + 1))), (6, .int (if (bey + (-1)) < 1 then 1 else (bey + (-1)))), (2, .int (bey + (-1))), (3, .int bst), (4, .int few), (0, .ref hG), (1, .ref hP)]) 2 F dX0_nextLength_63 rfl (nI_1 u) (by decide) rfl ?_
          refine vv_goto (tgt := 16) F dX0_nextLength_66 (by decide) ?_
          refine vv_lv [0, 2, 3, 4, 5, 6] rfl ?_
          exact ih (u + 1) (bey + (-1)) bst few (by omega) (by rw [itr_s, show (st_X0_nextLength nC fC c) u (bey, bst, few) = ((bey + (-1)), bst, few) from (by simp only [st_X0_nextLength, if_neg h_2, if_pos h_3, if_pos h_5])] at kx; exact kx)
        · refine vv_iload F dX0_nextLength_56 rfl ?_
          refine vv_istore (lv' := [(4, .int (if (bey + (-1)) < 1 then 1 else (bey + (-1)))), (6, .int (if (bey + (-1)) < 1 then 1 else (bey + (-1)))), (2, .int (bey + (-1))), (5, .int (nI u)), (3, .int bst), (0, .ref hG), (1, .ref hP)]) F dX0_nextLength_58 (by decide) rfl ?_
          refine vv_iload F dX0_nextLength_60 rfl ?_
          refine vv_istore_n (lv' := [(3, .int (nI u)), (4, .int (if (bey + (-1)) < 1 then 1 else (bey + (-1)))), (6, .int (if (bey + (-1)) < 1 then 1 else (bey + (-1)))), (2, .int (bey + (-1))), (5, .int (nI u)), (0, .ref hG), (1, .ref hP)]) F dX0_nextLength_62 rfl (by decide) rfl ?_
          refine vv_iinc (v := (nI (u + 1))) (lv' := [(5, .int (nI (u + 1))), (3, .int (nI u)), (4, .int (if (bey + (-1)) < 1 then 1 else (bey + (-1)))), (6, .int (if (bey + (-1)) < 1 then 1 else (bey + (-1)))), (2, .int (bey + (-1))), (0, .ref hG), (1, .ref hP)]) 4 F dX0_nextLength_63 rfl (nI_1 u) (by decide) rfl ?_
          refine vv_goto (tgt := 16) F dX0_nextLength_66 (by decide) ?_
          refine vv_lv [0, 4, 1, 2, 5, 6] rfl ?_
          exact ih (u + 1) (bey + (-1)) (nI u) (if (bey + (-1)) < 1 then 1 else (bey + (-1))) (by omega) (by rw [itr_s, show (st_X0_nextLength nC fC c) u (bey, bst, few) = ((bey + (-1)), (nI u), (if (bey + (-1)) < 1 then 1 else (bey + (-1)))) from (by simp only [st_X0_nextLength, if_neg h_2, if_pos h_3, if_neg h_5])] at kx; exact kx)
noncomputable def f_X0_nextLength (nC : Int32) (fC : Nat → Int32) (c : Nat) : Int32 := (itr (st_X0_nextLength nC fC c) 60 1 ((itr (st_X0_linesThatFit nC fC c) 60 1 0), (-1), ((itr (st_X0_linesThatFit nC fC c) 60 1 0) + 1))).2.1
theorem c_X0_nextLength (l : Launch) (K : vv_K) (hG aG : Nat) (av : Int32) (hP hS hC hN hM hU : Nat) (ln hb ha pu hl sm hr : Int32) (aC : Nat) (mC nC : Int32) (fC : Nat → Int32) (c : Nat) (hc : (nC).toInt = (c : Int)) (hc6 : c ≤ 6)  : vv_C l K 4 yX0_nextLength cX0_nextLength 7 (some .int) [.ref hG, .ref hP] [(hG, .inr (0, [.ref aG, .int av])), (hP, .inr (1, [.int ln, .int hb, .int ha, .int pu, .int hl, .int sm, .int hr, .ref hS, .ref hC, .ref hN, .ref hM, .ref hU])), (hC, .inr (2, [.ref aC, .int mC, .int nC])), (aC, .inl (K.2.1.1, 32, .inl fC))] (some (.int (f_X0_nextLength nC fC c))) [(hG, .inr (0, [.ref aG, .int av])), (hP, .inr (1, [.int ln, .int hb, .int ha, .int pu, .int hl, .int sm, .int hr, .ref hS, .ref hC, .ref hN, .ref hM, .ref hU])), (hC, .inr (2, [.ref aC, .int mC, .int nC])), (aC, .inl (K.2.1.1, 32, .inl fC))] := by
  refine vv_C.of (lv := [(0, .ref hG), (1, .ref hP)]) (by decide +kernel) (Nat.le_of_ble_eq_true rfl) rfl ?_
  intro x hl hK F hR; subst hl; obtain rfl := hK
  refine vv_aload_n F dX0_nextLength_0 rfl rfl ?_
  refine vv_aload_n F dX0_nextLength_1 rfl rfl ?_
  refine vv_callVp (As := [.ref hP]) (rest := []) [0, 1, 2, 3] 0 F (c_X0_linesThatFit (vv_l x) (vv_k x) hG aG av hP hS hC hN hM hU ln hb ha pu hl sm hr aC mC nC fC c hc (by omega)) mv_X0_21 dX0_nextLength_2 (by decide) rfl rfl (Nat.le_of_ble_eq_true rfl) rfl (by decide) rfl ?_
  refine vv_istore_n (lv' := [(2, .int (itr (st_X0_linesThatFit nC fC c) 60 1 0)), (0, .ref hG), (1, .ref hP)]) F dX0_nextLength_5 rfl (by decide) rfl ?_
  refine vv_iconst (v := (-1)) F dX0_nextLength_6 (by decide) ?_
  refine vv_istore_n (lv' := [(3, .int (-1)), (2, .int (itr (st_X0_linesThatFit nC fC c) 60 1 0)), (0, .ref hG), (1, .ref hP)]) F dX0_nextLength_7 rfl (by decide) rfl ?_
  refine vv_iload_n F dX0_nextLength_8 rfl rfl ?_
  refine vv_iconst (v := 1) F dX0_nextLength_9 (by decide) ?_
  refine vv_iadd F dX0_nextLength_10 ?_
  refine vv_istore (lv' := [(4, .int ((itr (st_X0_linesThatFit nC fC c) 60 1 0) + 1)), (3, .int (-1)), (2, .int (itr (st_X0_linesThatFit nC fC c) 60 1 0)), (0, .ref hG), (1, .ref hP)]) F dX0_nextLength_11 (by decide) rfl ?_
  refine vv_iconst (v := 1) F dX0_nextLength_13 (by decide) ?_
  refine vv_istore (lv' := [(5, .int 1), (4, .int ((itr (st_X0_linesThatFit nC fC c) 60 1 0) + 1)), (3, .int (-1)), (2, .int (itr (st_X0_linesThatFit nC fC c) 60 1 0)), (0, .ref hG), (1, .ref hP)]) F dX0_nextLength_14 (by decide) rfl ?_
  refine vv_lv (lv' := [(5, .int 1), (2, .int (itr (st_X0_linesThatFit nC fC c) 60 1 0)), (3, .int (-1)), (4, .int ((itr (st_X0_linesThatFit nC fC c) 60 1 0) + 1)), (0, .ref hG), (1, .ref hP)]) [0, 3, 2, 1, 4, 5] rfl ?_
  refine L_X0_nextLength F hG aG av hP hS hC hN hM hU ln hb ha pu hl sm hr aC mC nC fC c hc hc6 60 1 (itr (st_X0_linesThatFit nC fC c) 60 1 0) (-1) ((itr (st_X0_linesThatFit nC fC c) 60 1 0) + 1) (by omega) ?_
  refine vv_iload_n F dX0_nextLength_69 rfl rfl ?_
  exact vv_iret F hR dX0_nextLength_70 rfl rfl
noncomputable def st_X0_nextHour_in (nS : Int32) (fS : Nat → Int32) (i bi : Int32) (v : Nat) (u : Nat) (s : Nat × (Nat → Int32)) : Nat × (Nat → Int32) := ((if ((bi >>> ((nI u) &&& 31)) &&& 1) = 1 then (s.1 + 1) else s.1), (if ((bi >>> ((nI u) &&& 31)) &&& 1) = 1 then (upd s.2 s.1 (f_X1_shown (nI u) (f_X3_cell nS fS i 1) (nI v))) else s.2))
theorem L_X0_nextHour_in {x : vv_X} (F : vv_F x cX0_nextHour 8 RX0 5) (hG aG hP hS hC hN hM hU : Nat) (ln hb ha pu hl sm hr : Int32) (aN : Nat) (mN nN : Int32) (fN : Nat → Int32) (aS : Nat) (mS nS : Int32) (fS : Nat → Int32) (i bi bst few : Int32) (v : Nat) (cs : Nat) (hcs : (nS).toInt = (cs : Int)) (hcs8 : cs ≤ 5) (hv : v < 1000) : ∀ (n : Nat) (u : Nat) (k : Nat) (an : Nat → Int32), u + n = 6 → k ≤ u → vv_V x 8 75 [(7, .int (nI 6)), (0, .ref hG), (1, .ref hP), (2, .int i), (3, .int bi), (4, .int bst), (5, .int few), (6, .int (nI v))] [] [(hG, .inr (0, [.ref aG, .int (nI ((itr (st_X0_nextHour_in nS fS i bi v) n u (k, an)).1))])), (aG, .inl ((vv_k x).2.1.1, 6, .inl ((itr (st_X0_nextHour_in nS fS i bi v) n u (k, an)).2))), (hP, .inr (1, [.int ln, .int hb, .int ha, .int pu, .int hl, .int sm, .int hr, .ref hS, .ref hC, .ref hN, .ref hM, .ref hU])), (hN, .inr (2, [.ref aN, .int mN, .int nN])), (aN, .inl ((vv_k x).2.1.1, 32, .inl fN)), (hS, .inr (2, [.ref aS, .int mS, .int nS])), (aS, .inl ((vv_k x).2.1.1, 32, .inl fS))] → vv_V x 8 36 [(7, .int (nI u)), (0, .ref hG), (1, .ref hP), (2, .int i), (3, .int bi), (4, .int bst), (5, .int few), (6, .int (nI v))] [] [(hG, .inr (0, [.ref aG, .int (nI k)])), (aG, .inl ((vv_k x).2.1.1, 6, .inl an)), (hP, .inr (1, [.int ln, .int hb, .int ha, .int pu, .int hl, .int sm, .int hr, .ref hS, .ref hC, .ref hN, .ref hM, .ref hU])), (hN, .inr (2, [.ref aN, .int mN, .int nN])), (aN, .inl ((vv_k x).2.1.1, 32, .inl fN)), (hS, .inr (2, [.ref aS, .int mS, .int nS])), (aS, .inl ((vv_k x).2.1.1, 32, .inl fS))] := by
  intro n
  induction n with
  | zero =>
    intro u k an hu hku  kx
    refine vv_iload F dX0_nextHour_36 rfl ?_
    refine vv_bipush (v := 6) F dX0_nextHour_38 (by decide) ?_
    refine vv_icmp_ge (tgt := 75) F dX0_nextHour_40 (by decide) (fun h_1 => ?_) (fun h_1 => absurd ((c_le (by decide : (6 : Int32).toInt = ((6 : Nat) : Int)) (nI_toInt (n := u) (by omega))).mpr (by omega)) h_1)
    obtain rfl : u = 6 := by omega
    rw [itr_0] at kx
    exact vv_lv [0, 1, 2, 3, 4, 5, 6, 7] rfl kx
  | succ n ih =>
    intro u k an hu hku  kx
    refine vv_iload F dX0_nextHour_36 rfl ?_
    refine vv_bipush (v := 6) F dX0_nextHour_38 (by decide) ?_
    refine vv_icmp_ge (tgt := 75) F dX0_nextHour_40 (by decide) (fun h_1 => absurd ((c_le (by decide : (6 : Int32).toInt = ((6 : Nat) : Int)) (nI_toInt (n := u) (by omega))).mp h_1) (by omega)) (fun h_1 => ?_)
    refine vv_iload_n F dX0_nextHour_43 rfl rfl ?_
    refine vv_iload F dX0_nextHour_44 rfl ?_
    refine vv_ishr F dX0_nextHour_46 ?_
    refine vv_iconst (v := 1) F dX0_nextHour_47 (by decide) ?_
    refine vv_iand F dX0_nextHour_48 ?_
    refine vv_iconst (v := 1) F dX0_nextHour_49 (by decide) ?_
    refine vv_icmp_ne (tgt := 69) F dX0_nextHour_50 (by decide) (fun h_2 => ?_) (fun h_2 => ?_)
    · refine vv_iinc (v := (nI (u + 1))) (lv' := [(7, .int (nI (u + 1))), (0, .ref hG), (1, .ref hP), (2, .int i), (3, .int bi), (4, .int bst), (5, .int few), (6, .int (nI v))]) 0 F dX0_nextHour_69 rfl (nI_1 u) (by decide) rfl ?_
      refine vv_goto (tgt := 36) F dX0_nextHour_72 (by decide) ?_
      refine vv_lv [0, 1, 2, 3, 4, 5, 6, 7] rfl ?_
      refine vv_ws (ws' := [(hG, .inr (0, [.ref aG, .int (nI (if ((bi >>> ((nI u) &&& 31)) &&& 1) = 1 then (k + 1) else k))])), (aG, .inl ((vv_k x).2.1.1, 6, .inl (if ((bi >>> ((nI u) &&& 31)) &&& 1) = 1 then (upd an k (f_X1_shown (nI u) (f_X3_cell nS fS i 1) (nI v))) else an))), (hP, .inr (1, [.int ln, .int hb, .int ha, .int pu, .int hl, .int sm, .int hr, .ref hS, .ref hC, .ref hN, .ref hM, .ref hU])), (hN, .inr (2, [.ref aN, .int mN, .int nN])), (aN, .inl ((vv_k x).2.1.1, 32, .inl fN)), (hS, .inr (2, [.ref aS, .int mS, .int nS])), (aS, .inl ((vv_k x).2.1.1, 32, .inl fS))]) (by simp only [if_neg h_2, nI_1]) ?_
      exact ih (u + 1) (if ((bi >>> ((nI u) &&& 31)) &&& 1) = 1 then (k + 1) else k) (if ((bi >>> ((nI u) &&& 31)) &&& 1) = 1 then (upd an k (f_X1_shown (nI u) (f_X3_cell nS fS i 1) (nI v))) else an) (by omega) (by split <;> omega) (by rw [itr_s] at kx; exact kx)
    · refine vv_aload_n F dX0_nextHour_53 rfl rfl ?_
      refine vv_iload F dX0_nextHour_54 rfl ?_
      refine vv_aload_n F dX0_nextHour_56 rfl rfl ?_
      refine vv_iload_n F dX0_nextHour_57 rfl rfl ?_
      refine vv_callVp (As := [.int i]) (rest := [.int (nI u), .ref hG]) [2, 5, 6] 2 F (c_X2_lengthOf (vv_l x) (vv_k x) hP hS hC hN hM hU ln hb ha pu hl sm hr aS mS nS fS i (by omega)) mv_X0_43 dX0_nextHour_58 (by decide) rfl rfl (Nat.le_of_ble_eq_true rfl) rfl (by decide) rfl ?_
      refine vv_iload F dX0_nextHour_61 rfl ?_
      refine vv_callSp (As := [.int (nI u), .int (f_X3_cell nS fS i 1), .int (nI v)]) (rest := [.ref hG]) [] F (c_X1_shown (vv_l x) (vv_k x) (nI u) (f_X3_cell nS fS i 1) (nI v)) ms_X0_49 dX0_nextHour_63 (by decide) rfl rfl (Nat.le_of_ble_eq_true rfl) rfl (by decide) ?_
      refine vv_callV (As := [.int (f_X1_shown (nI u) (f_X3_cell nS fS i 1) (nI v))]) (rest := []) [0, 1] 0 (ws' := [(hG, .inr (0, [.ref aG, .int ((nI k) + 1)])), (aG, .inl ((vv_k x).2.1.1, 6, .inl (upd an k (f_X1_shown (nI u) (f_X3_cell nS fS i 1) (nI v))))), (hP, .inr (1, [.int ln, .int hb, .int ha, .int pu, .int hl, .int sm, .int hr, .ref hS, .ref hC, .ref hN, .ref hM, .ref hU])), (hN, .inr (2, [.ref aN, .int mN, .int nN])), (aN, .inl ((vv_k x).2.1.1, 32, .inl fN)), (hS, .inr (2, [.ref aS, .int mS, .int nS])), (aS, .inl ((vv_k x).2.1.1, 32, .inl fS))]) F (c_X0_putAnswer (vv_l x) (vv_k x) hG aG (nI k) an (f_X1_shown (nI u) (f_X3_cell nS fS i 1) (nI v)) k (nI_toInt (n := k) (by omega)) (by omega)) mv_X0_53 dX0_nextHour_66 (by decide) rfl rfl (Nat.le_of_ble_eq_true rfl) rfl (by decide) (Eq.trans (b := [hG, aG]) rfl rfl) rfl rfl ?_
      refine vv_iinc (v := (nI (u + 1))) (lv' := [(7, .int (nI (u + 1))), (0, .ref hG), (1, .ref hP), (2, .int i), (3, .int bi), (4, .int bst), (5, .int few), (6, .int (nI v))]) 0 F dX0_nextHour_69 rfl (nI_1 u) (by decide) rfl ?_
      refine vv_goto (tgt := 36) F dX0_nextHour_72 (by decide) ?_
      refine vv_lv [0, 1, 2, 3, 4, 5, 6, 7] rfl ?_
      refine vv_ws (ws' := [(hG, .inr (0, [.ref aG, .int (nI (if ((bi >>> ((nI u) &&& 31)) &&& 1) = 1 then (k + 1) else k))])), (aG, .inl ((vv_k x).2.1.1, 6, .inl (if ((bi >>> ((nI u) &&& 31)) &&& 1) = 1 then (upd an k (f_X1_shown (nI u) (f_X3_cell nS fS i 1) (nI v))) else an))), (hP, .inr (1, [.int ln, .int hb, .int ha, .int pu, .int hl, .int sm, .int hr, .ref hS, .ref hC, .ref hN, .ref hM, .ref hU])), (hN, .inr (2, [.ref aN, .int mN, .int nN])), (aN, .inl ((vv_k x).2.1.1, 32, .inl fN)), (hS, .inr (2, [.ref aS, .int mS, .int nS])), (aS, .inl ((vv_k x).2.1.1, 32, .inl fS))]) (by simp only [if_pos h_2, nI_1]) ?_
      exact ih (u + 1) (if ((bi >>> ((nI u) &&& 31)) &&& 1) = 1 then (k + 1) else k) (if ((bi >>> ((nI u) &&& 31)) &&& 1) = 1 then (upd an k (f_X1_shown (nI u) (f_X3_cell nS fS i 1) (nI v))) else an) (by omega) (by split <;> omega) (by rw [itr_s] at kx; exact kx)
noncomputable def st_X0_nextHour (nS : Int32) (fS : Nat → Int32) (i bi : Int32) (u : Nat) (s : Int32 × Int32 × Int32 × (Nat → Int32)) : Int32 × Int32 × Int32 × (Nat → Int32) := ((if s.2.1 ≤ (itr (st_X0_mostAlike ((itr (st_X0_nextHour_in nS fS i bi u) 6 0 (0, s.2.2.2)).2)) ((itr (st_X0_nextHour_in nS fS i bi u) 6 0 (0, s.2.2.2)).1) 0 0) then s.1 else (nI u)), (if s.2.1 ≤ (itr (st_X0_mostAlike ((itr (st_X0_nextHour_in nS fS i bi u) 6 0 (0, s.2.2.2)).2)) ((itr (st_X0_nextHour_in nS fS i bi u) 6 0 (0, s.2.2.2)).1) 0 0) then s.2.1 else (itr (st_X0_mostAlike ((itr (st_X0_nextHour_in nS fS i bi u) 6 0 (0, s.2.2.2)).2)) ((itr (st_X0_nextHour_in nS fS i bi u) 6 0 (0, s.2.2.2)).1) 0 0)), (nI (itr (st_X0_nextHour_in nS fS i bi u) 6 0 (0, s.2.2.2)).1), (itr (st_X0_nextHour_in nS fS i bi u) 6 0 (0, s.2.2.2)).2)
theorem L_X0_nextHour {x : vv_X} (F : vv_F x cX0_nextHour 8 RX0 5) (hG aG hP hS hC hN hM hU : Nat) (ln hb ha pu hl sm hr : Int32) (aN : Nat) (mN nN : Int32) (fN : Nat → Int32) (aS : Nat) (mS nS : Int32) (fS : Nat → Int32) (i bi : Int32) (cs : Nat) (hcs : (nS).toInt = (cs : Int)) (hcs8 : cs ≤ 5) (hbi : ¬ bi = 0) : ∀ (n : Nat) (u : Nat) (bst : Int32) (few : Int32) (aw : Int32) (an : Nat → Int32), u + n = 24 → vv_V x 8 102 [(6, .int (nI 24)), (4, .int ((itr (st_X0_nextHour nS fS i bi) n u (bst, few, aw, an)).1)), (5, .int ((itr (st_X0_nextHour nS fS i bi) n u (bst, few, aw, an)).2.1)), (0, .ref hG), (1, .ref hP), (2, .int i), (3, .int bi)] [] [(hG, .inr (0, [.ref aG, .int ((itr (st_X0_nextHour nS fS i bi) n u (bst, few, aw, an)).2.2.1)])), (aG, .inl ((vv_k x).2.1.1, 6, .inl ((itr (st_X0_nextHour nS fS i bi) n u (bst, few, aw, an)).2.2.2))), (hP, .inr (1, [.int ln, .int hb, .int ha, .int pu, .int hl, .int sm, .int hr, .ref hS, .ref hC, .ref hN, .ref hM, .ref hU])), (hN, .inr (2, [.ref aN, .int mN, .int nN])), (aN, .inl ((vv_k x).2.1.1, 32, .inl fN)), (hS, .inr (2, [.ref aS, .int mS, .int nS])), (aS, .inl ((vv_k x).2.1.1, 32, .inl fS))] → vv_V x 8 17 [(6, .int (nI u)), (4, .int bst), (5, .int few), (0, .ref hG), (1, .ref hP), (2, .int i), (3, .int bi)] [] [(hG, .inr (0, [.ref aG, .int aw])), (aG, .inl ((vv_k x).2.1.1, 6, .inl an)), (hP, .inr (1, [.int ln, .int hb, .int ha, .int pu, .int hl, .int sm, .int hr, .ref hS, .ref hC, .ref hN, .ref hM, .ref hU])), (hN, .inr (2, [.ref aN, .int mN, .int nN])), (aN, .inl ((vv_k x).2.1.1, 32, .inl fN)), (hS, .inr (2, [.ref aS, .int mS, .int nS])), (aS, .inl ((vv_k x).2.1.1, 32, .inl fS))] := by
  intro n
  induction n with
  | zero =>
    intro u bst few aw an hu  kx
    refine vv_iload F dX0_nextHour_17 rfl ?_
    refine vv_bipush (v := 24) F dX0_nextHour_19 (by decide) ?_
    refine vv_icmp_ge (tgt := 102) F dX0_nextHour_21 (by decide) (fun h_1 => ?_) (fun h_1 => absurd ((c_le (by decide : (24 : Int32).toInt = ((24 : Nat) : Int)) (nI_toInt (n := u) (by omega))).mpr (by omega)) h_1)
    obtain rfl : u = 24 := by omega
    rw [itr_0] at kx
    exact vv_lv [0, 1, 2, 3, 4, 5, 6] rfl kx
  | succ n ih =>
    intro u bst few aw an hu  kx
    refine vv_iload F dX0_nextHour_17 rfl ?_
    refine vv_bipush (v := 24) F dX0_nextHour_19 (by decide) ?_
    refine vv_icmp_ge (tgt := 102) F dX0_nextHour_21 (by decide) (fun h_1 => absurd ((c_le (by decide : (24 : Int32).toInt = ((24 : Nat) : Int)) (nI_toInt (n := u) (by omega))).mp h_1) (by omega)) (fun h_1 => ?_)
    refine vv_iload_n F dX0_nextHour_24 rfl rfl ?_
    refine vv_if_eq (tgt := 102) F dX0_nextHour_25 (by decide) (fun h_2 => absurd h_2 hbi) (fun h_2 => ?_)
    refine vv_aload_n F dX0_nextHour_28 rfl rfl ?_
    refine vv_iconst (v := 0) F dX0_nextHour_29 (by decide) ?_
    refine vv_put 0 (ws' := [(hG, .inr (0, [.ref aG, .int 0])), (aG, .inl ((vv_k x).2.1.1, 6, .inl an)), (hP, .inr (1, [.int ln, .int hb, .int ha, .int pu, .int hl, .int sm, .int hr, .ref hS, .ref hC, .ref hN, .ref hM, .ref hU])), (hN, .inr (2, [.ref aN, .int mN, .int nN])), (aN, .inl ((vv_k x).2.1.1, 32, .inl fN)), (hS, .inr (2, [.ref aS, .int mS, .int nS])), (aS, .inl ((vv_k x).2.1.1, 32, .inl fS))]) F fl_X0_39 dX0_nextHour_30 rfl rfl rfl (Nat.le_of_ble_eq_true rfl) rfl ?_
    refine vv_iconst (v := 0) F dX0_nextHour_33 (by decide) ?_
    refine vv_istore (lv' := [(7, .int 0), (6, .int (nI u)), (4, .int bst), (5, .int few), (0, .ref hG), (1, .ref hP), (2, .int i), (3, .int bi)]) F dX0_nextHour_34 (by decide) rfl ?_
    refine vv_lv (lv' := [(7, .int 0), (0, .ref hG), (1, .ref hP), (2, .int i), (3, .int bi), (4, .int bst), (5, .int few), (6, .int (nI u))]) [0, 4, 5, 6, 7, 2, 3, 1] rfl ?_
    refine L_X0_nextHour_in F hG aG hP hS hC hN hM hU ln hb ha pu hl sm hr aN mN nN fN aS mS nS fS i bi bst few u cs hcs (by omega) (by omega) 6 0 0 an (by omega) (by omega) ?_
    have hkk := itr_cnt (f := (st_X0_nextHour_in nS fS i bi u)) (fun s => s.1) (fun u s => by unfold st_X0_nextHour_in; dsimp only; split <;> omega) 6 0 (0, an)
    dsimp only at hkk
    refine vv_aload_n F dX0_nextHour_75 rfl rfl ?_
    refine vv_callVp (As := []) (rest := []) [0, 1] 0 F (c_X0_mostAlike (vv_l x) (vv_k x) hG aG (nI ((itr (st_X0_nextHour_in nS fS i bi u) 6 0 (0, an)).1)) ((itr (st_X0_nextHour_in nS fS i bi u) 6 0 (0, an)).2) ((itr (st_X0_nextHour_in nS fS i bi u) 6 0 (0, an)).1) (nI_toInt (n := ((itr (st_X0_nextHour_in nS fS i bi u) 6 0 (0, an)).1)) (by omega)) (by omega)) mv_X0_57 dX0_nextHour_76 (by decide) rfl rfl (Nat.le_of_ble_eq_true rfl) rfl (by decide) rfl ?_
    refine vv_istore (lv' := [(7, .int (itr (st_X0_mostAlike ((itr (st_X0_nextHour_in nS fS i bi u) 6 0 (0, an)).2)) ((itr (st_X0_nextHour_in nS fS i bi u) 6 0 (0, an)).1) 0 0)), (0, .ref hG), (1, .ref hP), (2, .int i), (3, .int bi), (4, .int bst), (5, .int few), (6, .int (nI u))]) F dX0_nextHour_79 (by decide) rfl ?_
    refine vv_iload F dX0_nextHour_81 rfl ?_
    refine vv_iload F dX0_nextHour_83 rfl ?_
    refine vv_icmp_ge (tgt := 96) F dX0_nextHour_85 (by decide) (fun h_3 => ?_) (fun h_3 => ?_)
    · refine vv_iinc (v := (nI (u + 1))) (lv' := [(6, .int (nI (u + 1))), (7, .int (itr (st_X0_mostAlike ((itr (st_X0_nextHour_in nS fS i bi u) 6 0 (0, an)).2)) ((itr (st_X0_nextHour_in nS fS i bi u) 6 0 (0, an)).1) 0 0)), (0, .ref hG), (1, .ref hP), (2, .int i), (3, .int bi), (4, .int bst), (5, .int few)]) 7 F dX0_nextHour_96 rfl (nI_1 u) (by decide) rfl ?_
      refine vv_goto (tgt := 17) F dX0_nextHour_99 (by decide) ?_
      refine vv_lv (lv' := [(6, .int (nI (u + 1))), (4, .int bst), (5, .int few), (0, .ref hG), (1, .ref hP), (2, .int i), (3, .int bi)]) [0, 6, 7, 2, 3, 4, 5] rfl ?_
      refine vv_lvE (lv' := [(6, .int (nI (u + 1))), (4, .int (if few ≤ (itr (st_X0_mostAlike ((itr (st_X0_nextHour_in nS fS i bi u) 6 0 (0, an)).2)) ((itr (st_X0_nextHour_in nS fS i bi u) 6 0 (0, an)).1) 0 0) then bst else (nI u))), (5, .int (if few ≤ (itr (st_X0_mostAlike ((itr (st_X0_nextHour_in nS fS i bi u) 6 0 (0, an)).2)) ((itr (st_X0_nextHour_in nS fS i bi u) 6 0 (0, an)).1) 0 0) then few else (itr (st_X0_mostAlike ((itr (st_X0_nextHour_in nS fS i bi u) 6 0 (0, an)).2)) ((itr (st_X0_nextHour_in nS fS i bi u) 6 0 (0, an)).1) 0 0))), (0, .ref hG), (1, .ref hP), (2, .int i), (3, .int bi)]) (by first | (simp only [if_pos h_3]; done) | (simp [vv_b, h_3]; done)) ?_
      refine vv_ws (ws' := [(hG, .inr (0, [.ref aG, .int (nI (itr (st_X0_nextHour_in nS fS i bi u) 6 0 (0, an)).1)])), (aG, .inl ((vv_k x).2.1.1, 6, .inl ((itr (st_X0_nextHour_in nS fS i bi u) 6 0 (0, an)).2))), (hP, .inr (1, [.int ln, .int hb, .int ha, .int pu, .int hl, .int sm, .int hr, .ref hS, .ref hC, .ref hN, .ref hM, .ref hU])), (hN, .inr (2, [.ref aN, .int mN, .int nN])), (aN, .inl ((vv_k x).2.1.1, 32, .inl fN)), (hS, .inr (2, [.ref aS, .int mS, .int nS])), (aS, .inl ((vv_k x).2.1.1, 32, .inl fS))]) (by simp only [if_pos h_3, nI_1]) ?_
      exact ih (u + 1) (if few ≤ (itr (st_X0_mostAlike ((itr (st_X0_nextHour_in nS fS i bi u) 6 0 (0, an)).2)) ((itr (st_X0_nextHour_in nS fS i bi u) 6 0 (0, an)).1) 0 0) then bst else (nI u)) (if few ≤ (itr (st_X0_mostAlike ((itr (st_X0_nextHour_in nS fS i bi u) 6 0 (0, an)).2)) ((itr (st_X0_nextHour_in nS fS i bi u) 6 0 (0, an)).1) 0 0) then few else (itr (st_X0_mostAlike ((itr (st_X0_nextHour_in nS fS i bi u) 6 0 (0, an)).2)) ((itr (st_X0_nextHour_in nS fS i bi u) 6 0 (0, an)).1) 0 0)) (nI (itr (st_X0_nextHour_in nS fS i bi u) 6 0 (0, an)).1) ((itr (st_X0_nextHour_in nS fS i bi u) 6 0 (0, an)).2) (by omega) (by rw [itr_s] at kx; exact kx)
    · refine vv_iload F dX0_nextHour_88 rfl ?_
      refine vv_istore (lv' := [(5, .int (itr (st_X0_mostAlike ((itr (st_X0_nextHour_in nS fS i bi u) 6 0 (0, an)).2)) ((itr (st_X0_nextHour_in nS fS i bi u) 6 0 (0, an)).1) 0 0)), (7, .int (itr (st_X0_mostAlike ((itr (st_X0_nextHour_in nS fS i bi u) 6 0 (0, an)).2)) ((itr (st_X0_nextHour_in nS fS i bi u) 6 0 (0, an)).1) 0 0)), (0, .ref hG), (1, .ref hP), (2, .int i), (3, .int bi), (4, .int bst), (6, .int (nI u))]) F dX0_nextHour_90 (by decide) rfl ?_
      refine vv_iload F dX0_nextHour_92 rfl ?_
      refine vv_istore (lv' := [(4, .int (nI u)), (5, .int (itr (st_X0_mostAlike ((itr (st_X0_nextHour_in nS fS i bi u) 6 0 (0, an)).2)) ((itr (st_X0_nextHour_in nS fS i bi u) 6 0 (0, an)).1) 0 0)), (7, .int (itr (st_X0_mostAlike ((itr (st_X0_nextHour_in nS fS i bi u) 6 0 (0, an)).2)) ((itr (st_X0_nextHour_in nS fS i bi u) 6 0 (0, an)).1) 0 0)), (0, .ref hG), (1, .ref hP), (2, .int i), (3, .int bi), (6, .int (nI u))]) F dX0_nextHour_94 (by decide) rfl ?_
      refine vv_iinc (v := (nI (u + 1))) (lv' := [(6, .int (nI (u + 1))), (4, .int (nI u)), (5, .int (itr (st_X0_mostAlike ((itr (st_X0_nextHour_in nS fS i bi u) 6 0 (0, an)).2)) ((itr (st_X0_nextHour_in nS fS i bi u) 6 0 (0, an)).1) 0 0)), (7, .int (itr (st_X0_mostAlike ((itr (st_X0_nextHour_in nS fS i bi u) 6 0 (0, an)).2)) ((itr (st_X0_nextHour_in nS fS i bi u) 6 0 (0, an)).1) 0 0)), (0, .ref hG), (1, .ref hP), (2, .int i), (3, .int bi)]) 7 F dX0_nextHour_96 rfl (nI_1 u) (by decide) rfl ?_
      refine vv_goto (tgt := 17) F dX0_nextHour_99 (by decide) ?_
      refine vv_lv (lv' := [(6, .int (nI (u + 1))), (4, .int (nI u)), (5, .int (itr (st_X0_mostAlike ((itr (st_X0_nextHour_in nS fS i bi u) 6 0 (0, an)).2)) ((itr (st_X0_nextHour_in nS fS i bi u) 6 0 (0, an)).1) 0 0)), (0, .ref hG), (1, .ref hP), (2, .int i), (3, .int bi)]) [0, 1, 2, 4, 5, 6, 7] rfl ?_
      refine vv_lvE (lv' := [(6, .int (nI (u + 1))), (4, .int (if few ≤ (itr (st_X0_mostAlike ((itr (st_X0_nextHour_in nS fS i bi u) 6 0 (0, an)).2)) ((itr (st_X0_nextHour_in nS fS i bi u) 6 0 (0, an)).1) 0 0) then bst else (nI u))), (5, .int (if few ≤ (itr (st_X0_mostAlike ((itr (st_X0_nextHour_in nS fS i bi u) 6 0 (0, an)).2)) ((itr (st_X0_nextHour_in nS fS i bi u) 6 0 (0, an)).1) 0 0) then few else (itr (st_X0_mostAlike ((itr (st_X0_nextHour_in nS fS i bi u) 6 0 (0, an)).2)) ((itr (st_X0_nextHour_in nS fS i bi u) 6 0 (0, an)).1) 0 0))), (0, .ref hG), (1, .ref hP), (2, .int i), (3, .int bi)]) (by first | (simp only [if_neg h_3]; done) | (simp [vv_b, h_3]; done)) ?_
      refine vv_ws (ws' := [(hG, .inr (0, [.ref aG, .int (nI (itr (st_X0_nextHour_in nS fS i bi u) 6 0 (0, an)).1)])), (aG, .inl ((vv_k x).2.1.1, 6, .inl ((itr (st_X0_nextHour_in nS fS i bi u) 6 0 (0, an)).2))), (hP, .inr (1, [.int ln, .int hb, .int ha, .int pu, .int hl, .int sm, .int hr, .ref hS, .ref hC, .ref hN, .ref hM, .ref hU])), (hN, .inr (2, [.ref aN, .int mN, .int nN])), (aN, .inl ((vv_k x).2.1.1, 32, .inl fN)), (hS, .inr (2, [.ref aS, .int mS, .int nS])), (aS, .inl ((vv_k x).2.1.1, 32, .inl fS))]) (by simp only [if_neg h_3, nI_1]) ?_
      exact ih (u + 1) (if few ≤ (itr (st_X0_mostAlike ((itr (st_X0_nextHour_in nS fS i bi u) 6 0 (0, an)).2)) ((itr (st_X0_nextHour_in nS fS i bi u) 6 0 (0, an)).1) 0 0) then bst else (nI u)) (if few ≤ (itr (st_X0_mostAlike ((itr (st_X0_nextHour_in nS fS i bi u) 6 0 (0, an)).2)) ((itr (st_X0_nextHour_in nS fS i bi u) 6 0 (0, an)).1) 0 0) then few else (itr (st_X0_mostAlike ((itr (st_X0_nextHour_in nS fS i bi u) 6 0 (0, an)).2)) ((itr (st_X0_nextHour_in nS fS i bi u) 6 0 (0, an)).1) 0 0)) (nI (itr (st_X0_nextHour_in nS fS i bi u) 6 0 (0, an)).1) ((itr (st_X0_nextHour_in nS fS i bi u) 6 0 (0, an)).2) (by omega) (by rw [itr_s] at kx; exact kx)
noncomputable def f_X0_nextHour (av : Int32) (an : Nat → Int32) (nN : Int32) (fN : Nat → Int32) (nS : Int32) (fS : Nat → Int32) (i : Int32) (c : Nat) : Int32 := (if (itr (st_X0_stringKinds nN fN i c) 6 0 0) = 0 then (-1) else (itr (st_X0_nextHour nS fS i (itr (st_X0_stringKinds nN fN i c) 6 0 0)) 24 0 ((-1), 7, av, an)).1)
noncomputable def g_X0_nextHour_0_1 (av : Int32) (an : Nat → Int32) (nN : Int32) (fN : Nat → Int32) (nS : Int32) (fS : Nat → Int32) (i : Int32) (c : Nat) : Int32 := (if (itr (st_X0_stringKinds nN fN i c) 6 0 0) = 0 then av else (itr (st_X0_nextHour nS fS i (itr (st_X0_stringKinds nN fN i c) 6 0 0)) 24 0 ((-1), 7, av, an)).2.2.1)
noncomputable def g_X0_nextHour_1 (av : Int32) (an : Nat → Int32) (nN : Int32) (fN : Nat → Int32) (nS : Int32) (fS : Nat → Int32) (i : Int32) (c : Nat) : Nat → Int32 := (if (itr (st_X0_stringKinds nN fN i c) 6 0 0) = 0 then an else (itr (st_X0_nextHour nS fS i (itr (st_X0_stringKinds nN fN i c) 6 0 0)) 24 0 ((-1), 7, av, an)).2.2.2)
theorem c_X0_nextHour (l : Launch) (K : vv_K) (hG aG : Nat) (av : Int32) (an : Nat → Int32) (hP hS hC hN hM hU : Nat) (ln hb ha pu hl sm hr : Int32) (aN : Nat) (mN nN : Int32) (fN : Nat → Int32) (aS : Nat) (mS nS : Int32) (fS : Nat → Int32) (i : Int32) (c cs : Nat) (hc : (nN).toInt = (c : Int)) (hcs : (nS).toInt = (cs : Int)) (hc6 : c ≤ 6) (hcs8 : cs ≤ 5)  : vv_C l K 5 yX0_nextHour cX0_nextHour 8 (some .int) [.ref hG, .ref hP, .int i] [(hG, .inr (0, [.ref aG, .int av])), (aG, .inl (K.2.1.1, 6, .inl an)), (hP, .inr (1, [.int ln, .int hb, .int ha, .int pu, .int hl, .int sm, .int hr, .ref hS, .ref hC, .ref hN, .ref hM, .ref hU])), (hN, .inr (2, [.ref aN, .int mN, .int nN])), (aN, .inl (K.2.1.1, 32, .inl fN)), (hS, .inr (2, [.ref aS, .int mS, .int nS])), (aS, .inl (K.2.1.1, 32, .inl fS))] (some (.int (f_X0_nextHour av an nN fN nS fS i c))) [(hG, .inr (0, [.ref aG, .int (g_X0_nextHour_0_1 av an nN fN nS fS i c)])), (aG, .inl (K.2.1.1, 6, .inl (g_X0_nextHour_1 av an nN fN nS fS i c))), (hP, .inr (1, [.int ln, .int hb, .int ha, .int pu, .int hl, .int sm, .int hr, .ref hS, .ref hC, .ref hN, .ref hM, .ref hU])), (hN, .inr (2, [.ref aN, .int mN, .int nN])), (aN, .inl (K.2.1.1, 32, .inl fN)), (hS, .inr (2, [.ref aS, .int mS, .int nS])), (aS, .inl (K.2.1.1, 32, .inl fS))] := by
  refine vv_C.of (lv := [(0, .ref hG), (1, .ref hP), (2, .int i)]) (by decide +kernel) (Nat.le_of_ble_eq_true rfl) rfl ?_
  intro x hl hK F hR; subst hl; obtain rfl := hK
  refine vv_aload_n F dX0_nextHour_0 rfl rfl ?_
  refine vv_aload_n F dX0_nextHour_1 rfl rfl ?_
  refine vv_iload_n F dX0_nextHour_2 rfl rfl ?_
  refine vv_callVp (As := [.ref hP, .int i]) (rest := []) [0, 2, 3, 4] 0 F (c_X0_stringKinds (vv_l x) (vv_k x) hG aG av hP hS hC hN hM hU ln hb ha pu hl sm hr aN mN nN fN i c hc (by omega)) mv_X0_35 dX0_nextHour_3 (by decide) rfl rfl (Nat.le_of_ble_eq_true rfl) rfl (by decide) rfl ?_
  refine vv_istore_n (lv' := [(3, .int (itr (st_X0_stringKinds nN fN i c) 6 0 0)), (0, .ref hG), (1, .ref hP), (2, .int i)]) F dX0_nextHour_6 rfl (by decide) rfl ?_
  refine vv_iconst (v := (-1)) F dX0_nextHour_7 (by decide) ?_
  refine vv_istore (lv' := [(4, .int (-1)), (3, .int (itr (st_X0_stringKinds nN fN i c) 6 0 0)), (0, .ref hG), (1, .ref hP), (2, .int i)]) F dX0_nextHour_8 (by decide) rfl ?_
  refine vv_bipush (v := 7) F dX0_nextHour_10 (by decide) ?_
  refine vv_istore (lv' := [(5, .int 7), (4, .int (-1)), (3, .int (itr (st_X0_stringKinds nN fN i c) 6 0 0)), (0, .ref hG), (1, .ref hP), (2, .int i)]) F dX0_nextHour_12 (by decide) rfl ?_
  refine vv_iconst (v := 0) F dX0_nextHour_14 (by decide) ?_
  refine vv_istore (lv' := [(6, .int 0), (5, .int 7), (4, .int (-1)), (3, .int (itr (st_X0_stringKinds nN fN i c) 6 0 0)), (0, .ref hG), (1, .ref hP), (2, .int i)]) F dX0_nextHour_15 (by decide) rfl ?_
  by_cases h_1 : (itr (st_X0_stringKinds nN fN i c) 6 0 0) = 0
  · refine vv_iload F dX0_nextHour_17 rfl ?_
    refine vv_bipush (v := 24) F dX0_nextHour_19 (by decide) ?_
    refine vv_icmp_ge (tgt := 102) F dX0_nextHour_21 (by decide) (fun h_2 => absurd h_2 (by decide)) (fun h_2 => ?_)
    refine vv_iload_n F dX0_nextHour_24 rfl rfl ?_
    refine vv_if_eq (tgt := 102) F dX0_nextHour_25 (by decide) (fun h_3 => ?_) (fun h_3 => absurd h_1 h_3)
    refine vv_iload F dX0_nextHour_102 rfl ?_
    exact vv_iret F hR dX0_nextHour_104 (congrArg (fun z => some (Value.int z)) ((if_pos h_1).trans rfl)) (by simp only [g_X0_nextHour_0_1, g_X0_nextHour_1, if_pos h_1])
  · refine vv_lv (lv' := [(6, .int 0), (4, .int (-1)), (5, .int 7), (0, .ref hG), (1, .ref hP), (2, .int i), (3, .int (itr (st_X0_stringKinds nN fN i c) 6 0 0))]) [0, 2, 1, 4, 5, 6, 3] rfl ?_
    refine L_X0_nextHour F hG aG hP hS hC hN hM hU ln hb ha pu hl sm hr aN mN nN fN aS mS nS fS i (itr (st_X0_stringKinds nN fN i c) 6 0 0) cs hcs (by omega) h_1 24 0 (-1) 7 av an (by omega) ?_
    refine vv_iload F dX0_nextHour_102 rfl ?_
    exact vv_iret F hR dX0_nextHour_104 (congrArg (fun z => some (Value.int z)) ((if_neg h_1).trans rfl)) (by simp only [g_X0_nextHour_0_1, g_X0_nextHour_1, if_neg h_1])
noncomputable def st_X0_nextQuestion_in (bi : Int32) (v : Nat) (u : Nat) (s : Nat × (Nat → Int32)) : Nat × (Nat → Int32) := ((if ((bi >>> ((nI u) &&& 31)) &&& 1) = 1 then (s.1 + 1) else s.1), (if ((bi >>> ((nI u) &&& 31)) &&& 1) = 1 then (upd s.2 s.1 (f_X1_charged (nI u) (vv_rem (nI v) 100) ((nI v) / 100))) else s.2))
theorem L_X0_nextQuestion_in {x : vv_X} (F : vv_F x cX0_nextQuestion 8 RX0 5) (hG aG hP hS hC hN hM hU : Nat) (ln hb ha pu hl sm hr : Int32) (aM : Nat) (mM nM : Int32) (fM : Nat → Int32) (i bi bst few : Int32) (v : Nat) (hv : v < 1000) : ∀ (n : Nat) (u : Nat) (k : Nat) (an : Nat → Int32), u + n = 6 → k ≤ u → vv_V x 8 79 [(7, .int (nI 6)), (0, .ref hG), (1, .ref hP), (2, .int i), (3, .int bi), (4, .int bst), (5, .int few), (6, .int (nI v))] [] [(hG, .inr (0, [.ref aG, .int (nI ((itr (st_X0_nextQuestion_in bi v) n u (k, an)).1))])), (aG, .inl ((vv_k x).2.1.1, 6, .inl ((itr (st_X0_nextQuestion_in bi v) n u (k, an)).2))), (hP, .inr (1, [.int ln, .int hb, .int ha, .int pu, .int hl, .int sm, .int hr, .ref hS, .ref hC, .ref hN, .ref hM, .ref hU])), (hM, .inr (2, [.ref aM, .int mM, .int nM])), (aM, .inl ((vv_k x).2.1.1, 32, .inl fM))] → vv_V x 8 37 [(7, .int (nI u)), (0, .ref hG), (1, .ref hP), (2, .int i), (3, .int bi), (4, .int bst), (5, .int few), (6, .int (nI v))] [] [(hG, .inr (0, [.ref aG, .int (nI k)])), (aG, .inl ((vv_k x).2.1.1, 6, .inl an)), (hP, .inr (1, [.int ln, .int hb, .int ha, .int pu, .int hl, .int sm, .int hr, .ref hS, .ref hC, .ref hN, .ref hM, .ref hU])), (hM, .inr (2, [.ref aM, .int mM, .int nM])), (aM, .inl ((vv_k x).2.1.1, 32, .inl fM))] := by
  intro n
  induction n with
  | zero =>
    intro u k an hu hku  kx
    refine vv_iload F dX0_nextQuestion_37 rfl ?_
    refine vv_bipush (v := 6) F dX0_nextQuestion_39 (by decide) ?_
    refine vv_icmp_ge (tgt := 79) F dX0_nextQuestion_41 (by decide) (fun h_1 => ?_) (fun h_1 => absurd ((c_le (by decide : (6 : Int32).toInt = ((6 : Nat) : Int)) (nI_toInt (n := u) (by omega))).mpr (by omega)) h_1)
    obtain rfl : u = 6 := by omega
    rw [itr_0] at kx
    exact vv_lv [0, 1, 2, 3, 4, 5, 6, 7] rfl kx
  | succ n ih =>
    intro u k an hu hku  kx
    refine vv_iload F dX0_nextQuestion_37 rfl ?_
    refine vv_bipush (v := 6) F dX0_nextQuestion_39 (by decide) ?_
    refine vv_icmp_ge (tgt := 79) F dX0_nextQuestion_41 (by decide) (fun h_1 => absurd ((c_le (by decide : (6 : Int32).toInt = ((6 : Nat) : Int)) (nI_toInt (n := u) (by omega))).mp h_1) (by omega)) (fun h_1 => ?_)
    refine vv_iload_n F dX0_nextQuestion_44 rfl rfl ?_
    refine vv_iload F dX0_nextQuestion_45 rfl ?_
    refine vv_ishr F dX0_nextQuestion_47 ?_
    refine vv_iconst (v := 1) F dX0_nextQuestion_48 (by decide) ?_
    refine vv_iand F dX0_nextQuestion_49 ?_
    refine vv_iconst (v := 1) F dX0_nextQuestion_50 (by decide) ?_
    refine vv_icmp_ne (tgt := 73) F dX0_nextQuestion_51 (by decide) (fun h_2 => ?_) (fun h_2 => ?_)
    · refine vv_iinc (v := (nI (u + 1))) (lv' := [(7, .int (nI (u + 1))), (0, .ref hG), (1, .ref hP), (2, .int i), (3, .int bi), (4, .int bst), (5, .int few), (6, .int (nI v))]) 0 F dX0_nextQuestion_73 rfl (nI_1 u) (by decide) rfl ?_
      refine vv_goto (tgt := 37) F dX0_nextQuestion_76 (by decide) ?_
      refine vv_lv [0, 1, 2, 3, 4, 5, 6, 7] rfl ?_
      refine vv_ws (ws' := [(hG, .inr (0, [.ref aG, .int (nI (if ((bi >>> ((nI u) &&& 31)) &&& 1) = 1 then (k + 1) else k))])), (aG, .inl ((vv_k x).2.1.1, 6, .inl (if ((bi >>> ((nI u) &&& 31)) &&& 1) = 1 then (upd an k (f_X1_charged (nI u) (vv_rem (nI v) 100) ((nI v) / 100))) else an))), (hP, .inr (1, [.int ln, .int hb, .int ha, .int pu, .int hl, .int sm, .int hr, .ref hS, .ref hC, .ref hN, .ref hM, .ref hU])), (hM, .inr (2, [.ref aM, .int mM, .int nM])), (aM, .inl ((vv_k x).2.1.1, 32, .inl fM))]) (by simp only [if_neg h_2, nI_1]) ?_
      exact ih (u + 1) (if ((bi >>> ((nI u) &&& 31)) &&& 1) = 1 then (k + 1) else k) (if ((bi >>> ((nI u) &&& 31)) &&& 1) = 1 then (upd an k (f_X1_charged (nI u) (vv_rem (nI v) 100) ((nI v) / 100))) else an) (by omega) (by split <;> omega) (by rw [itr_s] at kx; exact kx)
    · refine vv_aload_n F dX0_nextQuestion_54 rfl rfl ?_
      refine vv_iload F dX0_nextQuestion_55 rfl ?_
      refine vv_iload F dX0_nextQuestion_57 rfl ?_
      refine vv_bipush (v := 100) F dX0_nextQuestion_59 (by decide) ?_
      refine vv_iremR F dX0_nextQuestion_61 (by decide) ?_
      refine vv_iload F dX0_nextQuestion_62 rfl ?_
      refine vv_bipush (v := 100) F dX0_nextQuestion_64 (by decide) ?_
      refine vv_idiv F dX0_nextQuestion_66 (by decide) ?_
      refine vv_callSp (As := [.int (nI u), .int (vv_rem (nI v) 100), .int ((nI v) / 100)]) (rest := [.ref hG]) [] F (c_X1_charged (vv_l x) (vv_k x) (nI u) (vv_rem (nI v) 100) ((nI v) / 100)) ms_X0_67 dX0_nextQuestion_67 (by decide) rfl rfl (Nat.le_of_ble_eq_true rfl) rfl (by decide) ?_
      refine vv_callV (As := [.int (f_X1_charged (nI u) (vv_rem (nI v) 100) ((nI v) / 100))]) (rest := []) [0, 1] 0 (ws' := [(hG, .inr (0, [.ref aG, .int ((nI k) + 1)])), (aG, .inl ((vv_k x).2.1.1, 6, .inl (upd an k (f_X1_charged (nI u) (vv_rem (nI v) 100) ((nI v) / 100))))), (hP, .inr (1, [.int ln, .int hb, .int ha, .int pu, .int hl, .int sm, .int hr, .ref hS, .ref hC, .ref hN, .ref hM, .ref hU])), (hM, .inr (2, [.ref aM, .int mM, .int nM])), (aM, .inl ((vv_k x).2.1.1, 32, .inl fM))]) F (c_X0_putAnswer (vv_l x) (vv_k x) hG aG (nI k) an (f_X1_charged (nI u) (vv_rem (nI v) 100) ((nI v) / 100)) k (nI_toInt (n := k) (by omega)) (by omega)) mv_X0_53 dX0_nextQuestion_70 (by decide) rfl rfl (Nat.le_of_ble_eq_true rfl) rfl (by decide) (Eq.trans (b := [hG, aG]) rfl rfl) rfl rfl ?_
      refine vv_iinc (v := (nI (u + 1))) (lv' := [(7, .int (nI (u + 1))), (0, .ref hG), (1, .ref hP), (2, .int i), (3, .int bi), (4, .int bst), (5, .int few), (6, .int (nI v))]) 0 F dX0_nextQuestion_73 rfl (nI_1 u) (by decide) rfl ?_
      refine vv_goto (tgt := 37) F dX0_nextQuestion_76 (by decide) ?_
      refine vv_lv [0, 1, 2, 3, 4, 5, 6, 7] rfl ?_
      refine vv_ws (ws' := [(hG, .inr (0, [.ref aG, .int (nI (if ((bi >>> ((nI u) &&& 31)) &&& 1) = 1 then (k + 1) else k))])), (aG, .inl ((vv_k x).2.1.1, 6, .inl (if ((bi >>> ((nI u) &&& 31)) &&& 1) = 1 then (upd an k (f_X1_charged (nI u) (vv_rem (nI v) 100) ((nI v) / 100))) else an))), (hP, .inr (1, [.int ln, .int hb, .int ha, .int pu, .int hl, .int sm, .int hr, .ref hS, .ref hC, .ref hN, .ref hM, .ref hU])), (hM, .inr (2, [.ref aM, .int mM, .int nM])), (aM, .inl ((vv_k x).2.1.1, 32, .inl fM))]) (by simp only [if_pos h_2, nI_1]) ?_
      exact ih (u + 1) (if ((bi >>> ((nI u) &&& 31)) &&& 1) = 1 then (k + 1) else k) (if ((bi >>> ((nI u) &&& 31)) &&& 1) = 1 then (upd an k (f_X1_charged (nI u) (vv_rem (nI v) 100) ((nI v) / 100))) else an) (by omega) (by split <;> omega) (by rw [itr_s] at kx; exact kx)
noncomputable def st_X0_nextQuestion (bi : Int32) (u : Nat) (s : Int32 × Int32 × Int32 × (Nat → Int32)) : Int32 × Int32 × Int32 × (Nat → Int32) := ((if s.2.1 ≤ (itr (st_X0_mostAlike ((itr (st_X0_nextQuestion_in bi u) 6 0 (0, s.2.2.2)).2)) ((itr (st_X0_nextQuestion_in bi u) 6 0 (0, s.2.2.2)).1) 0 0) then s.1 else (nI u)), (if s.2.1 ≤ (itr (st_X0_mostAlike ((itr (st_X0_nextQuestion_in bi u) 6 0 (0, s.2.2.2)).2)) ((itr (st_X0_nextQuestion_in bi u) 6 0 (0, s.2.2.2)).1) 0 0) then s.2.1 else (itr (st_X0_mostAlike ((itr (st_X0_nextQuestion_in bi u) 6 0 (0, s.2.2.2)).2)) ((itr (st_X0_nextQuestion_in bi u) 6 0 (0, s.2.2.2)).1) 0 0)), (nI (itr (st_X0_nextQuestion_in bi u) 6 0 (0, s.2.2.2)).1), (itr (st_X0_nextQuestion_in bi u) 6 0 (0, s.2.2.2)).2)
theorem L_X0_nextQuestion {x : vv_X} (F : vv_F x cX0_nextQuestion 8 RX0 5) (hG aG hP hS hC hN hM hU : Nat) (ln hb ha pu hl sm hr : Int32) (aM : Nat) (mM nM : Int32) (fM : Nat → Int32) (i bi : Int32) (hbi : ¬ bi = 0) : ∀ (n : Nat) (u : Nat) (bst : Int32) (few : Int32) (aw : Int32) (an : Nat → Int32), u + n = 200 → vv_V x 8 106 [(6, .int (nI 200)), (4, .int ((itr (st_X0_nextQuestion bi) n u (bst, few, aw, an)).1)), (5, .int ((itr (st_X0_nextQuestion bi) n u (bst, few, aw, an)).2.1)), (0, .ref hG), (1, .ref hP), (2, .int i), (3, .int bi)] [] [(hG, .inr (0, [.ref aG, .int ((itr (st_X0_nextQuestion bi) n u (bst, few, aw, an)).2.2.1)])), (aG, .inl ((vv_k x).2.1.1, 6, .inl ((itr (st_X0_nextQuestion bi) n u (bst, few, aw, an)).2.2.2))), (hP, .inr (1, [.int ln, .int hb, .int ha, .int pu, .int hl, .int sm, .int hr, .ref hS, .ref hC, .ref hN, .ref hM, .ref hU])), (hM, .inr (2, [.ref aM, .int mM, .int nM])), (aM, .inl ((vv_k x).2.1.1, 32, .inl fM))] → vv_V x 8 17 [(6, .int (nI u)), (4, .int bst), (5, .int few), (0, .ref hG), (1, .ref hP), (2, .int i), (3, .int bi)] [] [(hG, .inr (0, [.ref aG, .int aw])), (aG, .inl ((vv_k x).2.1.1, 6, .inl an)), (hP, .inr (1, [.int ln, .int hb, .int ha, .int pu, .int hl, .int sm, .int hr, .ref hS, .ref hC, .ref hN, .ref hM, .ref hU])), (hM, .inr (2, [.ref aM, .int mM, .int nM])), (aM, .inl ((vv_k x).2.1.1, 32, .inl fM))] := by
  intro n
  induction n with
  | zero =>
    intro u bst few aw an hu  kx
    refine vv_iload F dX0_nextQuestion_17 rfl ?_
    refine vv_sipush (v := 199) F dX0_nextQuestion_19 (by decide) ?_
    refine vv_icmp_gt (tgt := 106) F dX0_nextQuestion_22 (by decide) (fun h_1 => ?_) (fun h_1 => absurd ((c_lt (by decide : (199 : Int32).toInt = ((199 : Nat) : Int)) (nI_toInt (n := u) (by omega))).mpr (by omega)) h_1)
    obtain rfl : u = 200 := by omega
    rw [itr_0] at kx
    exact vv_lv [0, 1, 2, 3, 4, 5, 6] rfl kx
  | succ n ih =>
    intro u bst few aw an hu  kx
    refine vv_iload F dX0_nextQuestion_17 rfl ?_
    refine vv_sipush (v := 199) F dX0_nextQuestion_19 (by decide) ?_
    refine vv_icmp_gt (tgt := 106) F dX0_nextQuestion_22 (by decide) (fun h_1 => absurd ((c_lt (by decide : (199 : Int32).toInt = ((199 : Nat) : Int)) (nI_toInt (n := u) (by omega))).mp h_1) (by omega)) (fun h_1 => ?_)
    refine vv_iload_n F dX0_nextQuestion_25 rfl rfl ?_
    refine vv_if_eq (tgt := 106) F dX0_nextQuestion_26 (by decide) (fun h_2 => absurd h_2 hbi) (fun h_2 => ?_)
    refine vv_aload_n F dX0_nextQuestion_29 rfl rfl ?_
    refine vv_iconst (v := 0) F dX0_nextQuestion_30 (by decide) ?_
    refine vv_put 0 (ws' := [(hG, .inr (0, [.ref aG, .int 0])), (aG, .inl ((vv_k x).2.1.1, 6, .inl an)), (hP, .inr (1, [.int ln, .int hb, .int ha, .int pu, .int hl, .int sm, .int hr, .ref hS, .ref hC, .ref hN, .ref hM, .ref hU])), (hM, .inr (2, [.ref aM, .int mM, .int nM])), (aM, .inl ((vv_k x).2.1.1, 32, .inl fM))]) F fl_X0_39 dX0_nextQuestion_31 rfl rfl rfl (Nat.le_of_ble_eq_true rfl) rfl ?_
    refine vv_iconst (v := 0) F dX0_nextQuestion_34 (by decide) ?_
    refine vv_istore (lv' := [(7, .int 0), (6, .int (nI u)), (4, .int bst), (5, .int few), (0, .ref hG), (1, .ref hP), (2, .int i), (3, .int bi)]) F dX0_nextQuestion_35 (by decide) rfl ?_
    refine vv_lv (lv' := [(7, .int 0), (0, .ref hG), (1, .ref hP), (2, .int i), (3, .int bi), (4, .int bst), (5, .int few), (6, .int (nI u))]) [0, 4, 5, 6, 7, 2, 3, 1] rfl ?_
    refine L_X0_nextQuestion_in F hG aG hP hS hC hN hM hU ln hb ha pu hl sm hr aM mM nM fM i bi bst few u (by omega) 6 0 0 an (by omega) (by omega) ?_
    have hkk := itr_cnt (f := (st_X0_nextQuestion_in bi u)) (fun s => s.1) (fun u s => by unfold st_X0_nextQuestion_in; dsimp only; split <;> omega) 6 0 (0, an)
    dsimp only at hkk
    refine vv_aload_n F dX0_nextQuestion_79 rfl rfl ?_
    refine vv_callVp (As := []) (rest := []) [0, 1] 0 F (c_X0_mostAlike (vv_l x) (vv_k x) hG aG (nI ((itr (st_X0_nextQuestion_in bi u) 6 0 (0, an)).1)) ((itr (st_X0_nextQuestion_in bi u) 6 0 (0, an)).2) ((itr (st_X0_nextQuestion_in bi u) 6 0 (0, an)).1) (nI_toInt (n := ((itr (st_X0_nextQuestion_in bi u) 6 0 (0, an)).1)) (by omega)) (by omega)) mv_X0_57 dX0_nextQuestion_80 (by decide) rfl rfl (Nat.le_of_ble_eq_true rfl) rfl (by decide) rfl ?_
    refine vv_istore (lv' := [(7, .int (itr (st_X0_mostAlike ((itr (st_X0_nextQuestion_in bi u) 6 0 (0, an)).2)) ((itr (st_X0_nextQuestion_in bi u) 6 0 (0, an)).1) 0 0)), (0, .ref hG), (1, .ref hP), (2, .int i), (3, .int bi), (4, .int bst), (5, .int few), (6, .int (nI u))]) F dX0_nextQuestion_83 (by decide) rfl ?_
    refine vv_iload F dX0_nextQuestion_85 rfl ?_
    refine vv_iload F dX0_nextQuestion_87 rfl ?_
    refine vv_icmp_ge (tgt := 100) F dX0_nextQuestion_89 (by decide) (fun h_3 => ?_) (fun h_3 => ?_)
    · refine vv_iinc (v := (nI (u + 1))) (lv' := [(6, .int (nI (u + 1))), (7, .int (itr (st_X0_mostAlike ((itr (st_X0_nextQuestion_in bi u) 6 0 (0, an)).2)) ((itr (st_X0_nextQuestion_in bi u) 6 0 (0, an)).1) 0 0)), (0, .ref hG), (1, .ref hP), (2, .int i), (3, .int bi), (4, .int bst), (5, .int few)]) 7 F dX0_nextQuestion_100 rfl (nI_1 u) (by decide) rfl ?_
      refine vv_goto (tgt := 17) F dX0_nextQuestion_103 (by decide) ?_
      refine vv_lv (lv' := [(6, .int (nI (u + 1))), (4, .int bst), (5, .int few), (0, .ref hG), (1, .ref hP), (2, .int i), (3, .int bi)]) [0, 6, 7, 2, 3, 4, 5] rfl ?_
      refine vv_lvE (lv' := [(6, .int (nI (u + 1))), (4, .int (if few ≤ (itr (st_X0_mostAlike ((itr (st_X0_nextQuestion_in bi u) 6 0 (0, an)).2)) ((itr (st_X0_nextQuestion_in bi u) 6 0 (0, an)).1) 0 0) then bst else (nI u))), (5, .int (if few ≤ (itr (st_X0_mostAlike ((itr (st_X0_nextQuestion_in bi u) 6 0 (0, an)).2)) ((itr (st_X0_nextQuestion_in bi u) 6 0 (0, an)).1) 0 0) then few else (itr (st_X0_mostAlike ((itr (st_X0_nextQuestion_in bi u) 6 0 (0, an)).2)) ((itr (st_X0_nextQuestion_in bi u) 6 0 (0, an)).1) 0 0))), (0, .ref hG), (1, .ref hP), (2, .int i), (3, .int bi)]) (by first | (simp only [if_pos h_3]; done) | (simp [vv_b, h_3]; done)) ?_
      refine vv_ws (ws' := [(hG, .inr (0, [.ref aG, .int (nI (itr (st_X0_nextQuestion_in bi u) 6 0 (0, an)).1)])), (aG, .inl ((vv_k x).2.1.1, 6, .inl ((itr (st_X0_nextQuestion_in bi u) 6 0 (0, an)).2))), (hP, .inr (1, [.int ln, .int hb, .int ha, .int pu, .int hl, .int sm, .int hr, .ref hS, .ref hC, .ref hN, .ref hM, .ref hU])), (hM, .inr (2, [.ref aM, .int mM, .int nM])), (aM, .inl ((vv_k x).2.1.1, 32, .inl fM))]) (by simp only [if_pos h_3, nI_1]) ?_
      exact ih (u + 1) (if few ≤ (itr (st_X0_mostAlike ((itr (st_X0_nextQuestion_in bi u) 6 0 (0, an)).2)) ((itr (st_X0_nextQuestion_in bi u) 6 0 (0, an)).1) 0 0) then bst else (nI u)) (if few ≤ (itr (st_X0_mostAlike ((itr (st_X0_nextQuestion_in bi u) 6 0 (0, an)).2)) ((itr (st_X0_nextQuestion_in bi u) 6 0 (0, an)).1) 0 0) then few else (itr (st_X0_mostAlike ((itr (st_X0_nextQuestion_in bi u) 6 0 (0, an)).2)) ((itr (st_X0_nextQuestion_in bi u) 6 0 (0, an)).1) 0 0)) (nI (itr (st_X0_nextQuestion_in bi u) 6 0 (0, an)).1) ((itr (st_X0_nextQuestion_in bi u) 6 0 (0, an)).2) (by omega) (by rw [itr_s] at kx; exact kx)
    · refine vv_iload F dX0_nextQuestion_92 rfl ?_
      refine vv_istore (lv' := [(5, .int (itr (st_X0_mostAlike ((itr (st_X0_nextQuestion_in bi u) 6 0 (0, an)).2)) ((itr (st_X0_nextQuestion_in bi u) 6 0 (0, an)).1) 0 0)), (7, .int (itr (st_X0_mostAlike ((itr (st_X0_nextQuestion_in bi u) 6 0 (0, an)).2)) ((itr (st_X0_nextQuestion_in bi u) 6 0 (0, an)).1) 0 0)), (0, .ref hG), (1, .ref hP), (2, .int i), (3, .int bi), (4, .int bst), (6, .int (nI u))]) F dX0_nextQuestion_94 (by decide) rfl ?_
      refine vv_iload F dX0_nextQuestion_96 rfl ?_
      refine vv_istore (lv' := [(4, .int (nI u)), (5, .int (itr (st_X0_mostAlike ((itr (st_X0_nextQuestion_in bi u) 6 0 (0, an)).2)) ((itr (st_X0_nextQuestion_in bi u) 6 0 (0, an)).1) 0 0)), (7, .int (itr (st_X0_mostAlike ((itr (st_X0_nextQuestion_in bi u) 6 0 (0, an)).2)) ((itr (st_X0_nextQuestion_in bi u) 6 0 (0, an)).1) 0 0)), (0, .ref hG), (1, .ref hP), (2, .int i), (3, .int bi), (6, .int (nI u))]) F dX0_nextQuestion_98 (by decide) rfl ?_
      refine vv_iinc (v := (nI (u + 1))) (lv' := [(6, .int (nI (u + 1))), (4, .int (nI u)), (5, .int (itr (st_X0_mostAlike ((itr (st_X0_nextQuestion_in bi u) 6 0 (0, an)).2)) ((itr (st_X0_nextQuestion_in bi u) 6 0 (0, an)).1) 0 0)), (7, .int (itr (st_X0_mostAlike ((itr (st_X0_nextQuestion_in bi u) 6 0 (0, an)).2)) ((itr (st_X0_nextQuestion_in bi u) 6 0 (0, an)).1) 0 0)), (0, .ref hG), (1, .ref hP), (2, .int i), (3, .int bi)]) 7 F dX0_nextQuestion_100 rfl (nI_1 u) (by decide) rfl ?_
      refine vv_goto (tgt := 17) F dX0_nextQuestion_103 (by decide) ?_
      refine vv_lv (lv' := [(6, .int (nI (u + 1))), (4, .int (nI u)), (5, .int (itr (st_X0_mostAlike ((itr (st_X0_nextQuestion_in bi u) 6 0 (0, an)).2)) ((itr (st_X0_nextQuestion_in bi u) 6 0 (0, an)).1) 0 0)), (0, .ref hG), (1, .ref hP), (2, .int i), (3, .int bi)]) [0, 1, 2, 4, 5, 6, 7] rfl ?_
      refine vv_lvE (lv' := [(6, .int (nI (u + 1))), (4, .int (if few ≤ (itr (st_X0_mostAlike ((itr (st_X0_nextQuestion_in bi u) 6 0 (0, an)).2)) ((itr (st_X0_nextQuestion_in bi u) 6 0 (0, an)).1) 0 0) then bst else (nI u))), (5, .int (if few ≤ (itr (st_X0_mostAlike ((itr (st_X0_nextQuestion_in bi u) 6 0 (0, an)).2)) ((itr (st_X0_nextQuestion_in bi u) 6 0 (0, an)).1) 0 0) then few else (itr (st_X0_mostAlike ((itr (st_X0_nextQuestion_in bi u) 6 0 (0, an)).2)) ((itr (st_X0_nextQuestion_in bi u) 6 0 (0, an)).1) 0 0))), (0, .ref hG), (1, .ref hP), (2, .int i), (3, .int bi)]) (by first | (simp only [if_neg h_3]; done) | (simp [vv_b, h_3]; done)) ?_
      refine vv_ws (ws' := [(hG, .inr (0, [.ref aG, .int (nI (itr (st_X0_nextQuestion_in bi u) 6 0 (0, an)).1)])), (aG, .inl ((vv_k x).2.1.1, 6, .inl ((itr (st_X0_nextQuestion_in bi u) 6 0 (0, an)).2))), (hP, .inr (1, [.int ln, .int hb, .int ha, .int pu, .int hl, .int sm, .int hr, .ref hS, .ref hC, .ref hN, .ref hM, .ref hU])), (hM, .inr (2, [.ref aM, .int mM, .int nM])), (aM, .inl ((vv_k x).2.1.1, 32, .inl fM))]) (by simp only [if_neg h_3, nI_1]) ?_
      exact ih (u + 1) (if few ≤ (itr (st_X0_mostAlike ((itr (st_X0_nextQuestion_in bi u) 6 0 (0, an)).2)) ((itr (st_X0_nextQuestion_in bi u) 6 0 (0, an)).1) 0 0) then bst else (nI u)) (if few ≤ (itr (st_X0_mostAlike ((itr (st_X0_nextQuestion_in bi u) 6 0 (0, an)).2)) ((itr (st_X0_nextQuestion_in bi u) 6 0 (0, an)).1) 0 0) then few else (itr (st_X0_mostAlike ((itr (st_X0_nextQuestion_in bi u) 6 0 (0, an)).2)) ((itr (st_X0_nextQuestion_in bi u) 6 0 (0, an)).1) 0 0)) (nI (itr (st_X0_nextQuestion_in bi u) 6 0 (0, an)).1) ((itr (st_X0_nextQuestion_in bi u) 6 0 (0, an)).2) (by omega) (by rw [itr_s] at kx; exact kx)
noncomputable def f_X0_nextQuestion (av : Int32) (an : Nat → Int32) (nM : Int32) (fM : Nat → Int32) (i : Int32) (c : Nat) : Int32 := (if (itr (st_X0_houseKinds nM fM i c) 6 0 0) = 0 then (-1) else (itr (st_X0_nextQuestion (itr (st_X0_houseKinds nM fM i c) 6 0 0)) 200 0 ((-1), 7, av, an)).1)
noncomputable def g_X0_nextQuestion_0_1 (av : Int32) (an : Nat → Int32) (nM : Int32) (fM : Nat → Int32) (i : Int32) (c : Nat) : Int32 := (if (itr (st_X0_houseKinds nM fM i c) 6 0 0) = 0 then av else (itr (st_X0_nextQuestion (itr (st_X0_houseKinds nM fM i c) 6 0 0)) 200 0 ((-1), 7, av, an)).2.2.1)
noncomputable def g_X0_nextQuestion_1 (av : Int32) (an : Nat → Int32) (nM : Int32) (fM : Nat → Int32) (i : Int32) (c : Nat) : Nat → Int32 := (if (itr (st_X0_houseKinds nM fM i c) 6 0 0) = 0 then an else (itr (st_X0_nextQuestion (itr (st_X0_houseKinds nM fM i c) 6 0 0)) 200 0 ((-1), 7, av, an)).2.2.2)
theorem c_X0_nextQuestion (l : Launch) (K : vv_K) (hG aG : Nat) (av : Int32) (an : Nat → Int32) (hP hS hC hN hM hU : Nat) (ln hb ha pu hl sm hr : Int32) (aM : Nat) (mM nM : Int32) (fM : Nat → Int32) (i : Int32) (c : Nat) (hc : (nM).toInt = (c : Int)) (hc6 : c ≤ 6)  : vv_C l K 5 yX0_nextQuestion cX0_nextQuestion 8 (some .int) [.ref hG, .ref hP, .int i] [(hG, .inr (0, [.ref aG, .int av])), (aG, .inl (K.2.1.1, 6, .inl an)), (hP, .inr (1, [.int ln, .int hb, .int ha, .int pu, .int hl, .int sm, .int hr, .ref hS, .ref hC, .ref hN, .ref hM, .ref hU])), (hM, .inr (2, [.ref aM, .int mM, .int nM])), (aM, .inl (K.2.1.1, 32, .inl fM))] (some (.int (f_X0_nextQuestion av an nM fM i c))) [(hG, .inr (0, [.ref aG, .int (g_X0_nextQuestion_0_1 av an nM fM i c)])), (aG, .inl (K.2.1.1, 6, .inl (g_X0_nextQuestion_1 av an nM fM i c))), (hP, .inr (1, [.int ln, .int hb, .int ha, .int pu, .int hl, .int sm, .int hr, .ref hS, .ref hC, .ref hN, .ref hM, .ref hU])), (hM, .inr (2, [.ref aM, .int mM, .int nM])), (aM, .inl (K.2.1.1, 32, .inl fM))] := by
  refine vv_C.of (lv := [(0, .ref hG), (1, .ref hP), (2, .int i)]) (by decide +kernel) (Nat.le_of_ble_eq_true rfl) rfl ?_
  intro x hl hK F hR; subst hl; obtain rfl := hK
  refine vv_aload_n F dX0_nextQuestion_0 rfl rfl ?_
  refine vv_aload_n F dX0_nextQuestion_1 rfl rfl ?_
  refine vv_iload_n F dX0_nextQuestion_2 rfl rfl ?_
  refine vv_callVp (As := [.ref hP, .int i]) (rest := []) [0, 2, 3, 4] 0 F (c_X0_houseKinds (vv_l x) (vv_k x) hG aG av hP hS hC hN hM hU ln hb ha pu hl sm hr aM mM nM fM i c hc (by omega)) mv_X0_64 dX0_nextQuestion_3 (by decide) rfl rfl (Nat.le_of_ble_eq_true rfl) rfl (by decide) rfl ?_
  refine vv_istore_n (lv' := [(3, .int (itr (st_X0_houseKinds nM fM i c) 6 0 0)), (0, .ref hG), (1, .ref hP), (2, .int i)]) F dX0_nextQuestion_6 rfl (by decide) rfl ?_
  refine vv_iconst (v := (-1)) F dX0_nextQuestion_7 (by decide) ?_
  refine vv_istore (lv' := [(4, .int (-1)), (3, .int (itr (st_X0_houseKinds nM fM i c) 6 0 0)), (0, .ref hG), (1, .ref hP), (2, .int i)]) F dX0_nextQuestion_8 (by decide) rfl ?_
  refine vv_bipush (v := 7) F dX0_nextQuestion_10 (by decide) ?_
  refine vv_istore (lv' := [(5, .int 7), (4, .int (-1)), (3, .int (itr (st_X0_houseKinds nM fM i c) 6 0 0)), (0, .ref hG), (1, .ref hP), (2, .int i)]) F dX0_nextQuestion_12 (by decide) rfl ?_
  refine vv_iconst (v := 0) F dX0_nextQuestion_14 (by decide) ?_
  refine vv_istore (lv' := [(6, .int 0), (5, .int 7), (4, .int (-1)), (3, .int (itr (st_X0_houseKinds nM fM i c) 6 0 0)), (0, .ref hG), (1, .ref hP), (2, .int i)]) F dX0_nextQuestion_15 (by decide) rfl ?_
  by_cases h_1 : (itr (st_X0_houseKinds nM fM i c) 6 0 0) = 0
  · refine vv_iload F dX0_nextQuestion_17 rfl ?_
    refine vv_sipush (v := 199) F dX0_nextQuestion_19 (by decide) ?_
    refine vv_icmp_gt (tgt := 106) F dX0_nextQuestion_22 (by decide) (fun h_2 => absurd h_2 (by decide)) (fun h_2 => ?_)
    refine vv_iload_n F dX0_nextQuestion_25 rfl rfl ?_
    refine vv_if_eq (tgt := 106) F dX0_nextQuestion_26 (by decide) (fun h_3 => ?_) (fun h_3 => absurd h_1 h_3)
    refine vv_iload F dX0_nextQuestion_106 rfl ?_
    exact vv_iret F hR dX0_nextQuestion_108 (congrArg (fun z => some (Value.int z)) ((if_pos h_1).trans rfl)) (by simp only [g_X0_nextQuestion_0_1, g_X0_nextQuestion_1, if_pos h_1])
  · refine vv_lv (lv' := [(6, .int 0), (4, .int (-1)), (5, .int 7), (0, .ref hG), (1, .ref hP), (2, .int i), (3, .int (itr (st_X0_houseKinds nM fM i c) 6 0 0))]) [0, 2, 1, 4, 5, 6, 3] rfl ?_
    refine L_X0_nextQuestion F hG aG hP hS hC hN hM hU ln hb ha pu hl sm hr aM mM nM fM i (itr (st_X0_houseKinds nM fM i c) 6 0 0) h_1 200 0 (-1) 7 av an (by omega) ?_
    refine vv_iload F dX0_nextQuestion_106 rfl ?_
    exact vv_iret F hR dX0_nextQuestion_108 (congrArg (fun z => some (Value.int z)) ((if_neg h_1).trans rfl)) (by simp only [g_X0_nextQuestion_0_1, g_X0_nextQuestion_1, if_neg h_1])
noncomputable def st_X6_reckonPair (ln hr nS : Int32) (fS : Nat → Int32) (i j : Int32) (u : Nat) (s : Int32 × Int32) : Int32 × Int32 := ((if (2 * (f_X1_brought (f_X3_cell nS fS (nI u) 1) ln)) < ((f_X1_charged i (f_X2_shownIn hr nS fS (nI u) 0) (hr / 24)) + (f_X1_charged j (f_X2_shownIn hr nS fS (nI u) 0) (hr / 24))) then s.1 else (s.1 + (f_X1_charged i (f_X2_shownIn hr nS fS (nI u) 0) (hr / 24)))), (if (2 * (f_X1_brought (f_X3_cell nS fS (nI u) 1) ln)) < ((f_X1_charged i (f_X2_shownIn hr nS fS (nI u) 0) (hr / 24)) + (f_X1_charged j (f_X2_shownIn hr nS fS (nI u) 0) (hr / 24))) then s.2 else (s.2 + (f_X1_charged j (f_X2_shownIn hr nS fS (nI u) 0) (hr / 24)))))
theorem L_X6_reckonPair {x : vv_X} (F : vv_F x cX6_reckonPair 11 RX6 4) (hT aB aA : Nat) (tb ta : Nat → Int32) (hP hS hC hN hM hU : Nat) (ln hb ha pu hl sm hr : Int32) (aS : Nat) (mS nS : Int32) (fS : Nat → Int32) (i j : Int32) (c : Nat) (hc : (nS).toInt = (c : Int)) (hc5 : c ≤ 5) : ∀ (n : Nat) (u : Nat) (be : Int32) (ab : Int32), u + n = c → vv_V x 11 95 [(7, .int (nI c)), (5, .int ((itr (st_X6_reckonPair ln hr nS fS i j) n u (be, ab)).1)), (6, .int ((itr (st_X6_reckonPair ln hr nS fS i j) n u (be, ab)).2)), (0, .ref hT), (1, .ref hP), (2, .int i), (3, .int j), (4, .int (hr / 24))] [] [(hT, .inr (5, [.ref aB, .ref aA])), (aB, .inl ((vv_k x).2.1.1, 36, .inl tb)), (aA, .inl ((vv_k x).2.1.1, 36, .inl ta)), (hP, .inr (1, [.int ln, .int hb, .int ha, .int pu, .int hl, .int sm, .int hr, .ref hS, .ref hC, .ref hN, .ref hM, .ref hU])), (hS, .inr (2, [.ref aS, .int mS, .int nS])), (aS, .inl ((vv_k x).2.1.1, 32, .inl fS))] → vv_V x 11 18 [(7, .int (nI u)), (5, .int be), (6, .int ab), (0, .ref hT), (1, .ref hP), (2, .int i), (3, .int j), (4, .int (hr / 24))] [] [(hT, .inr (5, [.ref aB, .ref aA])), (aB, .inl ((vv_k x).2.1.1, 36, .inl tb)), (aA, .inl ((vv_k x).2.1.1, 36, .inl ta)), (hP, .inr (1, [.int ln, .int hb, .int ha, .int pu, .int hl, .int sm, .int hr, .ref hS, .ref hC, .ref hN, .ref hM, .ref hU])), (hS, .inr (2, [.ref aS, .int mS, .int nS])), (aS, .inl ((vv_k x).2.1.1, 32, .inl fS))] := by
  intro n
  induction n with
  | zero =>
    intro u be ab hu  kx
    refine vv_iload F dX6_reckonPair_18 rfl ?_
    refine vv_aload_n F dX6_reckonPair_20 rfl rfl ?_
    refine vv_get 3 F fl_X6_34 dX6_reckonPair_21 rfl rfl ?_
    refine vv_get 4 F fl_X6_38 dX6_reckonPair_24 rfl rfl ?_
    refine vv_icmp_ge (tgt := 95) F dX6_reckonPair_27 (by decide) (fun h_1 => ?_) (fun h_1 => absurd ((c_le hc (nI_toInt (n := u) (by omega))).mpr (by omega)) h_1)
    obtain rfl : u = c := by omega
    rw [itr_0] at kx
    exact vv_lv [0, 1, 2, 3, 4, 5, 6, 7] rfl kx
  | succ n ih =>
    intro u be ab hu  kx
    refine vv_iload F dX6_reckonPair_18 rfl ?_
    refine vv_aload_n F dX6_reckonPair_20 rfl rfl ?_
    refine vv_get 3 F fl_X6_34 dX6_reckonPair_21 rfl rfl ?_
    refine vv_get 4 F fl_X6_38 dX6_reckonPair_24 rfl rfl ?_
    refine vv_icmp_ge (tgt := 95) F dX6_reckonPair_27 (by decide) (fun h_1 => absurd ((c_le hc (nI_toInt (n := u) (by omega))).mp h_1) (by omega)) (fun h_1 => ?_)
    refine vv_aload_n F dX6_reckonPair_30 rfl rfl ?_
    refine vv_iload F dX6_reckonPair_31 rfl ?_
    refine vv_iconst (v := 0) F dX6_reckonPair_33 (by decide) ?_
    refine vv_callVp (As := [.int (nI u), .int 0]) (rest := []) [3, 4, 5] 3 F (c_X2_shownIn (vv_l x) (vv_k x) hP hS hC hN hM hU ln hb ha pu hl sm hr aS mS nS fS (nI u) 0 (by omega)) mv_X6_43 dX6_reckonPair_34 (by decide) rfl rfl (Nat.le_of_ble_eq_true rfl) rfl (by decide) rfl ?_
    refine vv_istore (lv' := [(8, .int (f_X2_shownIn hr nS fS (nI u) 0)), (7, .int (nI u)), (5, .int be), (6, .int ab), (0, .ref hT), (1, .ref hP), (2, .int i), (3, .int j), (4, .int (hr / 24))]) F dX6_reckonPair_37 (by decide) rfl ?_
    refine vv_iload_n F dX6_reckonPair_39 rfl rfl ?_
    refine vv_iload F dX6_reckonPair_40 rfl ?_
    refine vv_iload F dX6_reckonPair_42 rfl ?_
    refine vv_callSp (As := [.int i, .int (f_X2_shownIn hr nS fS (nI u) 0), .int (hr / 24)]) (rest := []) [] F (c_X1_charged (vv_l x) (vv_k x) i (f_X2_shownIn hr nS fS (nI u) 0) (hr / 24)) ms_X6_47 dX6_reckonPair_44 (by decide) rfl rfl (Nat.le_of_ble_eq_true rfl) rfl (by decide) ?_
    refine vv_istore (lv' := [(9, .int (f_X1_charged i (f_X2_shownIn hr nS fS (nI u) 0) (hr / 24))), (8, .int (f_X2_shownIn hr nS fS (nI u) 0)), (7, .int (nI u)), (5, .int be), (6, .int ab), (0, .ref hT), (1, .ref hP), (2, .int i), (3, .int j), (4, .int (hr / 24))]) F dX6_reckonPair_47 (by decide) rfl ?_
    refine vv_iload_n F dX6_reckonPair_49 rfl rfl ?_
    refine vv_iload F dX6_reckonPair_50 rfl ?_
    refine vv_iload F dX6_reckonPair_52 rfl ?_
    refine vv_callSp (As := [.int j, .int (f_X2_shownIn hr nS fS (nI u) 0), .int (hr / 24)]) (rest := []) [] F (c_X1_charged (vv_l x) (vv_k x) j (f_X2_shownIn hr nS fS (nI u) 0) (hr / 24)) ms_X6_47 dX6_reckonPair_54 (by decide) rfl rfl (Nat.le_of_ble_eq_true rfl) rfl (by decide) ?_
    refine vv_istore (lv' := [(10, .int (f_X1_charged j (f_X2_shownIn hr nS fS (nI u) 0) (hr / 24))), (9, .int (f_X1_charged i (f_X2_shownIn hr nS fS (nI u) 0) (hr / 24))), (8, .int (f_X2_shownIn hr nS fS (nI u) 0)), (7, .int (nI u)), (5, .int be), (6, .int ab), (0, .ref hT), (1, .ref hP), (2, .int i), (3, .int j), (4, .int (hr / 24))]) F dX6_reckonPair_57 (by decide) rfl ?_
    refine vv_iload F dX6_reckonPair_59 rfl ?_
    refine vv_iload F dX6_reckonPair_61 rfl ?_
    refine vv_iadd F dX6_reckonPair_63 ?_
    refine vv_iconst (v := 2) F dX6_reckonPair_64 (by decide) ?_
    refine vv_aload_n F dX6_reckonPair_65 rfl rfl ?_
    refine vv_iload F dX6_reckonPair_66 rfl ?_
    refine vv_callVp (As := [.int (nI u)]) (rest := [.int 2, .int ((f_X1_charged i (f_X2_shownIn hr nS fS (nI u) 0) (hr / 24)) + (f_X1_charged j (f_X2_shownIn hr nS fS (nI u) 0) (hr / 24)))]) [3, 4, 5] 3 F (c_X2_bringing (vv_l x) (vv_k x) hP hS hC hN hM hU ln hb ha pu hl sm hr aS mS nS fS (nI u) (by omega)) mv_X6_51 dX6_reckonPair_68 (by decide) rfl rfl (Nat.le_of_ble_eq_true rfl) rfl (by decide) rfl ?_
    refine vv_imul F dX6_reckonPair_71 ?_
    refine vv_icmp_gt (tgt := 89) F dX6_reckonPair_72 (by decide) (fun h_2 => ?_) (fun h_2 => ?_)
    · refine vv_iinc (v := (nI (u + 1))) (lv' := [(7, .int (nI (u + 1))), (10, .int (f_X1_charged j (f_X2_shownIn hr nS fS (nI u) 0) (hr / 24))), (9, .int (f_X1_charged i (f_X2_shownIn hr nS fS (nI u) 0) (hr / 24))), (8, .int (f_X2_shownIn hr nS fS (nI u) 0)), (5, .int be), (6, .int ab), (0, .ref hT), (1, .ref hP), (2, .int i), (3, .int j), (4, .int (hr / 24))]) 3 F dX6_reckonPair_89 rfl (nI_1 u) (by decide) rfl ?_
      refine vv_goto (tgt := 18) F dX6_reckonPair_92 (by decide) ?_
      refine vv_lv (lv' := [(7, .int (nI (u + 1))), (5, .int be), (6, .int ab), (0, .ref hT), (1, .ref hP), (2, .int i), (3, .int j), (4, .int (hr / 24))]) [0, 4, 5, 6, 7, 8, 9, 10] rfl ?_
      refine vv_lvE (lv' := [(7, .int (nI (u + 1))), (5, .int (if (2 * (f_X1_brought (f_X3_cell nS fS (nI u) 1) ln)) < ((f_X1_charged i (f_X2_shownIn hr nS fS (nI u) 0) (hr / 24)) + (f_X1_charged j (f_X2_shownIn hr nS fS (nI u) 0) (hr / 24))) then be else (be + (f_X1_charged i (f_X2_shownIn hr nS fS (nI u) 0) (hr / 24))))), (6, .int (if (2 * (f_X1_brought (f_X3_cell nS fS (nI u) 1) ln)) < ((f_X1_charged i (f_X2_shownIn hr nS fS (nI u) 0) (hr / 24)) + (f_X1_charged j (f_X2_shownIn hr nS fS (nI u) 0) (hr / 24))) then ab else (ab + (f_X1_charged j (f_X2_shownIn hr nS fS (nI u) 0) (hr / 24))))), (0, .ref hT), (1, .ref hP), (2, .int i), (3, .int j), (4, .int (hr / 24))]) (by first | (simp only [if_pos h_2]; done) | (simp [vv_b, h_2]; done)) ?_
      exact ih (u + 1) (if (2 * (f_X1_brought (f_X3_cell nS fS (nI u) 1) ln)) < ((f_X1_charged i (f_X2_shownIn hr nS fS (nI u) 0) (hr / 24)) + (f_X1_charged j (f_X2_shownIn hr nS fS (nI u) 0) (hr / 24))) then be else (be + (f_X1_charged i (f_X2_shownIn hr nS fS (nI u) 0) (hr / 24)))) (if (2 * (f_X1_brought (f_X3_cell nS fS (nI u) 1) ln)) < ((f_X1_charged i (f_X2_shownIn hr nS fS (nI u) 0) (hr / 24)) + (f_X1_charged j (f_X2_shownIn hr nS fS (nI u) 0) (hr / 24))) then ab else (ab + (f_X1_charged j (f_X2_shownIn hr nS fS (nI u) 0) (hr / 24)))) (by omega) (by rw [itr_s] at kx; exact kx)
    · refine vv_iload F dX6_reckonPair_75 rfl ?_
      refine vv_iload F dX6_reckonPair_77 rfl ?_
      refine vv_iadd F dX6_reckonPair_79 ?_
      refine vv_istore (lv' := [(5, .int (be + (f_X1_charged i (f_X2_shownIn hr nS fS (nI u) 0) (hr / 24)))), (10, .int (f_X1_charged j (f_X2_shownIn hr nS fS (nI u) 0) (hr / 24))), (9, .int (f_X1_charged i (f_X2_shownIn hr nS fS (nI u) 0) (hr / 24))), (8, .int (f_X2_shownIn hr nS fS (nI u) 0)), (7, .int (nI u)), (6, .int ab), (0, .ref hT), (1, .ref hP), (2, .int i), (3, .int j), (4, .int (hr / 24))]) F dX6_reckonPair_80 (by decide) rfl ?_
      refine vv_iload F dX6_reckonPair_82 rfl ?_
      refine vv_iload F dX6_reckonPair_84 rfl ?_
      refine vv_iadd F dX6_reckonPair_86 ?_
      refine vv_istore (lv' := [(6, .int (ab + (f_X1_charged j (f_X2_shownIn hr nS fS (nI u) 0) (hr / 24)))), (5, .int (be + (f_X1_charged i (f_X2_shownIn hr nS fS (nI u) 0) (hr / 24)))), (10, .int (f_X1_charged j (f_X2_shownIn hr nS fS (nI u) 0) (hr / 24))), (9, .int (f_X1_charged i (f_X2_shownIn hr nS fS (nI u) 0) (hr / 24))), (8, .int (f_X2_shownIn hr nS fS (nI u) 0)), (7, .int (nI u)), (0, .ref hT), (1, .ref hP), (2, .int i), (3, .int j), (4, .int (hr / 24))]) F dX6_reckonPair_87 (by decide) rfl ?_
      refine vv_iinc (v := (nI (u + 1))) (lv' := [(7, .int (nI (u + 1))), (6, .int (ab + (f_X1_charged j (f_X2_shownIn hr nS fS (nI u) 0) (hr / 24)))), (5, .int (be + (f_X1_charged i (f_X2_shownIn hr nS fS (nI u) 0) (hr / 24)))), (10, .int (f_X1_charged j (f_X2_shownIn hr nS fS (nI u) 0) (hr / 24))), (9, .int (f_X1_charged i (f_X2_shownIn hr nS fS (nI u) 0) (hr / 24))), (8, .int (f_X2_shownIn hr nS fS (nI u) 0)), (0, .ref hT), (1, .ref hP), (2, .int i), (3, .int j), (4, .int (hr / 24))]) 5 F dX6_reckonPair_89 rfl (nI_1 u) (by decide) rfl ?_
      refine vv_goto (tgt := 18) F dX6_reckonPair_92 (by decide) ?_
      refine vv_lv (lv' := [(7, .int (nI (u + 1))), (5, .int (be + (f_X1_charged i (f_X2_shownIn hr nS fS (nI u) 0) (hr / 24)))), (6, .int (ab + (f_X1_charged j (f_X2_shownIn hr nS fS (nI u) 0) (hr / 24)))), (0, .ref hT), (1, .ref hP), (2, .int i), (3, .int j), (4, .int (hr / 24))]) [0, 2, 1, 6, 7, 8, 9, 10] rfl ?_
      refine vv_lvE (lv' := [(7, .int (nI (u + 1))), (5, .int (if (2 * (f_X1_brought (f_X3_cell nS fS (nI u) 1) ln)) < ((f_X1_charged i (f_X2_shownIn hr nS fS (nI u) 0) (hr / 24)) + (f_X1_charged j (f_X2_shownIn hr nS fS (nI u) 0) (hr / 24))) then be else (be + (f_X1_charged i (f_X2_shownIn hr nS fS (nI u) 0) (hr / 24))))), (6, .int (if (2 * (f_X1_brought (f_X3_cell nS fS (nI u) 1) ln)) < ((f_X1_charged i (f_X2_shownIn hr nS fS (nI u) 0) (hr / 24)) + (f_X1_charged j (f_X2_shownIn hr nS fS (nI u) 0) (hr / 24))) then ab else (ab + (f_X1_charged j (f_X2_shownIn hr nS fS (nI u) 0) (hr / 24))))), (0, .ref hT), (1, .ref hP), (2, .int i), (3, .int j), (4, .int (hr / 24))]) (by first | (simp only [if_neg h_2]; done) | (simp [vv_b, h_2]; done)) ?_
      exact ih (u + 1) (if (2 * (f_X1_brought (f_X3_cell nS fS (nI u) 1) ln)) < ((f_X1_charged i (f_X2_shownIn hr nS fS (nI u) 0) (hr / 24)) + (f_X1_charged j (f_X2_shownIn hr nS fS (nI u) 0) (hr / 24))) then be else (be + (f_X1_charged i (f_X2_shownIn hr nS fS (nI u) 0) (hr / 24)))) (if (2 * (f_X1_brought (f_X3_cell nS fS (nI u) 1) ln)) < ((f_X1_charged i (f_X2_shownIn hr nS fS (nI u) 0) (hr / 24)) + (f_X1_charged j (f_X2_shownIn hr nS fS (nI u) 0) (hr / 24))) then ab else (ab + (f_X1_charged j (f_X2_shownIn hr nS fS (nI u) 0) (hr / 24)))) (by omega) (by rw [itr_s] at kx; exact kx)
theorem c_X6_reckonPair (l : Launch) (K : vv_K) (hT aB aA : Nat) (tb ta : Nat → Int32) (hP hS hC hN hM hU : Nat) (ln hb ha pu hl sm hr : Int32) (aS : Nat) (mS nS : Int32) (fS : Nat → Int32) (i j : Int32) (c v w : Nat) (hc : (nS).toInt = (c : Int)) (hi : (i).toInt = (v : Int)) (hj : (j).toInt = (w : Int)) (hc5 : c ≤ 5) (hv6 : v < 6) (hw6 : w < 6)  : vv_C l K 4 yX6_reckonPair cX6_reckonPair 11 none [.ref hT, .ref hP, .int i, .int j] [(hT, .inr (5, [.ref aB, .ref aA])), (aB, .inl (K.2.1.1, 36, .inl tb)), (aA, .inl (K.2.1.1, 36, .inl ta)), (hP, .inr (1, [.int ln, .int hb, .int ha, .int pu, .int hl, .int sm, .int hr, .ref hS, .ref hC, .ref hN, .ref hM, .ref hU])), (hS, .inr (2, [.ref aS, .int mS, .int nS])), (aS, .inl (K.2.1.1, 32, .inl fS))] none [(hT, .inr (5, [.ref aB, .ref aA])), (aB, .inl (K.2.1.1, 36, .inl (upd tb (6 * v + w) ((itr (st_X6_reckonPair ln hr nS fS i j) c 0 (0, 0)).1)))), (aA, .inl (K.2.1.1, 36, .inl (upd ta (6 * v + w) ((itr (st_X6_reckonPair ln hr nS fS i j) c 0 (0, 0)).2)))), (hP, .inr (1, [.int ln, .int hb, .int ha, .int pu, .int hl, .int sm, .int hr, .ref hS, .ref hC, .ref hN, .ref hM, .ref hU])), (hS, .inr (2, [.ref aS, .int mS, .int nS])), (aS, .inl (K.2.1.1, 32, .inl fS))] := by
  refine vv_C.of (lv := [(0, .ref hT), (1, .ref hP), (2, .int i), (3, .int j)]) (by decide +kernel) (Nat.le_of_ble_eq_true rfl) rfl ?_
  intro x hl hK F hR; subst hl; obtain rfl := hK
  refine vv_aload_n F dX6_reckonPair_0 rfl rfl ?_
  refine vv_get 3 F fl_X6_28 dX6_reckonPair_1 rfl rfl ?_
  refine vv_bipush (v := 24) F dX6_reckonPair_4 (by decide) ?_
  refine vv_idiv F dX6_reckonPair_6 (by decide) ?_
  refine vv_istore (lv' := [(4, .int (hr / 24)), (0, .ref hT), (1, .ref hP), (2, .int i), (3, .int j)]) F dX6_reckonPair_7 (by decide) rfl ?_
  refine vv_iconst (v := 0) F dX6_reckonPair_9 (by decide) ?_
  refine vv_istore (lv' := [(5, .int 0), (4, .int (hr / 24)), (0, .ref hT), (1, .ref hP), (2, .int i), (3, .int j)]) F dX6_reckonPair_10 (by decide) rfl ?_
  refine vv_iconst (v := 0) F dX6_reckonPair_12 (by decide) ?_
  refine vv_istore (lv' := [(6, .int 0), (5, .int 0), (4, .int (hr / 24)), (0, .ref hT), (1, .ref hP), (2, .int i), (3, .int j)]) F dX6_reckonPair_13 (by decide) rfl ?_
  refine vv_iconst (v := 0) F dX6_reckonPair_15 (by decide) ?_
  refine vv_istore (lv' := [(7, .int 0), (6, .int 0), (5, .int 0), (4, .int (hr / 24)), (0, .ref hT), (1, .ref hP), (2, .int i), (3, .int j)]) F dX6_reckonPair_16 (by decide) rfl ?_
  refine vv_lv (lv' := [(7, .int 0), (5, .int 0), (6, .int 0), (0, .ref hT), (1, .ref hP), (2, .int i), (3, .int j), (4, .int (hr / 24))]) [0, 2, 1, 4, 5, 6, 7, 3] rfl ?_
  refine L_X6_reckonPair F hT aB aA tb ta hP hS hC hN hM hU ln hb ha pu hl sm hr aS mS nS fS i j c hc (by omega) c 0 0 0 (by omega) ?_
  refine vv_iload_n F dX6_reckonPair_95 rfl rfl ?_
  refine vv_callSp (As := [.int i]) (rest := []) [] F (c_X1_known (vv_l x) (vv_k x) i) ms_X6_55 dX6_reckonPair_96 (by decide) rfl rfl (Nat.le_of_ble_eq_true rfl) rfl (by decide) ?_
  refine vv_ifz_eq (tgt := 135) F dX6_reckonPair_99 (by decide) (fun h_1 => absurd (wi_in (a := 0) (b := 5) hi (by decide) (by decide) (by omega) (by omega)) h_1) (fun h_1 => ?_)
  refine vv_iload_n F dX6_reckonPair_102 rfl rfl ?_
  refine vv_callSp (As := [.int j]) (rest := []) [] F (c_X1_known (vv_l x) (vv_k x) j) ms_X6_55 dX6_reckonPair_103 (by decide) rfl rfl (Nat.le_of_ble_eq_true rfl) rfl (by decide) ?_
  refine vv_ifz_eq (tgt := 135) F dX6_reckonPair_106 (by decide) (fun h_2 => absurd (wi_in (a := 0) (b := 5) hj (by decide) (by decide) (by omega) (by omega)) h_2) (fun h_2 => ?_)
  refine vv_aload_n F dX6_reckonPair_109 rfl rfl ?_
  refine vv_get 0 F fl_X6_11 dX6_reckonPair_110 rfl rfl ?_
  refine vv_iload_n F dX6_reckonPair_113 rfl rfl ?_
  refine vv_bipush (v := 6) F dX6_reckonPair_114 (by decide) ?_
  refine vv_imul F dX6_reckonPair_116 ?_
  refine vv_iload_n F dX6_reckonPair_117 rfl rfl ?_
  refine vv_iadd F dX6_reckonPair_118 ?_
  refine vv_iload F dX6_reckonPair_119 rfl ?_
  refine vv_iast 1 (ws' := [(hT, .inr (5, [.ref aB, .ref aA])), (aB, .inl ((vv_k x).2.1.1, 36, .inl (upd tb (6 * v + w) ((itr (st_X6_reckonPair ln hr nS fS i j) c 0 (0, 0)).1)))), (aA, .inl ((vv_k x).2.1.1, 36, .inl ta)), (hP, .inr (1, [.int ln, .int hb, .int ha, .int pu, .int hl, .int sm, .int hr, .ref hS, .ref hC, .ref hN, .ref hM, .ref hU])), (hS, .inr (2, [.ref aS, .int mS, .int nS])), (aS, .inl ((vv_k x).2.1.1, 32, .inl fS))]) F dX6_reckonPair_121 rfl (vv_ixP (j := (6 * v + w)) (by have hz := (nn_add (nn_mul hi (by decide : (6 : Int32).toInt = ((6 : Nat) : Int)) (by omega)) hj (by omega)); omega) (by omega)) rfl ?_
  refine vv_aload_n F dX6_reckonPair_122 rfl rfl ?_
  refine vv_get 0 F fl_X6_17 dX6_reckonPair_123 rfl rfl ?_
  refine vv_iload_n F dX6_reckonPair_126 rfl rfl ?_
  refine vv_bipush (v := 6) F dX6_reckonPair_127 (by decide) ?_
  refine vv_imul F dX6_reckonPair_129 ?_
  refine vv_iload_n F dX6_reckonPair_130 rfl rfl ?_
  refine vv_iadd F dX6_reckonPair_131 ?_
  refine vv_iload F dX6_reckonPair_132 rfl ?_
  refine vv_iast 2 (ws' := [(hT, .inr (5, [.ref aB, .ref aA])), (aB, .inl ((vv_k x).2.1.1, 36, .inl (upd tb (6 * v + w) ((itr (st_X6_reckonPair ln hr nS fS i j) c 0 (0, 0)).1)))), (aA, .inl ((vv_k x).2.1.1, 36, .inl (upd ta (6 * v + w) ((itr (st_X6_reckonPair ln hr nS fS i j) c 0 (0, 0)).2)))), (hP, .inr (1, [.int ln, .int hb, .int ha, .int pu, .int hl, .int sm, .int hr, .ref hS, .ref hC, .ref hN, .ref hM, .ref hU])), (hS, .inr (2, [.ref aS, .int mS, .int nS])), (aS, .inl ((vv_k x).2.1.1, 32, .inl fS))]) F dX6_reckonPair_134 rfl (vv_ixP (j := (6 * v + w)) (by have hz := (nn_add (nn_mul hi (by decide : (6 : Int32).toInt = ((6 : Nat) : Int)) (by omega)) hj (by omega)); omega) (by omega)) rfl ?_
  exact vv_vret F hR dX6_reckonPair_135 rfl rfl
noncomputable def st_X6_reckon_in (ln hr nS : Int32) (fS : Nat → Int32) (v c : Nat) (u : Nat) (s : (Nat → Int32) × (Nat → Int32)) : (Nat → Int32) × (Nat → Int32) := ((upd s.1 (6 * v + u) ((itr (st_X6_reckonPair ln hr nS fS (nI v) (nI u)) c 0 (0, 0)).1)), (upd s.2 (6 * v + u) ((itr (st_X6_reckonPair ln hr nS fS (nI v) (nI u)) c 0 (0, 0)).2)))
theorem L_X6_reckon_in {x : vv_X} (F : vv_F x cX6_reckon 4 RX6 5) (hT aB aA : Nat) (tb ta : Nat → Int32) (hP hS hC hN hM hU : Nat) (ln hb ha pu hl sm hr : Int32) (aS : Nat) (mS nS : Int32) (fS : Nat → Int32) (v : Nat) (c : Nat) (hc : (nS).toInt = (c : Int)) (hc5 : c ≤ 5) (hv6 : v < 6) : ∀ (n : Nat) (u : Nat) (tb : Nat → Int32) (ta : Nat → Int32), u + n = 6 → vv_V x 4 29 [(3, .int (nI 6)), (0, .ref hT), (1, .ref hP), (2, .int (nI v))] [] [(hT, .inr (5, [.ref aB, .ref aA])), (aB, .inl ((vv_k x).2.1.1, 36, .inl ((itr (st_X6_reckon_in ln hr nS fS v c) n u (tb, ta)).1))), (aA, .inl ((vv_k x).2.1.1, 36, .inl ((itr (st_X6_reckon_in ln hr nS fS v c) n u (tb, ta)).2))), (hP, .inr (1, [.int ln, .int hb, .int ha, .int pu, .int hl, .int sm, .int hr, .ref hS, .ref hC, .ref hN, .ref hM, .ref hU])), (hS, .inr (2, [.ref aS, .int mS, .int nS])), (aS, .inl ((vv_k x).2.1.1, 32, .inl fS))] → vv_V x 4 10 [(3, .int (nI u)), (0, .ref hT), (1, .ref hP), (2, .int (nI v))] [] [(hT, .inr (5, [.ref aB, .ref aA])), (aB, .inl ((vv_k x).2.1.1, 36, .inl tb)), (aA, .inl ((vv_k x).2.1.1, 36, .inl ta)), (hP, .inr (1, [.int ln, .int hb, .int ha, .int pu, .int hl, .int sm, .int hr, .ref hS, .ref hC, .ref hN, .ref hM, .ref hU])), (hS, .inr (2, [.ref aS, .int mS, .int nS])), (aS, .inl ((vv_k x).2.1.1, 32, .inl fS))] := by
  intro n
  induction n with
  | zero =>
    intro u tb ta hu  kx
    refine vv_iload_n F dX6_reckon_10 rfl rfl ?_
    refine vv_bipush (v := 6) F dX6_reckon_11 (by decide) ?_
    refine vv_icmp_ge (tgt := 29) F dX6_reckon_13 (by decide) (fun h_1 => ?_) (fun h_1 => absurd ((c_le (by decide : (6 : Int32).toInt = ((6 : Nat) : Int)) (nI_toInt (n := u) (by omega))).mpr (by omega)) h_1)
    obtain rfl : u = 6 := by omega
    rw [itr_0] at kx
    exact vv_lv [0, 1, 2, 3] rfl kx
  | succ n ih =>
    intro u tb ta hu  kx
    refine vv_iload_n F dX6_reckon_10 rfl rfl ?_
    refine vv_bipush (v := 6) F dX6_reckon_11 (by decide) ?_
    refine vv_icmp_ge (tgt := 29) F dX6_reckon_13 (by decide) (fun h_1 => absurd ((c_le (by decide : (6 : Int32).toInt = ((6 : Nat) : Int)) (nI_toInt (n := u) (by omega))).mp h_1) (by omega)) (fun h_1 => ?_)
    refine vv_aload_n F dX6_reckon_16 rfl rfl ?_
    refine vv_aload_n F dX6_reckon_17 rfl rfl ?_
    refine vv_iload_n F dX6_reckon_18 rfl rfl ?_
    refine vv_iload_n F dX6_reckon_19 rfl rfl ?_
    refine vv_callV (As := [.ref hP, .int (nI v), .int (nI u)]) (rest := []) [0, 1, 2, 3, 4, 5] 0 (ws' := [(hT, .inr (5, [.ref aB, .ref aA])), (aB, .inl ((vv_k x).2.1.1, 36, .inl (upd tb (6 * v + u) ((itr (st_X6_reckonPair ln hr nS fS (nI v) (nI u)) c 0 (0, 0)).1)))), (aA, .inl ((vv_k x).2.1.1, 36, .inl (upd ta (6 * v + u) ((itr (st_X6_reckonPair ln hr nS fS (nI v) (nI u)) c 0 (0, 0)).2)))), (hP, .inr (1, [.int ln, .int hb, .int ha, .int pu, .int hl, .int sm, .int hr, .ref hS, .ref hC, .ref hN, .ref hM, .ref hU])), (hS, .inr (2, [.ref aS, .int mS, .int nS])), (aS, .inl ((vv_k x).2.1.1, 32, .inl fS))]) F (c_X6_reckonPair (vv_l x) (vv_k x) hT aB aA tb ta hP hS hC hN hM hU ln hb ha pu hl sm hr aS mS nS fS (nI v) (nI u) c v u hc (nI_toInt (n := v) (by omega)) (nI_toInt (n := u) (by omega)) (by omega) (by omega) (by omega)) mv_X6_20 dX6_reckon_20 (by decide) rfl rfl (Nat.le_of_ble_eq_true rfl) rfl (by decide) (Eq.trans (b := [hT, aB, aA, hP, hS, aS]) rfl rfl) rfl rfl ?_
    refine vv_iinc (v := (nI (u + 1))) (lv' := [(3, .int (nI (u + 1))), (0, .ref hT), (1, .ref hP), (2, .int (nI v))]) 0 F dX6_reckon_23 rfl (nI_1 u) (by decide) rfl ?_
    refine vv_goto (tgt := 10) F dX6_reckon_26 (by decide) ?_
    refine vv_lv [0, 1, 2, 3] rfl ?_
    exact ih (u + 1) (upd tb (6 * v + u) ((itr (st_X6_reckonPair ln hr nS fS (nI v) (nI u)) c 0 (0, 0)).1)) (upd ta (6 * v + u) ((itr (st_X6_reckonPair ln hr nS fS (nI v) (nI u)) c 0 (0, 0)).2)) (by omega) (by rw [itr_s] at kx; exact kx)
noncomputable def st_X6_reckon (ln hr nS : Int32) (fS : Nat → Int32) (c : Nat) (u : Nat) (s : (Nat → Int32) × (Nat → Int32)) : (Nat → Int32) × (Nat → Int32) := ((itr (st_X6_reckon_in ln hr nS fS u c) 6 0 (s.1, s.2)).1, (itr (st_X6_reckon_in ln hr nS fS u c) 6 0 (s.1, s.2)).2)
theorem L_X6_reckon {x : vv_X} (F : vv_F x cX6_reckon 4 RX6 5) (hT aB aA : Nat) (tb ta : Nat → Int32) (hP hS hC hN hM hU : Nat) (ln hb ha pu hl sm hr : Int32) (aS : Nat) (mS nS : Int32) (fS : Nat → Int32) (c : Nat) (hc : (nS).toInt = (c : Int)) (hc5 : c ≤ 5) : ∀ (n : Nat) (u : Nat) (tb : Nat → Int32) (ta : Nat → Int32), u + n = 6 → vv_V x 4 35 [(2, .int (nI 6)), (0, .ref hT), (1, .ref hP)] [] [(hT, .inr (5, [.ref aB, .ref aA])), (aB, .inl ((vv_k x).2.1.1, 36, .inl ((itr (st_X6_reckon ln hr nS fS c) n u (tb, ta)).1))), (aA, .inl ((vv_k x).2.1.1, 36, .inl ((itr (st_X6_reckon ln hr nS fS c) n u (tb, ta)).2))), (hP, .inr (1, [.int ln, .int hb, .int ha, .int pu, .int hl, .int sm, .int hr, .ref hS, .ref hC, .ref hN, .ref hM, .ref hU])), (hS, .inr (2, [.ref aS, .int mS, .int nS])), (aS, .inl ((vv_k x).2.1.1, 32, .inl fS))] → vv_V x 4 2 [(2, .int (nI u)), (0, .ref hT), (1, .ref hP)] [] [(hT, .inr (5, [.ref aB, .ref aA])), (aB, .inl ((vv_k x).2.1.1, 36, .inl tb)), (aA, .inl ((vv_k x).2.1.1, 36, .inl ta)), (hP, .inr (1, [.int ln, .int hb, .int ha, .int pu, .int hl, .int sm, .int hr, .ref hS, .ref hC, .ref hN, .ref hM, .ref hU])), (hS, .inr (2, [.ref aS, .int mS, .int nS])), (aS, .inl ((vv_k x).2.1.1, 32, .inl fS))] := by
  intro n
  induction n with
  | zero =>
    intro u tb ta hu  kx
    refine vv_iload_n F dX6_reckon_2 rfl rfl ?_
    refine vv_bipush (v := 6) F dX6_reckon_3 (by decide) ?_
    refine vv_icmp_ge (tgt := 35) F dX6_reckon_5 (by decide) (fun h_1 => ?_) (fun h_1 => absurd ((c_le (by decide : (6 : Int32).toInt = ((6 : Nat) : Int)) (nI_toInt (n := u) (by omega))).mpr (by omega)) h_1)
    obtain rfl : u = 6 := by omega
    rw [itr_0] at kx
    exact vv_lv [0, 1, 2] rfl kx
  | succ n ih =>
    intro u tb ta hu  kx
    refine vv_iload_n F dX6_reckon_2 rfl rfl ?_
    refine vv_bipush (v := 6) F dX6_reckon_3 (by decide) ?_
    refine vv_icmp_ge (tgt := 35) F dX6_reckon_5 (by decide) (fun h_1 => absurd ((c_le (by decide : (6 : Int32).toInt = ((6 : Nat) : Int)) (nI_toInt (n := u) (by omega))).mp h_1) (by omega)) (fun h_1 => ?_)
    refine vv_iconst (v := 0) F dX6_reckon_8 (by decide) ?_
    refine vv_istore_n (lv' := [(3, .int 0), (2, .int (nI u)), (0, .ref hT), (1, .ref hP)]) F dX6_reckon_9 rfl (by decide) rfl ?_
    refine vv_lv (lv' := [(3, .int 0), (0, .ref hT), (1, .ref hP), (2, .int (nI u))]) [0, 2, 3, 1] rfl ?_
    refine L_X6_reckon_in F hT aB aA tb ta hP hS hC hN hM hU ln hb ha pu hl sm hr aS mS nS fS u c hc (by omega) (by omega) 6 0 tb ta (by omega) ?_
    refine vv_iinc (v := (nI (u + 1))) (lv' := [(2, .int (nI (u + 1))), (3, .int (nI 6)), (0, .ref hT), (1, .ref hP)]) 3 F dX6_reckon_29 rfl (nI_1 u) (by decide) rfl ?_
    refine vv_goto (tgt := 2) F dX6_reckon_32 (by decide) ?_
    refine vv_lv [0, 2, 3] rfl ?_
    exact ih (u + 1) ((itr (st_X6_reckon_in ln hr nS fS u c) 6 0 (tb, ta)).1) ((itr (st_X6_reckon_in ln hr nS fS u c) 6 0 (tb, ta)).2) (by omega) (by rw [itr_s] at kx; exact kx)
theorem c_X6_reckon (l : Launch) (K : vv_K) (hT aB aA : Nat) (tb ta : Nat → Int32) (hP hS hC hN hM hU : Nat) (ln hb ha pu hl sm hr : Int32) (aS : Nat) (mS nS : Int32) (fS : Nat → Int32) (c : Nat) (hc : (nS).toInt = (c : Int)) (hc5 : c ≤ 5)  : vv_C l K 5 yX6_reckon cX6_reckon 4 none [.ref hT, .ref hP] [(hT, .inr (5, [.ref aB, .ref aA])), (aB, .inl (K.2.1.1, 36, .inl tb)), (aA, .inl (K.2.1.1, 36, .inl ta)), (hP, .inr (1, [.int ln, .int hb, .int ha, .int pu, .int hl, .int sm, .int hr, .ref hS, .ref hC, .ref hN, .ref hM, .ref hU])), (hS, .inr (2, [.ref aS, .int mS, .int nS])), (aS, .inl (K.2.1.1, 32, .inl fS))] none [(hT, .inr (5, [.ref aB, .ref aA])), (aB, .inl (K.2.1.1, 36, .inl ((itr (st_X6_reckon ln hr nS fS c) 6 0 (tb, ta)).1))), (aA, .inl (K.2.1.1, 36, .inl ((itr (st_X6_reckon ln hr nS fS c) 6 0 (tb, ta)).2))), (hP, .inr (1, [.int ln, .int hb, .int ha, .int pu, .int hl, .int sm, .int hr, .ref hS, .ref hC, .ref hN, .ref hM, .ref hU])), (hS, .inr (2, [.ref aS, .int mS, .int nS])), (aS, .inl (K.2.1.1, 32, .inl fS))] := by
  refine vv_C.of (lv := [(0, .ref hT), (1, .ref hP)]) (by decide +kernel) (Nat.le_of_ble_eq_true rfl) rfl ?_
  intro x hl hK F hR; subst hl; obtain rfl := hK
  refine vv_iconst (v := 0) F dX6_reckon_0 (by decide) ?_
  refine vv_istore_n (lv' := [(2, .int 0), (0, .ref hT), (1, .ref hP)]) F dX6_reckon_1 rfl (by decide) rfl ?_
  refine vv_lv (lv' := [(2, .int 0), (0, .ref hT), (1, .ref hP)]) [0, 1, 2] rfl ?_
  refine L_X6_reckon F hT aB aA tb ta hP hS hC hN hM hU ln hb ha pu hl sm hr aS mS nS fS c hc (by omega) 6 0 tb ta (by omega) ?_
  exact vv_vret F hR dX6_reckon_35 rfl rfl
noncomputable def st_X6_rests (tb ta : Nat → Int32) (v w : Nat) (u : Nat) (s : Bool) : Bool := (s && ((!decide ((tb (6 * v + w)) < (tb (6 * u + w)))) && decide ((ta (6 * v + u)) ≤ (ta (6 * v + w)))))
theorem L_X6_rests {x : vv_X} (F : vv_F x cX6_rests 5 RX6 3) (hT aB aA : Nat) (tb ta : Nat → Int32) (i j : Int32) (v w : Nat) (hi : (i).toInt = (v : Int)) (hj : (j).toInt = (w : Int)) (hv6 : v < 6) (hw6 : w < 6) {r : Option Value} {wc' : va_W} (hR : vv_R x (some .boolean) r wc') : ∀ (n : Nat) (u : Nat), u + n = 6 → wc' = [(hT, .inr (5, [.ref aB, .ref aA])), (aB, .inl ((vv_k x).2.1.1, 36, .inl tb)), (aA, .inl ((vv_k x).2.1.1, 36, .inl ta))] → r = some (.int (vv_b ((itr (st_X6_rests tb ta v w) n u true) = true))) → vv_V x 5 26 [(4, .int (nI u)), (0, .ref hT), (1, .int i), (2, .int j), (3, .int ((i * 6) + j))] [] [(hT, .inr (5, [.ref aB, .ref aA])), (aB, .inl ((vv_k x).2.1.1, 36, .inl tb)), (aA, .inl ((vv_k x).2.1.1, 36, .inl ta))] := by
  intro n
  induction n with
  | zero =>
    intro u hu hwc hres
    refine vv_iload F dX6_rests_26 rfl ?_
    refine vv_bipush (v := 6) F dX6_rests_28 (by decide) ?_
    refine vv_icmp_ge (tgt := 83) F dX6_rests_30 (by decide) (fun h_1 => ?_) (fun h_1 => absurd ((c_le (by decide : (6 : Int32).toInt = ((6 : Nat) : Int)) (nI_toInt (n := u) (by omega))).mpr (by omega)) h_1)
    refine vv_iconst (v := 1) F dX6_rests_83 (by decide) ?_
    exact vv_zret F hR dX6_rests_84 rfl (by rw [hres, itr_0]; rfl) hwc
  | succ n ih =>
    intro u hu hwc hres
    refine vv_iload F dX6_rests_26 rfl ?_
    refine vv_bipush (v := 6) F dX6_rests_28 (by decide) ?_
    refine vv_icmp_ge (tgt := 83) F dX6_rests_30 (by decide) (fun h_1 => absurd ((c_le (by decide : (6 : Int32).toInt = ((6 : Nat) : Int)) (nI_toInt (n := u) (by omega))).mp h_1) (by omega)) (fun h_1 => ?_)
    refine vv_aload_n F dX6_rests_33 rfl rfl ?_
    refine vv_get 0 F fl_X6_11 dX6_rests_34 rfl rfl ?_
    refine vv_iload F dX6_rests_37 rfl ?_
    refine vv_bipush (v := 6) F dX6_rests_39 (by decide) ?_
    refine vv_imul F dX6_rests_41 ?_
    refine vv_iload_n F dX6_rests_42 rfl rfl ?_
    refine vv_iadd F dX6_rests_43 ?_
    refine vv_iald 1 F dX6_rests_44 rfl (vv_ixP (j := (6 * u + w)) (by have hz := (nn_add (nn_mul (nI_toInt (n := u) (by omega)) (by decide : (6 : Int32).toInt = ((6 : Nat) : Int)) (by omega)) hj (by omega)); omega) (by omega)) ?_
    refine vv_aload_n F dX6_rests_45 rfl rfl ?_
    refine vv_get 0 F fl_X6_11 dX6_rests_46 rfl rfl ?_
    refine vv_iload_n F dX6_rests_49 rfl rfl ?_
    refine vv_iald 1 F dX6_rests_50 rfl (vv_ixP (j := (6 * v + w)) (by have hz := (nn_add (nn_mul hi (by decide : (6 : Int32).toInt = ((6 : Nat) : Int)) (by omega)) hj (by omega)); omega) (by omega)) ?_
    refine vv_icmp_gt (tgt := 75) F dX6_rests_51 (by decide) (fun h_2 => ?_) (fun h_2 => ?_)
    · refine vv_iconst (v := 0) F dX6_rests_75 (by decide) ?_
      exact vv_zret F hR dX6_rests_76 rfl (by rw [hres, itr_s, show (st_X6_rests tb ta v w) u true = false from (by simp [st_X6_rests, h_2]), itr_abs (fun _ => rfl)]; rfl) hwc
    · refine vv_aload_n F dX6_rests_54 rfl rfl ?_
      refine vv_get 0 F fl_X6_17 dX6_rests_55 rfl rfl ?_
      refine vv_iload_n F dX6_rests_58 rfl rfl ?_
      refine vv_bipush (v := 6) F dX6_rests_59 (by decide) ?_
      refine vv_imul F dX6_rests_61 ?_
      refine vv_iload F dX6_rests_62 rfl ?_
      refine vv_iadd F dX6_rests_64 ?_
      refine vv_iald 2 F dX6_rests_65 rfl (vv_ixP (j := (6 * v + u)) (by have hz := (nn_add (nn_mul hi (by decide : (6 : Int32).toInt = ((6 : Nat) : Int)) (by omega)) (nI_toInt (n := u) (by omega)) (by omega)); omega) (by omega)) ?_
      refine vv_aload_n F dX6_rests_66 rfl rfl ?_
      refine vv_get 0 F fl_X6_17 dX6_rests_67 rfl rfl ?_
      refine vv_iload_n F dX6_rests_70 rfl rfl ?_
      refine vv_iald 2 F dX6_rests_71 rfl (vv_ixP (j := (6 * v + w)) (by have hz := (nn_add (nn_mul hi (by decide : (6 : Int32).toInt = ((6 : Nat) : Int)) (by omega)) hj (by omega)); omega) (by omega)) ?_
      refine vv_icmp_le (tgt := 77) F dX6_rests_72 (by decide) (fun h_3 => ?_) (fun h_3 => ?_)
      · refine vv_iinc (v := (nI (u + 1))) (lv' := [(4, .int (nI (u + 1))), (0, .ref hT), (1, .int i), (2, .int j), (3, .int ((i * 6) + j))]) 0 F dX6_rests_77 rfl (nI_1 u) (by decide) rfl ?_
        refine vv_goto (tgt := 26) F dX6_rests_80 (by decide) ?_
        refine vv_lv [0, 1, 2, 3, 4] rfl ?_
        exact ih (u + 1) (by omega) hwc (by rw [hres, itr_s, show (st_X6_rests tb ta v w) u true = true from (by simp [st_X6_rests, h_2, h_3])])
      · refine vv_iconst (v := 0) F dX6_rests_75 (by decide) ?_
        exact vv_zret F hR dX6_rests_76 rfl (by rw [hres, itr_s, show (st_X6_rests tb ta v w) u true = false from (by simp [st_X6_rests, h_2, h_3]), itr_abs (fun _ => rfl)]; rfl) hwc
theorem c_X6_rests (l : Launch) (K : vv_K) (hT aB aA : Nat) (tb ta : Nat → Int32) (i j : Int32) (v w : Nat) (hi : (i).toInt = (v : Int)) (hj : (j).toInt = (w : Int)) (hv6 : v < 6) (hw6 : w < 6)  : vv_C l K 3 yX6_rests cX6_rests 5 (some .boolean) [.ref hT, .int i, .int j] [(hT, .inr (5, [.ref aB, .ref aA])), (aB, .inl (K.2.1.1, 36, .inl tb)), (aA, .inl (K.2.1.1, 36, .inl ta))] (some (.int (vv_b ((itr (st_X6_rests tb ta v w) 6 0 true) = true)))) [(hT, .inr (5, [.ref aB, .ref aA])), (aB, .inl (K.2.1.1, 36, .inl tb)), (aA, .inl (K.2.1.1, 36, .inl ta))] := by
  refine vv_C.of (lv := [(0, .ref hT), (1, .int i), (2, .int j)]) (by decide +kernel) (Nat.le_of_ble_eq_true rfl) rfl ?_
  intro x hl hK F hR; subst hl; obtain rfl := hK
  refine vv_iload_n F dX6_rests_0 rfl rfl ?_
  refine vv_callSp (As := [.int i]) (rest := []) [] F (c_X1_known (vv_l x) (vv_k x) i) ms_X6_55 dX6_rests_1 (by decide) rfl rfl (Nat.le_of_ble_eq_true rfl) rfl (by decide) ?_
  refine vv_ifz_eq (tgt := 14) F dX6_rests_4 (by decide) (fun h_1 => absurd (wi_in (a := 0) (b := 5) hi (by decide) (by decide) (by omega) (by omega)) h_1) (fun h_1 => ?_)
  refine vv_iload_n F dX6_rests_7 rfl rfl ?_
  refine vv_callSp (As := [.int j]) (rest := []) [] F (c_X1_known (vv_l x) (vv_k x) j) ms_X6_55 dX6_rests_8 (by decide) rfl rfl (Nat.le_of_ble_eq_true rfl) rfl (by decide) ?_
  refine vv_ifz_ne (tgt := 16) F dX6_rests_11 (by decide) (fun h_2 => ?_) (fun h_2 => absurd (wi_in (a := 0) (b := 5) hj (by decide) (by decide) (by omega) (by omega)) h_2)
  refine vv_iload_n F dX6_rests_16 rfl rfl ?_
  refine vv_bipush (v := 6) F dX6_rests_17 (by decide) ?_
  refine vv_imul F dX6_rests_19 ?_
  refine vv_iload_n F dX6_rests_20 rfl rfl ?_
  refine vv_iadd F dX6_rests_21 ?_
  refine vv_istore_n (lv' := [(3, .int ((i * 6) + j)), (0, .ref hT), (1, .int i), (2, .int j)]) F dX6_rests_22 rfl (by decide) rfl ?_
  refine vv_iconst (v := 0) F dX6_rests_23 (by decide) ?_
  refine vv_istore (lv' := [(4, .int 0), (3, .int ((i * 6) + j)), (0, .ref hT), (1, .int i), (2, .int j)]) F dX6_rests_24 (by decide) rfl ?_
  refine vv_lv (lv' := [(4, .int 0), (0, .ref hT), (1, .int i), (2, .int j), (3, .int ((i * 6) + j))]) [0, 2, 3, 4, 1] rfl ?_
  exact L_X6_rests F hT aB aA tb ta i j v w hi hj (by omega) (by omega) hR 6 0 (by omega) rfl rfl
noncomputable def st_X6_pairs_in (tb ta : Nat → Int32) (v : Nat) (u : Nat) (s : Int32) : Int32 := (if (itr (st_X6_rests tb ta v u) 6 0 true) = true then (s + 1) else s)
theorem L_X6_pairs_in {x : vv_X} (F : vv_F x cX6_pairs 4 RX6 4) (hT aB aA : Nat) (tb ta : Nat → Int32) (v : Nat) (hv6 : v < 6) : ∀ (n : Nat) (u : Nat) (q : Int32), u + n = 6 → vv_V x 4 36 [(3, .int (nI 6)), (1, .int (itr (st_X6_pairs_in tb ta v) n u q)), (0, .ref hT), (2, .int (nI v))] [] [(hT, .inr (5, [.ref aB, .ref aA])), (aB, .inl ((vv_k x).2.1.1, 36, .inl tb)), (aA, .inl ((vv_k x).2.1.1, 36, .inl ta))] → vv_V x 4 12 [(3, .int (nI u)), (1, .int q), (0, .ref hT), (2, .int (nI v))] [] [(hT, .inr (5, [.ref aB, .ref aA])), (aB, .inl ((vv_k x).2.1.1, 36, .inl tb)), (aA, .inl ((vv_k x).2.1.1, 36, .inl ta))] := by
  intro n
  induction n with
  | zero =>
    intro u q hu  kx
    refine vv_iload_n F dX6_pairs_12 rfl rfl ?_
    refine vv_bipush (v := 6) F dX6_pairs_13 (by decide) ?_
    refine vv_icmp_ge (tgt := 36) F dX6_pairs_15 (by decide) (fun h_1 => ?_) (fun h_1 => absurd ((c_le (by decide : (6 : Int32).toInt = ((6 : Nat) : Int)) (nI_toInt (n := u) (by omega))).mpr (by omega)) h_1)
    obtain rfl : u = 6 := by omega
    rw [itr_0] at kx
    exact vv_lv [0, 1, 2, 3] rfl kx
  | succ n ih =>
    intro u q hu  kx
    refine vv_iload_n F dX6_pairs_12 rfl rfl ?_
    refine vv_bipush (v := 6) F dX6_pairs_13 (by decide) ?_
    refine vv_icmp_ge (tgt := 36) F dX6_pairs_15 (by decide) (fun h_1 => absurd ((c_le (by decide : (6 : Int32).toInt = ((6 : Nat) : Int)) (nI_toInt (n := u) (by omega))).mp h_1) (by omega)) (fun h_1 => ?_)
    refine vv_aload_n F dX6_pairs_18 rfl rfl ?_
    refine vv_iload_n F dX6_pairs_19 rfl rfl ?_
    refine vv_iload_n F dX6_pairs_20 rfl rfl ?_
    refine vv_callVp (As := [.int (nI v), .int (nI u)]) (rest := []) [0, 1, 2] 0 F (c_X6_rests (vv_l x) (vv_k x) hT aB aA tb ta (nI v) (nI u) v u (nI_toInt (n := v) (by omega)) (nI_toInt (n := u) (by omega)) (by omega) (by omega)) mv_X6_24 dX6_pairs_21 (by decide) rfl rfl (Nat.le_of_ble_eq_true rfl) rfl (by decide) rfl ?_
    refine vv_ifz_eq (tgt := 30) F dX6_pairs_24 (by decide) (fun h_2 => ?_) (fun h_2 => ?_)
    · refine vv_iinc (v := (nI (u + 1))) (lv' := [(3, .int (nI (u + 1))), (1, .int q), (0, .ref hT), (2, .int (nI v))]) 0 F dX6_pairs_30 rfl (nI_1 u) (by decide) rfl ?_
      refine vv_goto (tgt := 12) F dX6_pairs_33 (by decide) ?_
      refine vv_lv (lv' := [(3, .int (nI (u + 1))), (1, .int q), (0, .ref hT), (2, .int (nI v))]) [0, 1, 2, 3] rfl ?_
      refine vv_lvE (lv' := [(3, .int (nI (u + 1))), (1, .int (if (itr (st_X6_rests tb ta v u) 6 0 true) = true then (q + 1) else q)), (0, .ref hT), (2, .int (nI v))]) (by first | (simp only [if_neg h_2]; done) | (simp [vv_b, h_2]; done)) ?_
      exact ih (u + 1) (if (itr (st_X6_rests tb ta v u) 6 0 true) = true then (q + 1) else q) (by omega) (by rw [itr_s] at kx; exact kx)
    · refine vv_iinc (v := (q + 1)) (lv' := [(1, .int (q + 1)), (3, .int (nI u)), (0, .ref hT), (2, .int (nI v))]) 1 F dX6_pairs_27 rfl rfl (by decide) rfl ?_
      refine vv_iinc (v := (nI (u + 1))) (lv' := [(3, .int (nI (u + 1))), (1, .int (q + 1)), (0, .ref hT), (2, .int (nI v))]) 1 F dX6_pairs_30 rfl (nI_1 u) (by decide) rfl ?_
      refine vv_goto (tgt := 12) F dX6_pairs_33 (by decide) ?_
      refine vv_lv (lv' := [(3, .int (nI (u + 1))), (1, .int (q + 1)), (0, .ref hT), (2, .int (nI v))]) [0, 1, 2, 3] rfl ?_
      refine vv_lvE (lv' := [(3, .int (nI (u + 1))), (1, .int (if (itr (st_X6_rests tb ta v u) 6 0 true) = true then (q + 1) else q)), (0, .ref hT), (2, .int (nI v))]) (by first | (simp only [if_pos h_2]; done) | (simp [vv_b, h_2]; done)) ?_
      exact ih (u + 1) (if (itr (st_X6_rests tb ta v u) 6 0 true) = true then (q + 1) else q) (by omega) (by rw [itr_s] at kx; exact kx)
noncomputable def st_X6_pairs (tb ta : Nat → Int32) (u : Nat) (s : Int32) : Int32 := (itr (st_X6_pairs_in tb ta u) 6 0 s)
theorem L_X6_pairs {x : vv_X} (F : vv_F x cX6_pairs 4 RX6 4) (hT aB aA : Nat) (tb ta : Nat → Int32)  : ∀ (n : Nat) (u : Nat) (q : Int32), u + n = 6 → vv_V x 4 42 [(2, .int (nI 6)), (1, .int (itr (st_X6_pairs tb ta) n u q)), (0, .ref hT)] [] [(hT, .inr (5, [.ref aB, .ref aA])), (aB, .inl ((vv_k x).2.1.1, 36, .inl tb)), (aA, .inl ((vv_k x).2.1.1, 36, .inl ta))] → vv_V x 4 4 [(2, .int (nI u)), (1, .int q), (0, .ref hT)] [] [(hT, .inr (5, [.ref aB, .ref aA])), (aB, .inl ((vv_k x).2.1.1, 36, .inl tb)), (aA, .inl ((vv_k x).2.1.1, 36, .inl ta))] := by
  intro n
  induction n with
  | zero =>
    intro u q hu  kx
    refine vv_iload_n F dX6_pairs_4 rfl rfl ?_
    refine vv_bipush (v := 6) F dX6_pairs_5 (by decide) ?_
    refine vv_icmp_ge (tgt := 42) F dX6_pairs_7 (by decide) (fun h_1 => ?_) (fun h_1 => absurd ((c_le (by decide : (6 : Int32).toInt = ((6 : Nat) : Int)) (nI_toInt (n := u) (by omega))).mpr (by omega)) h_1)
    obtain rfl : u = 6 := by omega
    rw [itr_0] at kx
    exact vv_lv [0, 1, 2] rfl kx
  | succ n ih =>
    intro u q hu  kx
    refine vv_iload_n F dX6_pairs_4 rfl rfl ?_
    refine vv_bipush (v := 6) F dX6_pairs_5 (by decide) ?_
    refine vv_icmp_ge (tgt := 42) F dX6_pairs_7 (by decide) (fun h_1 => absurd ((c_le (by decide : (6 : Int32).toInt = ((6 : Nat) : Int)) (nI_toInt (n := u) (by omega))).mp h_1) (by omega)) (fun h_1 => ?_)
    refine vv_iconst (v := 0) F dX6_pairs_10 (by decide) ?_
    refine vv_istore_n (lv' := [(3, .int 0), (2, .int (nI u)), (1, .int q), (0, .ref hT)]) F dX6_pairs_11 rfl (by decide) rfl ?_
    refine vv_lv (lv' := [(3, .int 0), (1, .int q), (0, .ref hT), (2, .int (nI u))]) [0, 2, 3, 1] rfl ?_
    refine L_X6_pairs_in F hT aB aA tb ta u (by omega) 6 0 q (by omega) ?_
    refine vv_iinc (v := (nI (u + 1))) (lv' := [(2, .int (nI (u + 1))), (3, .int (nI 6)), (1, .int (itr (st_X6_pairs_in tb ta u) 6 0 q)), (0, .ref hT)]) 3 F dX6_pairs_36 rfl (nI_1 u) (by decide) rfl ?_
    refine vv_goto (tgt := 4) F dX6_pairs_39 (by decide) ?_
    refine vv_lv (lv' := [(2, .int (nI (u + 1))), (1, .int (itr (st_X6_pairs_in tb ta u) 6 0 q)), (0, .ref hT)]) [0, 2, 3] rfl ?_
    refine vv_lvE (lv' := [(2, .int (nI (u + 1))), (1, .int (itr (st_X6_pairs_in tb ta u) 6 0 q)), (0, .ref hT)]) (by rfl) ?_
    exact ih (u + 1) (itr (st_X6_pairs_in tb ta u) 6 0 q) (by omega) (by rw [itr_s] at kx; exact kx)
theorem c_X6_pairs (l : Launch) (K : vv_K) (hT aB aA : Nat) (tb ta : Nat → Int32)  : vv_C l K 4 yX6_pairs cX6_pairs 4 (some .int) [.ref hT] [(hT, .inr (5, [.ref aB, .ref aA])), (aB, .inl (K.2.1.1, 36, .inl tb)), (aA, .inl (K.2.1.1, 36, .inl ta))] (some (.int (itr (st_X6_pairs tb ta) 6 0 0))) [(hT, .inr (5, [.ref aB, .ref aA])), (aB, .inl (K.2.1.1, 36, .inl tb)), (aA, .inl (K.2.1.1, 36, .inl ta))] := by
  refine vv_C.of (lv := [(0, .ref hT)]) (by decide +kernel) (Nat.le_of_ble_eq_true rfl) rfl ?_
  intro x hl hK F hR; subst hl; obtain rfl := hK
  refine vv_iconst (v := 0) F dX6_pairs_0 (by decide) ?_
  refine vv_istore_n (lv' := [(1, .int 0), (0, .ref hT)]) F dX6_pairs_1 rfl (by decide) rfl ?_
  refine vv_iconst (v := 0) F dX6_pairs_2 (by decide) ?_
  refine vv_istore_n (lv' := [(2, .int 0), (1, .int 0), (0, .ref hT)]) F dX6_pairs_3 rfl (by decide) rfl ?_
  refine vv_lv (lv' := [(2, .int 0), (1, .int 0), (0, .ref hT)]) [0, 1, 2] rfl ?_
  refine L_X6_pairs F hT aB aA tb ta 6 0 0 (by omega) ?_
  refine vv_iload_n F dX6_pairs_42 rfl rfl ?_
  exact vv_iret F hR dX6_pairs_43 rfl rfl
theorem L_X6_pair_in {x : vv_X} (F : vv_F x cX6_pair 5 RX6 4) (hT aB aA : Nat) (tb ta : Nat → Int32) (k : Int32) (v : Nat) (ct : Int32 → Int32) (hv6 : v < 6) {r : Option Value} {wc' : va_W} (hR : vv_R x (some .int) r wc') : ∀ (n : Nat) (u : Nat) (c : Int32), u + n = 6 → wc' = [(hT, .inr (5, [.ref aB, .ref aA])), (aB, .inl ((vv_k x).2.1.1, 36, .inl tb)), (aA, .inl ((vv_k x).2.1.1, 36, .inl ta))] → r = some (.int (l_ends_in (fun u => (itr (st_X6_rests tb ta v u) 6 0 true) = true) k v ct n u c)) → (∀ c' : Int32, r = some (.int (ct c')) → vv_V x 5 52 [(4, .int (nI 6)), (2, .int c'), (0, .ref hT), (1, .int k), (3, .int (nI v))] [] [(hT, .inr (5, [.ref aB, .ref aA])), (aB, .inl ((vv_k x).2.1.1, 36, .inl tb)), (aA, .inl ((vv_k x).2.1.1, 36, .inl ta))]) → vv_V x 5 13 [(4, .int (nI u)), (2, .int c), (0, .ref hT), (1, .int k), (3, .int (nI v))] [] [(hT, .inr (5, [.ref aB, .ref aA])), (aB, .inl ((vv_k x).2.1.1, 36, .inl tb)), (aA, .inl ((vv_k x).2.1.1, 36, .inl ta))] := by
  intro n
  induction n with
  | zero =>
    intro u c hu hw hr kx
    refine vv_iload F dX6_pair_13 rfl ?_
    refine vv_bipush (v := 6) F dX6_pair_15 (by decide) ?_
    refine vv_icmp_ge (tgt := 52) F dX6_pair_17 (by decide) (fun h_1 => ?_) (fun h_1 => absurd ((c_le (by decide : (6 : Int32).toInt = ((6 : Nat) : Int)) (nI_toInt (n := u) (by omega))).mpr (by omega)) h_1)
    obtain rfl : u = 6 := by omega
    exact vv_lv [0, 1, 2, 3, 4] rfl (kx c hr)
  | succ n ih =>
    intro u c hu hw hr kx
    refine vv_iload F dX6_pair_13 rfl ?_
    refine vv_bipush (v := 6) F dX6_pair_15 (by decide) ?_
    refine vv_icmp_ge (tgt := 52) F dX6_pair_17 (by decide) (fun h_1 => absurd ((c_le (by decide : (6 : Int32).toInt = ((6 : Nat) : Int)) (nI_toInt (n := u) (by omega))).mp h_1) (by omega)) (fun h_1 => ?_)
    refine vv_aload_n F dX6_pair_20 rfl rfl ?_
    refine vv_iload_n F dX6_pair_21 rfl rfl ?_
    refine vv_iload F dX6_pair_22 rfl ?_
    refine vv_callVp (As := [.int (nI v), .int (nI u)]) (rest := []) [0, 1, 2] 0 F (c_X6_rests (vv_l x) (vv_k x) hT aB aA tb ta (nI v) (nI u) v u (nI_toInt (n := v) (by omega)) (nI_toInt (n := u) (by omega)) (by omega) (by omega)) mv_X6_24 dX6_pair_24 (by decide) rfl rfl (Nat.le_of_ble_eq_true rfl) rfl (by decide) rfl ?_
    refine vv_ifz_eq (tgt := 46) F dX6_pair_27 (by decide) (fun h_2 => ?_) (fun h_2 => ?_)
    · refine vv_iinc (v := (nI (u + 1))) (lv' := [(4, .int (nI (u + 1))), (2, .int c), (0, .ref hT), (1, .int k), (3, .int (nI v))]) 0 F dX6_pair_46 rfl (nI_1 u) (by decide) rfl ?_
      refine vv_goto (tgt := 13) F dX6_pair_49 (by decide) ?_
      refine vv_lv [0, 1, 2, 3, 4] rfl ?_
      exact ih (u + 1) _ (by omega) hw (by rw [hr, l_ends_in, if_neg h_2]) kx
    · refine vv_iload_n F dX6_pair_30 rfl rfl ?_
      refine vv_iload_n F dX6_pair_31 rfl rfl ?_
      refine vv_icmp_ne (tgt := 43) F dX6_pair_32 (by decide) (fun h_3 => ?_) (fun h_3 => ?_)
      · refine vv_iinc (v := (c + 1)) (lv' := [(2, .int (c + 1)), (4, .int (nI u)), (0, .ref hT), (1, .int k), (3, .int (nI v))]) 1 F dX6_pair_43 rfl rfl (by decide) rfl ?_
        refine vv_iinc (v := (nI (u + 1))) (lv' := [(4, .int (nI (u + 1))), (2, .int (c + 1)), (0, .ref hT), (1, .int k), (3, .int (nI v))]) 1 F dX6_pair_46 rfl (nI_1 u) (by decide) rfl ?_
        refine vv_goto (tgt := 13) F dX6_pair_49 (by decide) ?_
        refine vv_lv [0, 1, 2, 3, 4] rfl ?_
        exact ih (u + 1) _ (by omega) hw (by rw [hr, l_ends_in, if_pos h_2, if_neg h_3]) kx
      · refine vv_bipush (v := 10) F dX6_pair_35 (by decide) ?_
        refine vv_iload_n F dX6_pair_37 rfl rfl ?_
        refine vv_imul F dX6_pair_38 ?_
        refine vv_iload F dX6_pair_39 rfl ?_
        refine vv_iadd F dX6_pair_41 ?_
        exact vv_iret F hR dX6_pair_42 (by rw [hr, l_ends_in, if_pos h_2, if_pos h_3]) hw
theorem L_X6_pair {x : vv_X} (F : vv_F x cX6_pair 5 RX6 4) (hT aB aA : Nat) (tb ta : Nat → Int32) (k : Int32)  {r : Option Value} {wc' : va_W} (hR : vv_R x (some .int) r wc') : ∀ (n : Nat) (v : Nat) (c : Int32), v + n = 6 → wc' = [(hT, .inr (5, [.ref aB, .ref aA])), (aB, .inl ((vv_k x).2.1.1, 36, .inl tb)), (aA, .inl ((vv_k x).2.1.1, 36, .inl ta))] → r = some (.int (l_ends (fun v u => (itr (st_X6_rests tb ta v u) 6 0 true) = true) k (fun _ => -1) n v c)) → vv_V x 5 4 [(3, .int (nI v)), (2, .int c), (0, .ref hT), (1, .int k)] [] [(hT, .inr (5, [.ref aB, .ref aA])), (aB, .inl ((vv_k x).2.1.1, 36, .inl tb)), (aA, .inl ((vv_k x).2.1.1, 36, .inl ta))] := by
  intro n
  induction n with
  | zero =>
    intro v c hv hw hr
    refine vv_iload_n F dX6_pair_4 rfl rfl ?_
    refine vv_bipush (v := 6) F dX6_pair_5 (by decide) ?_
    refine vv_icmp_ge (tgt := 58) F dX6_pair_7 (by decide) (fun h_1 => ?_) (fun h_1 => absurd ((c_le (by decide : (6 : Int32).toInt = ((6 : Nat) : Int)) (nI_toInt (n := v) (by omega))).mpr (by omega)) h_1)
    refine vv_iconst (v := (-1)) F dX6_pair_58 (by decide) ?_
    exact vv_iret F hR dX6_pair_59 (by rw [hr, l_ends]) hw
  | succ n ih =>
    intro v c hv hw hr
    refine vv_iload_n F dX6_pair_4 rfl rfl ?_
    refine vv_bipush (v := 6) F dX6_pair_5 (by decide) ?_
    refine vv_icmp_ge (tgt := 58) F dX6_pair_7 (by decide) (fun h_1 => absurd ((c_le (by decide : (6 : Int32).toInt = ((6 : Nat) : Int)) (nI_toInt (n := v) (by omega))).mp h_1) (by omega)) (fun h_1 => ?_)
    refine vv_iconst (v := 0) F dX6_pair_10 (by decide) ?_
    refine vv_istore (lv' := [(4, .int 0), (3, .int (nI v)), (2, .int c), (0, .ref hT), (1, .int k)]) F dX6_pair_11 (by decide) rfl ?_
    refine vv_lv (lv' := [(4, .int 0), (2, .int c), (0, .ref hT), (1, .int k), (3, .int (nI v))]) [0, 2, 3, 4, 1] rfl ?_
    refine L_X6_pair_in F hT aB aA tb ta k v (l_ends (fun v u => (itr (st_X6_rests tb ta v u) 6 0 true) = true) k (fun _ => -1) n (v + 1)) (by omega) hR 6 0 c (by omega) hw hr (fun c' hr => ?_)
    refine vv_iinc (v := (nI (v + 1))) (lv' := [(3, .int (nI (v + 1))), (4, .int (nI 6)), (2, .int c'), (0, .ref hT), (1, .int k)]) 4 F dX6_pair_52 rfl (nI_1 v) (by decide) rfl ?_
    refine vv_goto (tgt := 4) F dX6_pair_55 (by decide) ?_
    refine vv_lv [0, 2, 3, 4] rfl ?_
    exact ih (v + 1) _ (by omega) hw hr
noncomputable def f_X6_pair (tb ta : Nat → Int32) (k : Int32) : Int32 := (l_ends (fun v u => (itr (st_X6_rests tb ta v u) 6 0 true) = true) k (fun _ => -1) 6 0 0)
theorem c_X6_pair (l : Launch) (K : vv_K) (hT aB aA : Nat) (tb ta : Nat → Int32) (k : Int32)  : vv_C l K 4 yX6_pair cX6_pair 5 (some .int) [.ref hT, .int k] [(hT, .inr (5, [.ref aB, .ref aA])), (aB, .inl (K.2.1.1, 36, .inl tb)), (aA, .inl (K.2.1.1, 36, .inl ta))] (some (.int (f_X6_pair tb ta k))) [(hT, .inr (5, [.ref aB, .ref aA])), (aB, .inl (K.2.1.1, 36, .inl tb)), (aA, .inl (K.2.1.1, 36, .inl ta))] := by
  refine vv_C.of (lv := [(0, .ref hT), (1, .int k)]) (by decide +kernel) (Nat.le_of_ble_eq_true rfl) rfl ?_
  intro x hl hK F hR; subst hl; obtain rfl := hK
  refine vv_iconst (v := 0) F dX6_pair_0 (by decide) ?_
  refine vv_istore_n (lv' := [(2, .int 0), (0, .ref hT), (1, .int k)]) F dX6_pair_1 rfl (by decide) rfl ?_
  refine vv_iconst (v := 0) F dX6_pair_2 (by decide) ?_
  refine vv_istore_n (lv' := [(3, .int 0), (2, .int 0), (0, .ref hT), (1, .int k)]) F dX6_pair_3 rfl (by decide) rfl ?_
  refine vv_lv (lv' := [(3, .int 0), (2, .int 0), (0, .ref hT), (1, .int k)]) [0, 1, 2, 3] rfl ?_
  exact L_X6_pair F hT aB aA tb ta k hR 6 0 0 (by omega) rfl rfl
