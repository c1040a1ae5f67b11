theorem sent_ix {i a : Int32} {b : Nat} (ha : a.toInt = (b : Int)) (h : p_X7_within i 0 ((if 5 < a then 5 else a) - 1)) : 0 ≤ i.toInt ∧ i.toInt < 5 := by
  have e5 : (5 : Int32).toInt = ((5 : Nat) : Int) := rfl
  by_cases h5 : 5 < a
  · rw [if_pos h5] at h; exact wi_rngS e5 h
  · rw [if_neg h5] at h
    have h1 := wi_rngS ha h
    have h2 := mt (c_lt e5 ha).mpr h5
    omega
theorem kpF_b {dp : Nat} {hz : Int32} {s : Int32 × Int32 × (Nat → Int32) × (Nat → Int32)} (hd : dp ≤ 5) (h : ∃ b : Nat, b ≤ 5 ∧ s.1 = nI b) : ∃ b : Nat, b ≤ 5 ∧ (kpF dp hz s).1 = nI b := by
  unfold kpF; split
  · exact h
  · exact ⟨dp, hd, rfl⟩
theorem exF_b {cst : Nat → Int32} {ln nS : Int32} {fS : Nat → Int32} {cs : Nat} : ∀ (k dp : Nat) (pq hq : Int32) (s : Int32 × Int32 × (Nat → Int32) × (Nat → Int32)), dp + k = 5 → (∃ b : Nat, b ≤ 5 ∧ s.1 = nI b) → ∃ b : Nat, b ≤ 5 ∧ (exF cst ln nS fS cs k dp pq hq s).1 = nI b
  | 0, dp, pq, hq, s, hd, h => by rw [exF]; exact kpF_b (by omega) h
  | k + 1, dp, pq, hq, s, hd, h => by
    rw [exF]
    refine itr_inv (fun (s : Int32 × Int32 × (Nat → Int32) × (Nat → Int32)) => ∃ b : Nat, b ≤ 5 ∧ s.1 = nI b) cs 0 _ (fun v _ _ s hs => ?_) (kpF_b (dp := dp) (by omega) h)
    unfold st_X4_extend
    dsimp only
    split
    · exact hs
    · split
      · exact hs
      · exact exF_b k (dp + 1) _ _ _ (by omega) hs
noncomputable def f_X4_sent (bl : Int32) (bs : Nat → Int32) (i : Int32) : Int32 := (if p_X7_within i 0 ((if 5 < bl then 5 else bl) - 1) then (bs i.toNatClampNeg) else (-1))
theorem c_X4_sent (l : Launch) (K : vv_K) (hW aW aQ aR : Nat) (bl bh : Int32) (bs : Nat → Int32) (i : Int32) (nb : Nat) (hnb : (bl).toInt = (nb : Int))   : vv_C l K 3 yX4_sent cX4_sent 2 (some .int) [.ref hW, .int i] [(hW, .inr (3, [.ref aW, .ref aQ, .ref aR, .int bl, .int bh])), (aR, .inl (K.2.1.1, 5, .inl bs))] (some (.int (f_X4_sent bl bs i))) [(hW, .inr (3, [.ref aW, .ref aQ, .ref aR, .int bl, .int bh])), (aR, .inl (K.2.1.1, 5, .inl bs))] := by
  refine vv_C.of (lv := [(0, .ref hW), (1, .int i)]) (by decide +kernel) (Nat.le_of_ble_eq_true rfl) rfl ?_
  intro x hl hK F hR; subst hl; obtain rfl := hK
  refine vv_aload_n F dX4_sent_0 rfl rfl ?_
  refine vv_iload_n F dX4_sent_1 rfl rfl ?_
  refine vv_callVp (As := [.int i]) (rest := []) [0] 0 F (c_X4_isSent (vv_l x) (vv_k x) hW aW aQ aR bl bh i) mv_X4_59 dX4_sent_2 (by decide) rfl rfl (Nat.le_of_ble_eq_true rfl) rfl (by decide) rfl ?_
  refine vv_ifz_eq (tgt := 17) F dX4_sent_5 (by decide) (fun h_1 => ?_) (fun h_1 => ?_)
  · refine vv_iconst (v := (-1)) F dX4_sent_17 (by decide) ?_
    exact vv_iret F hR dX4_sent_18 (congrArg (fun z => some (Value.int z)) ((if_neg h_1).trans rfl)) rfl
  · have hir := sent_ix hnb h_1
    have hic := nn_cl (a := i) (by omega)
    refine vv_aload_n F dX4_sent_8 rfl rfl ?_
    refine vv_get 0 F fl_X4_18 dX4_sent_9 rfl rfl ?_
    refine vv_iload_n F dX4_sent_12 rfl rfl ?_
    refine vv_iald 1 F dX4_sent_13 rfl (vv_ixP (j := i.toNatClampNeg) (by have hz := hic; omega) (by omega)) ?_
    refine vv_goto (tgt := 18) F dX4_sent_14 (by decide) ?_
    exact vv_iret F hR dX4_sent_18 (congrArg (fun z => some (Value.int z)) ((if_pos h_1).trans rfl)) rfl
noncomputable def st_X4_search_in (hb ha hr nS : Int32) (fS : Nat → Int32) (v : Nat) (u : Nat) (s : (Nat → Int32)) : (Nat → Int32) := (upd s (5 * v + u) (f_X2_costIn hb ha hr nS fS (nI u) (nI v)))
theorem L_X4_search_in {x : vv_X} (F : vv_F x cX4_search 4 RX4 11) (hW aW aQ aR : Nat) (bl bh : Int32) (pt bs : Nat → Int32) (hP hS hC hN hM hU : Nat) (ln hb ha pu hl sm hr : Int32) (aS : Nat) (mS nS : Int32) (fS : Nat → Int32) (v : Nat) (cs : Nat) (hcs : (nS).toInt = (cs : Int)) (hcs5 : cs ≤ 5) (hv5 : v < 5) : ∀ (n : Nat) (u : Nat) (cst : Nat → Int32), u + n = cs → vv_V x 4 47 [(3, .int (nI cs)), (0, .ref hW), (1, .ref hP), (2, .int (nI v))] [] [(hW, .inr (3, [.ref aW, .ref aQ, .ref aR, .int bl, .int bh])), (aW, .inl ((vv_k x).2.1.1, 25, .inl (itr (st_X4_search_in hb ha hr nS fS v) n u cst))), (aQ, .inl ((vv_k x).2.1.1, 5, .inl pt)), (aR, .inl ((vv_k x).2.1.1, 5, .inl bs)), (hP, .inr (1, [.int ln, .int hb, .int ha, .int pu, .int hl, .int sm, .int hr, .ref hS, .ref hC, .ref hN, .ref hM, .ref hU])), (hS, .inr (2, [.ref aS, .int mS, .int nS])), (aS, .inl ((vv_k x).2.1.1, 32, .inl fS))] → vv_V x 4 9 [(3, .int (nI u)), (0, .ref hW), (1, .ref hP), (2, .int (nI v))] [] [(hW, .inr (3, [.ref aW, .ref aQ, .ref aR, .int bl, .int bh])), (aW, .inl ((vv_k x).2.1.1, 25, .inl cst)), (aQ, .inl ((vv_k x).2.1.1, 5, .inl pt)), (aR, .inl ((vv_k x).2.1.1, 5, .inl bs)), (hP, .inr (1, [.int ln, .int hb, .int ha, .int pu, .int hl, .int sm, .int hr, .ref hS, .ref hC, .ref hN, .ref hM, .ref hU])), (hS, .inr (2, [.ref aS, .int mS, .int nS])), (aS, .inl ((vv_k x).2.1.1, 32, .inl fS))] := by
  intro n
  induction n with
  | zero =>
    intro u cst hu  kx
    refine vv_iload_n F dX4_search_9 rfl rfl ?_
    refine vv_aload_n F dX4_search_10 rfl rfl ?_
    refine vv_get 4 F fl_X4_21 dX4_search_11 rfl rfl ?_
    refine vv_get 5 F fl_X4_27 dX4_search_14 rfl rfl ?_
    refine vv_icmp_ge (tgt := 47) F dX4_search_17 (by decide) (fun h_1 => ?_) (fun h_1 => absurd ((c_le hcs (nI_toInt (n := u) (by omega))).mpr (by omega)) h_1)
    obtain rfl : u = cs := by omega
    rw [itr_0] at kx
    exact vv_lv [0, 1, 2, 3] rfl kx
  | succ n ih =>
    intro u cst hu  kx
    refine vv_iload_n F dX4_search_9 rfl rfl ?_
    refine vv_aload_n F dX4_search_10 rfl rfl ?_
    refine vv_get 4 F fl_X4_21 dX4_search_11 rfl rfl ?_
    refine vv_get 5 F fl_X4_27 dX4_search_14 rfl rfl ?_
    refine vv_icmp_ge (tgt := 47) F dX4_search_17 (by decide) (fun h_1 => absurd ((c_le hcs (nI_toInt (n := u) (by omega))).mp h_1) (by omega)) (fun h_1 => ?_)
    refine vv_iload_n F dX4_search_20 rfl rfl ?_
    refine vv_iconst (v := 5) F dX4_search_21 (by decide) ?_
    refine vv_icmp_ge (tgt := 47) F dX4_search_22 (by decide) (fun h_2 => absurd ((c_le (by decide : (5 : Int32).toInt = ((5 : Nat) : Int)) (nI_toInt (n := u) (by omega))).mp h_2) (by omega)) (fun h_2 => ?_)
    refine vv_aload_n F dX4_search_25 rfl rfl ?_
    refine vv_get 0 F fl_X4_9 dX4_search_26 rfl rfl ?_
    refine vv_iload_n F dX4_search_29 rfl rfl ?_
    refine vv_iconst (v := 5) F dX4_search_30 (by decide) ?_
    refine vv_imul F dX4_search_31 ?_
    refine vv_iload_n F dX4_search_32 rfl rfl ?_
    refine vv_iadd F dX4_search_33 ?_
    refine vv_aload_n F dX4_search_34 rfl rfl ?_
    refine vv_iload_n F dX4_search_35 rfl rfl ?_
    refine vv_iload_n F dX4_search_36 rfl rfl ?_
    refine vv_callVp (As := [.int (nI u), .int (nI v)]) (rest := [.int (((nI v) * 5) + (nI u)), .ref aW]) [4, 5, 6] 4 F (c_X2_costIn (vv_l x) (vv_k x) hP hS hC hN hM hU ln hb ha pu hl sm hr aS mS nS fS (nI u) (nI v) (by omega)) mv_X4_33 dX4_search_37 (by decide) rfl rfl (Nat.le_of_ble_eq_true rfl) rfl (by decide) rfl ?_
    refine vv_iast 1 (ws' := [(hW, .inr (3, [.ref aW, .ref aQ, .ref aR, .int bl, .int bh])), (aW, .inl ((vv_k x).2.1.1, 25, .inl (upd cst (5 * v + u) (f_X2_costIn hb ha hr nS fS (nI u) (nI v))))), (aQ, .inl ((vv_k x).2.1.1, 5, .inl pt)), (aR, .inl ((vv_k x).2.1.1, 5, .inl bs)), (hP, .inr (1, [.int ln, .int hb, .int ha, .int pu, .int hl, .int sm, .int hr, .ref hS, .ref hC, .ref hN, .ref hM, .ref hU])), (hS, .inr (2, [.ref aS, .int mS, .int nS])), (aS, .inl ((vv_k x).2.1.1, 32, .inl fS))]) F dX4_search_40 rfl (vv_ixP (j := (5 * v + u)) (by have hz := (nn_add (nn_mul (nI_toInt (n := v) (by omega)) (by decide : (5 : Int32).toInt = ((5 : Nat) : Int)) (by omega)) (nI_toInt (n := u) (by omega)) (by omega)); omega) (by omega)) rfl ?_
    refine vv_iinc (v := (nI (u + 1))) (lv' := [(3, .int (nI (u + 1))), (0, .ref hW), (1, .ref hP), (2, .int (nI v))]) 0 F dX4_search_41 rfl (nI_1 u) (by decide) rfl ?_
    refine vv_goto (tgt := 9) F dX4_search_44 (by decide) ?_
    refine vv_lv [0, 1, 2, 3] rfl ?_
    exact ih (u + 1) (upd cst (5 * v + u) (f_X2_costIn hb ha hr nS fS (nI u) (nI v))) (by omega) (by rw [itr_s] at kx; exact kx)
noncomputable def st_X4_search (hb ha hr nS : Int32) (fS : Nat → Int32) (cs : Nat) (u : Nat) (s : (Nat → Int32)) : (Nat → Int32) := (itr (st_X4_search_in hb ha hr nS fS u) cs 0 s)
theorem L_X4_search {x : vv_X} (F : vv_F x cX4_search 4 RX4 11) (hW aW aQ aR : Nat) (bl bh : Int32) (pt bs : Nat → Int32) (hP hS hC hN hM hU : Nat) (ln hb ha pu hl sm hr : Int32) (aS : Nat) (mS nS : Int32) (fS : Nat → Int32) (cs : Nat) (hcs : (nS).toInt = (cs : Int)) (hcs5 : cs ≤ 5) : ∀ (n : Nat) (u : Nat) (cst : Nat → Int32), u + n = 5 → vv_V x 4 53 [(2, .int (nI 5)), (0, .ref hW), (1, .ref hP)] [] [(hW, .inr (3, [.ref aW, .ref aQ, .ref aR, .int bl, .int bh])), (aW, .inl ((vv_k x).2.1.1, 25, .inl (itr (st_X4_search hb ha hr nS fS cs) n u cst))), (aQ, .inl ((vv_k x).2.1.1, 5, .inl pt)), (aR, .inl ((vv_k x).2.1.1, 5, .inl bs)), (hP, .inr (1, [.int ln, .int hb, .int ha, .int pu, .int hl, .int sm, .int hr, .ref hS, .ref hC, .ref hN, .ref hM, .ref hU])), (hS, .inr (2, [.ref aS, .int mS, .int nS])), (aS, .inl ((vv_k x).2.1.1, 32, .inl fS))] → vv_V x 4 2 [(2, .int (nI u)), (0, .ref hW), (1, .ref hP)] [] [(hW, .inr (3, [.ref aW, .ref aQ, .ref aR, .int bl, .int bh])), (aW, .inl ((vv_k x).2.1.1, 25, .inl cst)), (aQ, .inl ((vv_k x).2.1.1, 5, .inl pt)), (aR, .inl ((vv_k x).2.1.1, 5, .inl bs)), (hP, .inr (1, [.int ln, .int hb, .int ha, .int pu, .int hl, .int sm, .int hr, .ref hS, .ref hC, .ref hN, .ref hM, .ref hU])), (hS, .inr (2, [.ref aS, .int mS, .int nS])), (aS, .inl ((vv_k x).2.1.1, 32, .inl fS))] := by
  intro n
  induction n with
  | zero =>
    intro u cst hu  kx
    refine vv_iload_n F dX4_search_2 rfl rfl ?_
    refine vv_iconst (v := 5) F dX4_search_3 (by decide) ?_
    refine vv_icmp_ge (tgt := 53) F dX4_search_4 (by decide) (fun h_1 => ?_) (fun h_1 => absurd ((c_le (by decide : (5 : Int32).toInt = ((5 : Nat) : Int)) (nI_toInt (n := u) (by omega))).mpr (by omega)) h_1)
    obtain rfl : u = 5 := by omega
    rw [itr_0] at kx
    exact vv_lv [0, 1, 2] rfl kx
  | succ n ih =>
    intro u cst hu  kx
    refine vv_iload_n F dX4_search_2 rfl rfl ?_
    refine vv_iconst (v := 5) F dX4_search_3 (by decide) ?_
    refine vv_icmp_ge (tgt := 53) F dX4_search_4 (by decide) (fun h_1 => absurd ((c_le (by decide : (5 : Int32).toInt = ((5 : Nat) : Int)) (nI_toInt (n := u) (by omega))).mp h_1) (by omega)) (fun h_1 => ?_)
    refine vv_iconst (v := 0) F dX4_search_7 (by decide) ?_
    refine vv_istore_n (lv' := [(3, .int 0), (2, .int (nI u)), (0, .ref hW), (1, .ref hP)]) F dX4_search_8 rfl (by decide) rfl ?_
    refine vv_lv (lv' := [(3, .int 0), (0, .ref hW), (1, .ref hP), (2, .int (nI u))]) [0, 2, 3, 1] rfl ?_
    refine L_X4_search_in F hW aW aQ aR bl bh pt bs hP hS hC hN hM hU ln hb ha pu hl sm hr aS mS nS fS u cs hcs (by omega) (by omega) cs 0 cst (by omega) ?_
    refine vv_iinc (v := (nI (u + 1))) (lv' := [(2, .int (nI (u + 1))), (3, .int (nI cs)), (0, .ref hW), (1, .ref hP)]) 3 F dX4_search_47 rfl (nI_1 u) (by decide) rfl ?_
    refine vv_goto (tgt := 2) F dX4_search_50 (by decide) ?_
    refine vv_lv [0, 2, 3] rfl ?_
    exact ih (u + 1) (itr (st_X4_search_in hb ha hr nS fS u) cs 0 cst) (by omega) (by rw [itr_s] at kx; exact kx)
theorem c_X4_extend0 (l : Launch) (K : vv_K) (hW aW aQ aR : Nat) (bl bh : Int32) (cst pt bs : Nat → Int32) (hP hS hC hN hM hU : Nat) (ln hb ha pu hl sm hr : Int32) (aS : Nat) (mS nS : Int32) (fS : Nat → Int32) (pq hq : Int32) (cs : Nat) (hcs : (nS).toInt = (cs : Int)) (hcs5 : cs ≤ 5) : vv_C l K 10 yX4_extend cX4_extend 7 none [.ref hW, .ref hP, .int 0, .int pq, .int hq] [(hW, .inr (3, [.ref aW, .ref aQ, .ref aR, .int bl, .int bh])), (aW, .inl (K.2.1.1, 25, .inl cst)), (aQ, .inl (K.2.1.1, 5, .inl pt)), (aR, .inl (K.2.1.1, 5, .inl bs)), (hP, .inr (1, [.int ln, .int hb, .int ha, .int pu, .int hl, .int sm, .int hr, .ref hS, .ref hC, .ref hN, .ref hM, .ref hU])), (hS, .inr (2, [.ref aS, .int mS, .int nS])), (aS, .inl (K.2.1.1, 32, .inl fS))] none [(hW, .inr (3, [.ref aW, .ref aQ, .ref aR, .int ((exF cst ln nS fS cs 5 0 pq hq (bl, bh, pt, bs)).1), .int ((exF cst ln nS fS cs 5 0 pq hq (bl, bh, pt, bs)).2.1)])), (aW, .inl (K.2.1.1, 25, .inl cst)), (aQ, .inl (K.2.1.1, 5, .inl ((exF cst ln nS fS cs 5 0 pq hq (bl, bh, pt, bs)).2.2.1))), (aR, .inl (K.2.1.1, 5, .inl ((exF cst ln nS fS cs 5 0 pq hq (bl, bh, pt, bs)).2.2.2))), (hP, .inr (1, [.int ln, .int hb, .int ha, .int pu, .int hl, .int sm, .int hr, .ref hS, .ref hC, .ref hN, .ref hM, .ref hU])), (hS, .inr (2, [.ref aS, .int mS, .int nS])), (aS, .inl (K.2.1.1, 32, .inl fS))] := c_X4_extend l K hW aW aQ aR cst hP hS hC hN hM hU ln hb ha pu hl sm hr aS mS nS fS cs hcs hcs5 5 0 bl bh pq hq pt bs (by omega)
theorem c_X4_search (l : Launch) (K : vv_K) (hW aW aQ aR : Nat) (bl bh : Int32) (cst pt bs : Nat → Int32) (hP hS hC hN hM hU : Nat) (ln hb ha pu hl sm hr : Int32) (aS : Nat) (mS nS : Int32) (fS : Nat → Int32) (cs : Nat) (hcs : (nS).toInt = (cs : Int)) (hcs5 : cs ≤ 5)  : vv_C l K 11 yX4_search cX4_search 4 none [.ref hW, .ref hP] [(hW, .inr (3, [.ref aW, .ref aQ, .ref aR, .int bl, .int bh])), (aW, .inl (K.2.1.1, 25, .inl cst)), (aQ, .inl (K.2.1.1, 5, .inl pt)), (aR, .inl (K.2.1.1, 5, .inl bs)), (hP, .inr (1, [.int ln, .int hb, .int ha, .int pu, .int hl, .int sm, .int hr, .ref hS, .ref hC, .ref hN, .ref hM, .ref hU])), (hS, .inr (2, [.ref aS, .int mS, .int nS])), (aS, .inl (K.2.1.1, 32, .inl fS))] none [(hW, .inr (3, [.ref aW, .ref aQ, .ref aR, .int ((exF (itr (st_X4_search hb ha hr nS fS cs) 5 0 cst) ln nS fS cs 5 0 pu 0 (0, 0, pt, bs)).1), .int ((exF (itr (st_X4_search hb ha hr nS fS cs) 5 0 cst) ln nS fS cs 5 0 pu 0 (0, 0, pt, bs)).2.1)])), (aW, .inl (K.2.1.1, 25, .inl (itr (st_X4_search hb ha hr nS fS cs) 5 0 cst))), (aQ, .inl (K.2.1.1, 5, .inl ((exF (itr (st_X4_search hb ha hr nS fS cs) 5 0 cst) ln nS fS cs 5 0 pu 0 (0, 0, pt, bs)).2.2.1))), (aR, .inl (K.2.1.1, 5, .inl ((exF (itr (st_X4_search hb ha hr nS fS cs) 5 0 cst) ln nS fS cs 5 0 pu 0 (0, 0, pt, bs)).2.2.2))), (hP, .inr (1, [.int ln, .int hb, .int ha, .int pu, .int hl, .int sm, .int hr, .ref hS, .ref hC, .ref hN, .ref hM, .ref hU])), (hS, .inr (2, [.ref aS, .int mS, .int nS])), (aS, .inl (K.2.1.1, 32, .inl fS))] := by
  refine vv_C.of (lv := [(0, .ref hW), (1, .ref hP)]) (by decide +kernel) (Nat.le_of_ble_eq_true rfl) rfl ?_
  intro x hl hK F hR; subst hl; obtain rfl := hK
  refine vv_iconst (v := 0) F dX4_search_0 (by decide) ?_
  refine vv_istore_n (lv' := [(2, .int 0), (0, .ref hW), (1, .ref hP)]) F dX4_search_1 rfl (by decide) rfl ?_
  refine vv_lv (lv' := [(2, .int 0), (0, .ref hW), (1, .ref hP)]) [0, 1, 2] rfl ?_
  refine L_X4_search F hW aW aQ aR bl bh pt bs hP hS hC hN hM hU ln hb ha pu hl sm hr aS mS nS fS cs hcs (by omega) 5 0 cst (by omega) ?_
  refine vv_aload_n F dX4_search_53 rfl rfl ?_
  refine vv_iconst (v := 0) F dX4_search_54 (by decide) ?_
  refine vv_put 0 (ws' := [(hW, .inr (3, [.ref aW, .ref aQ, .ref aR, .int 0, .int bh])), (aW, .inl ((vv_k x).2.1.1, 25, .inl (itr (st_X4_search hb ha hr nS fS cs) 5 0 cst))), (aQ, .inl ((vv_k x).2.1.1, 5, .inl pt)), (aR, .inl ((vv_k x).2.1.1, 5, .inl bs)), (hP, .inr (1, [.int ln, .int hb, .int ha, .int pu, .int hl, .int sm, .int hr, .ref hS, .ref hC, .ref hN, .ref hM, .ref hU])), (hS, .inr (2, [.ref aS, .int mS, .int nS])), (aS, .inl ((vv_k x).2.1.1, 32, .inl fS))]) F fl_X4_37 dX4_search_55 rfl rfl rfl (Nat.le_of_ble_eq_true rfl) rfl ?_
  refine vv_aload_n F dX4_search_58 rfl rfl ?_
  refine vv_iconst (v := 0) F dX4_search_59 (by decide) ?_
  refine vv_put 0 (ws' := [(hW, .inr (3, [.ref aW, .ref aQ, .ref aR, .int 0, .int 0])), (aW, .inl ((vv_k x).2.1.1, 25, .inl (itr (st_X4_search hb ha hr nS fS cs) 5 0 cst))), (aQ, .inl ((vv_k x).2.1.1, 5, .inl pt)), (aR, .inl ((vv_k x).2.1.1, 5, .inl bs)), (hP, .inr (1, [.int ln, .int hb, .int ha, .int pu, .int hl, .int sm, .int hr, .ref hS, .ref hC, .ref hN, .ref hM, .ref hU])), (hS, .inr (2, [.ref aS, .int mS, .int nS])), (aS, .inl ((vv_k x).2.1.1, 32, .inl fS))]) F fl_X4_40 dX4_search_60 rfl rfl rfl (Nat.le_of_ble_eq_true rfl) rfl ?_
  refine vv_aload_n F dX4_search_63 rfl rfl ?_
  refine vv_aload_n F dX4_search_64 rfl rfl ?_
  refine vv_iconst (v := 0) F dX4_search_65 (by decide) ?_
  refine vv_aload_n F dX4_search_66 rfl rfl ?_
  refine vv_get 4 F fl_X4_43 dX4_search_67 rfl rfl ?_
  refine vv_iconst (v := 0) F dX4_search_70 (by decide) ?_
  refine vv_callS (As := [.ref hW, .ref hP, .int 0, .int pu, .int 0]) (rest := []) [0, 1, 2, 3, 4, 5, 6] (ws' := [(hW, .inr (3, [.ref aW, .ref aQ, .ref aR, .int ((exF (itr (st_X4_search hb ha hr nS fS cs) 5 0 cst) ln nS fS cs 5 0 pu 0 (0, 0, pt, bs)).1), .int ((exF (itr (st_X4_search hb ha hr nS fS cs) 5 0 cst) ln nS fS cs 5 0 pu 0 (0, 0, pt, bs)).2.1)])), (aW, .inl ((vv_k x).2.1.1, 25, .inl (itr (st_X4_search hb ha hr nS fS cs) 5 0 cst))), (aQ, .inl ((vv_k x).2.1.1, 5, .inl ((exF (itr (st_X4_search hb ha hr nS fS cs) 5 0 cst) ln nS fS cs 5 0 pu 0 (0, 0, pt, bs)).2.2.1))), (aR, .inl ((vv_k x).2.1.1, 5, .inl ((exF (itr (st_X4_search hb ha hr nS fS cs) 5 0 cst) ln nS fS cs 5 0 pu 0 (0, 0, pt, bs)).2.2.2))), (hP, .inr (1, [.int ln, .int hb, .int ha, .int pu, .int hl, .int sm, .int hr, .ref hS, .ref hC, .ref hN, .ref hM, .ref hU])), (hS, .inr (2, [.ref aS, .int mS, .int nS])), (aS, .inl ((vv_k x).2.1.1, 32, .inl fS))]) F (c_X4_extend0 (vv_l x) (vv_k x) hW aW aQ aR 0 0 (itr (st_X4_search hb ha hr nS fS cs) 5 0 cst) pt bs hP hS hC hN hM hU ln hb ha pu hl sm hr aS mS nS fS pu 0 cs hcs (by omega)) ms_X4_46 dX4_search_71 (by decide) rfl rfl (Nat.le_of_ble_eq_true rfl) rfl (by decide) (Eq.trans (b := [hW, aW, aQ, aR, hP, hS, aS]) rfl rfl) rfl ?_
  exact vv_vret F hR dX4_search_74 rfl rfl
noncomputable def f_X7_row (ln hb ha pu hr nS : Int32) (fS cst pt bs : Nat → Int32) (i : Int32) (cs : Nat) : Int32 := (if (-2) ≤ i then (if i = (-2) then (exF (itr (st_X4_search hb ha hr nS fS cs) 5 0 cst) ln nS fS cs 5 0 pu 0 (0, 0, pt, bs)).2.1 else (if i = (-1) then (exF (itr (st_X4_search hb ha hr nS fS cs) 5 0 cst) ln nS fS cs 5 0 pu 0 (0, 0, pt, bs)).1 else (if p_X7_within i 0 ((if 5 < ((exF (itr (st_X4_search hb ha hr nS fS cs) 5 0 cst) ln nS fS cs 5 0 pu 0 (0, 0, pt, bs)).1) then 5 else ((exF (itr (st_X4_search hb ha hr nS fS cs) 5 0 cst) ln nS fS cs 5 0 pu 0 (0, 0, pt, bs)).1)) - 1) then (f_X4_sent ((exF (itr (st_X4_search hb ha hr nS fS cs) 5 0 cst) ln nS fS cs 5 0 pu 0 (0, 0, pt, bs)).1) ((exF (itr (st_X4_search hb ha hr nS fS cs) 5 0 cst) ln nS fS cs 5 0 pu 0 (0, 0, pt, bs)).2.2.2) i) else (-5)))) else (-10))
noncomputable def g_X7_row_0_12 (rb ln hb ha pu hr nS : Int32) (fS cst pt bs : Nat → Int32) (i : Int32) (cs : Nat) : Int32 := (if (-2) ≤ i then (if i = (-2) then rb else (if i = (-1) then rb else (if p_X7_within i 0 ((if 5 < ((exF (itr (st_X4_search hb ha hr nS fS cs) 5 0 cst) ln nS fS cs 5 0 pu 0 (0, 0, pt, bs)).1) then 5 else ((exF (itr (st_X4_search hb ha hr nS fS cs) 5 0 cst) ln nS fS cs 5 0 pu 0 (0, 0, pt, bs)).1)) - 1) then rb else rb))) else (rb + 1))
noncomputable def g_X7_row_4_3 (ln hb ha pu hr nS : Int32) (fS : Nat → Int32) (bl : Int32) (cst pt bs : Nat → Int32) (i : Int32) (cs : Nat) : Int32 := (if (-2) ≤ i then (if i = (-2) then (exF (itr (st_X4_search hb ha hr nS fS cs) 5 0 cst) ln nS fS cs 5 0 pu 0 (0, 0, pt, bs)).1 else (if i = (-1) then (exF (itr (st_X4_search hb ha hr nS fS cs) 5 0 cst) ln nS fS cs 5 0 pu 0 (0, 0, pt, bs)).1 else (if p_X7_within i 0 ((if 5 < ((exF (itr (st_X4_search hb ha hr nS fS cs) 5 0 cst) ln nS fS cs 5 0 pu 0 (0, 0, pt, bs)).1) then 5 else ((exF (itr (st_X4_search hb ha hr nS fS cs) 5 0 cst) ln nS fS cs 5 0 pu 0 (0, 0, pt, bs)).1)) - 1) then (exF (itr (st_X4_search hb ha hr nS fS cs) 5 0 cst) ln nS fS cs 5 0 pu 0 (0, 0, pt, bs)).1 else (exF (itr (st_X4_search hb ha hr nS fS cs) 5 0 cst) ln nS fS cs 5 0 pu 0 (0, 0, pt, bs)).1))) else bl)
noncomputable def g_X7_row_4_4 (ln hb ha pu hr nS : Int32) (fS : Nat → Int32) (bh : Int32) (cst pt bs : Nat → Int32) (i : Int32) (cs : Nat) : Int32 := (if (-2) ≤ i then (if i = (-2) then (exF (itr (st_X4_search hb ha hr nS fS cs) 5 0 cst) ln nS fS cs 5 0 pu 0 (0, 0, pt, bs)).2.1 else (if i = (-1) then (exF (itr (st_X4_search hb ha hr nS fS cs) 5 0 cst) ln nS fS cs 5 0 pu 0 (0, 0, pt, bs)).2.1 else (if p_X7_within i 0 ((if 5 < ((exF (itr (st_X4_search hb ha hr nS fS cs) 5 0 cst) ln nS fS cs 5 0 pu 0 (0, 0, pt, bs)).1) then 5 else ((exF (itr (st_X4_search hb ha hr nS fS cs) 5 0 cst) ln nS fS cs 5 0 pu 0 (0, 0, pt, bs)).1)) - 1) then (exF (itr (st_X4_search hb ha hr nS fS cs) 5 0 cst) ln nS fS cs 5 0 pu 0 (0, 0, pt, bs)).2.1 else (exF (itr (st_X4_search hb ha hr nS fS cs) 5 0 cst) ln nS fS cs 5 0 pu 0 (0, 0, pt, bs)).2.1))) else bh)
noncomputable def g_X7_row_5 (ln hb ha pu hr nS : Int32) (fS cst pt bs : Nat → Int32) (i : Int32) (cs : Nat) : Nat → Int32 := (if (-2) ≤ i then (if i = (-2) then (itr (st_X4_search hb ha hr nS fS cs) 5 0 cst) else (if i = (-1) then (itr (st_X4_search hb ha hr nS fS cs) 5 0 cst) else (if p_X7_within i 0 ((if 5 < ((exF (itr (st_X4_search hb ha hr nS fS cs) 5 0 cst) ln nS fS cs 5 0 pu 0 (0, 0, pt, bs)).1) then 5 else ((exF (itr (st_X4_search hb ha hr nS fS cs) 5 0 cst) ln nS fS cs 5 0 pu 0 (0, 0, pt, bs)).1)) - 1) then (itr (st_X4_search hb ha hr nS fS cs) 5 0 cst) else (itr (st_X4_search hb ha hr nS fS cs) 5 0 cst)))) else cst)
noncomputable def g_X7_row_6 (ln hb ha pu hr nS : Int32) (fS cst pt bs : Nat → Int32) (i : Int32) (cs : Nat) : Nat → Int32 := (if (-2) ≤ i then (if i = (-2) then ((exF (itr (st_X4_search hb ha hr nS fS cs) 5 0 cst) ln nS fS cs 5 0 pu 0 (0, 0, pt, bs)).2.2.1) else (if i = (-1) then ((exF (itr (st_X4_search hb ha hr nS fS cs) 5 0 cst) ln nS fS cs 5 0 pu 0 (0, 0, pt, bs)).2.2.1) else (if p_X7_within i 0 ((if 5 < ((exF (itr (st_X4_search hb ha hr nS fS cs) 5 0 cst) ln nS fS cs 5 0 pu 0 (0, 0, pt, bs)).1) then 5 else ((exF (itr (st_X4_search hb ha hr nS fS cs) 5 0 cst) ln nS fS cs 5 0 pu 0 (0, 0, pt, bs)).1)) - 1) then ((exF (itr (st_X4_search hb ha hr nS fS cs) 5 0 cst) ln nS fS cs 5 0 pu 0 (0, 0, pt, bs)).2.2.1) else ((exF (itr (st_X4_search hb ha hr nS fS cs) 5 0 cst) ln nS fS cs 5 0 pu 0 (0, 0, pt, bs)).2.2.1)))) else pt)
noncomputable def g_X7_row_7 (ln hb ha pu hr nS : Int32) (fS cst pt bs : Nat → Int32) (i : Int32) (cs : Nat) : Nat → Int32 := (if (-2) ≤ i then (if i = (-2) then ((exF (itr (st_X4_search hb ha hr nS fS cs) 5 0 cst) ln nS fS cs 5 0 pu 0 (0, 0, pt, bs)).2.2.2) else (if i = (-1) then ((exF (itr (st_X4_search hb ha hr nS fS cs) 5 0 cst) ln nS fS cs 5 0 pu 0 (0, 0, pt, bs)).2.2.2) else (if p_X7_within i 0 ((if 5 < ((exF (itr (st_X4_search hb ha hr nS fS cs) 5 0 cst) ln nS fS cs 5 0 pu 0 (0, 0, pt, bs)).1) then 5 else ((exF (itr (st_X4_search hb ha hr nS fS cs) 5 0 cst) ln nS fS cs 5 0 pu 0 (0, 0, pt, bs)).1)) - 1) then ((exF (itr (st_X4_search hb ha hr nS fS cs) 5 0 cst) ln nS fS cs 5 0 pu 0 (0, 0, pt, bs)).2.2.2) else ((exF (itr (st_X4_search hb ha hr nS fS cs) 5 0 cst) ln nS fS cs 5 0 pu 0 (0, 0, pt, bs)).2.2.2)))) else bs)
theorem c_X7_row (l : Launch) (K : vv_K) (hX hP dP i0 i1 : Nat) (k0 k1 : Int32) (hE hW hG hT : Nat) (abv blw : Int64) (rb rn rf : Int32) (hS hC hN hM hU : Nat) (ln hb ha pu hl sm hr : Int32) (aS : Nat) (mS nS : Int32) (fS : Nat → Int32) (aW aQ aR : Nat) (bl bh : Int32) (cst pt bs : Nat → Int32) (i : Int32) (cs : Nat) (hcs : (nS).toInt = (cs : Int)) (hcs5 : cs ≤ 5)  : vv_C l K 12 yX7_row cX7_row 2 (some .int) [.ref hX, .int i] [(hX, .inr (6, [.ref hP, .ref dP, .ref i0, .ref i1, .int k0, .int k1, .ref hE, .ref hW, .ref hG, .ref hT, .long abv, .long blw, .int rb, .int rn, .int rf])), (hP, .inr (1, [.int ln, .int hb, .int ha, .int pu, .int hl, .int sm, .int hr, .ref hS, .ref hC, .ref hN, .ref hM, .ref hU])), (hS, .inr (2, [.ref aS, .int mS, .int nS])), (aS, .inl (K.2.1.1, 32, .inl fS)), (hW, .inr (3, [.ref aW, .ref aQ, .ref aR, .int bl, .int bh])), (aW, .inl (K.2.1.1, 25, .inl cst)), (aQ, .inl (K.2.1.1, 5, .inl pt)), (aR, .inl (K.2.1.1, 5, .inl bs))] (some (.int (f_X7_row ln hb ha pu hr nS fS cst pt bs i cs))) [(hX, .inr (6, [.ref hP, .ref dP, .ref i0, .ref i1, .int k0, .int k1, .ref hE, .ref hW, .ref hG, .ref hT, .long abv, .long blw, .int (g_X7_row_0_12 rb ln hb ha pu hr nS fS cst pt bs i cs), .int rn, .int rf])), (hP, .inr (1, [.int ln, .int hb, .int ha, .int pu, .int hl, .int sm, .int hr, .ref hS, .ref hC, .ref hN, .ref hM, .ref hU])), (hS, .inr (2, [.ref aS, .int mS, .int nS])), (aS, .inl (K.2.1.1, 32, .inl fS)), (hW, .inr (3, [.ref aW, .ref aQ, .ref aR, .int (g_X7_row_4_3 ln hb ha pu hr nS fS bl cst pt bs i cs), .int (g_X7_row_4_4 ln hb ha pu hr nS fS bh cst pt bs i cs)])), (aW, .inl (K.2.1.1, 25, .inl (g_X7_row_5 ln hb ha pu hr nS fS cst pt bs i cs))), (aQ, .inl (K.2.1.1, 5, .inl (g_X7_row_6 ln hb ha pu hr nS fS cst pt bs i cs))), (aR, .inl (K.2.1.1, 5, .inl (g_X7_row_7 ln hb ha pu hr nS fS cst pt bs i cs)))] := by
  refine vv_C.of (lv := [(0, .ref hX), (1, .int i)]) (by decide +kernel) (Nat.le_of_ble_eq_true rfl) rfl ?_
  intro x hl hK F hR; subst hl; obtain rfl := hK
  obtain ⟨nbl, hnb5, hnbe⟩ : ∃ b : Nat, b ≤ 5 ∧ (exF (itr (st_X4_search hb ha hr nS fS cs) 5 0 cst) ln nS fS cs 5 0 pu 0 (0, 0, pt, bs)).1 = nI b := exF_b 5 0 _ _ _ rfl ⟨0, by decide, rfl⟩
  have hnbl : ((exF (itr (st_X4_search hb ha hr nS fS cs) 5 0 cst) ln nS fS cs 5 0 pu 0 (0, 0, pt, bs)).1).toInt = (nbl : Int) := by rw [hnbe]; exact nI_toInt (by omega)
  refine vv_iload_n F dX7_row_0 rfl rfl ?_
  refine vv_bipush (v := (-2)) F dX7_row_1 (by decide) ?_
  refine vv_icmp_ge (tgt := 14) F dX7_row_3 (by decide) (fun h_1 => ?_) (fun h_1 => ?_)
  · refine vv_aload_n F dX7_row_14 rfl rfl ?_
    refine vv_get 0 F fl_X7_35 dX7_row_15 rfl rfl ?_
    refine vv_aload_n F dX7_row_18 rfl rfl ?_
    refine vv_get 0 F fl_X7_10 dX7_row_19 rfl rfl ?_
    refine vv_callV (As := [.ref hP]) (rest := []) [4, 5, 6, 7, 1, 2, 3] 4 (ws' := [(hX, .inr (6, [.ref hP, .ref dP, .ref i0, .ref i1, .int k0, .int k1, .ref hE, .ref hW, .ref hG, .ref hT, .long abv, .long blw, .int rb, .int rn, .int rf])), (hP, .inr (1, [.int ln, .int hb, .int ha, .int pu, .int hl, .int sm, .int hr, .ref hS, .ref hC, .ref hN, .ref hM, .ref hU])), (hS, .inr (2, [.ref aS, .int mS, .int nS])), (aS, .inl ((vv_k x).2.1.1, 32, .inl fS)), (hW, .inr (3, [.ref aW, .ref aQ, .ref aR, .int ((exF (itr (st_X4_search hb ha hr nS fS cs) 5 0 cst) ln nS fS cs 5 0 pu 0 (0, 0, pt, bs)).1), .int ((exF (itr (st_X4_search hb ha hr nS fS cs) 5 0 cst) ln nS fS cs 5 0 pu 0 (0, 0, pt, bs)).2.1)])), (aW, .inl ((vv_k x).2.1.1, 25, .inl (itr (st_X4_search hb ha hr nS fS cs) 5 0 cst))), (aQ, .inl ((vv_k x).2.1.1, 5, .inl ((exF (itr (st_X4_search hb ha hr nS fS cs) 5 0 cst) ln nS fS cs 5 0 pu 0 (0, 0, pt, bs)).2.2.1))), (aR, .inl ((vv_k x).2.1.1, 5, .inl ((exF (itr (st_X4_search hb ha hr nS fS cs) 5 0 cst) ln nS fS cs 5 0 pu 0 (0, 0, pt, bs)).2.2.2)))]) F (c_X4_search (vv_l x) (vv_k x) hW aW aQ aR bl bh cst pt bs hP hS hC hN hM hU ln hb ha pu hl sm hr aS mS nS fS cs hcs (by omega)) mv_X7_169 dX7_row_22 (by decide) rfl rfl (Nat.le_of_ble_eq_true rfl) rfl (by decide) (Eq.trans (b := [hW, aW, aQ, aR, hP, hS, aS]) rfl rfl) rfl rfl ?_
    refine vv_iload_n F dX7_row_25 rfl rfl ?_
    refine vv_bipush (v := (-2)) F dX7_row_26 (by decide) ?_
    refine vv_icmp_ne (tgt := 39) F dX7_row_28 (by decide) (fun h_2 => ?_) (fun h_2 => ?_)
    · refine vv_iload_n F dX7_row_39 rfl rfl ?_
      refine vv_iconst (v := (-1)) F dX7_row_40 (by decide) ?_
      refine vv_icmp_ne (tgt := 52) F dX7_row_41 (by decide) (fun h_3 => ?_) (fun h_3 => ?_)
      · refine vv_aload_n F dX7_row_52 rfl rfl ?_
        refine vv_get 0 F fl_X7_35 dX7_row_53 rfl rfl ?_
        refine vv_iload_n F dX7_row_56 rfl rfl ?_
        refine vv_callVp (As := [.int i]) (rest := []) [4] 4 F (c_X4_isSent (vv_l x) (vv_k x) hW aW aQ aR ((exF (itr (st_X4_search hb ha hr nS fS cs) 5 0 cst) ln nS fS cs 5 0 pu 0 (0, 0, pt, bs)).1) ((exF (itr (st_X4_search hb ha hr nS fS cs) 5 0 cst) ln nS fS cs 5 0 pu 0 (0, 0, pt, bs)).2.1) i) mv_X7_179 dX7_row_57 (by decide) rfl rfl (Nat.le_of_ble_eq_true rfl) rfl (by decide) rfl ?_
        refine vv_ifz_eq (tgt := 74) F dX7_row_60 (by decide) (fun h_4 => ?_) (fun h_4 => ?_)
        · refine vv_bipush (v := (-5)) F dX7_row_74 (by decide) ?_
          exact vv_iret F hR dX7_row_76 (congrArg (fun z => some (Value.int z)) ((if_pos h_1).trans ((if_neg h_2).trans ((if_neg h_3).trans ((if_neg h_4).trans rfl))))) (by simp only [g_X7_row_0_12, g_X7_row_4_3, g_X7_row_4_4, g_X7_row_5, g_X7_row_6, g_X7_row_7, if_pos h_1, if_neg h_2, if_neg h_3, if_neg h_4])
        · refine vv_aload_n F dX7_row_63 rfl rfl ?_
          refine vv_get 0 F fl_X7_35 dX7_row_64 rfl rfl ?_
          refine vv_iload_n F dX7_row_67 rfl rfl ?_
          refine vv_callVp (As := [.int i]) (rest := []) [4, 7] 4 F (c_X4_sent (vv_l x) (vv_k x) hW aW aQ aR ((exF (itr (st_X4_search hb ha hr nS fS cs) 5 0 cst) ln nS fS cs 5 0 pu 0 (0, 0, pt, bs)).1) ((exF (itr (st_X4_search hb ha hr nS fS cs) 5 0 cst) ln nS fS cs 5 0 pu 0 (0, 0, pt, bs)).2.1) ((exF (itr (st_X4_search hb ha hr nS fS cs) 5 0 cst) ln nS fS cs 5 0 pu 0 (0, 0, pt, bs)).2.2.2) i nbl hnbl) mv_X7_182 dX7_row_68 (by decide) rfl rfl (Nat.le_of_ble_eq_true rfl) rfl (by decide) rfl ?_
          refine vv_goto (tgt := 76) F dX7_row_71 (by decide) ?_
          exact vv_iret F hR dX7_row_76 (congrArg (fun z => some (Value.int z)) ((if_pos h_1).trans ((if_neg h_2).trans ((if_neg h_3).trans ((if_pos h_4).trans rfl))))) (by simp only [g_X7_row_0_12, g_X7_row_4_3, g_X7_row_4_4, g_X7_row_5, g_X7_row_6, g_X7_row_7, if_pos h_1, if_neg h_2, if_neg h_3, if_pos h_4])
      · refine vv_aload_n F dX7_row_44 rfl rfl ?_
        refine vv_get 0 F fl_X7_35 dX7_row_45 rfl rfl ?_
        refine vv_get 4 F fl_X7_176 dX7_row_48 rfl rfl ?_
        exact vv_iret F hR dX7_row_51 (congrArg (fun z => some (Value.int z)) ((if_pos h_1).trans ((if_neg h_2).trans ((if_pos h_3).trans rfl)))) (by simp only [g_X7_row_0_12, g_X7_row_4_3, g_X7_row_4_4, g_X7_row_5, g_X7_row_6, g_X7_row_7, if_pos h_1, if_neg h_2, if_pos h_3])
    · refine vv_aload_n F dX7_row_31 rfl rfl ?_
      refine vv_get 0 F fl_X7_35 dX7_row_32 rfl rfl ?_
      refine vv_get 4 F fl_X7_173 dX7_row_35 rfl rfl ?_
      exact vv_iret F hR dX7_row_38 (congrArg (fun z => some (Value.int z)) ((if_pos h_1).trans ((if_pos h_2).trans rfl))) (by simp only [g_X7_row_0_12, g_X7_row_4_3, g_X7_row_4_4, g_X7_row_5, g_X7_row_6, g_X7_row_7, if_pos h_1, if_pos h_2])
  · refine vv_aload_n F dX7_row_6 rfl rfl ?_
    refine vv_callV (As := []) (rest := []) [0] 0 (ws' := [(hX, .inr (6, [.ref hP, .ref dP, .ref i0, .ref i1, .int k0, .int k1, .ref hE, .ref hW, .ref hG, .ref hT, .long abv, .long blw, .int (rb + 1), .int rn, .int rf])), (hP, .inr (1, [.int ln, .int hb, .int ha, .int pu, .int hl, .int sm, .int hr, .ref hS, .ref hC, .ref hN, .ref hM, .ref hU])), (hS, .inr (2, [.ref aS, .int mS, .int nS])), (aS, .inl ((vv_k x).2.1.1, 32, .inl fS)), (hW, .inr (3, [.ref aW, .ref aQ, .ref aR, .int bl, .int bh])), (aW, .inl ((vv_k x).2.1.1, 25, .inl cst)), (aQ, .inl ((vv_k x).2.1.1, 5, .inl pt)), (aR, .inl ((vv_k x).2.1.1, 5, .inl bs))]) F (c_X7_refuseBad (vv_l x) (vv_k x) hX hP dP i0 i1 k0 k1 hE hW hG hT abv blw rb rn rf) mv_X7_64 dX7_row_7 (by decide) rfl rfl (Nat.le_of_ble_eq_true rfl) rfl (by decide) (Eq.trans (b := [hX]) rfl rfl) rfl rfl ?_
    refine vv_pop F dX7_row_10 rfl ?_
    refine vv_bipush (v := (-10)) F dX7_row_11 (by decide) ?_
    exact vv_iret F hR dX7_row_13 (congrArg (fun z => some (Value.int z)) ((if_neg h_1).trans rfl)) (by simp only [g_X7_row_0_12, g_X7_row_4_3, g_X7_row_4_4, g_X7_row_5, g_X7_row_6, g_X7_row_7, if_neg h_1])
