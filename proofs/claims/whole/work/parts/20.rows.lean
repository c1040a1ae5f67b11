noncomputable def st_X4_isOnPath (pt : Nat → Int32) (i : Int32) (u : Nat) (s : Bool) : Bool := (s || decide ((pt u) = i))
theorem L_X4_isOnPath {x : vv_X} (F : vv_F x cX4_isOnPath 4 RX4 1) (hW aW aQ aR : Nat) (bl bh : Int32) (pt : Nat → Int32) (i de : Int32) (dp : Nat) (hde : (de).toInt = (dp : Int)) (hdp : dp ≤ 5) {r : Option Value} {wc' : va_W} (hR : vv_R x (some .boolean) r wc') : ∀ (n : Nat) (u : Nat), u + n = dp → wc' = [(hW, .inr (3, [.ref aW, .ref aQ, .ref aR, .int bl, .int bh])), (aQ, .inl ((vv_k x).2.1.1, 5, .inl pt))] → r = some (.int (vv_b ((itr (st_X4_isOnPath pt i) n u false) = true))) → vv_V x 4 2 [(3, .int (nI u)), (0, .ref hW), (1, .int i), (2, .int de)] [] [(hW, .inr (3, [.ref aW, .ref aQ, .ref aR, .int bl, .int bh])), (aQ, .inl ((vv_k x).2.1.1, 5, .inl pt))] := by
  intro n
  induction n with
  | zero =>
    intro u hu hwc hres
    refine vv_iload_n F dX4_isOnPath_2 rfl rfl ?_
    refine vv_iload_n F dX4_isOnPath_3 rfl rfl ?_
    refine vv_icmp_ge (tgt := 30) F dX4_isOnPath_4 (by decide) (fun h_1 => ?_) (fun h_1 => absurd ((c_le hde (nI_toInt (n := u) (by omega))).mpr (by omega)) h_1)
    refine vv_iconst (v := 0) F dX4_isOnPath_30 (by decide) ?_
    exact vv_zret F hR dX4_isOnPath_31 rfl (by rw [hres, itr_0]; rfl) hwc
  | succ n ih =>
    intro u hu hwc hres
    refine vv_iload_n F dX4_isOnPath_2 rfl rfl ?_
    refine vv_iload_n F dX4_isOnPath_3 rfl rfl ?_
    refine vv_icmp_ge (tgt := 30) F dX4_isOnPath_4 (by decide) (fun h_1 => absurd ((c_le hde (nI_toInt (n := u) (by omega))).mp h_1) (by omega)) (fun h_1 => ?_)
    refine vv_iload_n F dX4_isOnPath_7 rfl rfl ?_
    refine vv_iconst (v := 5) F dX4_isOnPath_8 (by decide) ?_
    refine vv_icmp_ge (tgt := 30) F dX4_isOnPath_9 (by decide) (fun h_2 => absurd ((c_le (by decide : (5 : Int32).toInt = ((5 : Nat) : Int)) (nI_toInt (n := u) (by omega))).mp h_2) (by omega)) (fun h_2 => ?_)
    refine vv_aload_n F dX4_isOnPath_12 rfl rfl ?_
    refine vv_get 0 F fl_X4_15 dX4_isOnPath_13 rfl rfl ?_
    refine vv_iload_n F dX4_isOnPath_16 rfl rfl ?_
    refine vv_iald 1 F dX4_isOnPath_17 rfl (vv_ixP (j := u) (by have hz := (nI_toInt (n := u) (by omega)); omega) (by omega)) ?_
    refine vv_iload_n F dX4_isOnPath_18 rfl rfl ?_
    refine vv_icmp_ne (tgt := 24) F dX4_isOnPath_19 (by decide) (fun h_3 => ?_) (fun h_3 => ?_)
    · refine vv_iinc (v := (nI (u + 1))) (lv' := [(3, .int (nI (u + 1))), (0, .ref hW), (1, .int i), (2, .int de)]) 0 F dX4_isOnPath_24 rfl (nI_1 u) (by decide) rfl ?_
      refine vv_goto (tgt := 2) F dX4_isOnPath_27 (by decide) ?_
      refine vv_lv [0, 1, 2, 3] rfl ?_
      exact ih (u + 1) (by omega) hwc (by rw [hres, itr_s, show (st_X4_isOnPath pt i) u false = false from (by simp [st_X4_isOnPath, h_3])])
    · refine vv_iconst (v := 1) F dX4_isOnPath_22 (by decide) ?_
      exact vv_zret F hR dX4_isOnPath_23 rfl (by rw [hres, itr_s, show (st_X4_isOnPath pt i) u false = true from (by simp [st_X4_isOnPath, h_3]), itr_abs (fun _ => rfl)]; rfl) hwc
theorem c_X4_isOnPath (l : Launch) (K : vv_K) (hW aW aQ aR : Nat) (bl bh : Int32) (pt : Nat → Int32) (i de : Int32) (dp : Nat) (hde : (de).toInt = (dp : Int)) (hdp : dp ≤ 5)  : vv_C l K 1 yX4_isOnPath cX4_isOnPath 4 (some .boolean) [.ref hW, .int i, .int de] [(hW, .inr (3, [.ref aW, .ref aQ, .ref aR, .int bl, .int bh])), (aQ, .inl (K.2.1.1, 5, .inl pt))] (some (.int (vv_b ((itr (st_X4_isOnPath pt i) dp 0 false) = true)))) [(hW, .inr (3, [.ref aW, .ref aQ, .ref aR, .int bl, .int bh])), (aQ, .inl (K.2.1.1, 5, .inl pt))] := by
  refine vv_C.of (lv := [(0, .ref hW), (1, .int i), (2, .int de)]) (by decide +kernel) (Nat.le_of_ble_eq_true rfl) rfl ?_
  intro x hl hK F hR; subst hl; obtain rfl := hK
  refine vv_iconst (v := 0) F dX4_isOnPath_0 (by decide) ?_
  refine vv_istore_n (lv' := [(3, .int 0), (0, .ref hW), (1, .int i), (2, .int de)]) F dX4_isOnPath_1 rfl (by decide) rfl ?_
  refine vv_lv (lv' := [(3, .int 0), (0, .ref hW), (1, .int i), (2, .int de)]) [0, 1, 2, 3] rfl ?_
  exact L_X4_isOnPath F hW aW aQ aR bl bh pt i de dp hde (by omega) hR dp 0 (by omega) rfl rfl
noncomputable def st_X4_keepPath (pt : Nat → Int32) (u : Nat) (s : (Nat → Int32)) : (Nat → Int32) := (upd s u (pt u))
theorem L_X4_keepPath {x : vv_X} (F : vv_F x cX4_keepPath 4 RX4 1) (hW aW aQ aR : Nat) (bl bh : Int32) (pt bs : Nat → Int32) (de hz : Int32) (dp : Nat) (hde : (de).toInt = (dp : Int)) (hdp : dp ≤ 5) : ∀ (n : Nat) (u : Nat) (bs : Nat → Int32), u + n = dp → vv_V x 4 40 [(3, .int (nI dp)), (0, .ref hW), (1, .int de), (2, .int hz)] [] [(hW, .inr (3, [.ref aW, .ref aQ, .ref aR, .int de, .int hz])), (aQ, .inl ((vv_k x).2.1.1, 5, .inl pt)), (aR, .inl ((vv_k x).2.1.1, 5, .inl (itr (st_X4_keepPath pt) n u bs)))] → vv_V x 4 12 [(3, .int (nI u)), (0, .ref hW), (1, .int de), (2, .int hz)] [] [(hW, .inr (3, [.ref aW, .ref aQ, .ref aR, .int de, .int hz])), (aQ, .inl ((vv_k x).2.1.1, 5, .inl pt)), (aR, .inl ((vv_k x).2.1.1, 5, .inl bs))] := by
  intro n
  induction n with
  | zero =>
    intro u bs hu  kx
    refine vv_iload_n F dX4_keepPath_12 rfl rfl ?_
    refine vv_iload_n F dX4_keepPath_13 rfl rfl ?_
    refine vv_icmp_ge (tgt := 40) F dX4_keepPath_14 (by decide) (fun h_1 => ?_) (fun h_1 => absurd ((c_le hde (nI_toInt (n := u) (by omega))).mpr (by omega)) h_1)
    obtain rfl : u = dp := by omega
    rw [itr_0] at kx
    exact vv_lv [0, 1, 2, 3] rfl kx
  | succ n ih =>
    intro u bs hu  kx
    refine vv_iload_n F dX4_keepPath_12 rfl rfl ?_
    refine vv_iload_n F dX4_keepPath_13 rfl rfl ?_
    refine vv_icmp_ge (tgt := 40) F dX4_keepPath_14 (by decide) (fun h_1 => absurd ((c_le hde (nI_toInt (n := u) (by omega))).mp h_1) (by omega)) (fun h_1 => ?_)
    refine vv_iload_n F dX4_keepPath_17 rfl rfl ?_
    refine vv_iconst (v := 5) F dX4_keepPath_18 (by decide) ?_
    refine vv_icmp_ge (tgt := 40) F dX4_keepPath_19 (by decide) (fun h_2 => absurd ((c_le (by decide : (5 : Int32).toInt = ((5 : Nat) : Int)) (nI_toInt (n := u) (by omega))).mp h_2) (by omega)) (fun h_2 => ?_)
    refine vv_aload_n F dX4_keepPath_22 rfl rfl ?_
    refine vv_get 0 F fl_X4_18 dX4_keepPath_23 rfl rfl ?_
    refine vv_iload_n F dX4_keepPath_26 rfl rfl ?_
    refine vv_aload_n F dX4_keepPath_27 rfl rfl ?_
    refine vv_get 0 F fl_X4_15 dX4_keepPath_28 rfl rfl ?_
    refine vv_iload_n F dX4_keepPath_31 rfl rfl ?_
    refine vv_iald 1 F dX4_keepPath_32 rfl (vv_ixP (j := u) (by have hz := (nI_toInt (n := u) (by omega)); omega) (by omega)) ?_
    refine vv_iast 2 (ws' := [(hW, .inr (3, [.ref aW, .ref aQ, .ref aR, .int de, .int hz])), (aQ, .inl ((vv_k x).2.1.1, 5, .inl pt)), (aR, .inl ((vv_k x).2.1.1, 5, .inl (upd bs u (pt u))))]) F dX4_keepPath_33 rfl (vv_ixP (j := u) (by have hz := (nI_toInt (n := u) (by omega)); omega) (by omega)) rfl ?_
    refine vv_iinc (v := (nI (u + 1))) (lv' := [(3, .int (nI (u + 1))), (0, .ref hW), (1, .int de), (2, .int hz)]) 0 F dX4_keepPath_34 rfl (nI_1 u) (by decide) rfl ?_
    refine vv_goto (tgt := 12) F dX4_keepPath_37 (by decide) ?_
    refine vv_lv [0, 1, 2, 3] rfl ?_
    exact ih (u + 1) (upd bs u (pt u)) (by omega) (by rw [itr_s] at kx; exact kx)
theorem c_X4_keepPath (l : Launch) (K : vv_K) (hW aW aQ aR : Nat) (bl bh : Int32) (pt bs : Nat → Int32) (de hz : Int32) (dp : Nat) (hde : (de).toInt = (dp : Int)) (hdp : dp ≤ 5)  : vv_C l K 1 yX4_keepPath cX4_keepPath 4 none [.ref hW, .int de, .int hz] [(hW, .inr (3, [.ref aW, .ref aQ, .ref aR, .int bl, .int bh])), (aQ, .inl (K.2.1.1, 5, .inl pt)), (aR, .inl (K.2.1.1, 5, .inl bs))] none [(hW, .inr (3, [.ref aW, .ref aQ, .ref aR, .int de, .int hz])), (aQ, .inl (K.2.1.1, 5, .inl pt)), (aR, .inl (K.2.1.1, 5, .inl (itr (st_X4_keepPath pt) dp 0 bs)))] := by
  refine vv_C.of (lv := [(0, .ref hW), (1, .int de), (2, .int hz)]) (by decide +kernel) (Nat.le_of_ble_eq_true rfl) rfl ?_
  intro x hl hK F hR; subst hl; obtain rfl := hK
  refine vv_aload_n F dX4_keepPath_0 rfl rfl ?_
  refine vv_iload_n F dX4_keepPath_1 rfl rfl ?_
  refine vv_put 0 (ws' := [(hW, .inr (3, [.ref aW, .ref aQ, .ref aR, .int bl, .int hz])), (aQ, .inl ((vv_k x).2.1.1, 5, .inl pt)), (aR, .inl ((vv_k x).2.1.1, 5, .inl bs))]) F fl_X4_40 dX4_keepPath_2 rfl rfl rfl (Nat.le_of_ble_eq_true rfl) rfl ?_
  refine vv_aload_n F dX4_keepPath_5 rfl rfl ?_
  refine vv_iload_n F dX4_keepPath_6 rfl rfl ?_
  refine vv_put 0 (ws' := [(hW, .inr (3, [.ref aW, .ref aQ, .ref aR, .int de, .int hz])), (aQ, .inl ((vv_k x).2.1.1, 5, .inl pt)), (aR, .inl ((vv_k x).2.1.1, 5, .inl bs))]) F fl_X4_37 dX4_keepPath_7 rfl rfl rfl (Nat.le_of_ble_eq_true rfl) rfl ?_
  refine vv_iconst (v := 0) F dX4_keepPath_10 (by decide) ?_
  refine vv_istore_n (lv' := [(3, .int 0), (0, .ref hW), (1, .int de), (2, .int hz)]) F dX4_keepPath_11 rfl (by decide) rfl ?_
  refine vv_lv (lv' := [(3, .int 0), (0, .ref hW), (1, .int de), (2, .int hz)]) [0, 1, 2, 3] rfl ?_
  refine L_X4_keepPath F hW aW aQ aR bl bh pt bs de hz dp hde (by omega) dp 0 bs (by omega) ?_
  exact vv_vret F hR dX4_keepPath_40 rfl rfl
theorem c_X4_isSent (l : Launch) (K : vv_K) (hW aW aQ aR : Nat) (bl bh i : Int32)  : vv_C l K 2 yX4_isSent cX4_isSent 2 (some .boolean) [.ref hW, .int i] [(hW, .inr (3, [.ref aW, .ref aQ, .ref aR, .int bl, .int bh]))] (some (.int (vv_b (p_X7_within i 0 ((if 5 < bl then 5 else bl) - 1))))) [(hW, .inr (3, [.ref aW, .ref aQ, .ref aR, .int bl, .int bh]))] := by
  refine vv_C.of (lv := [(0, .ref hW), (1, .int i)]) (by decide +kernel) (Nat.le_of_ble_eq_true rfl) rfl ?_
  intro x hl hK F hR; subst hl; obtain rfl := hK
  refine vv_iload_n F dX4_isSent_0 rfl rfl ?_
  refine vv_iconst (v := 0) F dX4_isSent_1 (by decide) ?_
  refine vv_aload_n F dX4_isSent_2 rfl rfl ?_
  refine vv_get 0 F fl_X4_37 dX4_isSent_3 rfl rfl ?_
  refine vv_iconst (v := 5) F dX4_isSent_6 (by decide) ?_
  refine vv_mmin F mm_X4_50 st_min in_Math co_min (by decide) (Nat.le_of_ble_eq_true rfl) dX4_isSent_7 ?_
  refine vv_iconst (v := 1) F dX4_isSent_10 (by decide) ?_
  refine vv_isub F dX4_isSent_11 ?_
  refine vv_callSp (As := [.int i, .int 0, .int ((if 5 < bl then 5 else bl) - 1)]) (rest := []) [] F (c_X7_within (vv_l x) (vv_k x) i 0 ((if 5 < bl then 5 else bl) - 1)) ms_X4_55 dX4_isSent_12 (by decide) rfl rfl (Nat.le_of_ble_eq_true rfl) rfl (by decide) ?_
  exact vv_zret F hR dX4_isSent_15 (vv_b_nar _) rfl rfl
noncomputable def st_X4_extend (cst : Nat → Int32) (ln nS : Int32) (fS : Nat → Int32) (pq hq : Int32) (dp : Nat) (ex : Nat → Int32 → Int32 → (Int32 × Int32 × (Nat → Int32) × (Nat → Int32)) → (Int32 × Int32 × (Nat → Int32) × (Nat → Int32))) (u : Nat) (s : Int32 × Int32 × (Nat → Int32) × (Nat → Int32)) : Int32 × Int32 × (Nat → Int32) × (Nat → Int32) := ((if pq < (cst (5 * dp + u)) then s.1 else (if (itr (st_X4_isOnPath s.2.2.1 (nI u)) dp 0 false) = true then s.1 else (ex (dp + 1) (pq - (cst (5 * dp + u))) (hq + (f_X1_brought (f_X3_cell nS fS (nI u) 1) ln)) (s.1, s.2.1, (upd s.2.2.1 dp (nI u)), s.2.2.2)).1)), (if pq < (cst (5 * dp + u)) then s.2.1 else (if (itr (st_X4_isOnPath s.2.2.1 (nI u)) dp 0 false) = true then s.2.1 else (ex (dp + 1) (pq - (cst (5 * dp + u))) (hq + (f_X1_brought (f_X3_cell nS fS (nI u) 1) ln)) (s.1, s.2.1, (upd s.2.2.1 dp (nI u)), s.2.2.2)).2.1)), (if pq < (cst (5 * dp + u)) then s.2.2.1 else (if (itr (st_X4_isOnPath s.2.2.1 (nI u)) dp 0 false) = true then s.2.2.1 else (ex (dp + 1) (pq - (cst (5 * dp + u))) (hq + (f_X1_brought (f_X3_cell nS fS (nI u) 1) ln)) (s.1, s.2.1, (upd s.2.2.1 dp (nI u)), s.2.2.2)).2.2.1)), (if pq < (cst (5 * dp + u)) then s.2.2.2 else (if (itr (st_X4_isOnPath s.2.2.1 (nI u)) dp 0 false) = true then s.2.2.2 else (ex (dp + 1) (pq - (cst (5 * dp + u))) (hq + (f_X1_brought (f_X3_cell nS fS (nI u) 1) ln)) (s.1, s.2.1, (upd s.2.2.1 dp (nI u)), s.2.2.2)).2.2.2)))
theorem L_X4_extend {x : vv_X} {k : Nat} (F : vv_F x cX4_extend 7 RX4 (5 + (k + 1))) (hW aW aQ aR : Nat) (cst : Nat → Int32) (hP hS hC hN hM hU : Nat) (ln hb ha pu hl sm hr : Int32) (aS : Nat) (mS nS : Int32) (fS : Nat → Int32) (pq hq : Int32) (dp : Nat) (ex : Nat → Int32 → Int32 → (Int32 × Int32 × (Nat → Int32) × (Nat → Int32)) → (Int32 × Int32 × (Nat → Int32) × (Nat → Int32))) (cs : Nat) (hcs : (nS).toInt = (cs : Int)) (hcs5 : cs ≤ 5) (hdp : dp ≤ 4) (hE : ∀ (l1 b1 p1 h1 : Int32) (t1 s1 : Nat → Int32), vv_C (vv_l x) (vv_k x) (5 + k) yX4_extend cX4_extend 7 none [.ref hW, .ref hP, .int (nI (dp + 1)), .int p1, .int h1] [(hW, .inr (3, [.ref aW, .ref aQ, .ref aR, .int l1, .int b1])), (aW, .inl ((vv_k x).2.1.1, 25, .inl cst)), (aQ, .inl ((vv_k x).2.1.1, 5, .inl t1)), (aR, .inl ((vv_k x).2.1.1, 5, .inl s1)), (hP, .inr (1, [.int ln, .int hb, .int ha, .int pu, .int hl, .int sm, .int hr, .ref hS, .ref hC, .ref hN, .ref hM, .ref hU])), (hS, .inr (2, [.ref aS, .int mS, .int nS])), (aS, .inl ((vv_k x).2.1.1, 32, .inl fS))] none [(hW, .inr (3, [.ref aW, .ref aQ, .ref aR, .int ((ex (dp + 1) p1 h1 (l1, b1, t1, s1)).1), .int ((ex (dp + 1) p1 h1 (l1, b1, t1, s1)).2.1)])), (aW, .inl ((vv_k x).2.1.1, 25, .inl cst)), (aQ, .inl ((vv_k x).2.1.1, 5, .inl ((ex (dp + 1) p1 h1 (l1, b1, t1, s1)).2.2.1))), (aR, .inl ((vv_k x).2.1.1, 5, .inl ((ex (dp + 1) p1 h1 (l1, b1, t1, s1)).2.2.2))), (hP, .inr (1, [.int ln, .int hb, .int ha, .int pu, .int hl, .int sm, .int hr, .ref hS, .ref hC, .ref hN, .ref hM, .ref hU])), (hS, .inr (2, [.ref aS, .int mS, .int nS])), (aS, .inl ((vv_k x).2.1.1, 32, .inl fS))]) : ∀ (n : Nat) (u : Nat) (bl : Int32) (bh : Int32) (pt : Nat → Int32) (bs : Nat → Int32), u + n = cs → vv_V x 7 111 [(5, .int (nI cs)), (0, .ref hW), (1, .ref hP), (2, .int (nI dp)), (3, .int pq), (4, .int hq)] [] [(hW, .inr (3, [.ref aW, .ref aQ, .ref aR, .int ((itr (st_X4_extend cst ln nS fS pq hq dp ex) n u (bl, bh, pt, bs)).1), .int ((itr (st_X4_extend cst ln nS fS pq hq dp ex) n u (bl, bh, pt, bs)).2.1)])), (aW, .inl ((vv_k x).2.1.1, 25, .inl cst)), (aQ, .inl ((vv_k x).2.1.1, 5, .inl ((itr (st_X4_extend cst ln nS fS pq hq dp ex) n u (bl, bh, pt, bs)).2.2.1))), (aR, .inl ((vv_k x).2.1.1, 5, .inl ((itr (st_X4_extend cst ln nS fS pq hq dp ex) n u (bl, bh, pt, bs)).2.2.2))), (hP, .inr (1, [.int ln, .int hb, .int ha, .int pu, .int hl, .int sm, .int hr, .ref hS, .ref hC, .ref hN, .ref hM, .ref hU])), (hS, .inr (2, [.ref aS, .int mS, .int nS])), (aS, .inl ((vv_k x).2.1.1, 32, .inl fS))] → vv_V x 7 29 [(5, .int (nI u)), (0, .ref hW), (1, .ref hP), (2, .int (nI dp)), (3, .int pq), (4, .int hq)] [] [(hW, .inr (3, [.ref aW, .ref aQ, .ref aR, .int bl, .int bh])), (aW, .inl ((vv_k x).2.1.1, 25, .inl cst)), (aQ, .inl ((vv_k x).2.1.1, 5, .inl pt)), (aR, .inl ((vv_k x).2.1.1, 5, .inl bs)), (hP, .inr (1, [.int ln, .int hb, .int ha, .int pu, .int hl, .int sm, .int hr, .ref hS, .ref hC, .ref hN, .ref hM, .ref hU])), (hS, .inr (2, [.ref aS, .int mS, .int nS])), (aS, .inl ((vv_k x).2.1.1, 32, .inl fS))] := by
  intro n
  induction n with
  | zero =>
    intro u bl bh pt bs hu  kx
    refine vv_iload F dX4_extend_29 rfl ?_
    refine vv_aload_n F dX4_extend_31 rfl rfl ?_
    refine vv_get 4 F fl_X4_21 dX4_extend_32 rfl rfl ?_
    refine vv_get 5 F fl_X4_27 dX4_extend_35 rfl rfl ?_
    refine vv_icmp_ge (tgt := 111) F dX4_extend_38 (by decide) (fun h_1 => ?_) (fun h_1 => absurd ((c_le hcs (nI_toInt (n := u) (by omega))).mpr (by omega)) h_1)
    obtain rfl : u = cs := by omega
    rw [itr_0] at kx
    exact vv_lv [0, 1, 2, 3, 4, 5] rfl kx
  | succ n ih =>
    intro u bl bh pt bs hu  kx
    refine vv_iload F dX4_extend_29 rfl ?_
    refine vv_aload_n F dX4_extend_31 rfl rfl ?_
    refine vv_get 4 F fl_X4_21 dX4_extend_32 rfl rfl ?_
    refine vv_get 5 F fl_X4_27 dX4_extend_35 rfl rfl ?_
    refine vv_icmp_ge (tgt := 111) F dX4_extend_38 (by decide) (fun h_1 => absurd ((c_le hcs (nI_toInt (n := u) (by omega))).mp h_1) (by omega)) (fun h_1 => ?_)
    refine vv_iload F dX4_extend_41 rfl ?_
    refine vv_iconst (v := 5) F dX4_extend_43 (by decide) ?_
    refine vv_icmp_ge (tgt := 111) F dX4_extend_44 (by decide) (fun h_2 => absurd ((c_le (by decide : (5 : Int32).toInt = ((5 : Nat) : Int)) (nI_toInt (n := u) (by omega))).mp h_2) (by omega)) (fun h_2 => ?_)
    refine vv_aload_n F dX4_extend_47 rfl rfl ?_
    refine vv_get 0 F fl_X4_9 dX4_extend_48 rfl rfl ?_
    refine vv_iload_n F dX4_extend_51 rfl rfl ?_
    refine vv_iconst (v := 5) F dX4_extend_52 (by decide) ?_
    refine vv_imul F dX4_extend_53 ?_
    refine vv_iload F dX4_extend_54 rfl ?_
    refine vv_iadd F dX4_extend_56 ?_
    refine vv_iald 1 F dX4_extend_57 rfl (vv_ixP (j := (5 * dp + u)) (by have hz := (nn_add (nn_mul (nI_toInt (n := dp) (by omega)) (by decide : (5 : Int32).toInt = ((5 : Nat) : Int)) (by omega)) (nI_toInt (n := u) (by omega)) (by omega)); omega) (by omega)) ?_
    refine vv_istore (lv' := [(6, .int (cst (5 * dp + u))), (5, .int (nI u)), (0, .ref hW), (1, .ref hP), (2, .int (nI dp)), (3, .int pq), (4, .int hq)]) F dX4_extend_58 (by decide) rfl ?_
    refine vv_iload F dX4_extend_60 rfl ?_
    refine vv_iload_n F dX4_extend_62 rfl rfl ?_
    refine vv_icmp_gt (tgt := 105) F dX4_extend_63 (by decide) (fun h_3 => ?_) (fun h_3 => ?_)
    · refine vv_iinc (v := (nI (u + 1))) (lv' := [(5, .int (nI (u + 1))), (6, .int (cst (5 * dp + u))), (0, .ref hW), (1, .ref hP), (2, .int (nI dp)), (3, .int pq), (4, .int hq)]) 1 F dX4_extend_105 rfl (nI_1 u) (by decide) rfl ?_
      refine vv_goto (tgt := 29) F dX4_extend_108 (by decide) ?_
      refine vv_lv [0, 2, 3, 4, 5, 6] rfl ?_
      refine vv_ws (ws' := [(hW, .inr (3, [.ref aW, .ref aQ, .ref aR, .int (if pq < (cst (5 * dp + u)) then bl else (if (itr (st_X4_isOnPath pt (nI u)) dp 0 false) = true then bl else (ex (dp + 1) (pq - (cst (5 * dp + u))) (hq + (f_X1_brought (f_X3_cell nS fS (nI u) 1) ln)) (bl, bh, (upd pt dp (nI u)), bs)).1)), .int (if pq < (cst (5 * dp + u)) then bh else (if (itr (st_X4_isOnPath pt (nI u)) dp 0 false) = true then bh else (ex (dp + 1) (pq - (cst (5 * dp + u))) (hq + (f_X1_brought (f_X3_cell nS fS (nI u) 1) ln)) (bl, bh, (upd pt dp (nI u)), bs)).2.1))])), (aW, .inl ((vv_k x).2.1.1, 25, .inl cst)), (aQ, .inl ((vv_k x).2.1.1, 5, .inl (if pq < (cst (5 * dp + u)) then pt else (if (itr (st_X4_isOnPath pt (nI u)) dp 0 false) = true then pt else (ex (dp + 1) (pq - (cst (5 * dp + u))) (hq + (f_X1_brought (f_X3_cell nS fS (nI u) 1) ln)) (bl, bh, (upd pt dp (nI u)), bs)).2.2.1)))), (aR, .inl ((vv_k x).2.1.1, 5, .inl (if pq < (cst (5 * dp + u)) then bs else (if (itr (st_X4_isOnPath pt (nI u)) dp 0 false) = true then bs else (ex (dp + 1) (pq - (cst (5 * dp + u))) (hq + (f_X1_brought (f_X3_cell nS fS (nI u) 1) ln)) (bl, bh, (upd pt dp (nI u)), bs)).2.2.2)))), (hP, .inr (1, [.int ln, .int hb, .int ha, .int pu, .int hl, .int sm, .int hr, .ref hS, .ref hC, .ref hN, .ref hM, .ref hU])), (hS, .inr (2, [.ref aS, .int mS, .int nS])), (aS, .inl ((vv_k x).2.1.1, 32, .inl fS))]) (by simp only [if_pos h_3, nI_1]) ?_
      exact ih (u + 1) (if pq < (cst (5 * dp + u)) then bl else (if (itr (st_X4_isOnPath pt (nI u)) dp 0 false) = true then bl else (ex (dp + 1) (pq - (cst (5 * dp + u))) (hq + (f_X1_brought (f_X3_cell nS fS (nI u) 1) ln)) (bl, bh, (upd pt dp (nI u)), bs)).1)) (if pq < (cst (5 * dp + u)) then bh else (if (itr (st_X4_isOnPath pt (nI u)) dp 0 false) = true then bh else (ex (dp + 1) (pq - (cst (5 * dp + u))) (hq + (f_X1_brought (f_X3_cell nS fS (nI u) 1) ln)) (bl, bh, (upd pt dp (nI u)), bs)).2.1)) (if pq < (cst (5 * dp + u)) then pt else (if (itr (st_X4_isOnPath pt (nI u)) dp 0 false) = true then pt else (ex (dp + 1) (pq - (cst (5 * dp + u))) (hq + (f_X1_brought (f_X3_cell nS fS (nI u) 1) ln)) (bl, bh, (upd pt dp (nI u)), bs)).2.2.1)) (if pq < (cst (5 * dp + u)) then bs else (if (itr (st_X4_isOnPath pt (nI u)) dp 0 false) = true then bs else (ex (dp + 1) (pq - (cst (5 * dp + u))) (hq + (f_X1_brought (f_X3_cell nS fS (nI u) 1) ln)) (bl, bh, (upd pt dp (nI u)), bs)).2.2.2)) (by omega) (by rw [itr_s] at kx; exact kx)
    · refine vv_aload_n F dX4_extend_66 rfl rfl ?_
      refine vv_iload F dX4_extend_67 rfl ?_
      refine vv_iload_n F dX4_extend_69 rfl rfl ?_
      refine vv_callVp (As := [.int (nI u), .int (nI dp)]) (rest := []) [0, 2] 0 F (c_X4_isOnPath (vv_l x) (vv_k x) hW aW aQ aR bl bh pt (nI u) (nI dp) dp (nI_toInt (n := dp) (by omega)) (by omega)) mv_X4_67 dX4_extend_70 (by omega) rfl rfl (Nat.le_of_ble_eq_true rfl) rfl (by decide) rfl ?_
      refine vv_ifz_ne (tgt := 105) F dX4_extend_73 (by decide) (fun h_4 => ?_) (fun h_4 => ?_)
      · refine vv_iinc (v := (nI (u + 1))) (lv' := [(5, .int (nI (u + 1))), (6, .int (cst (5 * dp + u))), (0, .ref hW), (1, .ref hP), (2, .int (nI dp)), (3, .int pq), (4, .int hq)]) 1 F dX4_extend_105 rfl (nI_1 u) (by decide) rfl ?_
        refine vv_goto (tgt := 29) F dX4_extend_108 (by decide) ?_
        refine vv_lv [0, 2, 3, 4, 5, 6] rfl ?_
        refine vv_ws (ws' := [(hW, .inr (3, [.ref aW, .ref aQ, .ref aR, .int (if pq < (cst (5 * dp + u)) then bl else (if (itr (st_X4_isOnPath pt (nI u)) dp 0 false) = true then bl else (ex (dp + 1) (pq - (cst (5 * dp + u))) (hq + (f_X1_brought (f_X3_cell nS fS (nI u) 1) ln)) (bl, bh, (upd pt dp (nI u)), bs)).1)), .int (if pq < (cst (5 * dp + u)) then bh else (if (itr (st_X4_isOnPath pt (nI u)) dp 0 false) = true then bh else (ex (dp + 1) (pq - (cst (5 * dp + u))) (hq + (f_X1_brought (f_X3_cell nS fS (nI u) 1) ln)) (bl, bh, (upd pt dp (nI u)), bs)).2.1))])), (aW, .inl ((vv_k x).2.1.1, 25, .inl cst)), (aQ, .inl ((vv_k x).2.1.1, 5, .inl (if pq < (cst (5 * dp + u)) then pt else (if (itr (st_X4_isOnPath pt (nI u)) dp 0 false) = true then pt else (ex (dp + 1) (pq - (cst (5 * dp + u))) (hq + (f_X1_brought (f_X3_cell nS fS (nI u) 1) ln)) (bl, bh, (upd pt dp (nI u)), bs)).2.2.1)))), (aR, .inl ((vv_k x).2.1.1, 5, .inl (if pq < (cst (5 * dp + u)) then bs else (if (itr (st_X4_isOnPath pt (nI u)) dp 0 false) = true then bs else (ex (dp + 1) (pq - (cst (5 * dp + u))) (hq + (f_X1_brought (f_X3_cell nS fS (nI u) 1) ln)) (bl, bh, (upd pt dp (nI u)), bs)).2.2.2)))), (hP, .inr (1, [.int ln, .int hb, .int ha, .int pu, .int hl, .int sm, .int hr, .ref hS, .ref hC, .ref hN, .ref hM, .ref hU])), (hS, .inr (2, [.ref aS, .int mS, .int nS])), (aS, .inl ((vv_k x).2.1.1, 32, .inl fS))]) (by simp only [if_neg h_3, if_pos h_4, nI_1]) ?_
        exact ih (u + 1) (if pq < (cst (5 * dp + u)) then bl else (if (itr (st_X4_isOnPath pt (nI u)) dp 0 false) = true then bl else (ex (dp + 1) (pq - (cst (5 * dp + u))) (hq + (f_X1_brought (f_X3_cell nS fS (nI u) 1) ln)) (bl, bh, (upd pt dp (nI u)), bs)).1)) (if pq < (cst (5 * dp + u)) then bh else (if (itr (st_X4_isOnPath pt (nI u)) dp 0 false) = true then bh else (ex (dp + 1) (pq - (cst (5 * dp + u))) (hq + (f_X1_brought (f_X3_cell nS fS (nI u) 1) ln)) (bl, bh, (upd pt dp (nI u)), bs)).2.1)) (if pq < (cst (5 * dp + u)) then pt else (if (itr (st_X4_isOnPath pt (nI u)) dp 0 false) = true then pt else (ex (dp + 1) (pq - (cst (5 * dp + u))) (hq + (f_X1_brought (f_X3_cell nS fS (nI u) 1) ln)) (bl, bh, (upd pt dp (nI u)), bs)).2.2.1)) (if pq < (cst (5 * dp + u)) then bs else (if (itr (st_X4_isOnPath pt (nI u)) dp 0 false) = true then bs else (ex (dp + 1) (pq - (cst (5 * dp + u))) (hq + (f_X1_brought (f_X3_cell nS fS (nI u) 1) ln)) (bl, bh, (upd pt dp (nI u)), bs)).2.2.2)) (by omega) (by rw [itr_s] at kx; exact kx)
      · refine vv_aload_n F dX4_extend_76 rfl rfl ?_
        refine vv_get 0 F fl_X4_15 dX4_extend_77 rfl rfl ?_
        refine vv_iload_n F dX4_extend_80 rfl rfl ?_
        refine vv_iload F dX4_extend_81 rfl ?_
        refine vv_iast 2 (ws' := [(hW, .inr (3, [.ref aW, .ref aQ, .ref aR, .int bl, .int bh])), (aW, .inl ((vv_k x).2.1.1, 25, .inl cst)), (aQ, .inl ((vv_k x).2.1.1, 5, .inl (upd pt dp (nI u)))), (aR, .inl ((vv_k x).2.1.1, 5, .inl bs)), (hP, .inr (1, [.int ln, .int hb, .int ha, .int pu, .int hl, .int sm, .int hr, .ref hS, .ref hC, .ref hN, .ref hM, .ref hU])), (hS, .inr (2, [.ref aS, .int mS, .int nS])), (aS, .inl ((vv_k x).2.1.1, 32, .inl fS))]) F dX4_extend_83 rfl (vv_ixP (j := dp) (by have hz := (nI_toInt (n := dp) (by omega)); omega) (by omega)) rfl ?_
        refine vv_aload_n F dX4_extend_84 rfl rfl ?_
        refine vv_aload_n F dX4_extend_85 rfl rfl ?_
        refine vv_iload_n F dX4_extend_86 rfl rfl ?_
        refine vv_iconst (v := 1) F dX4_extend_87 (by decide) ?_
        refine vv_iadd F dX4_extend_88 ?_
        refine vv_topi (nI (dp + 1)) (nI_1 dp) ?_
        refine vv_iload_n F dX4_extend_89 rfl rfl ?_
        refine vv_iload F dX4_extend_90 rfl ?_
        refine vv_isub F dX4_extend_92 ?_
        refine vv_iload F dX4_extend_93 rfl ?_
        refine vv_aload_n F dX4_extend_95 rfl rfl ?_
        refine vv_iload F dX4_extend_96 rfl ?_
        refine vv_callVp (As := [.int (nI u)]) (rest := [.int hq, .int (pq - (cst (5 * dp + u))), .int (nI (dp + 1)), .ref hP, .ref hW]) [4, 5, 6] 4 F (c_X2_bringing (vv_l x) (vv_k x) hP hS hC hN hM hU ln hb ha pu hl sm hr aS mS nS fS (nI u) (by omega)) mv_X4_71 dX4_extend_98 (by omega) rfl rfl (Nat.le_of_ble_eq_true rfl) rfl (by decide) rfl ?_
        refine vv_iadd F dX4_extend_101 ?_
        refine vv_callS (As := [.ref hW, .ref hP, .int (nI (dp + 1)), .int (pq - (cst (5 * dp + u))), .int (hq + (f_X1_brought (f_X3_cell nS fS (nI u) 1) ln))]) (rest := []) [0, 1, 2, 3, 4, 5, 6] (ws' := [(hW, .inr (3, [.ref aW, .ref aQ, .ref aR, .int ((ex (dp + 1) (pq - (cst (5 * dp + u))) (hq + (f_X1_brought (f_X3_cell nS fS (nI u) 1) ln)) (bl, bh, (upd pt dp (nI u)), bs)).1), .int ((ex (dp + 1) (pq - (cst (5 * dp + u))) (hq + (f_X1_brought (f_X3_cell nS fS (nI u) 1) ln)) (bl, bh, (upd pt dp (nI u)), bs)).2.1)])), (aW, .inl ((vv_k x).2.1.1, 25, .inl cst)), (aQ, .inl ((vv_k x).2.1.1, 5, .inl ((ex (dp + 1) (pq - (cst (5 * dp + u))) (hq + (f_X1_brought (f_X3_cell nS fS (nI u) 1) ln)) (bl, bh, (upd pt dp (nI u)), bs)).2.2.1))), (aR, .inl ((vv_k x).2.1.1, 5, .inl ((ex (dp + 1) (pq - (cst (5 * dp + u))) (hq + (f_X1_brought (f_X3_cell nS fS (nI u) 1) ln)) (bl, bh, (upd pt dp (nI u)), bs)).2.2.2))), (hP, .inr (1, [.int ln, .int hb, .int ha, .int pu, .int hl, .int sm, .int hr, .ref hS, .ref hC, .ref hN, .ref hM, .ref hU])), (hS, .inr (2, [.ref aS, .int mS, .int nS])), (aS, .inl ((vv_k x).2.1.1, 32, .inl fS))]) F (hE bl bh (pq - (cst (5 * dp + u))) (hq + (f_X1_brought (f_X3_cell nS fS (nI u) 1) ln)) (upd pt dp (nI u)) bs) ms_X4_46 dX4_extend_102 (by omega) rfl rfl (Nat.le_of_ble_eq_true rfl) rfl (by decide) (Eq.trans (b := [hW, aW, aQ, aR, hP, hS, aS]) rfl rfl) rfl ?_
        refine vv_iinc (v := (nI (u + 1))) (lv' := [(5, .int (nI (u + 1))), (6, .int (cst (5 * dp + u))), (0, .ref hW), (1, .ref hP), (2, .int (nI dp)), (3, .int pq), (4, .int hq)]) 1 F dX4_extend_105 rfl (nI_1 u) (by decide) rfl ?_
        refine vv_goto (tgt := 29) F dX4_extend_108 (by decide) ?_
        refine vv_lv [0, 2, 3, 4, 5, 6] rfl ?_
        refine vv_ws (ws' := [(hW, .inr (3, [.ref aW, .ref aQ, .ref aR, .int (if pq < (cst (5 * dp + u)) then bl else (if (itr (st_X4_isOnPath pt (nI u)) dp 0 false) = true then bl else (ex (dp + 1) (pq - (cst (5 * dp + u))) (hq + (f_X1_brought (f_X3_cell nS fS (nI u) 1) ln)) (bl, bh, (upd pt dp (nI u)), bs)).1)), .int (if pq < (cst (5 * dp + u)) then bh else (if (itr (st_X4_isOnPath pt (nI u)) dp 0 false) = true then bh else (ex (dp + 1) (pq - (cst (5 * dp + u))) (hq + (f_X1_brought (f_X3_cell nS fS (nI u) 1) ln)) (bl, bh, (upd pt dp (nI u)), bs)).2.1))])), (aW, .inl ((vv_k x).2.1.1, 25, .inl cst)), (aQ, .inl ((vv_k x).2.1.1, 5, .inl (if pq < (cst (5 * dp + u)) then pt else (if (itr (st_X4_isOnPath pt (nI u)) dp 0 false) = true then pt else (ex (dp + 1) (pq - (cst (5 * dp + u))) (hq + (f_X1_brought (f_X3_cell nS fS (nI u) 1) ln)) (bl, bh, (upd pt dp (nI u)), bs)).2.2.1)))), (aR, .inl ((vv_k x).2.1.1, 5, .inl (if pq < (cst (5 * dp + u)) then bs else (if (itr (st_X4_isOnPath pt (nI u)) dp 0 false) = true then bs else (ex (dp + 1) (pq - (cst (5 * dp + u))) (hq + (f_X1_brought (f_X3_cell nS fS (nI u) 1) ln)) (bl, bh, (upd pt dp (nI u)), bs)).2.2.2)))), (hP, .inr (1, [.int ln, .int hb, .int ha, .int pu, .int hl, .int sm, .int hr, .ref hS, .ref hC, .ref hN, .ref hM, .ref hU])), (hS, .inr (2, [.ref aS, .int mS, .int nS])), (aS, .inl ((vv_k x).2.1.1, 32, .inl fS))]) (by simp only [if_neg h_3, if_neg h_4, nI_1]) ?_
        exact ih (u + 1) (if pq < (cst (5 * dp + u)) then bl else (if (itr (st_X4_isOnPath pt (nI u)) dp 0 false) = true then bl else (ex (dp + 1) (pq - (cst (5 * dp + u))) (hq + (f_X1_brought (f_X3_cell nS fS (nI u) 1) ln)) (bl, bh, (upd pt dp (nI u)), bs)).1)) (if pq < (cst (5 * dp + u)) then bh else (if (itr (st_X4_isOnPath pt (nI u)) dp 0 false) = true then bh else (ex (dp + 1) (pq - (cst (5 * dp + u))) (hq + (f_X1_brought (f_X3_cell nS fS (nI u) 1) ln)) (bl, bh, (upd pt dp (nI u)), bs)).2.1)) (if pq < (cst (5 * dp + u)) then pt else (if (itr (st_X4_isOnPath pt (nI u)) dp 0 false) = true then pt else (ex (dp + 1) (pq - (cst (5 * dp + u))) (hq + (f_X1_brought (f_X3_cell nS fS (nI u) 1) ln)) (bl, bh, (upd pt dp (nI u)), bs)).2.2.1)) (if pq < (cst (5 * dp + u)) then bs else (if (itr (st_X4_isOnPath pt (nI u)) dp 0 false) = true then bs else (ex (dp + 1) (pq - (cst (5 * dp + u))) (hq + (f_X1_brought (f_X3_cell nS fS (nI u) 1) ln)) (bl, bh, (upd pt dp (nI u)), bs)).2.2.2)) (by omega) (by rw [itr_s] at kx; exact kx)
noncomputable def kpF (dp : Nat) (hz : Int32) (s : Int32 × Int32 × (Nat → Int32) × (Nat → Int32)) : Int32 × Int32 × (Nat → Int32) × (Nat → Int32) := if hz ≤ s.2.1 then s else (nI dp, hz, s.2.2.1, itr (st_X4_keepPath s.2.2.1) dp 0 s.2.2.2)
noncomputable def exF (cst : Nat → Int32) (ln nS : Int32) (fS : Nat → Int32) (cs : Nat) : Nat → Nat → Int32 → Int32 → (Int32 × Int32 × (Nat → Int32) × (Nat → Int32)) → (Int32 × Int32 × (Nat → Int32) × (Nat → Int32))
  | 0, dp, _, hq, s => kpF dp hq s
  | k + 1, dp, pq, hq, s => itr (st_X4_extend cst ln nS fS pq hq dp (exF cst ln nS fS cs k)) cs 0 (kpF dp hq s)
theorem c_X4_extend (l : Launch) (K : vv_K) (hW aW aQ aR : Nat) (cst : Nat → Int32) (hP hS hC hN hM hU : Nat) (ln hb ha pu hl sm hr : Int32) (aS : Nat) (mS nS : Int32) (fS : Nat → Int32) (cs : Nat) (hcs : (nS).toInt = (cs : Int)) (hcs5 : cs ≤ 5) : ∀ (k dp : Nat) (bl bh pq hq : Int32) (pt bs : Nat → Int32), dp + k = 5 → vv_C l K (5 + k) yX4_extend cX4_extend 7 none [.ref hW, .ref hP, .int (nI dp), .int pq, .int hq] [(hW, .inr (3, [.ref aW, .ref aQ, .ref aR, .int bl, .int bh])), (aW, .inl (K.2.1.1, 25, .inl cst)), (aQ, .inl (K.2.1.1, 5, .inl pt)), (aR, .inl (K.2.1.1, 5, .inl bs)), (hP, .inr (1, [.int ln, .int hb, .int ha, .int pu, .int hl, .int sm, .int hr, .ref hS, .ref hC, .ref hN, .ref hM, .ref hU])), (hS, .inr (2, [.ref aS, .int mS, .int nS])), (aS, .inl (K.2.1.1, 32, .inl fS))] none [(hW, .inr (3, [.ref aW, .ref aQ, .ref aR, .int ((exF cst ln nS fS cs k dp pq hq (bl, bh, pt, bs)).1), .int ((exF cst ln nS fS cs k dp pq hq (bl, bh, pt, bs)).2.1)])), (aW, .inl (K.2.1.1, 25, .inl cst)), (aQ, .inl (K.2.1.1, 5, .inl ((exF cst ln nS fS cs k dp pq hq (bl, bh, pt, bs)).2.2.1))), (aR, .inl (K.2.1.1, 5, .inl ((exF cst ln nS fS cs k dp pq hq (bl, bh, pt, bs)).2.2.2))), (hP, .inr (1, [.int ln, .int hb, .int ha, .int pu, .int hl, .int sm, .int hr, .ref hS, .ref hC, .ref hN, .ref hM, .ref hU])), (hS, .inr (2, [.ref aS, .int mS, .int nS])), (aS, .inl (K.2.1.1, 32, .inl fS))] := by
  intro k
  induction k with
  | zero =>
    intro dp bl bh pq hq pt bs hdk
    refine vv_C.of (lv := [(0, .ref hW), (1, .ref hP), (2, .int (nI dp)), (3, .int pq), (4, .int hq)]) (by decide +kernel) (Nat.le_of_ble_eq_true rfl) rfl ?_
    intro x hl hK F hR; subst hl; obtain rfl := hK
    refine vv_iload F dX4_extend_0 rfl ?_
    refine vv_aload_n F dX4_extend_2 rfl rfl ?_
    refine vv_get 0 F fl_X4_40 dX4_extend_3 rfl rfl ?_
    refine vv_icmp_le (tgt := 16) F dX4_extend_6 (by decide) (fun h_1 => ?_) (fun h_1 => ?_)
    · refine vv_iload_n F dX4_extend_16 rfl rfl ?_
      refine vv_iconst (v := 0) F dX4_extend_17 (by decide) ?_
      refine vv_iconst (v := 4) F dX4_extend_18 (by decide) ?_
      refine vv_callSp (As := [.int (nI dp), .int 0, .int 4]) (rest := []) [] F (c_X7_within (vv_l x) (vv_k x) (nI dp) 0 4) ms_X4_55 dX4_extend_19 (by omega) rfl rfl (Nat.le_of_ble_eq_true rfl) rfl (by decide) ?_
      refine vv_ifz_ne (tgt := 26) F dX4_extend_22 (by decide) (fun h_2 => absurd h_2 (fun z => by have hz := wi_rng (a := 0) (b := 4) (by decide) (by decide) z; rw [nI_toInt (by omega)] at hz; omega)) (fun h_2 => ?_)
      exact vv_vret F hR dX4_extend_25 rfl (by simp only [exF, kpF, if_pos h_1])
    · refine vv_aload_n F dX4_extend_9 rfl rfl ?_
      refine vv_iload_n F dX4_extend_10 rfl rfl ?_
      refine vv_iload F dX4_extend_11 rfl ?_
      refine vv_callV (As := [.int (nI dp), .int hq]) (rest := []) [0, 2, 3] 0 (ws' := [(hW, .inr (3, [.ref aW, .ref aQ, .ref aR, .int (nI dp), .int hq])), (aW, .inl ((vv_k x).2.1.1, 25, .inl cst)), (aQ, .inl ((vv_k x).2.1.1, 5, .inl pt)), (aR, .inl ((vv_k x).2.1.1, 5, .inl (itr (st_X4_keepPath pt) dp 0 bs))), (hP, .inr (1, [.int ln, .int hb, .int ha, .int pu, .int hl, .int sm, .int hr, .ref hS, .ref hC, .ref hN, .ref hM, .ref hU])), (hS, .inr (2, [.ref aS, .int mS, .int nS])), (aS, .inl ((vv_k x).2.1.1, 32, .inl fS))]) F (c_X4_keepPath (vv_l x) (vv_k x) hW aW aQ aR bl bh pt bs (nI dp) hq dp (nI_toInt (n := dp) (by omega)) (by omega)) mv_X4_63 dX4_extend_13 (by omega) rfl rfl (Nat.le_of_ble_eq_true rfl) rfl (by decide) (Eq.trans (b := [hW, aQ, aR]) rfl rfl) rfl rfl ?_
      refine vv_iload_n F dX4_extend_16 rfl rfl ?_
      refine vv_iconst (v := 0) F dX4_extend_17 (by decide) ?_
      refine vv_iconst (v := 4) F dX4_extend_18 (by decide) ?_
      refine vv_callSp (As := [.int (nI dp), .int 0, .int 4]) (rest := []) [] F (c_X7_within (vv_l x) (vv_k x) (nI dp) 0 4) ms_X4_55 dX4_extend_19 (by omega) rfl rfl (Nat.le_of_ble_eq_true rfl) rfl (by decide) ?_
      refine vv_ifz_ne (tgt := 26) F dX4_extend_22 (by decide) (fun h_3 => absurd h_3 (fun z => by have hz := wi_rng (a := 0) (b := 4) (by decide) (by decide) z; rw [nI_toInt (by omega)] at hz; omega)) (fun h_3 => ?_)
      exact vv_vret F hR dX4_extend_25 rfl (by simp only [exF, kpF, if_neg h_1])
  | succ k ih =>
    intro dp bl bh pq hq pt bs hdk
    refine vv_C.of (lv := [(0, .ref hW), (1, .ref hP), (2, .int (nI dp)), (3, .int pq), (4, .int hq)]) (by decide +kernel) (Nat.le_of_ble_eq_true rfl) rfl ?_
    intro x hl hK F hR; subst hl; obtain rfl := hK
    refine vv_iload F dX4_extend_0 rfl ?_
    refine vv_aload_n F dX4_extend_2 rfl rfl ?_
    refine vv_get 0 F fl_X4_40 dX4_extend_3 rfl rfl ?_
    refine vv_icmp_le (tgt := 16) F dX4_extend_6 (by decide) (fun h_1 => ?_) (fun h_1 => ?_)
    · refine vv_iload_n F dX4_extend_16 rfl rfl ?_
      refine vv_iconst (v := 0) F dX4_extend_17 (by decide) ?_
      refine vv_iconst (v := 4) F dX4_extend_18 (by decide) ?_
      refine vv_callSp (As := [.int (nI dp), .int 0, .int 4]) (rest := []) [] F (c_X7_within (vv_l x) (vv_k x) (nI dp) 0 4) ms_X4_55 dX4_extend_19 (by omega) rfl rfl (Nat.le_of_ble_eq_true rfl) rfl (by decide) ?_
      refine vv_ifz_ne (tgt := 26) F dX4_extend_22 (by decide) (fun h_2 => ?_) (fun h_2 => absurd (wi_in (a := 0) (b := 4) (nI_toInt (n := dp) (by omega)) (by decide) (by decide) (by omega) (by omega)) h_2)
      refine vv_iconst (v := 0) F dX4_extend_26 (by decide) ?_
      refine vv_istore (lv' := [(5, .int 0), (0, .ref hW), (1, .ref hP), (2, .int (nI dp)), (3, .int pq), (4, .int hq)]) F dX4_extend_27 (by decide) rfl ?_
      refine vv_lv (lv' := [(5, .int 0), (0, .ref hW), (1, .ref hP), (2, .int (nI dp)), (3, .int pq), (4, .int hq)]) [0, 1, 2, 3, 4, 5] rfl ?_
      refine L_X4_extend F hW aW aQ aR cst hP hS hC hN hM hU ln hb ha pu hl sm hr aS mS nS fS pq hq dp (exF cst ln nS fS cs k) cs hcs (by omega) (by omega) (fun l1 b1 p1 h1 t1 s1 => ih (dp + 1) l1 b1 p1 h1 t1 s1 (by omega)) cs 0 bl bh pt bs (by omega) ?_
      exact vv_vret F hR dX4_extend_111 rfl (by simp only [exF, kpF, if_pos h_1])
    · refine vv_aload_n F dX4_extend_9 rfl rfl ?_
      refine vv_iload_n F dX4_extend_10 rfl rfl ?_
      refine vv_iload F dX4_extend_11 rfl ?_
      refine vv_callV (As := [.int (nI dp), .int hq]) (rest := []) [0, 2, 3] 0 (ws' := [(hW, .inr (3, [.ref aW, .ref aQ, .ref aR, .int (nI dp), .int hq])), (aW, .inl ((vv_k x).2.1.1, 25, .inl cst)), (aQ, .inl ((vv_k x).2.1.1, 5, .inl pt)), (aR, .inl ((vv_k x).2.1.1, 5, .inl (itr (st_X4_keepPath pt) dp 0 bs))), (hP, .inr (1, [.int ln, .int hb, .int ha, .int pu, .int hl, .int sm, .int hr, .ref hS, .ref hC, .ref hN, .ref hM, .ref hU])), (hS, .inr (2, [.ref aS, .int mS, .int nS])), (aS, .inl ((vv_k x).2.1.1, 32, .inl fS))]) F (c_X4_keepPath (vv_l x) (vv_k x) hW aW aQ aR bl bh pt bs (nI dp) hq dp (nI_toInt (n := dp) (by omega)) (by omega)) mv_X4_63 dX4_extend_13 (by omega) rfl rfl (Nat.le_of_ble_eq_true rfl) rfl (by decide) (Eq.trans (b := [hW, aQ, aR]) rfl rfl) rfl rfl ?_
      refine vv_iload_n F dX4_extend_16 rfl rfl ?_
      refine vv_iconst (v := 0) F dX4_extend_17 (by decide) ?_
      refine vv_iconst (v := 4) F dX4_extend_18 (by decide) ?_
      refine vv_callSp (As := [.int (nI dp), .int 0, .int 4]) (rest := []) [] F (c_X7_within (vv_l x) (vv_k x) (nI dp) 0 4) ms_X4_55 dX4_extend_19 (by omega) rfl rfl (Nat.le_of_ble_eq_true rfl) rfl (by decide) ?_
      refine vv_ifz_ne (tgt := 26) F dX4_extend_22 (by decide) (fun h_3 => ?_) (fun h_3 => absurd (wi_in (a := 0) (b := 4) (nI_toInt (n := dp) (by omega)) (by decide) (by decide) (by omega) (by omega)) h_3)
      refine vv_iconst (v := 0) F dX4_extend_26 (by decide) ?_
      refine vv_istore (lv' := [(5, .int 0), (0, .ref hW), (1, .ref hP), (2, .int (nI dp)), (3, .int pq), (4, .int hq)]) F dX4_extend_27 (by decide) rfl ?_
      refine vv_lv (lv' := [(5, .int 0), (0, .ref hW), (1, .ref hP), (2, .int (nI dp)), (3, .int pq), (4, .int hq)]) [0, 1, 2, 3, 4, 5] rfl ?_
      refine L_X4_extend F hW aW aQ aR cst hP hS hC hN hM hU ln hb ha pu hl sm hr aS mS nS fS pq hq dp (exF cst ln nS fS cs k) cs hcs (by omega) (by omega) (fun l1 b1 p1 h1 t1 s1 => ih (dp + 1) l1 b1 p1 h1 t1 s1 (by omega)) cs 0 (nI dp) hq pt (itr (st_X4_keepPath pt) dp 0 bs) (by omega) ?_
      exact vv_vret F hR dX4_extend_111 rfl (by simp only [exF, kpF, if_neg h_1])
