def bj (v u : Nat) : Nat := if v < u then 0 else v + 1 - u
theorem bj_le {v u : Nat} (h : 1 ≤ u) : bj v u ≤ v := by unfold bj; split <;> omega
theorem bj_nn {v u : Nat} (hv : v < 1000) (hu : u < 1000) : (f_X8_bringsBy (nI v) (nI u)).toInt = (bj v u : Int) := by
  unfold f_X8_bringsBy bj
  have h1 := nI_toInt (n := v) (by omega)
  have h2 := nI_toInt (n := u) (by omega)
  by_cases h : v < u
  · rw [if_pos h, if_pos ((c_lt h1 h2).mpr h)]; rfl
  · rw [if_neg h, if_neg (mt (c_lt h1 h2).mp h)]
    exact nn_sub (nn_add h1 (by decide : (1 : Int32).toInt = ((1 : Nat) : Int)) (by omega)) h2 (by omega)
/-- the ends that rest: the k-th, or how many -/
def l_ends_in (P : Nat → Prop) [∀ u, Decidable (P u)] (k : Int32) (v : Nat) (ct : Int32 → Int32) : Nat → Nat → Int32 → Int32
  | 0, _, c => ct c
  | n + 1, u, c => if P u then (if c = k then 10 * nI v + nI u else l_ends_in P k v ct n (u + 1) (c + 1)) else l_ends_in P k v ct n (u + 1) c
def l_ends (P : Nat → Nat → Prop) [∀ v u, Decidable (P v u)] (k : Int32) (ct : Int32 → Int32) : Nat → Nat → Int32 → Int32
  | 0, _, c => ct c
  | n + 1, v, c => l_ends_in (P v) k v (l_ends P k ct n (v + 1)) 6 0 c
theorem lN_lit (n : Nat) : Int64.ofNat n = lN n := rfl
theorem ng_next {p : Nat} (hp : p < 2147483648) : vv_remL (lN p * 1103515245 + 12345) 2147483648 = lN ((p * 1103515245 + 12345) % 2147483648) := by
  have e1 : (1103515245 : Int64) = lN 1103515245 := rfl
  have e2 : (12345 : Int64) = lN 12345 := rfl
  have e3 : (2147483648 : Int64) = lN 2147483648 := rfl
  rw [e1, e2, e3, lN_mul, lN_add]
  unfold vv_remL
  exact pk_lRem (by omega) (by omega) (by omega)
theorem ng_i {p : Nat} (hp : p < 2147483648) : (vv_remL (lN p / 65536) 6).toInt32 = nI (p / 65536 % 6) := by
  have e1 : (65536 : Int64) = lN 65536 := rfl
  have e2 : (6 : Int64) = lN 6 := rfl
  rw [e1, e2, pk_lDiv (by omega) (by omega) (by omega)]
  unfold vv_remL
  rw [pk_lRem (by omega) (by omega) (by omega)]
  exact lN_i _
theorem i2l_nn {a : Int32} {k : Nat} (h : a.toInt = (k : Int)) (hk : k < 2147483648) : a.toInt64 = lN k := by
  rw [← nI_l hk]
  exact congrArg Int32.toInt64 (Int32.toInt_inj.mp (by rw [h, nI_toInt hk]))
def ng (p : Nat) : Nat := (p * 1103515245 + 12345) % 2147483648
theorem ng_lt (p : Nat) : ng p < 2147483648 := Nat.mod_lt _ (by decide)
noncomputable def st_X8_tries_z  (u : Nat) (s : (Nat → Int32)) : (Nat → Int32) := (upd s u 0)
theorem L_X8_tries_z {x : vv_X} (F : vv_F x cX8_tries 8 RX8 3) (qm qw qk qt : Nat) (txd : Int32) (abv blw : Int64) (qs : Nat) (atp stp nbr : Int32) (qi qp qh qb : Nat) (bmy : Int32) (qa q6 : Nat) (hsh : Int64) (wf al : Nat → Int32) (be le : Int32) (b : Bool) (v : Nat)  : ∀ (n : Nat) (u : Nat) (al : Nat → Int32), u + n = 62 → vv_V x 8 41 [(5, .int (nI 62)), (0, .ref qm), (1, .int be), (2, .int le), (3, .int (vv_b (b = true))), (4, .int (nI v))] [] [(qm, .inr (7, [.ref qw, .ref qk, .ref qt, .int txd, .long abv, .long blw, .ref qs, .int atp, .int stp, .int nbr, .ref qi, .ref qp, .ref qh, .ref qb, .int bmy, .ref qa, .ref q6, .long hsh])), (qw, .inl ((vv_k x).2.1.1, 456, .inl wf)), (qa, .inl ((vv_k x).2.1.1, 62, .inl (itr st_X8_tries_z n u al)))] → vv_V x 8 20 [(5, .int (nI u)), (0, .ref qm), (1, .int be), (2, .int le), (3, .int (vv_b (b = true))), (4, .int (nI v))] [] [(qm, .inr (7, [.ref qw, .ref qk, .ref qt, .int txd, .long abv, .long blw, .ref qs, .int atp, .int stp, .int nbr, .ref qi, .ref qp, .ref qh, .ref qb, .int bmy, .ref qa, .ref q6, .long hsh])), (qw, .inl ((vv_k x).2.1.1, 456, .inl wf)), (qa, .inl ((vv_k x).2.1.1, 62, .inl al))] := by
  intro n
  induction n with
  | zero =>
    intro u al hu  kx
    refine vv_iload F dX8_tries_20 rfl ?_
    refine vv_bipush (v := 62) F dX8_tries_22 (by decide) ?_
    refine vv_icmp_ge (tgt := 41) F dX8_tries_24 (by decide) (fun h_1 => ?_) (fun h_1 => absurd ((c_le (by decide : (62 : Int32).toInt = ((62 : Nat) : Int)) (nI_toInt (n := u) (by omega))).mpr (by omega)) h_1)
    obtain rfl : u = 62 := by omega
    rw [itr_0] at kx
    exact vv_lv [0, 1, 2, 3, 4, 5] rfl kx
  | succ n ih =>
    intro u al hu  kx
    refine vv_iload F dX8_tries_20 rfl ?_
    refine vv_bipush (v := 62) F dX8_tries_22 (by decide) ?_
    refine vv_icmp_ge (tgt := 41) F dX8_tries_24 (by decide) (fun h_1 => absurd ((c_le (by decide : (62 : Int32).toInt = ((62 : Nat) : Int)) (nI_toInt (n := u) (by omega))).mp h_1) (by omega)) (fun h_1 => ?_)
    refine vv_aload_n F dX8_tries_27 rfl rfl ?_
    refine vv_get 0 F fl_X8_42 dX8_tries_28 rfl rfl ?_
    refine vv_iload F dX8_tries_31 rfl ?_
    refine vv_iconst (v := 0) F dX8_tries_33 (by decide) ?_
    refine vv_iast 2 (ws' := [(qm, .inr (7, [.ref qw, .ref qk, .ref qt, .int txd, .long abv, .long blw, .ref qs, .int atp, .int stp, .int nbr, .ref qi, .ref qp, .ref qh, .ref qb, .int bmy, .ref qa, .ref q6, .long hsh])), (qw, .inl ((vv_k x).2.1.1, 456, .inl wf)), (qa, .inl ((vv_k x).2.1.1, 62, .inl (upd al u 0)))]) F dX8_tries_34 rfl (vv_ixP (j := u) (by have hz := (nI_toInt (n := u) (by omega)); omega) (by omega)) rfl ?_
    refine vv_iinc (v := (nI (u + 1))) (lv' := [(5, .int (nI (u + 1))), (0, .ref qm), (1, .int be), (2, .int le), (3, .int (vv_b (b = true))), (4, .int (nI v))]) 0 F dX8_tries_35 rfl (nI_1 u) (by decide) rfl ?_
    refine vv_goto (tgt := 20) F dX8_tries_38 (by decide) ?_
    refine vv_lv [0, 1, 2, 3, 4, 5] rfl ?_
    exact ih (u + 1) (upd al u 0) (by omega) (by rw [itr_s] at kx; exact kx)
noncomputable def st_X8_tries_in (wf : Nat → Int32) (v cC : Nat) (u : Nat) (s : Bool × Int32 × (Nat → Int32)) : Bool × Int32 × (Nat → Int32) := ((s.1 || decide ((itr (st_X8_fits wf (nI u)) cC 0 true) = true)), (if (itr (st_X8_fits wf (nI u)) cC 0 true) = true then (if ((s.2.2 (bj v u)) + 1) ≤ s.2.1 then s.2.1 else ((s.2.2 (bj v u)) + 1)) else s.2.1), (if (itr (st_X8_fits wf (nI u)) cC 0 true) = true then (upd s.2.2 (bj v u) ((s.2.2 (bj v u)) + 1)) else s.2.2))
theorem L_X8_tries_in {x : vv_X} (F : vv_F x cX8_tries 8 RX8 3) (qm qw qk qt : Nat) (txd : Int32) (abv blw : Int64) (qs : Nat) (atp stp nbr : Int32) (qi qp qh qb : Nat) (bmy : Int32) (qa q6 : Nat) (hsh : Int64) (wf al : Nat → Int32) (be le : Int32) (v : Nat) (cC : Nat) (hcC : ((wf 18)).toInt = (cC : Int)) (hcC6 : cC ≤ 6) (hv : v ≤ 60) : ∀ (n : Nat) (u : Nat) (b : Bool) (k : Int32) (al : Nat → Int32), u + n = 61 → 1 ≤ u → vv_V x 8 117 [(6, .int (nI 61)), (3, .int (vv_b (((itr (st_X8_tries_in wf v cC) n u (b, k, al)).1) = true))), (5, .int ((itr (st_X8_tries_in wf v cC) n u (b, k, al)).2.1)), (0, .ref qm), (1, .int be), (2, .int le), (4, .int (nI v))] [] [(qm, .inr (7, [.ref qw, .ref qk, .ref qt, .int txd, .long abv, .long blw, .ref qs, .int atp, .int stp, .int nbr, .ref qi, .ref qp, .ref qh, .ref qb, .int bmy, .ref qa, .ref q6, .long hsh])), (qw, .inl ((vv_k x).2.1.1, 456, .inl wf)), (qa, .inl ((vv_k x).2.1.1, 62, .inl ((itr (st_X8_tries_in wf v cC) n u (b, k, al)).2.2)))] → vv_V x 8 47 [(6, .int (nI u)), (3, .int (vv_b (b = true))), (5, .int k), (0, .ref qm), (1, .int be), (2, .int le), (4, .int (nI v))] [] [(qm, .inr (7, [.ref qw, .ref qk, .ref qt, .int txd, .long abv, .long blw, .ref qs, .int atp, .int stp, .int nbr, .ref qi, .ref qp, .ref qh, .ref qb, .int bmy, .ref qa, .ref q6, .long hsh])), (qw, .inl ((vv_k x).2.1.1, 456, .inl wf)), (qa, .inl ((vv_k x).2.1.1, 62, .inl al))] := by
  intro n
  induction n with
  | zero =>
    intro u b k al hu hu1  kx
    refine vv_iload F dX8_tries_47 rfl ?_
    refine vv_bipush (v := 60) F dX8_tries_49 (by decide) ?_
    refine vv_icmp_gt (tgt := 117) F dX8_tries_51 (by decide) (fun h_1 => ?_) (fun h_1 => absurd ((c_lt (by decide : (60 : Int32).toInt = ((60 : Nat) : Int)) (nI_toInt (n := u) (by omega))).mpr (by omega)) h_1)
    obtain rfl : u = 61 := by omega
    rw [itr_0] at kx
    exact vv_lv [0, 1, 2, 3, 4, 5, 6] rfl kx
  | succ n ih =>
    intro u b k al hu hu1  kx
    refine vv_iload F dX8_tries_47 rfl ?_
    refine vv_bipush (v := 60) F dX8_tries_49 (by decide) ?_
    refine vv_icmp_gt (tgt := 117) F dX8_tries_51 (by decide) (fun h_1 => absurd ((c_lt (by decide : (60 : Int32).toInt = ((60 : Nat) : Int)) (nI_toInt (n := u) (by omega))).mp h_1) (by omega)) (fun h_1 => ?_)
    refine vv_aload_n F dX8_tries_54 rfl rfl ?_
    refine vv_iload F dX8_tries_55 rfl ?_
    refine vv_callVp (As := [.int (nI u)]) (rest := []) [0, 1] 0 F (c_X8_fits (vv_l x) (vv_k x) qm qw qk qt txd abv blw qs atp stp nbr qi qp qh qb bmy qa q6 hsh wf (nI u) cC hcC (by omega)) mv_X8_225 dX8_tries_57 (by decide) rfl rfl (Nat.le_of_ble_eq_true rfl) rfl (by decide) rfl ?_
    refine vv_ifz_eq (tgt := 111) F dX8_tries_60 (by decide) (fun h_2 => ?_) (fun h_2 => ?_)
    · refine vv_iinc (v := (nI (u + 1))) (lv' := [(6, .int (nI (u + 1))), (3, .int (vv_b (b = true))), (5, .int k), (0, .ref qm), (1, .int be), (2, .int le), (4, .int (nI v))]) 0 F dX8_tries_111 rfl (nI_1 u) (by decide) rfl ?_
      refine vv_goto (tgt := 47) F dX8_tries_114 (by decide) ?_
      refine vv_lv (lv' := [(6, .int (nI (u + 1))), (3, .int (vv_b (b = true))), (5, .int k), (0, .ref qm), (1, .int be), (2, .int le), (4, .int (nI v))]) [0, 1, 2, 3, 4, 5, 6] rfl ?_
      refine vv_lvE (lv' := [(6, .int (nI (u + 1))), (3, .int (vv_b ((b || decide ((itr (st_X8_fits wf (nI u)) cC 0 true) = true)) = true))), (5, .int (if (itr (st_X8_fits wf (nI u)) cC 0 true) = true then (if ((al (bj v u)) + 1) ≤ k then k else ((al (bj v u)) + 1)) else k)), (0, .ref qm), (1, .int be), (2, .int le), (4, .int (nI v))]) (by first | (simp only [if_neg h_2]; done) | (simp [vv_b, h_2]; done)) ?_
      refine vv_ws (ws' := [(qm, .inr (7, [.ref qw, .ref qk, .ref qt, .int txd, .long abv, .long blw, .ref qs, .int atp, .int stp, .int nbr, .ref qi, .ref qp, .ref qh, .ref qb, .int bmy, .ref qa, .ref q6, .long hsh])), (qw, .inl ((vv_k x).2.1.1, 456, .inl wf)), (qa, .inl ((vv_k x).2.1.1, 62, .inl (if (itr (st_X8_fits wf (nI u)) cC 0 true) = true then (upd al (bj v u) ((al (bj v u)) + 1)) else al)))]) (by simp only [if_neg h_2, nI_1]) ?_
      exact ih (u + 1) (b || decide ((itr (st_X8_fits wf (nI u)) cC 0 true) = true)) (if (itr (st_X8_fits wf (nI u)) cC 0 true) = true then (if ((al (bj v u)) + 1) ≤ k then k else ((al (bj v u)) + 1)) else k) (if (itr (st_X8_fits wf (nI u)) cC 0 true) = true then (upd al (bj v u) ((al (bj v u)) + 1)) else al) (by omega) (by omega) (by rw [itr_s] at kx; exact kx)
    · refine vv_iconst (v := 1) F dX8_tries_63 (by decide) ?_
      refine vv_istore_n (lv' := [(3, .int 1), (6, .int (nI u)), (5, .int k), (0, .ref qm), (1, .int be), (2, .int le), (4, .int (nI v))]) F dX8_tries_64 rfl (by decide) rfl ?_
      refine vv_iload F dX8_tries_65 rfl ?_
      refine vv_iload F dX8_tries_67 rfl ?_
      refine vv_callSp (As := [.int (nI v), .int (nI u)]) (rest := []) [] F (c_X8_bringsBy (vv_l x) (vv_k x) (nI v) (nI u)) ms_X8_188 dX8_tries_69 (by decide) rfl rfl (Nat.le_of_ble_eq_true rfl) rfl (by decide) ?_
      refine vv_istore (lv' := [(7, .int (f_X8_bringsBy (nI v) (nI u))), (3, .int 1), (6, .int (nI u)), (5, .int k), (0, .ref qm), (1, .int be), (2, .int le), (4, .int (nI v))]) F dX8_tries_72 (by decide) rfl ?_
      have hbj := bj_le (v := v) hu1
      refine vv_aload_n F dX8_tries_74 rfl rfl ?_
      refine vv_get 0 F fl_X8_42 dX8_tries_75 rfl rfl ?_
      refine vv_iload F dX8_tries_78 rfl ?_
      refine vv_dup2_11 F dX8_tries_80 rfl rfl ?_
      refine vv_iald 2 F dX8_tries_81 rfl (vv_ixP (j := (bj v u)) (by have hz := (bj_nn (v := v) (u := u) (by omega) (by omega)); omega) (by omega)) ?_
      refine vv_iconst (v := 1) F dX8_tries_82 (by decide) ?_
      refine vv_iadd F dX8_tries_83 ?_
      refine vv_iast 2 (ws' := [(qm, .inr (7, [.ref qw, .ref qk, .ref qt, .int txd, .long abv, .long blw, .ref qs, .int atp, .int stp, .int nbr, .ref qi, .ref qp, .ref qh, .ref qb, .int bmy, .ref qa, .ref q6, .long hsh])), (qw, .inl ((vv_k x).2.1.1, 456, .inl wf)), (qa, .inl ((vv_k x).2.1.1, 62, .inl (upd al (bj v u) ((al (bj v u)) + 1))))]) F dX8_tries_84 rfl (vv_ixP (j := (bj v u)) (by have hz := (bj_nn (v := v) (u := u) (by omega) (by omega)); omega) (by omega)) rfl ?_
      refine vv_aload_n F dX8_tries_85 rfl rfl ?_
      refine vv_get 0 F fl_X8_42 dX8_tries_86 rfl rfl ?_
      refine vv_iload F dX8_tries_89 rfl ?_
      refine vv_iald 2 F dX8_tries_91 rfl (vv_ixP (j := (bj v u)) (by have hz := (bj_nn (v := v) (u := u) (by omega) (by omega)); omega) (by omega)) ?_
      refine vv_topi ((al (bj v u)) + 1) (pk_us) ?_
      refine vv_iload F dX8_tries_92 rfl ?_
      refine vv_icmp_le (tgt := 107) F dX8_tries_94 (by decide) (fun h_3 => ?_) (fun h_3 => ?_)
      · refine vv_iload F dX8_tries_107 rfl ?_
        refine vv_istore (lv' := [(5, .int k), (7, .int (f_X8_bringsBy (nI v) (nI u))), (3, .int 1), (6, .int (nI u)), (0, .ref qm), (1, .int be), (2, .int le), (4, .int (nI v))]) F dX8_tries_109 (by decide) rfl ?_
        refine vv_iinc (v := (nI (u + 1))) (lv' := [(6, .int (nI (u + 1))), (5, .int k), (7, .int (f_X8_bringsBy (nI v) (nI u))), (3, .int 1), (0, .ref qm), (1, .int be), (2, .int le), (4, .int (nI v))]) 3 F dX8_tries_111 rfl (nI_1 u) (by decide) rfl ?_
        refine vv_goto (tgt := 47) F dX8_tries_114 (by decide) ?_
        refine vv_lv (lv' := [(6, .int (nI (u + 1))), (3, .int 1), (5, .int k), (0, .ref qm), (1, .int be), (2, .int le), (4, .int (nI v))]) [0, 3, 1, 4, 5, 6, 7] rfl ?_
        refine vv_lvE (lv' := [(6, .int (nI (u + 1))), (3, .int (vv_b ((b || decide ((itr (st_X8_fits wf (nI u)) cC 0 true) = true)) = true))), (5, .int (if (itr (st_X8_fits wf (nI u)) cC 0 true) = true then (if ((al (bj v u)) + 1) ≤ k then k else ((al (bj v u)) + 1)) else k)), (0, .ref qm), (1, .int be), (2, .int le), (4, .int (nI v))]) (by first | (simp only [if_pos h_2, if_pos h_3]; done) | (simp [vv_b, h_2, h_3]; done)) ?_
        refine vv_ws (ws' := [(qm, .inr (7, [.ref qw, .ref qk, .ref qt, .int txd, .long abv, .long blw, .ref qs, .int atp, .int stp, .int nbr, .ref qi, .ref qp, .ref qh, .ref qb, .int bmy, .ref qa, .ref q6, .long hsh])), (qw, .inl ((vv_k x).2.1.1, 456, .inl wf)), (qa, .inl ((vv_k x).2.1.1, 62, .inl (if (itr (st_X8_fits wf (nI u)) cC 0 true) = true then (upd al (bj v u) ((al (bj v u)) + 1)) else al)))]) (by simp only [if_pos h_2, if_pos h_3, nI_1]) ?_
        exact ih (u + 1) (b || decide ((itr (st_X8_fits wf (nI u)) cC 0 true) = true)) (if (itr (st_X8_fits wf (nI u)) cC 0 true) = true then (if ((al (bj v u)) + 1) ≤ k then k else ((al (bj v u)) + 1)) else k) (if (itr (st_X8_fits wf (nI u)) cC 0 true) = true then (upd al (bj v u) ((al (bj v u)) + 1)) else al) (by omega) (by omega) (by rw [itr_s] at kx; exact kx)
      · refine vv_aload_n F dX8_tries_97 rfl rfl ?_
        refine vv_get 0 F fl_X8_42 dX8_tries_98 rfl rfl ?_
        refine vv_iload F dX8_tries_101 rfl ?_
        refine vv_iald 2 F dX8_tries_103 rfl (vv_ixP (j := (bj v u)) (by have hz := (bj_nn (v := v) (u := u) (by omega) (by omega)); omega) (by omega)) ?_
        refine vv_topi ((al (bj v u)) + 1) (pk_us) ?_
        refine vv_goto (tgt := 109) F dX8_tries_104 (by decide) ?_
        refine vv_istore (lv' := [(5, .int ((al (bj v u)) + 1)), (7, .int (f_X8_bringsBy (nI v) (nI u))), (3, .int 1), (6, .int (nI u)), (0, .ref qm), (1, .int be), (2, .int le), (4, .int (nI v))]) F dX8_tries_109 (by decide) rfl ?_
        refine vv_iinc (v := (nI (u + 1))) (lv' := [(6, .int (nI (u + 1))), (5, .int ((al (bj v u)) + 1)), (7, .int (f_X8_bringsBy (nI v) (nI u))), (3, .int 1), (0, .ref qm), (1, .int be), (2, .int le), (4, .int (nI v))]) 3 F dX8_tries_111 rfl (nI_1 u) (by decide) rfl ?_
        refine vv_goto (tgt := 47) F dX8_tries_114 (by decide) ?_
        refine vv_lv (lv' := [(6, .int (nI (u + 1))), (3, .int 1), (5, .int ((al (bj v u)) + 1)), (0, .ref qm), (1, .int be), (2, .int le), (4, .int (nI v))]) [0, 3, 1, 4, 5, 6, 7] rfl ?_
        refine vv_lvE (lv' := [(6, .int (nI (u + 1))), (3, .int (vv_b ((b || decide ((itr (st_X8_fits wf (nI u)) cC 0 true) = true)) = true))), (5, .int (if (itr (st_X8_fits wf (nI u)) cC 0 true) = true then (if ((al (bj v u)) + 1) ≤ k then k else ((al (bj v u)) + 1)) else k)), (0, .ref qm), (1, .int be), (2, .int le), (4, .int (nI v))]) (by first | (simp only [if_pos h_2, if_neg h_3]; done) | (simp [vv_b, h_2, h_3]; done)) ?_
        refine vv_ws (ws' := [(qm, .inr (7, [.ref qw, .ref qk, .ref qt, .int txd, .long abv, .long blw, .ref qs, .int atp, .int stp, .int nbr, .ref qi, .ref qp, .ref qh, .ref qb, .int bmy, .ref qa, .ref q6, .long hsh])), (qw, .inl ((vv_k x).2.1.1, 456, .inl wf)), (qa, .inl ((vv_k x).2.1.1, 62, .inl (if (itr (st_X8_fits wf (nI u)) cC 0 true) = true then (upd al (bj v u) ((al (bj v u)) + 1)) else al)))]) (by simp only [if_pos h_2, if_neg h_3, nI_1]) ?_
        exact ih (u + 1) (b || decide ((itr (st_X8_fits wf (nI u)) cC 0 true) = true)) (if (itr (st_X8_fits wf (nI u)) cC 0 true) = true then (if ((al (bj v u)) + 1) ≤ k then k else ((al (bj v u)) + 1)) else k) (if (itr (st_X8_fits wf (nI u)) cC 0 true) = true then (upd al (bj v u) ((al (bj v u)) + 1)) else al) (by omega) (by omega) (by rw [itr_s] at kx; exact kx)
noncomputable def st_X8_tries (wf : Nat → Int32) (cC : Nat) (u : Nat) (s : Int32 × Int32 × Bool × (Nat → Int32)) : Int32 × Int32 × Bool × (Nat → Int32) := ((if (itr (st_X8_tries_in wf u cC) 60 1 (s.2.2.1, 0, (itr st_X8_tries_z 62 0 s.2.2.2))).1 = true then (if s.2.1 ≤ (itr (st_X8_tries_in wf u cC) 60 1 (s.2.2.1, 0, (itr st_X8_tries_z 62 0 s.2.2.2))).2.1 then s.1 else (nI u)) else s.1), (if s.2.1 ≤ (itr (st_X8_tries_in wf u cC) 60 1 (s.2.2.1, 0, (itr st_X8_tries_z 62 0 s.2.2.2))).2.1 then s.2.1 else (itr (st_X8_tries_in wf u cC) 60 1 (s.2.2.1, 0, (itr st_X8_tries_z 62 0 s.2.2.2))).2.1), (itr (st_X8_tries_in wf u cC) 60 1 (s.2.2.1, 0, (itr st_X8_tries_z 62 0 s.2.2.2))).1, (itr (st_X8_tries_in wf u cC) 60 1 (s.2.2.1, 0, (itr st_X8_tries_z 62 0 s.2.2.2))).2.2)
theorem L_X8_tries {x : vv_X} (F : vv_F x cX8_tries 8 RX8 3) (qm qw qk qt : Nat) (txd : Int32) (abv blw : Int64) (qs : Nat) (atp stp nbr : Int32) (qi qp qh qb : Nat) (bmy : Int32) (qa q6 : Nat) (hsh : Int64) (wf al : Nat → Int32) (cC : Nat) (hcC : ((wf 18)).toInt = (cC : Int)) (hcC6 : cC ≤ 6) : ∀ (n : Nat) (u : Nat) (be : Int32) (le : Int32) (b : Bool) (al : Nat → Int32), u + n = 61 → vv_V x 8 153 [(4, .int (nI 61)), (1, .int ((itr (st_X8_tries wf cC) n u (be, le, b, al)).1)), (2, .int ((itr (st_X8_tries wf cC) n u (be, le, b, al)).2.1)), (3, .int (vv_b (((itr (st_X8_tries wf cC) n u (be, le, b, al)).2.2.1) = true))), (0, .ref qm)] [] [(qm, .inr (7, [.ref qw, .ref qk, .ref qt, .int txd, .long abv, .long blw, .ref qs, .int atp, .int stp, .int nbr, .ref qi, .ref qp, .ref qh, .ref qb, .int bmy, .ref qa, .ref q6, .long hsh])), (qw, .inl ((vv_k x).2.1.1, 456, .inl wf)), (qa, .inl ((vv_k x).2.1.1, 62, .inl ((itr (st_X8_tries wf cC) n u (be, le, b, al)).2.2.2)))] → vv_V x 8 10 [(4, .int (nI u)), (1, .int be), (2, .int le), (3, .int (vv_b (b = true))), (0, .ref qm)] [] [(qm, .inr (7, [.ref qw, .ref qk, .ref qt, .int txd, .long abv, .long blw, .ref qs, .int atp, .int stp, .int nbr, .ref qi, .ref qp, .ref qh, .ref qb, .int bmy, .ref qa, .ref q6, .long hsh])), (qw, .inl ((vv_k x).2.1.1, 456, .inl wf)), (qa, .inl ((vv_k x).2.1.1, 62, .inl al))] := by
  intro n
  induction n with
  | zero =>
    intro u be le b al hu  kx
    refine vv_iload F dX8_tries_10 rfl ?_
    refine vv_bipush (v := 60) F dX8_tries_12 (by decide) ?_
    refine vv_icmp_gt (tgt := 153) F dX8_tries_14 (by decide) (fun h_1 => ?_) (fun h_1 => absurd ((c_lt (by decide : (60 : Int32).toInt = ((60 : Nat) : Int)) (nI_toInt (n := u) (by omega))).mpr (by omega)) h_1)
    obtain rfl : u = 61 := by omega
    rw [itr_0] at kx
    exact vv_lv [0, 1, 2, 3, 4] rfl kx
  | succ n ih =>
    intro u be le b al hu  kx
    refine vv_iload F dX8_tries_10 rfl ?_
    refine vv_bipush (v := 60) F dX8_tries_12 (by decide) ?_
    refine vv_icmp_gt (tgt := 153) F dX8_tries_14 (by decide) (fun h_1 => absurd ((c_lt (by decide : (60 : Int32).toInt = ((60 : Nat) : Int)) (nI_toInt (n := u) (by omega))).mp h_1) (by omega)) (fun h_1 => ?_)
    refine vv_iconst (v := 0) F dX8_tries_17 (by decide) ?_
    refine vv_istore (lv' := [(5, .int 0), (4, .int (nI u)), (1, .int be), (2, .int le), (3, .int (vv_b (b = true))), (0, .ref qm)]) F dX8_tries_18 (by decide) rfl ?_
    refine vv_lv (lv' := [(5, .int 0), (0, .ref qm), (1, .int be), (2, .int le), (3, .int (vv_b (b = true))), (4, .int (nI u))]) [0, 5, 2, 3, 4, 1] rfl ?_
    refine L_X8_tries_z F qm qw qk qt txd abv blw qs atp stp nbr qi qp qh qb bmy qa q6 hsh wf al be le b u 62 0 al (by omega) ?_
    refine vv_iconst (v := 0) F dX8_tries_41 (by decide) ?_
    refine vv_istore (lv' := [(5, .int 0), (0, .ref qm), (1, .int be), (2, .int le), (3, .int (vv_b (b = true))), (4, .int (nI u))]) F dX8_tries_42 (by decide) rfl ?_
    refine vv_iconst (v := 1) F dX8_tries_44 (by decide) ?_
    refine vv_istore (lv' := [(6, .int 1), (5, .int 0), (0, .ref qm), (1, .int be), (2, .int le), (3, .int (vv_b (b = true))), (4, .int (nI u))]) F dX8_tries_45 (by decide) rfl ?_
    refine vv_lv (lv' := [(6, .int 1), (3, .int (vv_b (b = true))), (5, .int 0), (0, .ref qm), (1, .int be), (2, .int le), (4, .int (nI u))]) [0, 5, 1, 2, 3, 4, 6] rfl ?_
    refine L_X8_tries_in F qm qw qk qt txd abv blw qs atp stp nbr qi qp qh qb bmy qa q6 hsh wf al be le u cC hcC (by omega) (by omega) 60 1 b 0 (itr st_X8_tries_z 62 0 al) (by omega) (by omega) ?_
    refine vv_iload_n F dX8_tries_117 rfl rfl ?_
    refine vv_ifz_eq (tgt := 132) F dX8_tries_118 (by decide) (fun h_2 => ?_) (fun h_2 => ?_)
    · refine vv_iload_n F dX8_tries_132 rfl rfl ?_
      refine vv_istore_n (lv' := [(1, .int be), (6, .int (nI 61)), (3, .int (vv_b (((itr (st_X8_tries_in wf u cC) 60 1 (b, 0, (itr st_X8_tries_z 62 0 al))).1) = true))), (5, .int ((itr (st_X8_tries_in wf u cC) 60 1 (b, 0, (itr st_X8_tries_z 62 0 al))).2.1)), (0, .ref qm), (2, .int le), (4, .int (nI u))]) F dX8_tries_133 rfl (by decide) rfl ?_
      refine vv_iload F dX8_tries_134 rfl ?_
      refine vv_iload_n F dX8_tries_136 rfl rfl ?_
      refine vv_icmp_ge (tgt := 145) F dX8_tries_137 (by decide) (fun h_3 => ?_) (fun h_3 => ?_)
      · refine vv_iload_n F dX8_tries_145 rfl rfl ?_
        refine vv_istore_n (lv' := [(2, .int le), (1, .int be), (6, .int (nI 61)), (3, .int (vv_b (((itr (st_X8_tries_in wf u cC) 60 1 (b, 0, (itr st_X8_tries_z 62 0 al))).1) = true))), (5, .int ((itr (st_X8_tries_in wf u cC) 60 1 (b, 0, (itr st_X8_tries_z 62 0 al))).2.1)), (0, .ref qm), (4, .int (nI u))]) F dX8_tries_146 rfl (by decide) rfl ?_
        refine vv_iinc (v := (nI (u + 1))) (lv' := [(4, .int (nI (u + 1))), (2, .int le), (1, .int be), (6, .int (nI 61)), (3, .int (vv_b (((itr (st_X8_tries_in wf u cC) 60 1 (b, 0, (itr st_X8_tries_z 62 0 al))).1) = true))), (5, .int ((itr (st_X8_tries_in wf u cC) 60 1 (b, 0, (itr st_X8_tries_z 62 0 al))).2.1)), (0, .ref qm)]) 6 F dX8_tries_147 rfl (nI_1 u) (by decide) rfl ?_
        refine vv_goto (tgt := 10) F dX8_tries_150 (by decide) ?_
        refine vv_lv (lv' := [(4, .int (nI (u + 1))), (1, .int be), (2, .int le), (3, .int (vv_b (((itr (st_X8_tries_in wf u cC) 60 1 (b, 0, (itr st_X8_tries_z 62 0 al))).1) = true))), (0, .ref qm)]) [0, 2, 1, 4, 6] rfl ?_
        refine vv_lvE (lv' := [(4, .int (nI (u + 1))), (1, .int (if (itr (st_X8_tries_in wf u cC) 60 1 (b, 0, (itr st_X8_tries_z 62 0 al))).1 = true then (if le ≤ (itr (st_X8_tries_in wf u cC) 60 1 (b, 0, (itr st_X8_tries_z 62 0 al))).2.1 then be else (nI u)) else be)), (2, .int (if le ≤ (itr (st_X8_tries_in wf u cC) 60 1 (b, 0, (itr st_X8_tries_z 62 0 al))).2.1 then le else (itr (st_X8_tries_in wf u cC) 60 1 (b, 0, (itr st_X8_tries_z 62 0 al))).2.1)), (3, .int (vv_b (((itr (st_X8_tries_in wf u cC) 60 1 (b, 0, (itr st_X8_tries_z 62 0 al))).1) = true))), (0, .ref qm)]) (by first | (simp only [if_neg h_2, if_pos h_3]; done) | (simp [vv_b, h_2, h_3]; done)) ?_
        exact ih (u + 1) (if (itr (st_X8_tries_in wf u cC) 60 1 (b, 0, (itr st_X8_tries_z 62 0 al))).1 = true then (if le ≤ (itr (st_X8_tries_in wf u cC) 60 1 (b, 0, (itr st_X8_tries_z 62 0 al))).2.1 then be else (nI u)) else be) (if le ≤ (itr (st_X8_tries_in wf u cC) 60 1 (b, 0, (itr st_X8_tries_z 62 0 al))).2.1 then le else (itr (st_X8_tries_in wf u cC) 60 1 (b, 0, (itr st_X8_tries_z 62 0 al))).2.1) ((itr (st_X8_tries_in wf u cC) 60 1 (b, 0, (itr st_X8_tries_z 62 0 al))).1) ((itr (st_X8_tries_in wf u cC) 60 1 (b, 0, (itr st_X8_tries_z 62 0 al))).2.2) (by omega) (by rw [itr_s] at kx; exact kx)
      · refine vv_iload F dX8_tries_140 rfl ?_
        refine vv_goto (tgt := 146) F dX8_tries_142 (by decide) ?_
        refine vv_istore_n (lv' := [(2, .int ((itr (st_X8_tries_in wf u cC) 60 1 (b, 0, (itr st_X8_tries_z 62 0 al))).2.1)), (1, .int be), (6, .int (nI 61)), (3, .int (vv_b (((itr (st_X8_tries_in wf u cC) 60 1 (b, 0, (itr st_X8_tries_z 62 0 al))).1) = true))), (5, .int ((itr (st_X8_tries_in wf u cC) 60 1 (b, 0, (itr st_X8_tries_z 62 0 al))).2.1)), (0, .ref qm), (4, .int (nI u))]) F dX8_tries_146 rfl (by decide) rfl ?_
        refine vv_iinc (v := (nI (u + 1))) (lv' := [(4, .int (nI (u + 1))), (2, .int ((itr (st_X8_tries_in wf u cC) 60 1 (b, 0, (itr st_X8_tries_z 62 0 al))).2.1)), (1, .int be), (6, .int (nI 61)), (3, .int (vv_b (((itr (st_X8_tries_in wf u cC) 60 1 (b, 0, (itr st_X8_tries_z 62 0 al))).1) = true))), (5, .int ((itr (st_X8_tries_in wf u cC) 60 1 (b, 0, (itr st_X8_tries_z 62 0 al))).2.1)), (0, .ref qm)]) 6 F dX8_tries_147 rfl (nI_1 u) (by decide) rfl ?_
        refine vv_goto (tgt := 10) F dX8_tries_150 (by decide) ?_
        refine vv_lv (lv' := [(4, .int (nI (u + 1))), (1, .int be), (2, .int ((itr (st_X8_tries_in wf u cC) 60 1 (b, 0, (itr st_X8_tries_z 62 0 al))).2.1)), (3, .int (vv_b (((itr (st_X8_tries_in wf u cC) 60 1 (b, 0, (itr st_X8_tries_z 62 0 al))).1) = true))), (0, .ref qm)]) [0, 2, 1, 4, 6] rfl ?_
        refine vv_lvE (lv' := [(4, .int (nI (u + 1))), (1, .int (if (itr (st_X8_tries_in wf u cC) 60 1 (b, 0, (itr st_X8_tries_z 62 0 al))).1 = true then (if le ≤ (itr (st_X8_tries_in wf u cC) 60 1 (b, 0, (itr st_X8_tries_z 62 0 al))).2.1 then be else (nI u)) else be)), (2, .int (if le ≤ (itr (st_X8_tries_in wf u cC) 60 1 (b, 0, (itr st_X8_tries_z 62 0 al))).2.1 then le else (itr (st_X8_tries_in wf u cC) 60 1 (b, 0, (itr st_X8_tries_z 62 0 al))).2.1)), (3, .int (vv_b (((itr (st_X8_tries_in wf u cC) 60 1 (b, 0, (itr st_X8_tries_z 62 0 al))).1) = true))), (0, .ref qm)]) (by first | (simp only [if_neg h_2, if_neg h_3]; done) | (simp [vv_b, h_2, h_3]; done)) ?_
        exact ih (u + 1) (if (itr (st_X8_tries_in wf u cC) 60 1 (b, 0, (itr st_X8_tries_z 62 0 al))).1 = true then (if le ≤ (itr (st_X8_tries_in wf u cC) 60 1 (b, 0, (itr st_X8_tries_z 62 0 al))).2.1 then be else (nI u)) else be) (if le ≤ (itr (st_X8_tries_in wf u cC) 60 1 (b, 0, (itr st_X8_tries_z 62 0 al))).2.1 then le else (itr (st_X8_tries_in wf u cC) 60 1 (b, 0, (itr st_X8_tries_z 62 0 al))).2.1) ((itr (st_X8_tries_in wf u cC) 60 1 (b, 0, (itr st_X8_tries_z 62 0 al))).1) ((itr (st_X8_tries_in wf u cC) 60 1 (b, 0, (itr st_X8_tries_z 62 0 al))).2.2) (by omega) (by rw [itr_s] at kx; exact kx)
    · refine vv_iload F dX8_tries_121 rfl ?_
      refine vv_iload_n F dX8_tries_123 rfl rfl ?_
      refine vv_icmp_ge (tgt := 132) F dX8_tries_124 (by decide) (fun h_4 => ?_) (fun h_4 => ?_)
      · refine vv_iload_n F dX8_tries_132 rfl rfl ?_
        refine vv_istore_n (lv' := [(1, .int be), (6, .int (nI 61)), (3, .int (vv_b (((itr (st_X8_tries_in wf u cC) 60 1 (b, 0, (itr st_X8_tries_z 62 0 al))).1) = true))), (5, .int ((itr (st_X8_tries_in wf u cC) 60 1 (b, 0, (itr st_X8_tries_z 62 0 al))).2.1)), (0, .ref qm), (2, .int le), (4, .int (nI u))]) F dX8_tries_133 rfl (by decide) rfl ?_
        refine vv_iload F dX8_tries_134 rfl ?_
        refine vv_iload_n F dX8_tries_136 rfl rfl ?_
        refine vv_icmp_ge (tgt := 145) F dX8_tries_137 (by decide) (fun h_5 => ?_) (fun h_5 => ?_)
        · refine vv_iload_n F dX8_tries_145 rfl rfl ?_
          refine vv_istore_n (lv' := [(2, .int le), (1, .int be), (6, .int (nI 61)), (3, .int (vv_b (((itr (st_X8_tries_in wf u cC) 60 1 (b, 0, (itr st_X8_tries_z 62 0 al))).1) = true))), (5, .int ((itr (st_X8_tries_in wf u cC) 60 1 (b, 0, (itr st_X8_tries_z 62 0 al))).2.1)), (0, .ref qm), (4, .int (nI u))]) F dX8_tries_146 rfl (by decide) rfl ?_
          refine vv_iinc (v := (nI (u + 1))) (lv' := [(4, .int (nI (u + 1))), (2, .int le), (1, .int be), (6, .int (nI 61)), (3, .int (vv_b (((itr (st_X8_tries_in wf u cC) 60 1 (b, 0, (itr st_X8_tries_z 62 0 al))).1) = true))), (5, .int ((itr (st_X8_tries_in wf u cC) 60 1 (b, 0, (itr st_X8_tries_z 62 0 al))).2.1)), (0, .ref qm)]) 6 F dX8_tries_147 rfl (nI_1 u) (by decide) rfl ?_
          refine vv_goto (tgt := 10) F dX8_tries_150 (by decide) ?_
          refine vv_lv (lv' := [(4, .int (nI (u + 1))), (1, .int be), (2, .int le), (3, .int (vv_b (((itr (st_X8_tries_in wf u cC) 60 1 (b, 0, (itr st_X8_tries_z 62 0 al))).1) = true))), (0, .ref qm)]) [0, 2, 1, 4, 6] rfl ?_
          refine vv_lvE (lv' := [(4, .int (nI (u + 1))), (1, .int (if (itr (st_X8_tries_in wf u cC) 60 1 (b, 0, (itr st_X8_tries_z 62 0 al))).1 = true then (if le ≤ (itr (st_X8_tries_in wf u cC) 60 1 (b, 0, (itr st_X8_tries_z 62 0 al))).2.1 then be else (nI u)) else be)), (2, .int (if le ≤ (itr (st_X8_tries_in wf u cC) 60 1 (b, 0, (itr st_X8_tries_z 62 0 al))).2.1 then le else (itr (st_X8_tries_in wf u cC) 60 1 (b, 0, (itr st_X8_tries_z 62 0 al))).2.1)), (3, .int (vv_b (((itr (st_X8_tries_in wf u cC) 60 1 (b, 0, (itr st_X8_tries_z 62 0 al))).1) = true))), (0, .ref qm)]) (by first | (simp only [if_pos h_2, if_pos h_4]; done) | (simp [vv_b, h_2, h_4]; done)) ?_
          exact ih (u + 1) (if (itr (st_X8_tries_in wf u cC) 60 1 (b, 0, (itr st_X8_tries_z 62 0 al))).1 = true then (if le ≤ (itr (st_X8_tries_in wf u cC) 60 1 (b, 0, (itr st_X8_tries_z 62 0 al))).2.1 then be else (nI u)) else be) (if le ≤ (itr (st_X8_tries_in wf u cC) 60 1 (b, 0, (itr st_X8_tries_z 62 0 al))).2.1 then le else (itr (st_X8_tries_in wf u cC) 60 1 (b, 0, (itr st_X8_tries_z 62 0 al))).2.1) ((itr (st_X8_tries_in wf u cC) 60 1 (b, 0, (itr st_X8_tries_z 62 0 al))).1) ((itr (st_X8_tries_in wf u cC) 60 1 (b, 0, (itr st_X8_tries_z 62 0 al))).2.2) (by omega) (by rw [itr_s] at kx; exact kx)
        · exact absurd h_4 h_5
      · refine vv_iload F dX8_tries_127 rfl ?_
        refine vv_goto (tgt := 133) F dX8_tries_129 (by decide) ?_
        refine vv_istore_n (lv' := [(1, .int (nI u)), (6, .int (nI 61)), (3, .int (vv_b (((itr (st_X8_tries_in wf u cC) 60 1 (b, 0, (itr st_X8_tries_z 62 0 al))).1) = true))), (5, .int ((itr (st_X8_tries_in wf u cC) 60 1 (b, 0, (itr st_X8_tries_z 62 0 al))).2.1)), (0, .ref qm), (2, .int le), (4, .int (nI u))]) F dX8_tries_133 rfl (by decide) rfl ?_
        refine vv_iload F dX8_tries_134 rfl ?_
        refine vv_iload_n F dX8_tries_136 rfl rfl ?_
        refine vv_icmp_ge (tgt := 145) F dX8_tries_137 (by decide) (fun h_6 => ?_) (fun h_6 => ?_)
        · exact absurd h_6 h_4
        · refine vv_iload F dX8_tries_140 rfl ?_
          refine vv_goto (tgt := 146) F dX8_tries_142 (by decide) ?_
          refine vv_istore_n (lv' := [(2, .int ((itr (st_X8_tries_in wf u cC) 60 1 (b, 0, (itr st_X8_tries_z 62 0 al))).2.1)), (1, .int (nI u)), (6, .int (nI 61)), (3, .int (vv_b (((itr (st_X8_tries_in wf u cC) 60 1 (b, 0, (itr st_X8_tries_z 62 0 al))).1) = true))), (5, .int ((itr (st_X8_tries_in wf u cC) 60 1 (b, 0, (itr st_X8_tries_z 62 0 al))).2.1)), (0, .ref qm), (4, .int (nI u))]) F dX8_tries_146 rfl (by decide) rfl ?_
          refine vv_iinc (v := (nI (u + 1))) (lv' := [(4, .int (nI (u + 1))), (2, .int ((itr (st_X8_tries_in wf u cC) 60 1 (b, 0, (itr st_X8_tries_z 62 0 al))).2.1)), (1, .int (nI u)), (6, .int (nI 61)), (3, .int (vv_b (((itr (st_X8_tries_in wf u cC) 60 1 (b, 0, (itr st_X8_tries_z 62 0 al))).1) = true))), (5, .int ((itr (st_X8_tries_in wf u cC) 60 1 (b, 0, (itr st_X8_tries_z 62 0 al))).2.1)), (0, .ref qm)]) 6 F dX8_tries_147 rfl (nI_1 u) (by decide) rfl ?_
          refine vv_goto (tgt := 10) F dX8_tries_150 (by decide) ?_
          refine vv_lv (lv' := [(4, .int (nI (u + 1))), (1, .int (nI u)), (2, .int ((itr (st_X8_tries_in wf u cC) 60 1 (b, 0, (itr st_X8_tries_z 62 0 al))).2.1)), (3, .int (vv_b (((itr (st_X8_tries_in wf u cC) 60 1 (b, 0, (itr st_X8_tries_z 62 0 al))).1) = true))), (0, .ref qm)]) [0, 2, 1, 4, 6] rfl ?_
          refine vv_lvE (lv' := [(4, .int (nI (u + 1))), (1, .int (if (itr (st_X8_tries_in wf u cC) 60 1 (b, 0, (itr st_X8_tries_z 62 0 al))).1 = true then (if le ≤ (itr (st_X8_tries_in wf u cC) 60 1 (b, 0, (itr st_X8_tries_z 62 0 al))).2.1 then be else (nI u)) else be)), (2, .int (if le ≤ (itr (st_X8_tries_in wf u cC) 60 1 (b, 0, (itr st_X8_tries_z 62 0 al))).2.1 then le else (itr (st_X8_tries_in wf u cC) 60 1 (b, 0, (itr st_X8_tries_z 62 0 al))).2.1)), (3, .int (vv_b (((itr (st_X8_tries_in wf u cC) 60 1 (b, 0, (itr st_X8_tries_z 62 0 al))).1) = true))), (0, .ref qm)]) (by first | (simp only [if_pos h_2, if_neg h_4]; done) | (simp [vv_b, h_2, h_4]; done)) ?_
          exact ih (u + 1) (if (itr (st_X8_tries_in wf u cC) 60 1 (b, 0, (itr st_X8_tries_z 62 0 al))).1 = true then (if le ≤ (itr (st_X8_tries_in wf u cC) 60 1 (b, 0, (itr st_X8_tries_z 62 0 al))).2.1 then be else (nI u)) else be) (if le ≤ (itr (st_X8_tries_in wf u cC) 60 1 (b, 0, (itr st_X8_tries_z 62 0 al))).2.1 then le else (itr (st_X8_tries_in wf u cC) 60 1 (b, 0, (itr st_X8_tries_z 62 0 al))).2.1) ((itr (st_X8_tries_in wf u cC) 60 1 (b, 0, (itr st_X8_tries_z 62 0 al))).1) ((itr (st_X8_tries_in wf u cC) 60 1 (b, 0, (itr st_X8_tries_z 62 0 al))).2.2) (by omega) (by rw [itr_s] at kx; exact kx)
noncomputable def f_X8_tries (wf al : Nat → Int32) (cC : Nat) : Int32 := (itr (st_X8_tries wf cC) 60 1 ((-1), 1000000, false, al)).1
theorem c_X8_tries (l : Launch) (K : vv_K) (qm qw qk qt : Nat) (txd : Int32) (abv blw : Int64) (qs : Nat) (atp stp nbr : Int32) (qi qp qh qb : Nat) (bmy : Int32) (qa q6 : Nat) (hsh : Int64) (wf al : Nat → Int32) (cC : Nat) (hcC : ((wf 18)).toInt = (cC : Int)) (hcC6 : cC ≤ 6)  : vv_C l K 3 yX8_tries cX8_tries 8 (some .int) [.ref qm] [(qm, .inr (7, [.ref qw, .ref qk, .ref qt, .int txd, .long abv, .long blw, .ref qs, .int atp, .int stp, .int nbr, .ref qi, .ref qp, .ref qh, .ref qb, .int bmy, .ref qa, .ref q6, .long hsh])), (qw, .inl (K.2.1.1, 456, .inl wf)), (qa, .inl (K.2.1.1, 62, .inl al))] (some (.int (f_X8_tries wf al cC))) [(qm, .inr (7, [.ref qw, .ref qk, .ref qt, .int txd, .long abv, .long blw, .ref qs, .int atp, .int stp, .int nbr, .ref qi, .ref qp, .ref qh, .ref qb, .int bmy, .ref qa, .ref q6, .long hsh])), (qw, .inl (K.2.1.1, 456, .inl wf)), (qa, .inl (K.2.1.1, 62, .inl ((itr (st_X8_tries wf cC) 60 1 ((-1), 1000000, false, al)).2.2.2)))] := by
  refine vv_C.of (lv := [(0, .ref qm)]) (by decide +kernel) (Nat.le_of_ble_eq_true rfl) rfl ?_
  intro x hl hK F hR; subst hl; obtain rfl := hK
  refine vv_iconst (v := (-1)) F dX8_tries_0 (by decide) ?_
  refine vv_istore_n (lv' := [(1, .int (-1)), (0, .ref qm)]) F dX8_tries_1 rfl (by decide) rfl ?_
  refine vv_ldc F cw_X8_212 dX8_tries_2 ?_
  refine vv_istore_n (lv' := [(2, .int 1000000), (1, .int (-1)), (0, .ref qm)]) F dX8_tries_4 rfl (by decide) rfl ?_
  refine vv_iconst (v := 0) F dX8_tries_5 (by decide) ?_
  refine vv_istore_n (lv' := [(3, .int 0), (2, .int 1000000), (1, .int (-1)), (0, .ref qm)]) F dX8_tries_6 rfl (by decide) rfl ?_
  refine vv_iconst (v := 1) F dX8_tries_7 (by decide) ?_
  refine vv_istore (lv' := [(4, .int 1), (3, .int 0), (2, .int 1000000), (1, .int (-1)), (0, .ref qm)]) F dX8_tries_8 (by decide) rfl ?_
  refine vv_lv (lv' := [(4, .int 1), (1, .int (-1)), (2, .int 1000000), (3, .int (vv_b (false = true))), (0, .ref qm)]) [0, 3, 2, 1, 4] rfl ?_
  refine L_X8_tries F qm qw qk qt txd abv blw qs atp stp nbr qi qp qh qb bmy qa q6 hsh wf al cC hcC (by omega) 60 1 (-1) 1000000 false al (by omega) ?_
  refine vv_iload_n F dX8_tries_153 rfl rfl ?_
  exact vv_iret F hR dX8_tries_154 rfl rfl
-- ends
theorem L_X8_ends_in {x : vv_X} (F : vv_F x cX8_ends 5 RX8 6) (qm qw qk qt : Nat) (txd : Int32) (abv blw : Int64) (qs : Nat) (atp stp nbr : Int32) (qi qp qh qb : Nat) (bmy : Int32) (qa q6 : Nat) (hsh : Int64) (wf ss : Nat → Int32) (k : Int32) (v : Nat) (ct : Int32 → Int32) (cN : Nat) (hcN : ((wf 0)).toInt = (cN : Int)) (hcN5 : cN ≤ 5) (hv6 : v < 6) {r : Option Value} {wc' : va_W} (hR : vv_R x (some .int) r wc') : ∀ (n : Nat) (u : Nat) (c : Int32), u + n = 6 → wc' = [(qm, .inr (7, [.ref qw, .ref qk, .ref qt, .int txd, .long abv, .long blw, .ref qs, .int atp, .int stp, .int nbr, .ref qi, .ref qp, .ref qh, .ref qb, .int bmy, .ref qa, .ref q6, .long hsh])), (qw, .inl ((vv_k x).2.1.1, 456, .inl wf)), (qs, .inl ((vv_k x).2.1.1, 3, .inl ss))] → r = some (.int (l_ends_in (fun u => (itr (st_X8_rests wf (nI v) (nI u) cN) 6 0 true) = true) k v ct n u c)) → (∀ c' : Int32, r = some (.int (ct c')) → vv_V x 5 64 [(4, .int (nI 6)), (2, .int c'), (0, .ref qm), (1, .int k), (3, .int (nI v))] [] [(qm, .inr (7, [.ref qw, .ref qk, .ref qt, .int txd, .long abv, .long blw, .ref qs, .int atp, .int stp, .int nbr, .ref qi, .ref qp, .ref qh, .ref qb, .int bmy, .ref qa, .ref q6, .long hsh])), (qw, .inl ((vv_k x).2.1.1, 456, .inl wf)), (qs, .inl ((vv_k x).2.1.1, 3, .inl ss))]) → vv_V x 5 25 [(4, .int (nI u)), (2, .int c), (0, .ref qm), (1, .int k), (3, .int (nI v))] [] [(qm, .inr (7, [.ref qw, .ref qk, .ref qt, .int txd, .long abv, .long blw, .ref qs, .int atp, .int stp, .int nbr, .ref qi, .ref qp, .ref qh, .ref qb, .int bmy, .ref qa, .ref q6, .long hsh])), (qw, .inl ((vv_k x).2.1.1, 456, .inl wf)), (qs, .inl ((vv_k x).2.1.1, 3, .inl ss))] := by
  intro n
  induction n with
  | zero =>
    intro u c hu hw hr kx
    refine vv_iload F dX8_ends_25 rfl ?_
    refine vv_bipush (v := 6) F dX8_ends_27 (by decide) ?_
    refine vv_icmp_ge (tgt := 64) F dX8_ends_29 (by decide) (fun h_1 => ?_) (fun h_1 => absurd ((c_le (by decide : (6 : Int32).toInt = ((6 : Nat) : Int)) (nI_toInt (n := u) (by omega))).mpr (by omega)) h_1)
    obtain rfl : u = 6 := by omega
    exact vv_lv [0, 1, 2, 3, 4] rfl (kx c hr)
  | succ n ih =>
    intro u c hu hw hr kx
    refine vv_iload F dX8_ends_25 rfl ?_
    refine vv_bipush (v := 6) F dX8_ends_27 (by decide) ?_
    refine vv_icmp_ge (tgt := 64) F dX8_ends_29 (by decide) (fun h_1 => absurd ((c_le (by decide : (6 : Int32).toInt = ((6 : Nat) : Int)) (nI_toInt (n := u) (by omega))).mp h_1) (by omega)) (fun h_1 => ?_)
    refine vv_aload_n F dX8_ends_32 rfl rfl ?_
    refine vv_iload_n F dX8_ends_33 rfl rfl ?_
    refine vv_iload F dX8_ends_34 rfl ?_
    refine vv_callVp (As := [.int (nI v), .int (nI u)]) (rest := []) [0, 1] 0 F (c_X8_rests (vv_l x) (vv_k x) qm qw qk qt txd abv blw qs atp stp nbr qi qp qh qb bmy qa q6 hsh wf (nI v) (nI u) cN hcN (by omega)) mv_X8_244 dX8_ends_36 (by decide) rfl rfl (Nat.le_of_ble_eq_true rfl) rfl (by decide) rfl ?_
    refine vv_ifz_eq (tgt := 58) F dX8_ends_39 (by decide) (fun h_2 => ?_) (fun h_2 => ?_)
    · refine vv_iinc (v := (nI (u + 1))) (lv' := [(4, .int (nI (u + 1))), (2, .int c), (0, .ref qm), (1, .int k), (3, .int (nI v))]) 0 F dX8_ends_58 rfl (nI_1 u) (by decide) rfl ?_
      refine vv_goto (tgt := 25) F dX8_ends_61 (by decide) ?_
      refine vv_lv [0, 1, 2, 3, 4] rfl ?_
      exact ih (u + 1) _ (by omega) hw (by rw [hr, l_ends_in, if_neg h_2]) kx
    · refine vv_iload_n F dX8_ends_42 rfl rfl ?_
      refine vv_iload_n F dX8_ends_43 rfl rfl ?_
      refine vv_icmp_ne (tgt := 55) F dX8_ends_44 (by decide) (fun h_3 => ?_) (fun h_3 => ?_)
      · refine vv_iinc (v := (c + 1)) (lv' := [(2, .int (c + 1)), (4, .int (nI u)), (0, .ref qm), (1, .int k), (3, .int (nI v))]) 1 F dX8_ends_55 rfl rfl (by decide) rfl ?_
        refine vv_iinc (v := (nI (u + 1))) (lv' := [(4, .int (nI (u + 1))), (2, .int (c + 1)), (0, .ref qm), (1, .int k), (3, .int (nI v))]) 1 F dX8_ends_58 rfl (nI_1 u) (by decide) rfl ?_
        refine vv_goto (tgt := 25) F dX8_ends_61 (by decide) ?_
        refine vv_lv [0, 1, 2, 3, 4] rfl ?_
        exact ih (u + 1) _ (by omega) hw (by rw [hr, l_ends_in, if_pos h_2, if_neg h_3]) kx
      · refine vv_bipush (v := 10) F dX8_ends_47 (by decide) ?_
        refine vv_iload_n F dX8_ends_49 rfl rfl ?_
        refine vv_imul F dX8_ends_50 ?_
        refine vv_iload F dX8_ends_51 rfl ?_
        refine vv_iadd F dX8_ends_53 ?_
        exact vv_iret F hR dX8_ends_54 (by rw [hr, l_ends_in, if_pos h_2, if_pos h_3]) hw
theorem L_X8_ends {x : vv_X} (F : vv_F x cX8_ends 5 RX8 6) (qm qw qk qt : Nat) (txd : Int32) (abv blw : Int64) (qs : Nat) (atp stp nbr : Int32) (qi qp qh qb : Nat) (bmy : Int32) (qa q6 : Nat) (hsh : Int64) (wf ss : Nat → Int32) (k : Int32) (cN : Nat) (hcN : ((wf 0)).toInt = (cN : Int)) (hcN5 : cN ≤ 5) {r : Option Value} {wc' : va_W} (hR : vv_R x (some .int) r wc') : ∀ (n : Nat) (v : Nat) (c : Int32), v + n = 6 → wc' = [(qm, .inr (7, [.ref qw, .ref qk, .ref qt, .int txd, .long abv, .long blw, .ref qs, .int atp, .int stp, .int nbr, .ref qi, .ref qp, .ref qh, .ref qb, .int bmy, .ref qa, .ref q6, .long hsh])), (qw, .inl ((vv_k x).2.1.1, 456, .inl wf)), (qs, .inl ((vv_k x).2.1.1, 3, .inl ss))] → r = some (.int (l_ends (fun v u => (itr (st_X8_rests wf (nI v) (nI u) cN) 6 0 true) = true) k (fun c => if k = -1 then c else -5) n v c)) → vv_V x 5 16 [(3, .int (nI v)), (2, .int c), (0, .ref qm), (1, .int k)] [] [(qm, .inr (7, [.ref qw, .ref qk, .ref qt, .int txd, .long abv, .long blw, .ref qs, .int atp, .int stp, .int nbr, .ref qi, .ref qp, .ref qh, .ref qb, .int bmy, .ref qa, .ref q6, .long hsh])), (qw, .inl ((vv_k x).2.1.1, 456, .inl wf)), (qs, .inl ((vv_k x).2.1.1, 3, .inl ss))] := by
  intro n
  induction n with
  | zero =>
    intro v c hv hw hr
    refine vv_iload_n F dX8_ends_16 rfl rfl ?_
    refine vv_bipush (v := 6) F dX8_ends_17 (by decide) ?_
    refine vv_icmp_ge (tgt := 70) F dX8_ends_19 (by decide) (fun h_1 => ?_) (fun h_1 => absurd ((c_le (by decide : (6 : Int32).toInt = ((6 : Nat) : Int)) (nI_toInt (n := v) (by omega))).mpr (by omega)) h_1)
    refine vv_iload_n F dX8_ends_70 rfl rfl ?_
    refine vv_iconst (v := (-1)) F dX8_ends_71 (by decide) ?_
    refine vv_icmp_ne (tgt := 79) F dX8_ends_72 (by decide) (fun h_2 => ?_) (fun h_2 => ?_)
    · refine vv_bipush (v := (-5)) F dX8_ends_79 (by decide) ?_
      exact vv_iret F hR dX8_ends_81 (by rw [hr, l_ends]; show some (Value.int (if k = -1 then c else -5)) = _; rw [if_neg h_2]) hw
    · refine vv_iload_n F dX8_ends_75 rfl rfl ?_
      refine vv_goto (tgt := 81) F dX8_ends_76 (by decide) ?_
      exact vv_iret F hR dX8_ends_81 (by rw [hr, l_ends]; show some (Value.int (if k = -1 then c else -5)) = _; rw [if_pos h_2]) hw
  | succ n ih =>
    intro v c hv hw hr
    refine vv_iload_n F dX8_ends_16 rfl rfl ?_
    refine vv_bipush (v := 6) F dX8_ends_17 (by decide) ?_
    refine vv_icmp_ge (tgt := 70) F dX8_ends_19 (by decide) (fun h_1 => absurd ((c_le (by decide : (6 : Int32).toInt = ((6 : Nat) : Int)) (nI_toInt (n := v) (by omega))).mp h_1) (by omega)) (fun h_1 => ?_)
    refine vv_iconst (v := 0) F dX8_ends_22 (by decide) ?_
    refine vv_istore (lv' := [(4, .int 0), (3, .int (nI v)), (2, .int c), (0, .ref qm), (1, .int k)]) F dX8_ends_23 (by decide) rfl ?_
    refine vv_lv (lv' := [(4, .int 0), (2, .int c), (0, .ref qm), (1, .int k), (3, .int (nI v))]) [0, 2, 3, 4, 1] rfl ?_
    refine L_X8_ends_in F qm qw qk qt txd abv blw qs atp stp nbr qi qp qh qb bmy qa q6 hsh wf ss k v (l_ends (fun v u => (itr (st_X8_rests wf (nI v) (nI u) cN) 6 0 true) = true) k (fun c => if k = -1 then c else -5) n (v + 1)) cN hcN hcN5 (by omega) hR 6 0 c (by omega) hw hr (fun c' hr => ?_)
    refine vv_iinc (v := (nI (v + 1))) (lv' := [(3, .int (nI (v + 1))), (4, .int (nI 6)), (2, .int c'), (0, .ref qm), (1, .int k)]) 4 F dX8_ends_64 rfl (nI_1 v) (by decide) rfl ?_
    refine vv_goto (tgt := 16) F dX8_ends_67 (by decide) ?_
    refine vv_lv [0, 2, 3, 4] rfl ?_
    exact ih (v + 1) _ (by omega) hw hr
noncomputable def f_X8_ends (wf : Nat → Int32) (k : Int32) (cN : Nat) : Int32 := (if (-1) ≤ k then (l_ends (fun v u => (itr (st_X8_rests wf (nI v) (nI u) cN) 6 0 true) = true) k (fun c => if k = -1 then c else -5) 6 0 0) else (-10))
noncomputable def g_X8_ends_2 (ss : Nat → Int32) (k : Int32) : Nat → Int32 := (if (-1) ≤ k then ss else (upd ss 0 ((ss 0) + 1)))
theorem c_X8_ends (l : Launch) (K : vv_K) (qm qw qk qt : Nat) (txd : Int32) (abv blw : Int64) (qs : Nat) (atp stp nbr : Int32) (qi qp qh qb : Nat) (bmy : Int32) (qa q6 : Nat) (hsh : Int64) (wf ss : Nat → Int32) (k : Int32) (cN : Nat) (hcN : ((wf 0)).toInt = (cN : Int)) (hcN5 : cN ≤ 5)  : vv_C l K 6 yX8_ends cX8_ends 5 (some .int) [.ref qm, .int k] [(qm, .inr (7, [.ref qw, .ref qk, .ref qt, .int txd, .long abv, .long blw, .ref qs, .int atp, .int stp, .int nbr, .ref qi, .ref qp, .ref qh, .ref qb, .int bmy, .ref qa, .ref q6, .long hsh])), (qw, .inl (K.2.1.1, 456, .inl wf)), (qs, .inl (K.2.1.1, 3, .inl ss))] (some (.int (f_X8_ends wf k cN))) [(qm, .inr (7, [.ref qw, .ref qk, .ref qt, .int txd, .long abv, .long blw, .ref qs, .int atp, .int stp, .int nbr, .ref qi, .ref qp, .ref qh, .ref qb, .int bmy, .ref qa, .ref q6, .long hsh])), (qw, .inl (K.2.1.1, 456, .inl wf)), (qs, .inl (K.2.1.1, 3, .inl (g_X8_ends_2 ss k)))] := by
  refine vv_C.of (lv := [(0, .ref qm), (1, .int k)]) (by decide +kernel) (Nat.le_of_ble_eq_true rfl) rfl ?_
  intro x hl hK F hR; subst hl; obtain rfl := hK
  refine vv_iload_n F dX8_ends_0 rfl rfl ?_
  refine vv_iconst (v := (-1)) F dX8_ends_1 (by decide) ?_
  refine vv_icmp_ge (tgt := 12) F dX8_ends_2 (by decide) (fun h_1 => ?_) (fun h_1 => ?_)
  · refine vv_iconst (v := 0) F dX8_ends_12 (by decide) ?_
    refine vv_istore_n (lv' := [(2, .int 0), (0, .ref qm), (1, .int k)]) F dX8_ends_13 rfl (by decide) rfl ?_
    refine vv_iconst (v := 0) F dX8_ends_14 (by decide) ?_
    refine vv_istore_n (lv' := [(3, .int 0), (2, .int 0), (0, .ref qm), (1, .int k)]) F dX8_ends_15 rfl (by decide) rfl ?_
    refine vv_lv (lv' := [(3, .int 0), (2, .int 0), (0, .ref qm), (1, .int k)]) [0, 1, 2, 3] rfl ?_
    exact L_X8_ends F qm qw qk qt txd abv blw qs atp stp nbr qi qp qh qb bmy qa q6 hsh wf ss k cN hcN hcN5 hR 6 0 0 (by omega) (by simp only [g_X8_ends_2, if_pos h_1]) (by simp only [f_X8_ends, if_pos h_1])
  · refine vv_aload_n F dX8_ends_5 rfl rfl ?_
    refine vv_bipush (v := (-10)) F dX8_ends_6 (by decide) ?_
    refine vv_callV (As := [.int (-10)]) (rest := []) [0, 2] 0 (ws' := [(qm, .inr (7, [.ref qw, .ref qk, .ref qt, .int txd, .long abv, .long blw, .ref qs, .int atp, .int stp, .int nbr, .ref qi, .ref qp, .ref qh, .ref qb, .int bmy, .ref qa, .ref q6, .long hsh])), (qw, .inl ((vv_k x).2.1.1, 456, .inl wf)), (qs, .inl ((vv_k x).2.1.1, 3, .inl (upd ss 0 ((ss 0) + 1))))]) F (c_X8_bad (vv_l x) (vv_k x) qm qw qk qt txd abv blw qs atp stp nbr qi qp qh qb bmy qa q6 hsh ss (-10)) mv_X8_78 dX8_ends_8 (by decide) rfl rfl (Nat.le_of_ble_eq_true rfl) rfl (by decide) (Eq.trans (b := [qm, qs]) rfl rfl) rfl rfl ?_
    exact vv_iret F hR dX8_ends_11 (congrArg (fun z => some (Value.int z)) ((if_neg h_1).trans rfl)) (by simp only [g_X8_ends_2, if_neg h_1])
noncomputable def st_X8_nights (wf : Nat → Int32) (u : Nat) (s : Nat × Int32 × Int32) : Nat × Int32 × Int32 := ((ng s.1), (if (wf 0) ≤ (nI ((ng s.1) / 65536 % 6)) then s.2.1 else (if s.2.1 < (f_X8_costIn wf ((wf 17) + (nI u)) 0 ((ng s.1) / 65536 % 6)) then (s.2.1 - 0) else (s.2.1 - (f_X8_costIn wf ((wf 17) + (nI u)) 0 ((ng s.1) / 65536 % 6))))), (if (wf 0) ≤ (nI ((ng s.1) / 65536 % 6)) then s.2.2 else (if s.2.1 < (f_X8_costIn wf ((wf 17) + (nI u)) 0 ((ng s.1) / 65536 % 6)) then (s.2.2 + 0) else (s.2.2 + (f_X8_bringsIn wf 0 ((ng s.1) / 65536 % 6))))))
theorem L_X8_nights {x : vv_X} (F : vv_F x cX8_nights 11 RX8 5) (qm qw qk qt : Nat) (txd : Int32) (abv blw : Int64) (qs : Nat) (atp stp nbr : Int32) (qi qp qh qb : Nat) (bmy : Int32) (qa q6 : Nat) (hsh : Int64) (wf ss : Nat → Int32) (se ni : Int32) (cN gg : Nat) (hcN : ((wf 0)).toInt = (cN : Int)) (hgg : (ni).toInt = (gg : Int)) (hcN5 : cN ≤ 5) (hg : gg ≤ 60) : ∀ (n : Nat) (u : Nat) (p : Nat) (pu : Int32) (ha : Int32), u + n = gg → p < 2147483648 → vv_V x 11 168 [(7, .int (nI gg)), (3, .long (lN ((itr (st_X8_nights wf) n u (p, pu, ha)).1))), (5, .int ((itr (st_X8_nights wf) n u (p, pu, ha)).2.1)), (6, .int ((itr (st_X8_nights wf) n u (p, pu, ha)).2.2)), (0, .ref qm), (1, .int se), (2, .int ni)] [] [(qm, .inr (7, [.ref qw, .ref qk, .ref qt, .int txd, .long abv, .long blw, .ref qs, .int atp, .int stp, .int nbr, .ref qi, .ref qp, .ref qh, .ref qb, .int bmy, .ref qa, .ref q6, .long hsh])), (qw, .inl ((vv_k x).2.1.1, 456, .inl wf)), (qs, .inl ((vv_k x).2.1.1, 3, .inl ss))] → vv_V x 11 49 [(7, .int (nI u)), (3, .long (lN p)), (5, .int pu), (6, .int ha), (0, .ref qm), (1, .int se), (2, .int ni)] [] [(qm, .inr (7, [.ref qw, .ref qk, .ref qt, .int txd, .long abv, .long blw, .ref qs, .int atp, .int stp, .int nbr, .ref qi, .ref qp, .ref qh, .ref qb, .int bmy, .ref qa, .ref q6, .long hsh])), (qw, .inl ((vv_k x).2.1.1, 456, .inl wf)), (qs, .inl ((vv_k x).2.1.1, 3, .inl ss))] := by
  intro n
  induction n with
  | zero =>
    intro u p pu ha hu hp  kx
    refine vv_iload F dX8_nights_49 rfl ?_
    refine vv_iload_n F dX8_nights_51 rfl rfl ?_
    refine vv_icmp_ge (tgt := 168) F dX8_nights_52 (by decide) (fun h_1 => ?_) (fun h_1 => absurd ((c_le hgg (nI_toInt (n := u) (by omega))).mpr (by omega)) h_1)
    obtain rfl : u = gg := by omega
    rw [itr_0] at kx
    exact vv_lv [0, 1, 2, 3, 4, 5, 6] rfl kx
  | succ n ih =>
    intro u p pu ha hu hp  kx
    refine vv_iload F dX8_nights_49 rfl ?_
    refine vv_iload_n F dX8_nights_51 rfl rfl ?_
    refine vv_icmp_ge (tgt := 168) F dX8_nights_52 (by decide) (fun h_1 => absurd ((c_le hgg (nI_toInt (n := u) (by omega))).mp h_1) (by omega)) (fun h_1 => ?_)
    refine vv_lload_n F dX8_nights_55 rfl rfl ?_
    refine vv_ldc2 F cl_X8_251 dX8_nights_56 ?_
    refine vv_lmul F dX8_nights_59 ?_
    refine vv_ldc2 F cl_X8_253 dX8_nights_60 ?_
    refine vv_ladd F dX8_nights_63 ?_
    refine vv_ldc2 F cl_X8_255 dX8_nights_64 ?_
    refine vv_lremR F dX8_nights_67 (by decide) ?_
    refine vv_topl (lN (ng p)) (ng_next hp) ?_
    refine vv_lstore_n (lv' := [(3, .long (lN (ng p))), (7, .int (nI u)), (5, .int pu), (6, .int ha), (0, .ref qm), (1, .int se), (2, .int ni)]) F dX8_nights_68 rfl (by decide) rfl ?_
    refine vv_lload_n F dX8_nights_69 rfl rfl ?_
    refine vv_ldc2 F cl_X8_257 dX8_nights_70 ?_
    refine vv_ldiv F dX8_nights_73 (by decide) ?_
    refine vv_ldc2 F cl_X8_208 dX8_nights_74 ?_
    refine vv_lremR F dX8_nights_77 (by decide) ?_
    refine vv_l2i F dX8_nights_78 ?_
    refine vv_topi (nI ((ng p) / 65536 % 6)) (ng_i (ng_lt p)) ?_
    refine vv_istore (lv' := [(8, .int (nI ((ng p) / 65536 % 6))), (3, .long (lN (ng p))), (7, .int (nI u)), (5, .int pu), (6, .int ha), (0, .ref qm), (1, .int se), (2, .int ni)]) F dX8_nights_79 (by decide) rfl ?_
    refine vv_iload F dX8_nights_81 rfl ?_
    refine vv_aload_n F dX8_nights_83 rfl rfl ?_
    refine vv_get 0 F fl_X8_7 dX8_nights_84 rfl rfl ?_
    refine vv_iconst (v := 0) F dX8_nights_87 (by decide) ?_
    refine vv_iald 1 F dX8_nights_88 rfl (vv_ixP (j := 0) (by decide) (by decide)) ?_
    refine vv_icmp_ge (tgt := 162) F dX8_nights_89 (by decide) (fun h_2 => ?_) (fun h_2 => ?_)
    · refine vv_iinc (v := (nI (u + 1))) (lv' := [(7, .int (nI (u + 1))), (8, .int (nI ((ng p) / 65536 % 6))), (3, .long (lN (ng p))), (5, .int pu), (6, .int ha), (0, .ref qm), (1, .int se), (2, .int ni)]) 2 F dX8_nights_162 rfl (nI_1 u) (by decide) rfl ?_
      refine vv_goto (tgt := 49) F dX8_nights_165 (by decide) ?_
      refine vv_lv (lv' := [(7, .int (nI (u + 1))), (3, .long (lN (ng p))), (5, .int pu), (6, .int ha), (0, .ref qm), (1, .int se), (2, .int ni)]) [0, 2, 3, 4, 5, 6, 7] rfl ?_
      refine vv_lvE (lv' := [(7, .int (nI (u + 1))), (3, .long (lN (ng p))), (5, .int (if (wf 0) ≤ (nI ((ng p) / 65536 % 6)) then pu else (if pu < (f_X8_costIn wf ((wf 17) + (nI u)) 0 ((ng p) / 65536 % 6)) then (pu - 0) else (pu - (f_X8_costIn wf ((wf 17) + (nI u)) 0 ((ng p) / 65536 % 6)))))), (6, .int (if (wf 0) ≤ (nI ((ng p) / 65536 % 6)) then ha else (if pu < (f_X8_costIn wf ((wf 17) + (nI u)) 0 ((ng p) / 65536 % 6)) then (ha + 0) else (ha + (f_X8_bringsIn wf 0 ((ng p) / 65536 % 6)))))), (0, .ref qm), (1, .int se), (2, .int ni)]) (by first | (simp only [if_pos h_2]; done) | (simp [vv_b, h_2]; done)) ?_
      exact ih (u + 1) (ng p) (if (wf 0) ≤ (nI ((ng p) / 65536 % 6)) then pu else (if pu < (f_X8_costIn wf ((wf 17) + (nI u)) 0 ((ng p) / 65536 % 6)) then (pu - 0) else (pu - (f_X8_costIn wf ((wf 17) + (nI u)) 0 ((ng p) / 65536 % 6))))) (if (wf 0) ≤ (nI ((ng p) / 65536 % 6)) then ha else (if pu < (f_X8_costIn wf ((wf 17) + (nI u)) 0 ((ng p) / 65536 % 6)) then (ha + 0) else (ha + (f_X8_bringsIn wf 0 ((ng p) / 65536 % 6))))) (by omega) (ng_lt p) (by rw [itr_s] at kx; exact kx)
    · have hlt := mt (c_le hcN (nI_toInt (n := (ng p) / 65536 % 6) (by omega))).mpr h_2
      refine vv_aload_n F dX8_nights_92 rfl rfl ?_
      refine vv_iconst (v := 0) F dX8_nights_93 (by decide) ?_
      refine vv_iload F dX8_nights_94 rfl ?_
      refine vv_aload_n F dX8_nights_96 rfl rfl ?_
      refine vv_get 0 F fl_X8_7 dX8_nights_97 rfl rfl ?_
      refine vv_bipush (v := 17) F dX8_nights_100 (by decide) ?_
      refine vv_iald 1 F dX8_nights_102 rfl (vv_ixP (j := 17) (by decide) (by decide)) ?_
      refine vv_iload F dX8_nights_103 rfl ?_
      refine vv_iadd F dX8_nights_105 ?_
      refine vv_callVp (As := [.int 0, .int (nI ((ng p) / 65536 % 6)), .int ((wf 17) + (nI u))]) (rest := []) [0, 1] 0 F (c_X8_costIn (vv_l x) (vv_k x) qm qw qk qt txd abv blw qs atp stp nbr qi qp qh qb bmy qa q6 hsh wf 0 (nI ((ng p) / 65536 % 6)) ((wf 17) + (nI u)) 0 ((ng p) / 65536 % 6) (by decide : (0 : Int32).toInt = ((0 : Nat) : Int)) (nI_toInt (n := ((ng p) / 65536 % 6)) (by omega)) (by omega) (by omega)) mv_X8_191 dX8_nights_106 (by decide) rfl rfl (Nat.le_of_ble_eq_true rfl) rfl (by decide) rfl ?_
      refine vv_istore (lv' := [(9, .int (f_X8_costIn wf ((wf 17) + (nI u)) 0 ((ng p) / 65536 % 6))), (8, .int (nI ((ng p) / 65536 % 6))), (3, .long (lN (ng p))), (7, .int (nI u)), (5, .int pu), (6, .int ha), (0, .ref qm), (1, .int se), (2, .int ni)]) F dX8_nights_109 (by decide) rfl ?_
      refine vv_iload F dX8_nights_111 rfl ?_
      refine vv_iload F dX8_nights_113 rfl ?_
      refine vv_icmp_lt (tgt := 122) F dX8_nights_115 (by decide) (fun h_3 => ?_) (fun h_3 => ?_)
      · refine vv_iconst (v := 0) F dX8_nights_122 (by decide) ?_
        refine vv_istore (lv' := [(10, .int 0), (9, .int (f_X8_costIn wf ((wf 17) + (nI u)) 0 ((ng p) / 65536 % 6))), (8, .int (nI ((ng p) / 65536 % 6))), (3, .long (lN (ng p))), (7, .int (nI u)), (5, .int pu), (6, .int ha), (0, .ref qm), (1, .int se), (2, .int ni)]) F dX8_nights_123 (by decide) rfl ?_
        refine vv_iload F dX8_nights_125 rfl ?_
        refine vv_iload F dX8_nights_127 rfl ?_
        refine vv_if_eq (tgt := 142) F dX8_nights_129 (by decide) (fun h_4 => ?_) (fun h_4 => absurd h_4 (by decide))
        refine vv_iconst (v := 0) F dX8_nights_142 (by decide) ?_
        refine vv_iadd F dX8_nights_143 ?_
        refine vv_istore (lv' := [(6, .int (ha + 0)), (10, .int 0), (9, .int (f_X8_costIn wf ((wf 17) + (nI u)) 0 ((ng p) / 65536 % 6))), (8, .int (nI ((ng p) / 65536 % 6))), (3, .long (lN (ng p))), (7, .int (nI u)), (5, .int pu), (0, .ref qm), (1, .int se), (2, .int ni)]) F dX8_nights_144 (by decide) rfl ?_
        refine vv_iload F dX8_nights_146 rfl ?_
        refine vv_iload F dX8_nights_148 rfl ?_
        refine vv_if_eq (tgt := 158) F dX8_nights_150 (by decide) (fun h_5 => ?_) (fun h_5 => absurd h_5 (by decide))
        refine vv_iconst (v := 0) F dX8_nights_158 (by decide) ?_
        refine vv_isub F dX8_nights_159 ?_
        refine vv_istore (lv' := [(5, .int (pu - 0)), (6, .int (ha + 0)), (10, .int 0), (9, .int (f_X8_costIn wf ((wf 17) + (nI u)) 0 ((ng p) / 65536 % 6))), (8, .int (nI ((ng p) / 65536 % 6))), (3, .long (lN (ng p))), (7, .int (nI u)), (0, .ref qm), (1, .int se), (2, .int ni)]) F dX8_nights_160 (by decide) rfl ?_
        refine vv_iinc (v := (nI (u + 1))) (lv' := [(7, .int (nI (u + 1))), (5, .int (pu - 0)), (6, .int (ha + 0)), (10, .int 0), (9, .int (f_X8_costIn wf ((wf 17) + (nI u)) 0 ((ng p) / 65536 % 6))), (8, .int (nI ((ng p) / 65536 % 6))), (3, .long (lN (ng p))), (0, .ref qm), (1, .int se), (2, .int ni)]) 6 F dX8_nights_162 rfl (nI_1 u) (by decide) rfl ?_
        refine vv_goto (tgt := 49) F dX8_nights_165 (by decide) ?_
        refine vv_lv (lv' := [(7, .int (nI (u + 1))), (3, .long (lN (ng p))), (5, .int (pu - 0)), (6, .int (ha + 0)), (0, .ref qm), (1, .int se), (2, .int ni)]) [0, 6, 1, 2, 7, 8, 9] rfl ?_
        refine vv_lvE (lv' := [(7, .int (nI (u + 1))), (3, .long (lN (ng p))), (5, .int (if (wf 0) ≤ (nI ((ng p) / 65536 % 6)) then pu else (if pu < (f_X8_costIn wf ((wf 17) + (nI u)) 0 ((ng p) / 65536 % 6)) then (pu - 0) else (pu - (f_X8_costIn wf ((wf 17) + (nI u)) 0 ((ng p) / 65536 % 6)))))), (6, .int (if (wf 0) ≤ (nI ((ng p) / 65536 % 6)) then ha else (if pu < (f_X8_costIn wf ((wf 17) + (nI u)) 0 ((ng p) / 65536 % 6)) then (ha + 0) else (ha + (f_X8_bringsIn wf 0 ((ng p) / 65536 % 6)))))), (0, .ref qm), (1, .int se), (2, .int ni)]) (by first | (simp only [if_neg h_2, if_pos h_3]; done) | (simp [vv_b, h_2, h_3]; done)) ?_
        exact ih (u + 1) (ng p) (if (wf 0) ≤ (nI ((ng p) / 65536 % 6)) then pu else (if pu < (f_X8_costIn wf ((wf 17) + (nI u)) 0 ((ng p) / 65536 % 6)) then (pu - 0) else (pu - (f_X8_costIn wf ((wf 17) + (nI u)) 0 ((ng p) / 65536 % 6))))) (if (wf 0) ≤ (nI ((ng p) / 65536 % 6)) then ha else (if pu < (f_X8_costIn wf ((wf 17) + (nI u)) 0 ((ng p) / 65536 % 6)) then (ha + 0) else (ha + (f_X8_bringsIn wf 0 ((ng p) / 65536 % 6))))) (by omega) (ng_lt p) (by rw [itr_s] at kx; exact kx)
      · refine vv_iconst (v := 1) F dX8_nights_118 (by decide) ?_
        refine vv_goto (tgt := 123) F dX8_nights_119 (by decide) ?_
        refine vv_istore (lv' := [(10, .int 1), (9, .int (f_X8_costIn wf ((wf 17) + (nI u)) 0 ((ng p) / 65536 % 6))), (8, .int (nI ((ng p) / 65536 % 6))), (3, .long (lN (ng p))), (7, .int (nI u)), (5, .int pu), (6, .int ha), (0, .ref qm), (1, .int se), (2, .int ni)]) F dX8_nights_123 (by decide) rfl ?_
        refine vv_iload F dX8_nights_125 rfl ?_
        refine vv_iload F dX8_nights_127 rfl ?_
        refine vv_if_eq (tgt := 142) F dX8_nights_129 (by decide) (fun h_6 => absurd h_6 (by decide)) (fun h_6 => ?_)
        refine vv_aload_n F dX8_nights_132 rfl rfl ?_
        refine vv_iconst (v := 0) F dX8_nights_133 (by decide) ?_
        refine vv_iload F dX8_nights_134 rfl ?_
        refine vv_callVp (As := [.int 0, .int (nI ((ng p) / 65536 % 6))]) (rest := [.int ha]) [0, 1] 0 F (c_X8_bringsIn (vv_l x) (vv_k x) qm qw qk qt txd abv blw qs atp stp nbr qi qp qh qb bmy qa q6 hsh wf 0 (nI ((ng p) / 65536 % 6)) 0 ((ng p) / 65536 % 6) (by decide : (0 : Int32).toInt = ((0 : Nat) : Int)) (nI_toInt (n := ((ng p) / 65536 % 6)) (by omega)) (by omega) (by omega)) mv_X8_194 dX8_nights_136 (by decide) rfl rfl (Nat.le_of_ble_eq_true rfl) rfl (by decide) rfl ?_
        refine vv_goto (tgt := 143) F dX8_nights_139 (by decide) ?_
        refine vv_iadd F dX8_nights_143 ?_
        refine vv_istore (lv' := [(6, .int (ha + (f_X8_bringsIn wf 0 ((ng p) / 65536 % 6)))), (10, .int 1), (9, .int (f_X8_costIn wf ((wf 17) + (nI u)) 0 ((ng p) / 65536 % 6))), (8, .int (nI ((ng p) / 65536 % 6))), (3, .long (lN (ng p))), (7, .int (nI u)), (5, .int pu), (0, .ref qm), (1, .int se), (2, .int ni)]) F dX8_nights_144 (by decide) rfl ?_
        refine vv_iload F dX8_nights_146 rfl ?_
        refine vv_iload F dX8_nights_148 rfl ?_
        refine vv_if_eq (tgt := 158) F dX8_nights_150 (by decide) (fun h_7 => absurd h_7 (by decide)) (fun h_7 => ?_)
        refine vv_iload F dX8_nights_153 rfl ?_
        refine vv_goto (tgt := 159) F dX8_nights_155 (by decide) ?_
        refine vv_isub F dX8_nights_159 ?_
        refine vv_istore (lv' := [(5, .int (pu - (f_X8_costIn wf ((wf 17) + (nI u)) 0 ((ng p) / 65536 % 6)))), (6, .int (ha + (f_X8_bringsIn wf 0 ((ng p) / 65536 % 6)))), (10, .int 1), (9, .int (f_X8_costIn wf ((wf 17) + (nI u)) 0 ((ng p) / 65536 % 6))), (8, .int (nI ((ng p) / 65536 % 6))), (3, .long (lN (ng p))), (7, .int (nI u)), (0, .ref qm), (1, .int se), (2, .int ni)]) F dX8_nights_160 (by decide) rfl ?_
        refine vv_iinc (v := (nI (u + 1))) (lv' := [(7, .int (nI (u + 1))), (5, .int (pu - (f_X8_costIn wf ((wf 17) + (nI u)) 0 ((ng p) / 65536 % 6)))), (6, .int (ha + (f_X8_bringsIn wf 0 ((ng p) / 65536 % 6)))), (10, .int 1), (9, .int (f_X8_costIn wf ((wf 17) + (nI u)) 0 ((ng p) / 65536 % 6))), (8, .int (nI ((ng p) / 65536 % 6))), (3, .long (lN (ng p))), (0, .ref qm), (1, .int se), (2, .int ni)]) 6 F dX8_nights_162 rfl (nI_1 u) (by decide) rfl ?_
        refine vv_goto (tgt := 49) F dX8_nights_165 (by decide) ?_
        refine vv_lv (lv' := [(7, .int (nI (u + 1))), (3, .long (lN (ng p))), (5, .int (pu - (f_X8_costIn wf ((wf 17) + (nI u)) 0 ((ng p) / 65536 % 6)))), (6, .int (ha + (f_X8_bringsIn wf 0 ((ng p) / 65536 % 6)))), (0, .ref qm), (1, .int se), (2, .int ni)]) [0, 6, 1, 2, 7, 8, 9] rfl ?_
        refine vv_lvE (lv' := [(7, .int (nI (u + 1))), (3, .long (lN (ng p))), (5, .int (if (wf 0) ≤ (nI ((ng p) / 65536 % 6)) then pu else (if pu < (f_X8_costIn wf ((wf 17) + (nI u)) 0 ((ng p) / 65536 % 6)) then (pu - 0) else (pu - (f_X8_costIn wf ((wf 17) + (nI u)) 0 ((ng p) / 65536 % 6)))))), (6, .int (if (wf 0) ≤ (nI ((ng p) / 65536 % 6)) then ha else (if pu < (f_X8_costIn wf ((wf 17) + (nI u)) 0 ((ng p) / 65536 % 6)) then (ha + 0) else (ha + (f_X8_bringsIn wf 0 ((ng p) / 65536 % 6)))))), (0, .ref qm), (1, .int se), (2, .int ni)]) (by first | (simp only [if_neg h_2, if_neg h_3]; done) | (simp [vv_b, h_2, h_3]; done)) ?_
        exact ih (u + 1) (ng p) (if (wf 0) ≤ (nI ((ng p) / 65536 % 6)) then pu else (if pu < (f_X8_costIn wf ((wf 17) + (nI u)) 0 ((ng p) / 65536 % 6)) then (pu - 0) else (pu - (f_X8_costIn wf ((wf 17) + (nI u)) 0 ((ng p) / 65536 % 6))))) (if (wf 0) ≤ (nI ((ng p) / 65536 % 6)) then ha else (if pu < (f_X8_costIn wf ((wf 17) + (nI u)) 0 ((ng p) / 65536 % 6)) then (ha + 0) else (ha + (f_X8_bringsIn wf 0 ((ng p) / 65536 % 6))))) (by omega) (ng_lt p) (by rw [itr_s] at kx; exact kx)
noncomputable def f_X8_nights (wf : Nat → Int32) (se ni : Int32) : Int32 := (if p_X8_in se.toInt64 0 999999 then (if p_X8_in ni.toInt64 0 60 then (itr (st_X8_nights wf) ni.toNatClampNeg 0 (se.toNatClampNeg, (wf 14), 0)).2.2 else (-2)) else (-2))
noncomputable def g_X8_nights_2 (ss : Nat → Int32) (se ni : Int32) : Nat → Int32 := (if p_X8_in se.toInt64 0 999999 then (if p_X8_in ni.toInt64 0 60 then ss else (upd ss 0 ((ss 0) + 1))) else (upd ss 0 ((ss 0) + 1)))
theorem c_X8_nights (l : Launch) (K : vv_K) (qm qw qk qt : Nat) (txd : Int32) (abv blw : Int64) (qs : Nat) (atp stp nbr : Int32) (qi qp qh qb : Nat) (bmy : Int32) (qa q6 : Nat) (hsh : Int64) (wf ss : Nat → Int32) (se ni : Int32) (cN : Nat) (hcN : ((wf 0)).toInt = (cN : Int)) (hcN5 : cN ≤ 5)  : vv_C l K 5 yX8_nights cX8_nights 11 (some .int) [.ref qm, .int se, .int ni] [(qm, .inr (7, [.ref qw, .ref qk, .ref qt, .int txd, .long abv, .long blw, .ref qs, .int atp, .int stp, .int nbr, .ref qi, .ref qp, .ref qh, .ref qb, .int bmy, .ref qa, .ref q6, .long hsh])), (qw, .inl (K.2.1.1, 456, .inl wf)), (qs, .inl (K.2.1.1, 3, .inl ss))] (some (.int (f_X8_nights wf se ni))) [(qm, .inr (7, [.ref qw, .ref qk, .ref qt, .int txd, .long abv, .long blw, .ref qs, .int atp, .int stp, .int nbr, .ref qi, .ref qp, .ref qh, .ref qb, .int bmy, .ref qa, .ref q6, .long hsh])), (qw, .inl (K.2.1.1, 456, .inl wf)), (qs, .inl (K.2.1.1, 3, .inl (g_X8_nights_2 ss se ni)))] := by
  refine vv_C.of (lv := [(0, .ref qm), (1, .int se), (2, .int ni)]) (by decide +kernel) (Nat.le_of_ble_eq_true rfl) rfl ?_
  intro x hl hK F hR; subst hl; obtain rfl := hK
  refine vv_iload_n F dX8_nights_0 rfl rfl ?_
  refine vv_i2l F dX8_nights_1 ?_
  refine vv_lconst (v := 0) F dX8_nights_2 (by decide) ?_
  refine vv_ldc2 F cl_X8_249 dX8_nights_3 ?_
  refine vv_callSp (As := [.long se.toInt64, .long 0, .long 999999]) (rest := []) [] F (c_X8_in (vv_l x) (vv_k x) se.toInt64 0 999999) ms_X8_56 dX8_nights_6 (by decide) rfl rfl (Nat.le_of_ble_eq_true rfl) rfl (by decide) ?_
  refine vv_ifz_eq (tgt := 24) F dX8_nights_9 (by decide) (fun h_1 => ?_) (fun h_1 => ?_)
  · refine vv_aload_n F dX8_nights_24 rfl rfl ?_
    refine vv_bipush (v := (-2)) F dX8_nights_25 (by decide) ?_
    refine vv_callV (As := [.int (-2)]) (rest := []) [0, 2] 0 (ws' := [(qm, .inr (7, [.ref qw, .ref qk, .ref qt, .int txd, .long abv, .long blw, .ref qs, .int atp, .int stp, .int nbr, .ref qi, .ref qp, .ref qh, .ref qb, .int bmy, .ref qa, .ref q6, .long hsh])), (qw, .inl ((vv_k x).2.1.1, 456, .inl wf)), (qs, .inl ((vv_k x).2.1.1, 3, .inl (upd ss 0 ((ss 0) + 1))))]) F (c_X8_bad (vv_l x) (vv_k x) qm qw qk qt txd abv blw qs atp stp nbr qi qp qh qb bmy qa q6 hsh ss (-2)) mv_X8_78 dX8_nights_27 (by decide) rfl rfl (Nat.le_of_ble_eq_true rfl) rfl (by decide) (Eq.trans (b := [qm, qs]) rfl rfl) rfl rfl ?_
    exact vv_iret F hR dX8_nights_30 (congrArg (fun z => some (Value.int z)) ((if_neg h_1).trans rfl)) (by simp only [g_X8_nights_2, if_neg h_1])
  · have h_1r := in_rng (a := 0) (b := 999999) (by decide) (by decide) h_1
    have h_1c := nn_cl (a := se) (by omega)
    refine vv_iload_n F dX8_nights_12 rfl rfl ?_
    refine vv_i2l F dX8_nights_13 ?_
    refine vv_lconst (v := 0) F dX8_nights_14 (by decide) ?_
    refine vv_ldc2 F cl_X8_74 dX8_nights_15 ?_
    refine vv_callSp (As := [.long ni.toInt64, .long 0, .long 60]) (rest := []) [] F (c_X8_in (vv_l x) (vv_k x) ni.toInt64 0 60) ms_X8_56 dX8_nights_18 (by decide) rfl rfl (Nat.le_of_ble_eq_true rfl) rfl (by decide) ?_
    refine vv_ifz_ne (tgt := 31) F dX8_nights_21 (by decide) (fun h_2 => ?_) (fun h_2 => ?_)
    · have h_2r := in_rng (a := 0) (b := 60) (by decide) (by decide) h_2
      have h_2c := nn_cl (a := ni) (by omega)
      refine vv_iload_n F dX8_nights_31 rfl rfl ?_
      refine vv_i2l F dX8_nights_32 ?_
      refine vv_topl (lN se.toNatClampNeg) (i2l_nn h_1c (by omega)) ?_
      refine vv_lstore_n (lv' := [(3, .long (lN se.toNatClampNeg)), (0, .ref qm), (1, .int se), (2, .int ni)]) F dX8_nights_33 rfl (by decide) rfl ?_
      refine vv_aload_n F dX8_nights_34 rfl rfl ?_
      refine vv_get 0 F fl_X8_7 dX8_nights_35 rfl rfl ?_
      refine vv_bipush (v := 14) F dX8_nights_38 (by decide) ?_
      refine vv_iald 1 F dX8_nights_40 rfl (vv_ixP (j := 14) (by decide) (by decide)) ?_
      refine vv_istore (lv' := [(5, .int (wf 14)), (3, .long (lN se.toNatClampNeg)), (0, .ref qm), (1, .int se), (2, .int ni)]) F dX8_nights_41 (by decide) rfl ?_
      refine vv_iconst (v := 0) F dX8_nights_43 (by decide) ?_
      refine vv_istore (lv' := [(6, .int 0), (5, .int (wf 14)), (3, .long (lN se.toNatClampNeg)), (0, .ref qm), (1, .int se), (2, .int ni)]) F dX8_nights_44 (by decide) rfl ?_
      refine vv_iconst (v := 0) F dX8_nights_46 (by decide) ?_
      refine vv_istore (lv' := [(7, .int 0), (6, .int 0), (5, .int (wf 14)), (3, .long (lN se.toNatClampNeg)), (0, .ref qm), (1, .int se), (2, .int ni)]) F dX8_nights_47 (by decide) rfl ?_
      refine vv_lv (lv' := [(7, .int 0), (3, .long (lN se.toNatClampNeg)), (5, .int (wf 14)), (6, .int 0), (0, .ref qm), (1, .int se), (2, .int ni)]) [0, 3, 2, 1, 4, 5, 6] rfl ?_
      refine L_X8_nights F qm qw qk qt txd abv blw qs atp stp nbr qi qp qh qb bmy qa q6 hsh wf ss se ni cN ni.toNatClampNeg hcN h_2c (by omega) (by omega) ni.toNatClampNeg 0 se.toNatClampNeg (wf 14) 0 (by omega) (by omega) ?_
      refine vv_iload F dX8_nights_168 rfl ?_
      exact vv_iret F hR dX8_nights_170 (congrArg (fun z => some (Value.int z)) ((if_pos h_1).trans ((if_pos h_2).trans rfl))) (by simp only [g_X8_nights_2, if_pos h_1, if_pos h_2])
    · refine vv_aload_n F dX8_nights_24 rfl rfl ?_
      refine vv_bipush (v := (-2)) F dX8_nights_25 (by decide) ?_
      refine vv_callV (As := [.int (-2)]) (rest := []) [0, 2] 0 (ws' := [(qm, .inr (7, [.ref qw, .ref qk, .ref qt, .int txd, .long abv, .long blw, .ref qs, .int atp, .int stp, .int nbr, .ref qi, .ref qp, .ref qh, .ref qb, .int bmy, .ref qa, .ref q6, .long hsh])), (qw, .inl ((vv_k x).2.1.1, 456, .inl wf)), (qs, .inl ((vv_k x).2.1.1, 3, .inl (upd ss 0 ((ss 0) + 1))))]) F (c_X8_bad (vv_l x) (vv_k x) qm qw qk qt txd abv blw qs atp stp nbr qi qp qh qb bmy qa q6 hsh ss (-2)) mv_X8_78 dX8_nights_27 (by decide) rfl rfl (Nat.le_of_ble_eq_true rfl) rfl (by decide) (Eq.trans (b := [qm, qs]) rfl rfl) rfl rfl ?_
      exact vv_iret F hR dX8_nights_30 (congrArg (fun z => some (Value.int z)) ((if_pos h_1).trans ((if_neg h_2).trans rfl))) (by simp only [g_X8_nights_2, if_pos h_1, if_neg h_2])
noncomputable def st_X8_digest_1 (txd : Int32) (wf : Nat → Int32) (u : Nat) (s : Int64) : Int64 := ((31 * s) + (f_X8_countOf txd wf (nI u)).toInt64)
theorem L_X8_digest_1 {x : vv_X} (F : vv_F x cX8_digest 2 RX8 3) (qm qw qk qt : Nat) (txd : Int32) (abv blw : Int64) (qs : Nat) (atp stp nbr : Int32) (qi qp qh qb : Nat) (bmy : Int32) (qa q6 : Nat) (wf : Nat → Int32)  : ∀ (n : Nat) (u : Nat) (hq : Int64), u + n = 6 → vv_V x 2 31 [(1, .int (nI 6)), (0, .ref qm)] [] [(qm, .inr (7, [.ref qw, .ref qk, .ref qt, .int txd, .long abv, .long blw, .ref qs, .int atp, .int stp, .int nbr, .ref qi, .ref qp, .ref qh, .ref qb, .int bmy, .ref qa, .ref q6, .long (itr (st_X8_digest_1 txd wf) n u hq)])), (qw, .inl ((vv_k x).2.1.1, 456, .inl wf))] → vv_V x 2 9 [(1, .int (nI u)), (0, .ref qm)] [] [(qm, .inr (7, [.ref qw, .ref qk, .ref qt, .int txd, .long abv, .long blw, .ref qs, .int atp, .int stp, .int nbr, .ref qi, .ref qp, .ref qh, .ref qb, .int bmy, .ref qa, .ref q6, .long hq])), (qw, .inl ((vv_k x).2.1.1, 456, .inl wf))] := by
  intro n
  induction n with
  | zero =>
    intro u hq hu  kx
    refine vv_iload_n F dX8_digest_9 rfl rfl ?_
    refine vv_bipush (v := 6) F dX8_digest_10 (by decide) ?_
    refine vv_icmp_ge (tgt := 31) F dX8_digest_12 (by decide) (fun h_1 => ?_) (fun h_1 => absurd ((c_le (by decide : (6 : Int32).toInt = ((6 : Nat) : Int)) (nI_toInt (n := u) (by omega))).mpr (by omega)) h_1)
    obtain rfl : u = 6 := by omega
    rw [itr_0] at kx
    exact vv_lv [0, 1] rfl kx
  | succ n ih =>
    intro u hq hu  kx
    refine vv_iload_n F dX8_digest_9 rfl rfl ?_
    refine vv_bipush (v := 6) F dX8_digest_10 (by decide) ?_
    refine vv_icmp_ge (tgt := 31) F dX8_digest_12 (by decide) (fun h_1 => absurd ((c_le (by decide : (6 : Int32).toInt = ((6 : Nat) : Int)) (nI_toInt (n := u) (by omega))).mp h_1) (by omega)) (fun h_1 => ?_)
    refine vv_aload_n F dX8_digest_15 rfl rfl ?_
    refine vv_aload_n F dX8_digest_16 rfl rfl ?_
    refine vv_iload_n F dX8_digest_17 rfl rfl ?_
    refine vv_callVp (As := [.int (nI u)]) (rest := [.ref qm]) [0, 1] 0 F (c_X8_countOf (vv_l x) (vv_k x) qm qw qk qt txd abv blw qs atp stp nbr qi qp qh qb bmy qa q6 hq wf (nI u)) mv_X8_259 dX8_digest_18 (by decide) rfl rfl (Nat.le_of_ble_eq_true rfl) rfl (by decide) rfl ?_
    refine vv_i2l F dX8_digest_21 ?_
    refine vv_callV (As := [.long ((f_X8_countOf txd wf (nI u)).toInt64)]) (rest := []) [0] 0 (ws' := [(qm, .inr (7, [.ref qw, .ref qk, .ref qt, .int txd, .long abv, .long blw, .ref qs, .int atp, .int stp, .int nbr, .ref qi, .ref qp, .ref qh, .ref qb, .int bmy, .ref qa, .ref q6, .long ((31 * hq) + ((f_X8_countOf txd wf (nI u)).toInt64))])), (qw, .inl ((vv_k x).2.1.1, 456, .inl wf))]) F (c_X8_mix (vv_l x) (vv_k x) qm qw qk qt txd abv blw qs atp stp nbr qi qp qh qb bmy qa q6 hq ((f_X8_countOf txd wf (nI u)).toInt64)) mv_X8_269 dX8_digest_22 (by decide) rfl rfl (Nat.le_of_ble_eq_true rfl) rfl (by decide) (Eq.trans (b := [qm]) rfl rfl) rfl rfl ?_
    refine vv_iinc (v := (nI (u + 1))) (lv' := [(1, .int (nI (u + 1))), (0, .ref qm)]) 0 F dX8_digest_25 rfl (nI_1 u) (by decide) rfl ?_
    refine vv_goto (tgt := 9) F dX8_digest_28 (by decide) ?_
    refine vv_lv [0, 1] rfl ?_
    refine vv_ws (ws' := [(qm, .inr (7, [.ref qw, .ref qk, .ref qt, .int txd, .long abv, .long blw, .ref qs, .int atp, .int stp, .int nbr, .ref qi, .ref qp, .ref qh, .ref qb, .int bmy, .ref qa, .ref q6, .long ((31 * hq) + (f_X8_countOf txd wf (nI u)).toInt64)])), (qw, .inl ((vv_k x).2.1.1, 456, .inl wf))]) (by simp only [nI_1]) ?_
    exact ih (u + 1) ((31 * hq) + (f_X8_countOf txd wf (nI u)).toInt64) (by omega) (by rw [itr_s] at kx; exact kx)
noncomputable def st_X8_digest_2 (wf : Nat → Int32) (u : Nat) (s : Int64) : Int64 := ((31 * s) + (wf (11 + u)).toInt64)
theorem L_X8_digest_2 {x : vv_X} (F : vv_F x cX8_digest 2 RX8 3) (qm qw qk qt : Nat) (txd : Int32) (abv blw : Int64) (qs : Nat) (atp stp nbr : Int32) (qi qp qh qb : Nat) (bmy : Int32) (qa q6 : Nat) (wf : Nat → Int32)  : ∀ (n : Nat) (u : Nat) (hq : Int64), u + n = 7 → vv_V x 2 59 [(1, .int (nI 7)), (0, .ref qm)] [] [(qm, .inr (7, [.ref qw, .ref qk, .ref qt, .int txd, .long abv, .long blw, .ref qs, .int atp, .int stp, .int nbr, .ref qi, .ref qp, .ref qh, .ref qb, .int bmy, .ref qa, .ref q6, .long (itr (st_X8_digest_2 wf) n u hq)])), (qw, .inl ((vv_k x).2.1.1, 456, .inl wf))] → vv_V x 2 33 [(1, .int (nI u)), (0, .ref qm)] [] [(qm, .inr (7, [.ref qw, .ref qk, .ref qt, .int txd, .long abv, .long blw, .ref qs, .int atp, .int stp, .int nbr, .ref qi, .ref qp, .ref qh, .ref qb, .int bmy, .ref qa, .ref q6, .long hq])), (qw, .inl ((vv_k x).2.1.1, 456, .inl wf))] := by
  intro n
  induction n with
  | zero =>
    intro u hq hu  kx
    refine vv_iload_n F dX8_digest_33 rfl rfl ?_
    refine vv_bipush (v := 7) F dX8_digest_34 (by decide) ?_
    refine vv_icmp_ge (tgt := 59) F dX8_digest_36 (by decide) (fun h_1 => ?_) (fun h_1 => absurd ((c_le (by decide : (7 : Int32).toInt = ((7 : Nat) : Int)) (nI_toInt (n := u) (by omega))).mpr (by omega)) h_1)
    obtain rfl : u = 7 := by omega
    rw [itr_0] at kx
    exact vv_lv [0, 1] rfl kx
  | succ n ih =>
    intro u hq hu  kx
    refine vv_iload_n F dX8_digest_33 rfl rfl ?_
    refine vv_bipush (v := 7) F dX8_digest_34 (by decide) ?_
    refine vv_icmp_ge (tgt := 59) F dX8_digest_36 (by decide) (fun h_1 => absurd ((c_le (by decide : (7 : Int32).toInt = ((7 : Nat) : Int)) (nI_toInt (n := u) (by omega))).mp h_1) (by omega)) (fun h_1 => ?_)
    refine vv_aload_n F dX8_digest_39 rfl rfl ?_
    refine vv_aload_n F dX8_digest_40 rfl rfl ?_
    refine vv_get 0 F fl_X8_7 dX8_digest_41 rfl rfl ?_
    refine vv_bipush (v := 11) F dX8_digest_44 (by decide) ?_
    refine vv_iload_n F dX8_digest_46 rfl rfl ?_
    refine vv_iadd F dX8_digest_47 ?_
    refine vv_iald 1 F dX8_digest_48 rfl (vv_ixP (j := (11 + u)) (by have hz := (nn_add (by decide : (11 : Int32).toInt = ((11 : Nat) : Int)) (nI_toInt (n := u) (by omega)) (by omega)); omega) (by omega)) ?_
    refine vv_i2l F dX8_digest_49 ?_
    refine vv_callV (As := [.long ((wf (11 + u)).toInt64)]) (rest := []) [0] 0 (ws' := [(qm, .inr (7, [.ref qw, .ref qk, .ref qt, .int txd, .long abv, .long blw, .ref qs, .int atp, .int stp, .int nbr, .ref qi, .ref qp, .ref qh, .ref qb, .int bmy, .ref qa, .ref q6, .long ((31 * hq) + ((wf (11 + u)).toInt64))])), (qw, .inl ((vv_k x).2.1.1, 456, .inl wf))]) F (c_X8_mix (vv_l x) (vv_k x) qm qw qk qt txd abv blw qs atp stp nbr qi qp qh qb bmy qa q6 hq ((wf (11 + u)).toInt64)) mv_X8_269 dX8_digest_50 (by decide) rfl rfl (Nat.le_of_ble_eq_true rfl) rfl (by decide) (Eq.trans (b := [qm]) rfl rfl) rfl rfl ?_
    refine vv_iinc (v := (nI (u + 1))) (lv' := [(1, .int (nI (u + 1))), (0, .ref qm)]) 0 F dX8_digest_53 rfl (nI_1 u) (by decide) rfl ?_
    refine vv_goto (tgt := 33) F dX8_digest_56 (by decide) ?_
    refine vv_lv [0, 1] rfl ?_
    refine vv_ws (ws' := [(qm, .inr (7, [.ref qw, .ref qk, .ref qt, .int txd, .long abv, .long blw, .ref qs, .int atp, .int stp, .int nbr, .ref qi, .ref qp, .ref qh, .ref qb, .int bmy, .ref qa, .ref q6, .long ((31 * hq) + (wf (11 + u)).toInt64)])), (qw, .inl ((vv_k x).2.1.1, 456, .inl wf))]) (by simp only [nI_1]) ?_
    exact ih (u + 1) ((31 * hq) + (wf (11 + u)).toInt64) (by omega) (by rw [itr_s] at kx; exact kx)
noncomputable def st_X8_digest_3 (wf : Nat → Int32) (u : Nat) (s : Int64) : Int64 := ((31 * ((31 * s) + (wf (1 + u)).toInt64)) + (wf (6 + u)).toInt64)
theorem L_X8_digest_3 {x : vv_X} (F : vv_F x cX8_digest 2 RX8 3) (qm qw qk qt : Nat) (txd : Int32) (abv blw : Int64) (qs : Nat) (atp stp nbr : Int32) (qi qp qh qb : Nat) (bmy : Int32) (qa q6 : Nat) (wf : Nat → Int32) (cN : Nat) (hcN : ((wf 0)).toInt = (cN : Int)) (hcN5 : cN ≤ 5) : ∀ (n : Nat) (u : Nat) (hq : Int64), u + n = cN → vv_V x 2 104 [(1, .int (nI cN)), (0, .ref qm)] [] [(qm, .inr (7, [.ref qw, .ref qk, .ref qt, .int txd, .long abv, .long blw, .ref qs, .int atp, .int stp, .int nbr, .ref qi, .ref qp, .ref qh, .ref qb, .int bmy, .ref qa, .ref q6, .long (itr (st_X8_digest_3 wf) n u hq)])), (qw, .inl ((vv_k x).2.1.1, 456, .inl wf))] → vv_V x 2 61 [(1, .int (nI u)), (0, .ref qm)] [] [(qm, .inr (7, [.ref qw, .ref qk, .ref qt, .int txd, .long abv, .long blw, .ref qs, .int atp, .int stp, .int nbr, .ref qi, .ref qp, .ref qh, .ref qb, .int bmy, .ref qa, .ref q6, .long hq])), (qw, .inl ((vv_k x).2.1.1, 456, .inl wf))] := by
  intro n
  induction n with
  | zero =>
    intro u hq hu  kx
    refine vv_iload_n F dX8_digest_61 rfl rfl ?_
    refine vv_aload_n F dX8_digest_62 rfl rfl ?_
    refine vv_get 0 F fl_X8_7 dX8_digest_63 rfl rfl ?_
    refine vv_iconst (v := 0) F dX8_digest_66 (by decide) ?_
    refine vv_iald 1 F dX8_digest_67 rfl (vv_ixP (j := 0) (by decide) (by decide)) ?_
    refine vv_icmp_ge (tgt := 104) F dX8_digest_68 (by decide) (fun h_1 => ?_) (fun h_1 => absurd ((c_le hcN (nI_toInt (n := u) (by omega))).mpr (by omega)) h_1)
    obtain rfl : u = cN := by omega
    rw [itr_0] at kx
    exact vv_lv [0, 1] rfl kx
  | succ n ih =>
    intro u hq hu  kx
    refine vv_iload_n F dX8_digest_61 rfl rfl ?_
    refine vv_aload_n F dX8_digest_62 rfl rfl ?_
    refine vv_get 0 F fl_X8_7 dX8_digest_63 rfl rfl ?_
    refine vv_iconst (v := 0) F dX8_digest_66 (by decide) ?_
    refine vv_iald 1 F dX8_digest_67 rfl (vv_ixP (j := 0) (by decide) (by decide)) ?_
    refine vv_icmp_ge (tgt := 104) F dX8_digest_68 (by decide) (fun h_1 => absurd ((c_le hcN (nI_toInt (n := u) (by omega))).mp h_1) (by omega)) (fun h_1 => ?_)
    refine vv_aload_n F dX8_digest_71 rfl rfl ?_
    refine vv_aload_n F dX8_digest_72 rfl rfl ?_
    refine vv_get 0 F fl_X8_7 dX8_digest_73 rfl rfl ?_
    refine vv_iconst (v := 1) F dX8_digest_76 (by decide) ?_
    refine vv_iload_n F dX8_digest_77 rfl rfl ?_
    refine vv_iadd F dX8_digest_78 ?_
    refine vv_iald 1 F dX8_digest_79 rfl (vv_ixP (j := (1 + u)) (by have hz := (nn_add (by decide : (1 : Int32).toInt = ((1 : Nat) : Int)) (nI_toInt (n := u) (by omega)) (by omega)); omega) (by omega)) ?_
    refine vv_i2l F dX8_digest_80 ?_
    refine vv_callV (As := [.long ((wf (1 + u)).toInt64)]) (rest := []) [0] 0 (ws' := [(qm, .inr (7, [.ref qw, .ref qk, .ref qt, .int txd, .long abv, .long blw, .ref qs, .int atp, .int stp, .int nbr, .ref qi, .ref qp, .ref qh, .ref qb, .int bmy, .ref qa, .ref q6, .long ((31 * hq) + ((wf (1 + u)).toInt64))])), (qw, .inl ((vv_k x).2.1.1, 456, .inl wf))]) F (c_X8_mix (vv_l x) (vv_k x) qm qw qk qt txd abv blw qs atp stp nbr qi qp qh qb bmy qa q6 hq ((wf (1 + u)).toInt64)) mv_X8_269 dX8_digest_81 (by decide) rfl rfl (Nat.le_of_ble_eq_true rfl) rfl (by decide) (Eq.trans (b := [qm]) rfl rfl) rfl rfl ?_
    refine vv_aload_n F dX8_digest_84 rfl rfl ?_
    refine vv_aload_n F dX8_digest_85 rfl rfl ?_
    refine vv_get 0 F fl_X8_7 dX8_digest_86 rfl rfl ?_
    refine vv_bipush (v := 6) F dX8_digest_89 (by decide) ?_
    refine vv_iload_n F dX8_digest_91 rfl rfl ?_
    refine vv_iadd F dX8_digest_92 ?_
    refine vv_iald 1 F dX8_digest_93 rfl (vv_ixP (j := (6 + u)) (by have hz := (nn_add (by decide : (6 : Int32).toInt = ((6 : Nat) : Int)) (nI_toInt (n := u) (by omega)) (by omega)); omega) (by omega)) ?_
    refine vv_i2l F dX8_digest_94 ?_
    refine vv_callV (As := [.long ((wf (6 + u)).toInt64)]) (rest := []) [0] 0 (ws' := [(qm, .inr (7, [.ref qw, .ref qk, .ref qt, .int txd, .long abv, .long blw, .ref qs, .int atp, .int stp, .int nbr, .ref qi, .ref qp, .ref qh, .ref qb, .int bmy, .ref qa, .ref q6, .long ((31 * ((31 * hq) + ((wf (1 + u)).toInt64))) + ((wf (6 + u)).toInt64))])), (qw, .inl ((vv_k x).2.1.1, 456, .inl wf))]) F (c_X8_mix (vv_l x) (vv_k x) qm qw qk qt txd abv blw qs atp stp nbr qi qp qh qb bmy qa q6 ((31 * hq) + ((wf (1 + u)).toInt64)) ((wf (6 + u)).toInt64)) mv_X8_269 dX8_digest_95 (by decide) rfl rfl (Nat.le_of_ble_eq_true rfl) rfl (by decide) (Eq.trans (b := [qm]) rfl rfl) rfl rfl ?_
    refine vv_iinc (v := (nI (u + 1))) (lv' := [(1, .int (nI (u + 1))), (0, .ref qm)]) 0 F dX8_digest_98 rfl (nI_1 u) (by decide) rfl ?_
    refine vv_goto (tgt := 61) F dX8_digest_101 (by decide) ?_
    refine vv_lv [0, 1] rfl ?_
    refine vv_ws (ws' := [(qm, .inr (7, [.ref qw, .ref qk, .ref qt, .int txd, .long abv, .long blw, .ref qs, .int atp, .int stp, .int nbr, .ref qi, .ref qp, .ref qh, .ref qb, .int bmy, .ref qa, .ref q6, .long ((31 * ((31 * hq) + (wf (1 + u)).toInt64)) + (wf (6 + u)).toInt64)])), (qw, .inl ((vv_k x).2.1.1, 456, .inl wf))]) (by simp only [nI_1]) ?_
    exact ih (u + 1) ((31 * ((31 * hq) + (wf (1 + u)).toInt64)) + (wf (6 + u)).toInt64) (by omega) (by rw [itr_s] at kx; exact kx)
noncomputable def st_X8_digest_4 (wf : Nat → Int32) (u : Nat) (s : Int64) : Int64 := ((31 * s) + (wf (19 + u)).toInt64)
theorem L_X8_digest_4 {x : vv_X} (F : vv_F x cX8_digest 2 RX8 3) (qm qw qk qt : Nat) (txd : Int32) (abv blw : Int64) (qs : Nat) (atp stp nbr : Int32) (qi qp qh qb : Nat) (bmy : Int32) (qa q6 : Nat) (wf : Nat → Int32) (cC : Nat) (hcC : ((wf 18)).toInt = (cC : Int)) (hcC6 : cC ≤ 6) : ∀ (n : Nat) (u : Nat) (hq : Int64), u + n = (2 * cC) → vv_V x 2 139 [(1, .int (nI (2 * cC))), (0, .ref qm)] [] [(qm, .inr (7, [.ref qw, .ref qk, .ref qt, .int txd, .long abv, .long blw, .ref qs, .int atp, .int stp, .int nbr, .ref qi, .ref qp, .ref qh, .ref qb, .int bmy, .ref qa, .ref q6, .long (itr (st_X8_digest_4 wf) n u hq)])), (qw, .inl ((vv_k x).2.1.1, 456, .inl wf))] → vv_V x 2 106 [(1, .int (nI u)), (0, .ref qm)] [] [(qm, .inr (7, [.ref qw, .ref qk, .ref qt, .int txd, .long abv, .long blw, .ref qs, .int atp, .int stp, .int nbr, .ref qi, .ref qp, .ref qh, .ref qb, .int bmy, .ref qa, .ref q6, .long hq])), (qw, .inl ((vv_k x).2.1.1, 456, .inl wf))] := by
  intro n
  induction n with
  | zero =>
    intro u hq hu  kx
    refine vv_iload_n F dX8_digest_106 rfl rfl ?_
    refine vv_iconst (v := 2) F dX8_digest_107 (by decide) ?_
    refine vv_aload_n F dX8_digest_108 rfl rfl ?_
    refine vv_get 0 F fl_X8_7 dX8_digest_109 rfl rfl ?_
    refine vv_bipush (v := 18) F dX8_digest_112 (by decide) ?_
    refine vv_iald 1 F dX8_digest_114 rfl (vv_ixP (j := 18) (by decide) (by decide)) ?_
    refine vv_imul F dX8_digest_115 ?_
    refine vv_icmp_ge (tgt := 139) F dX8_digest_116 (by decide) (fun h_1 => ?_) (fun h_1 => absurd ((c_le (nn_mul (by decide : (2 : Int32).toInt = ((2 : Nat) : Int)) hcC (by omega)) (nI_toInt (n := u) (by omega))).mpr (by omega)) h_1)
    obtain rfl : u = (2 * cC) := by omega
    rw [itr_0] at kx
    exact vv_lv [0, 1] rfl kx
  | succ n ih =>
    intro u hq hu  kx
    refine vv_iload_n F dX8_digest_106 rfl rfl ?_
    refine vv_iconst (v := 2) F dX8_digest_107 (by decide) ?_
    refine vv_aload_n F dX8_digest_108 rfl rfl ?_
    refine vv_get 0 F fl_X8_7 dX8_digest_109 rfl rfl ?_
    refine vv_bipush (v := 18) F dX8_digest_112 (by decide) ?_
    refine vv_iald 1 F dX8_digest_114 rfl (vv_ixP (j := 18) (by decide) (by decide)) ?_
    refine vv_imul F dX8_digest_115 ?_
    refine vv_icmp_ge (tgt := 139) F dX8_digest_116 (by decide) (fun h_1 => absurd ((c_le (nn_mul (by decide : (2 : Int32).toInt = ((2 : Nat) : Int)) hcC (by omega)) (nI_toInt (n := u) (by omega))).mp h_1) (by omega)) (fun h_1 => ?_)
    refine vv_aload_n F dX8_digest_119 rfl rfl ?_
    refine vv_aload_n F dX8_digest_120 rfl rfl ?_
    refine vv_get 0 F fl_X8_7 dX8_digest_121 rfl rfl ?_
    refine vv_bipush (v := 19) F dX8_digest_124 (by decide) ?_
    refine vv_iload_n F dX8_digest_126 rfl rfl ?_
    refine vv_iadd F dX8_digest_127 ?_
    refine vv_iald 1 F dX8_digest_128 rfl (vv_ixP (j := (19 + u)) (by have hz := (nn_add (by decide : (19 : Int32).toInt = ((19 : Nat) : Int)) (nI_toInt (n := u) (by omega)) (by omega)); omega) (by omega)) ?_
    refine vv_i2l F dX8_digest_129 ?_
    refine vv_callV (As := [.long ((wf (19 + u)).toInt64)]) (rest := []) [0] 0 (ws' := [(qm, .inr (7, [.ref qw, .ref qk, .ref qt, .int txd, .long abv, .long blw, .ref qs, .int atp, .int stp, .int nbr, .ref qi, .ref qp, .ref qh, .ref qb, .int bmy, .ref qa, .ref q6, .long ((31 * hq) + ((wf (19 + u)).toInt64))])), (qw, .inl ((vv_k x).2.1.1, 456, .inl wf))]) F (c_X8_mix (vv_l x) (vv_k x) qm qw qk qt txd abv blw qs atp stp nbr qi qp qh qb bmy qa q6 hq ((wf (19 + u)).toInt64)) mv_X8_269 dX8_digest_130 (by decide) rfl rfl (Nat.le_of_ble_eq_true rfl) rfl (by decide) (Eq.trans (b := [qm]) rfl rfl) rfl rfl ?_
    refine vv_iinc (v := (nI (u + 1))) (lv' := [(1, .int (nI (u + 1))), (0, .ref qm)]) 0 F dX8_digest_133 rfl (nI_1 u) (by decide) rfl ?_
    refine vv_goto (tgt := 106) F dX8_digest_136 (by decide) ?_
    refine vv_lv [0, 1] rfl ?_
    refine vv_ws (ws' := [(qm, .inr (7, [.ref qw, .ref qk, .ref qt, .int txd, .long abv, .long blw, .ref qs, .int atp, .int stp, .int nbr, .ref qi, .ref qp, .ref qh, .ref qb, .int bmy, .ref qa, .ref q6, .long ((31 * hq) + (wf (19 + u)).toInt64)])), (qw, .inl ((vv_k x).2.1.1, 456, .inl wf))]) (by simp only [nI_1]) ?_
    exact ih (u + 1) ((31 * hq) + (wf (19 + u)).toInt64) (by omega) (by rw [itr_s] at kx; exact kx)
noncomputable def st_X8_digest_5 (wf : Nat → Int32) (u : Nat) (s : Int64) : Int64 := ((31 * s) + (wf (32 + u)).toInt64)
theorem L_X8_digest_5 {x : vv_X} (F : vv_F x cX8_digest 2 RX8 3) (qm qw qk qt : Nat) (txd : Int32) (abv blw : Int64) (qs : Nat) (atp stp nbr : Int32) (qi qp qh qb : Nat) (bmy : Int32) (qa q6 : Nat) (wf : Nat → Int32) (cO : Nat) (hcO : ((wf 31)).toInt = (cO : Int)) (hcO6 : cO ≤ 6) : ∀ (n : Nat) (u : Nat) (hq : Int64), u + n = (4 * cO) → vv_V x 2 174 [(1, .int (nI (4 * cO))), (0, .ref qm)] [] [(qm, .inr (7, [.ref qw, .ref qk, .ref qt, .int txd, .long abv, .long blw, .ref qs, .int atp, .int stp, .int nbr, .ref qi, .ref qp, .ref qh, .ref qb, .int bmy, .ref qa, .ref q6, .long (itr (st_X8_digest_5 wf) n u hq)])), (qw, .inl ((vv_k x).2.1.1, 456, .inl wf))] → vv_V x 2 141 [(1, .int (nI u)), (0, .ref qm)] [] [(qm, .inr (7, [.ref qw, .ref qk, .ref qt, .int txd, .long abv, .long blw, .ref qs, .int atp, .int stp, .int nbr, .ref qi, .ref qp, .ref qh, .ref qb, .int bmy, .ref qa, .ref q6, .long hq])), (qw, .inl ((vv_k x).2.1.1, 456, .inl wf))] := by
  intro n
  induction n with
  | zero =>
    intro u hq hu  kx
    refine vv_iload_n F dX8_digest_141 rfl rfl ?_
    refine vv_iconst (v := 4) F dX8_digest_142 (by decide) ?_
    refine vv_aload_n F dX8_digest_143 rfl rfl ?_
    refine vv_get 0 F fl_X8_7 dX8_digest_144 rfl rfl ?_
    refine vv_bipush (v := 31) F dX8_digest_147 (by decide) ?_
    refine vv_iald 1 F dX8_digest_149 rfl (vv_ixP (j := 31) (by decide) (by decide)) ?_
    refine vv_imul F dX8_digest_150 ?_
    refine vv_icmp_ge (tgt := 174) F dX8_digest_151 (by decide) (fun h_1 => ?_) (fun h_1 => absurd ((c_le (nn_mul (by decide : (4 : Int32).toInt = ((4 : Nat) : Int)) hcO (by omega)) (nI_toInt (n := u) (by omega))).mpr (by omega)) h_1)
    obtain rfl : u = (4 * cO) := by omega
    rw [itr_0] at kx
    exact vv_lv [0, 1] rfl kx
  | succ n ih =>
    intro u hq hu  kx
    refine vv_iload_n F dX8_digest_141 rfl rfl ?_
    refine vv_iconst (v := 4) F dX8_digest_142 (by decide) ?_
    refine vv_aload_n F dX8_digest_143 rfl rfl ?_
    refine vv_get 0 F fl_X8_7 dX8_digest_144 rfl rfl ?_
    refine vv_bipush (v := 31) F dX8_digest_147 (by decide) ?_
    refine vv_iald 1 F dX8_digest_149 rfl (vv_ixP (j := 31) (by decide) (by decide)) ?_
    refine vv_imul F dX8_digest_150 ?_
    refine vv_icmp_ge (tgt := 174) F dX8_digest_151 (by decide) (fun h_1 => absurd ((c_le (nn_mul (by decide : (4 : Int32).toInt = ((4 : Nat) : Int)) hcO (by omega)) (nI_toInt (n := u) (by omega))).mp h_1) (by omega)) (fun h_1 => ?_)
    refine vv_aload_n F dX8_digest_154 rfl rfl ?_
    refine vv_aload_n F dX8_digest_155 rfl rfl ?_
    refine vv_get 0 F fl_X8_7 dX8_digest_156 rfl rfl ?_
    refine vv_bipush (v := 32) F dX8_digest_159 (by decide) ?_
    refine vv_iload_n F dX8_digest_161 rfl rfl ?_
    refine vv_iadd F dX8_digest_162 ?_
    refine vv_iald 1 F dX8_digest_163 rfl (vv_ixP (j := (32 + u)) (by have hz := (nn_add (by decide : (32 : Int32).toInt = ((32 : Nat) : Int)) (nI_toInt (n := u) (by omega)) (by omega)); omega) (by omega)) ?_
    refine vv_i2l F dX8_digest_164 ?_
    refine vv_callV (As := [.long ((wf (32 + u)).toInt64)]) (rest := []) [0] 0 (ws' := [(qm, .inr (7, [.ref qw, .ref qk, .ref qt, .int txd, .long abv, .long blw, .ref qs, .int atp, .int stp, .int nbr, .ref qi, .ref qp, .ref qh, .ref qb, .int bmy, .ref qa, .ref q6, .long ((31 * hq) + ((wf (32 + u)).toInt64))])), (qw, .inl ((vv_k x).2.1.1, 456, .inl wf))]) F (c_X8_mix (vv_l x) (vv_k x) qm qw qk qt txd abv blw qs atp stp nbr qi qp qh qb bmy qa q6 hq ((wf (32 + u)).toInt64)) mv_X8_269 dX8_digest_165 (by decide) rfl rfl (Nat.le_of_ble_eq_true rfl) rfl (by decide) (Eq.trans (b := [qm]) rfl rfl) rfl rfl ?_
    refine vv_iinc (v := (nI (u + 1))) (lv' := [(1, .int (nI (u + 1))), (0, .ref qm)]) 0 F dX8_digest_168 rfl (nI_1 u) (by decide) rfl ?_
    refine vv_goto (tgt := 141) F dX8_digest_171 (by decide) ?_
    refine vv_lv [0, 1] rfl ?_
    refine vv_ws (ws' := [(qm, .inr (7, [.ref qw, .ref qk, .ref qt, .int txd, .long abv, .long blw, .ref qs, .int atp, .int stp, .int nbr, .ref qi, .ref qp, .ref qh, .ref qb, .int bmy, .ref qa, .ref q6, .long ((31 * hq) + (wf (32 + u)).toInt64)])), (qw, .inl ((vv_k x).2.1.1, 456, .inl wf))]) (by simp only [nI_1]) ?_
    exact ih (u + 1) ((31 * hq) + (wf (32 + u)).toInt64) (by omega) (by rw [itr_s] at kx; exact kx)
noncomputable def st_X8_digest_6 (wf : Nat → Int32) (u : Nat) (s : Int64) : Int64 := ((31 * s) + (wf (57 + u)).toInt64)
theorem L_X8_digest_6 {x : vv_X} (F : vv_F x cX8_digest 2 RX8 3) (qm qw qk qt : Nat) (txd : Int32) (abv blw : Int64) (qs : Nat) (atp stp nbr : Int32) (qi qp qh qb : Nat) (bmy : Int32) (qa q6 : Nat) (wf : Nat → Int32) (cM : Nat) (hcM : ((wf 56)).toInt = (cM : Int)) (hcM6 : cM ≤ 6) : ∀ (n : Nat) (u : Nat) (hq : Int64), u + n = (4 * cM) → vv_V x 2 209 [(1, .int (nI (4 * cM))), (0, .ref qm)] [] [(qm, .inr (7, [.ref qw, .ref qk, .ref qt, .int txd, .long abv, .long blw, .ref qs, .int atp, .int stp, .int nbr, .ref qi, .ref qp, .ref qh, .ref qb, .int bmy, .ref qa, .ref q6, .long (itr (st_X8_digest_6 wf) n u hq)])), (qw, .inl ((vv_k x).2.1.1, 456, .inl wf))] → vv_V x 2 176 [(1, .int (nI u)), (0, .ref qm)] [] [(qm, .inr (7, [.ref qw, .ref qk, .ref qt, .int txd, .long abv, .long blw, .ref qs, .int atp, .int stp, .int nbr, .ref qi, .ref qp, .ref qh, .ref qb, .int bmy, .ref qa, .ref q6, .long hq])), (qw, .inl ((vv_k x).2.1.1, 456, .inl wf))] := by
  intro n
  induction n with
  | zero =>
    intro u hq hu  kx
    refine vv_iload_n F dX8_digest_176 rfl rfl ?_
    refine vv_iconst (v := 4) F dX8_digest_177 (by decide) ?_
    refine vv_aload_n F dX8_digest_178 rfl rfl ?_
    refine vv_get 0 F fl_X8_7 dX8_digest_179 rfl rfl ?_
    refine vv_bipush (v := 56) F dX8_digest_182 (by decide) ?_
    refine vv_iald 1 F dX8_digest_184 rfl (vv_ixP (j := 56) (by decide) (by decide)) ?_
    refine vv_imul F dX8_digest_185 ?_
    refine vv_icmp_ge (tgt := 209) F dX8_digest_186 (by decide) (fun h_1 => ?_) (fun h_1 => absurd ((c_le (nn_mul (by decide : (4 : Int32).toInt = ((4 : Nat) : Int)) hcM (by omega)) (nI_toInt (n := u) (by omega))).mpr (by omega)) h_1)
    obtain rfl : u = (4 * cM) := by omega
    rw [itr_0] at kx
    exact vv_lv [0, 1] rfl kx
  | succ n ih =>
    intro u hq hu  kx
    refine vv_iload_n F dX8_digest_176 rfl rfl ?_
    refine vv_iconst (v := 4) F dX8_digest_177 (by decide) ?_
    refine vv_aload_n F dX8_digest_178 rfl rfl ?_
    refine vv_get 0 F fl_X8_7 dX8_digest_179 rfl rfl ?_
    refine vv_bipush (v := 56) F dX8_digest_182 (by decide) ?_
    refine vv_iald 1 F dX8_digest_184 rfl (vv_ixP (j := 56) (by decide) (by decide)) ?_
    refine vv_imul F dX8_digest_185 ?_
    refine vv_icmp_ge (tgt := 209) F dX8_digest_186 (by decide) (fun h_1 => absurd ((c_le (nn_mul (by decide : (4 : Int32).toInt = ((4 : Nat) : Int)) hcM (by omega)) (nI_toInt (n := u) (by omega))).mp h_1) (by omega)) (fun h_1 => ?_)
    refine vv_aload_n F dX8_digest_189 rfl rfl ?_
    refine vv_aload_n F dX8_digest_190 rfl rfl ?_
    refine vv_get 0 F fl_X8_7 dX8_digest_191 rfl rfl ?_
    refine vv_bipush (v := 57) F dX8_digest_194 (by decide) ?_
    refine vv_iload_n F dX8_digest_196 rfl rfl ?_
    refine vv_iadd F dX8_digest_197 ?_
    refine vv_iald 1 F dX8_digest_198 rfl (vv_ixP (j := (57 + u)) (by have hz := (nn_add (by decide : (57 : Int32).toInt = ((57 : Nat) : Int)) (nI_toInt (n := u) (by omega)) (by omega)); omega) (by omega)) ?_
    refine vv_i2l F dX8_digest_199 ?_
    refine vv_callV (As := [.long ((wf (57 + u)).toInt64)]) (rest := []) [0] 0 (ws' := [(qm, .inr (7, [.ref qw, .ref qk, .ref qt, .int txd, .long abv, .long blw, .ref qs, .int atp, .int stp, .int nbr, .ref qi, .ref qp, .ref qh, .ref qb, .int bmy, .ref qa, .ref q6, .long ((31 * hq) + ((wf (57 + u)).toInt64))])), (qw, .inl ((vv_k x).2.1.1, 456, .inl wf))]) F (c_X8_mix (vv_l x) (vv_k x) qm qw qk qt txd abv blw qs atp stp nbr qi qp qh qb bmy qa q6 hq ((wf (57 + u)).toInt64)) mv_X8_269 dX8_digest_200 (by decide) rfl rfl (Nat.le_of_ble_eq_true rfl) rfl (by decide) (Eq.trans (b := [qm]) rfl rfl) rfl rfl ?_
    refine vv_iinc (v := (nI (u + 1))) (lv' := [(1, .int (nI (u + 1))), (0, .ref qm)]) 0 F dX8_digest_203 rfl (nI_1 u) (by decide) rfl ?_
    refine vv_goto (tgt := 176) F dX8_digest_206 (by decide) ?_
    refine vv_lv [0, 1] rfl ?_
    refine vv_ws (ws' := [(qm, .inr (7, [.ref qw, .ref qk, .ref qt, .int txd, .long abv, .long blw, .ref qs, .int atp, .int stp, .int nbr, .ref qi, .ref qp, .ref qh, .ref qb, .int bmy, .ref qa, .ref q6, .long ((31 * hq) + (wf (57 + u)).toInt64)])), (qw, .inl ((vv_k x).2.1.1, 456, .inl wf))]) (by simp only [nI_1]) ?_
    exact ih (u + 1) ((31 * hq) + (wf (57 + u)).toInt64) (by omega) (by rw [itr_s] at kx; exact kx)
noncomputable def f_X8_digest (txd : Int32) (abv blw : Int64) (wf : Nat → Int32) (cN cC cO cM : Nat) : Int64 := ((31 * ((31 * (itr (st_X8_digest_6 wf) (4 * cM) 0 (itr (st_X8_digest_5 wf) (4 * cO) 0 (itr (st_X8_digest_4 wf) (2 * cC) 0 (itr (st_X8_digest_3 wf) cN 0 (itr (st_X8_digest_2 wf) 7 0 (itr (st_X8_digest_1 txd wf) 6 0 1579))))))) + abv)) + blw)
theorem c_X8_digest (l : Launch) (K : vv_K) (qm qw qk qt : Nat) (txd : Int32) (abv blw : Int64) (qs : Nat) (atp stp nbr : Int32) (qi qp qh qb : Nat) (bmy : Int32) (qa q6 : Nat) (hsh : Int64) (wf : Nat → Int32) (cN cC cO cM : Nat) (hcN : ((wf 0)).toInt = (cN : Int)) (hcC : ((wf 18)).toInt = (cC : Int)) (hcO : ((wf 31)).toInt = (cO : Int)) (hcM : ((wf 56)).toInt = (cM : Int)) (hcN5 : cN ≤ 5) (hcC6 : cC ≤ 6) (hcO6 : cO ≤ 6) (hcM6 : cM ≤ 6)  : vv_C l K 3 yX8_digest cX8_digest 2 (some .long) [.ref qm] [(qm, .inr (7, [.ref qw, .ref qk, .ref qt, .int txd, .long abv, .long blw, .ref qs, .int atp, .int stp, .int nbr, .ref qi, .ref qp, .ref qh, .ref qb, .int bmy, .ref qa, .ref q6, .long hsh])), (qw, .inl (K.2.1.1, 456, .inl wf))] (some (.long (f_X8_digest txd abv blw wf cN cC cO cM))) [(qm, .inr (7, [.ref qw, .ref qk, .ref qt, .int txd, .long abv, .long blw, .ref qs, .int atp, .int stp, .int nbr, .ref qi, .ref qp, .ref qh, .ref qb, .int bmy, .ref qa, .ref q6, .long ((31 * ((31 * (itr (st_X8_digest_6 wf) (4 * cM) 0 (itr (st_X8_digest_5 wf) (4 * cO) 0 (itr (st_X8_digest_4 wf) (2 * cC) 0 (itr (st_X8_digest_3 wf) cN 0 (itr (st_X8_digest_2 wf) 7 0 (itr (st_X8_digest_1 txd wf) 6 0 1579))))))) + abv)) + blw)])), (qw, .inl (K.2.1.1, 456, .inl wf))] := by
  refine vv_C.of (lv := [(0, .ref qm)]) (by decide +kernel) (Nat.le_of_ble_eq_true rfl) rfl ?_
  intro x hl hK F hR; subst hl; obtain rfl := hK
  refine vv_aload_n F dX8_digest_0 rfl rfl ?_
  refine vv_ldc2 F cl_X8_267 dX8_digest_1 ?_
  refine vv_put 0 (ws' := [(qm, .inr (7, [.ref qw, .ref qk, .ref qt, .int txd, .long abv, .long blw, .ref qs, .int atp, .int stp, .int nbr, .ref qi, .ref qp, .ref qh, .ref qb, .int bmy, .ref qa, .ref q6, .long 1579])), (qw, .inl ((vv_k x).2.1.1, 456, .inl wf))]) F fl_X8_264 dX8_digest_4 rfl rfl rfl (Nat.le_of_ble_eq_true rfl) rfl ?_
  refine vv_iconst (v := 0) F dX8_digest_7 (by decide) ?_
  refine vv_istore_n (lv' := [(1, .int 0), (0, .ref qm)]) F dX8_digest_8 rfl (by decide) rfl ?_
  refine vv_lv (lv' := [(1, .int 0), (0, .ref qm)]) [0, 1] rfl ?_
  refine L_X8_digest_1 F qm qw qk qt txd abv blw qs atp stp nbr qi qp qh qb bmy qa q6 wf 6 0 1579 (by omega) ?_
  refine vv_iconst (v := 0) F dX8_digest_31 (by decide) ?_
  refine vv_istore_n (lv' := [(1, .int 0), (0, .ref qm)]) F dX8_digest_32 rfl (by decide) rfl ?_
  refine vv_lv (lv' := [(1, .int 0), (0, .ref qm)]) [0, 1] rfl ?_
  refine L_X8_digest_2 F qm qw qk qt txd abv blw qs atp stp nbr qi qp qh qb bmy qa q6 wf 7 0 (itr (st_X8_digest_1 txd wf) 6 0 1579) (by omega) ?_
  refine vv_iconst (v := 0) F dX8_digest_59 (by decide) ?_
  refine vv_istore_n (lv' := [(1, .int 0), (0, .ref qm)]) F dX8_digest_60 rfl (by decide) rfl ?_
  refine vv_lv (lv' := [(1, .int 0), (0, .ref qm)]) [0, 1] rfl ?_
  refine L_X8_digest_3 F qm qw qk qt txd abv blw qs atp stp nbr qi qp qh qb bmy qa q6 wf cN hcN (by omega) cN 0 (itr (st_X8_digest_2 wf) 7 0 (itr (st_X8_digest_1 txd wf) 6 0 1579)) (by omega) ?_
  refine vv_iconst (v := 0) F dX8_digest_104 (by decide) ?_
  refine vv_istore_n (lv' := [(1, .int 0), (0, .ref qm)]) F dX8_digest_105 rfl (by decide) rfl ?_
  refine vv_lv (lv' := [(1, .int 0), (0, .ref qm)]) [0, 1] rfl ?_
  refine L_X8_digest_4 F qm qw qk qt txd abv blw qs atp stp nbr qi qp qh qb bmy qa q6 wf cC hcC (by omega) (2 * cC) 0 (itr (st_X8_digest_3 wf) cN 0 (itr (st_X8_digest_2 wf) 7 0 (itr (st_X8_digest_1 txd wf) 6 0 1579))) (by omega) ?_
  refine vv_iconst (v := 0) F dX8_digest_139 (by decide) ?_
  refine vv_istore_n (lv' := [(1, .int 0), (0, .ref qm)]) F dX8_digest_140 rfl (by decide) rfl ?_
  refine vv_lv (lv' := [(1, .int 0), (0, .ref qm)]) [0, 1] rfl ?_
  refine L_X8_digest_5 F qm qw qk qt txd abv blw qs atp stp nbr qi qp qh qb bmy qa q6 wf cO hcO (by omega) (4 * cO) 0 (itr (st_X8_digest_4 wf) (2 * cC) 0 (itr (st_X8_digest_3 wf) cN 0 (itr (st_X8_digest_2 wf) 7 0 (itr (st_X8_digest_1 txd wf) 6 0 1579)))) (by omega) ?_
  refine vv_iconst (v := 0) F dX8_digest_174 (by decide) ?_
  refine vv_istore_n (lv' := [(1, .int 0), (0, .ref qm)]) F dX8_digest_175 rfl (by decide) rfl ?_
  refine vv_lv (lv' := [(1, .int 0), (0, .ref qm)]) [0, 1] rfl ?_
  refine L_X8_digest_6 F qm qw qk qt txd abv blw qs atp stp nbr qi qp qh qb bmy qa q6 wf cM hcM (by omega) (4 * cM) 0 (itr (st_X8_digest_5 wf) (4 * cO) 0 (itr (st_X8_digest_4 wf) (2 * cC) 0 (itr (st_X8_digest_3 wf) cN 0 (itr (st_X8_digest_2 wf) 7 0 (itr (st_X8_digest_1 txd wf) 6 0 1579))))) (by omega) ?_
  refine vv_aload_n F dX8_digest_209 rfl rfl ?_
  refine vv_aload_n F dX8_digest_210 rfl rfl ?_
  refine vv_get 0 F fl_X8_20 dX8_digest_211 rfl rfl ?_
  refine vv_callV (As := [.long abv]) (rest := []) [0] 0 (ws' := [(qm, .inr (7, [.ref qw, .ref qk, .ref qt, .int txd, .long abv, .long blw, .ref qs, .int atp, .int stp, .int nbr, .ref qi, .ref qp, .ref qh, .ref qb, .int bmy, .ref qa, .ref q6, .long ((31 * (itr (st_X8_digest_6 wf) (4 * cM) 0 (itr (st_X8_digest_5 wf) (4 * cO) 0 (itr (st_X8_digest_4 wf) (2 * cC) 0 (itr (st_X8_digest_3 wf) cN 0 (itr (st_X8_digest_2 wf) 7 0 (itr (st_X8_digest_1 txd wf) 6 0 1579))))))) + abv)])), (qw, .inl ((vv_k x).2.1.1, 456, .inl wf))]) F (c_X8_mix (vv_l x) (vv_k x) qm qw qk qt txd abv blw qs atp stp nbr qi qp qh qb bmy qa q6 (itr (st_X8_digest_6 wf) (4 * cM) 0 (itr (st_X8_digest_5 wf) (4 * cO) 0 (itr (st_X8_digest_4 wf) (2 * cC) 0 (itr (st_X8_digest_3 wf) cN 0 (itr (st_X8_digest_2 wf) 7 0 (itr (st_X8_digest_1 txd wf) 6 0 1579)))))) abv) mv_X8_269 dX8_digest_214 (by decide) rfl rfl (Nat.le_of_ble_eq_true rfl) rfl (by decide) (Eq.trans (b := [qm]) rfl rfl) rfl rfl ?_
  refine vv_aload_n F dX8_digest_217 rfl rfl ?_
  refine vv_aload_n F dX8_digest_218 rfl rfl ?_
  refine vv_get 0 F fl_X8_24 dX8_digest_219 rfl rfl ?_
  refine vv_callV (As := [.long blw]) (rest := []) [0] 0 (ws' := [(qm, .inr (7, [.ref qw, .ref qk, .ref qt, .int txd, .long abv, .long blw, .ref qs, .int atp, .int stp, .int nbr, .ref qi, .ref qp, .ref qh, .ref qb, .int bmy, .ref qa, .ref q6, .long ((31 * ((31 * (itr (st_X8_digest_6 wf) (4 * cM) 0 (itr (st_X8_digest_5 wf) (4 * cO) 0 (itr (st_X8_digest_4 wf) (2 * cC) 0 (itr (st_X8_digest_3 wf) cN 0 (itr (st_X8_digest_2 wf) 7 0 (itr (st_X8_digest_1 txd wf) 6 0 1579))))))) + abv)) + blw)])), (qw, .inl ((vv_k x).2.1.1, 456, .inl wf))]) F (c_X8_mix (vv_l x) (vv_k x) qm qw qk qt txd abv blw qs atp stp nbr qi qp qh qb bmy qa q6 ((31 * (itr (st_X8_digest_6 wf) (4 * cM) 0 (itr (st_X8_digest_5 wf) (4 * cO) 0 (itr (st_X8_digest_4 wf) (2 * cC) 0 (itr (st_X8_digest_3 wf) cN 0 (itr (st_X8_digest_2 wf) 7 0 (itr (st_X8_digest_1 txd wf) 6 0 1579))))))) + abv) blw) mv_X8_269 dX8_digest_222 (by decide) rfl rfl (Nat.le_of_ble_eq_true rfl) rfl (by decide) (Eq.trans (b := [qm]) rfl rfl) rfl rfl ?_
  refine vv_aload_n F dX8_digest_225 rfl rfl ?_
  refine vv_get 0 F fl_X8_264 dX8_digest_226 rfl rfl ?_
  exact vv_lret F hR dX8_digest_229 rfl rfl
