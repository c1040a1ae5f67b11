theorem gcd_st (p q : Nat) : Nat.gcd p q = Nat.gcd q (p % q) := by
  rw [Nat.gcd_comm p q, Nat.gcd_rec q p, Nat.gcd_comm]
theorem lN_0 {q : Nat} (h : q < 2147483648) : lN q = 0 ↔ q = 0 := by
  have e : (0 : Int64) = lN 0 := rfl
  rw [e]; exact lN_eq h (by decide)
theorem remL_nn {p q : Nat} (hp : p < 2147483648) (hq : q < 2147483648) (h0 : ¬ lN q = 0) : vv_remL (lN p) (lN q) = lN (p % q) := by
  unfold vv_remL
  exact pk_lRem (by omega) (Nat.pos_of_ne_zero fun z => h0 ((lN_0 hq).mpr z)) (by omega)
theorem nn_eq {a : Int32} {k : Nat} (h : a.toInt = (k : Int)) (hk : k < 2147483648) : a = nI k := Int32.toInt_inj.mp (by rw [h, nI_toInt hk])
/-- from p on, as long as Q holds: at most n places -/
noncomputable def skp (Q : Nat → Bool) (n p : Nat) : Nat := itr (fun _ q => if Q q = true then q + 1 else q) n 0 p
theorem skp_0 {Q : Nat → Bool} {p : Nat} : skp Q 0 p = p := itr_0
theorem itr_u {σ : Type} {f : σ → σ} : ∀ (n u v : Nat) (s : σ), itr (fun _ => f) n u s = itr (fun _ => f) n v s
  | 0, u, v, s => by rw [itr_0, itr_0]
  | n + 1, u, v, s => by rw [itr_s, itr_s]; exact itr_u n _ _ _
theorem skp_t {Q : Nat → Bool} {n p : Nat} (h : Q p = true) : skp Q (n + 1) p = skp Q n (p + 1) := by
  unfold skp; rw [itr_s, if_pos h]; exact itr_u _ _ _ _
theorem skp_f {Q : Nat → Bool} {n p : Nat} (h : ¬ Q p = true) : skp Q n p = p := by
  unfold skp; exact itr_abs (f := fun _ q => if Q q = true then q + 1 else q) (s := p) fun _ => if_neg h
theorem skp_le {Q : Nat → Bool} {t : Nat} (hQ : ∀ q, Q q = true → q < t) : ∀ (n p : Nat), p ≤ skp Q n p ∧ (skp Q n p ≤ t ∨ skp Q n p = p)
  | 0, p => by rw [skp_0]; omega
  | n + 1, p => by
    by_cases h : Q p = true
    · rw [skp_t h]
      have h1 := skp_le hQ n (p + 1)
      have h2 := hQ p h
      omega
    · rw [skp_f h]; omega
/-- the reference's byte, and what it skips -/
noncomputable def bQ (td : Int32) (tx : Nat → Int32) (q : Nat) : Bool := decide (f_X8_byteAt td tx (nI q) q = 32)
noncomputable def wQ (td : Int32) (tx : Nat → Int32) (q : Nat) : Bool := decide (p_X8_in (f_X8_byteAt td tx (nI q) q).toInt64 97 122)
noncomputable def dQ (td : Int32) (tx : Nat → Int32) (q : Nat) : Bool := decide (p_X8_in (f_X8_byteAt td tx (nI q) q).toInt64 48 57)
theorem by_end {td : Int32} {tx : Nat → Int32} {t q : Nat} (ht : td.toInt = (t : Int)) (h : t ≤ q) (hq : q < 2147483648) : f_X8_byteAt td tx (nI q) q = -1 := if_pos ((c_le ht (nI_toInt hq)).mpr h)
theorem bQ_lt {td : Int32} {tx : Nat → Int32} {t q : Nat} (ht : td.toInt = (t : Int)) (hq : q < 2147483648) (h : bQ td tx q = true) : q < t := by
  rcases Nat.lt_or_ge q t with z | z
  · exact z
  · unfold bQ at h; rw [by_end ht z hq] at h; exact absurd h (by decide)
theorem wQ_lt {td : Int32} {tx : Nat → Int32} {t q : Nat} (ht : td.toInt = (t : Int)) (hq : q < 2147483648) (h : wQ td tx q = true) : q < t := by
  rcases Nat.lt_or_ge q t with z | z
  · exact z
  · unfold wQ at h; rw [by_end ht z hq] at h; exact absurd h (by decide +kernel)
theorem dQ_lt {td : Int32} {tx : Nat → Int32} {t q : Nat} (ht : td.toInt = (t : Int)) (hq : q < 2147483648) (h : dQ td tx q = true) : q < t := by
  rcases Nat.lt_or_ge q t with z | z
  · exact z
  · unfold dQ at h; rw [by_end ht z hq] at h; exact absurd h (by decide +kernel)
noncomputable def st_X8_scissors (wf : Nat → Int32) (c : Int32) (u : Nat) (s : Int64) : Int64 := (s + ((c * (f_X8_bringsBy ((wf (6 + u)) / 2) (wf 11))) + ((10 - c) * (f_X8_bringsIn wf 0 u))).toInt64)
theorem L_X8_scissors {x : vv_X} (F : vv_F x cX8_scissors 10 RX8 3) (qm qw qk qt : Nat) (txd : Int32) (abv blw : Int64) (qs : Nat) (atp stp nbr : Int32) (qi qp qh qb : Nat) (bmy : Int32) (qa q6 : Nat) (hsh : Int64) (wf ss : Nat → Int32) (c : Int32) (cN : Nat) (hcN : ((wf 0)).toInt = (cN : Int)) (hcN5 : cN ≤ 5) : ∀ (n : Nat) (u : Nat) (up : Int64), u + n = cN → vv_V x 10 82 [(4, .int (nI cN)), (2, .long (itr (st_X8_scissors wf c) n u up)), (0, .ref qm), (1, .int c)] [] [(qm, .inr (7, [.ref qw, .ref qk, .ref qt, .int txd, .long abv, .long blw, .ref qs, .int atp, .int stp, .int nbr, .ref qi, .ref qp, .ref qh, .ref qb, .int bmy, .ref qa, .ref q6, .long hsh])), (qw, .inl ((vv_k x).2.1.1, 456, .inl wf)), (qs, .inl ((vv_k x).2.1.1, 3, .inl ss))] → vv_V x 10 24 [(4, .int (nI u)), (2, .long up), (0, .ref qm), (1, .int c)] [] [(qm, .inr (7, [.ref qw, .ref qk, .ref qt, .int txd, .long abv, .long blw, .ref qs, .int atp, .int stp, .int nbr, .ref qi, .ref qp, .ref qh, .ref qb, .int bmy, .ref qa, .ref q6, .long hsh])), (qw, .inl ((vv_k x).2.1.1, 456, .inl wf)), (qs, .inl ((vv_k x).2.1.1, 3, .inl ss))] := by
  intro n
  induction n with
  | zero =>
    intro u up hu  kx
    refine vv_iload F dX8_scissors_24 rfl ?_
    refine vv_aload_n F dX8_scissors_26 rfl rfl ?_
    refine vv_get 0 F fl_X8_7 dX8_scissors_27 rfl rfl ?_
    refine vv_iconst (v := 0) F dX8_scissors_30 (by decide) ?_
    refine vv_iald 1 F dX8_scissors_31 rfl (vv_ixP (j := 0) (by decide) (by decide)) ?_
    refine vv_icmp_ge (tgt := 82) F dX8_scissors_32 (by decide) (fun h_1 => ?_) (fun h_1 => absurd ((c_le hcN (nI_toInt (n := u) (by omega))).mpr (by omega)) h_1)
    obtain rfl : u = cN := by omega
    rw [itr_0] at kx
    exact vv_lv [0, 1, 2, 3] rfl kx
  | succ n ih =>
    intro u up hu  kx
    refine vv_iload F dX8_scissors_24 rfl ?_
    refine vv_aload_n F dX8_scissors_26 rfl rfl ?_
    refine vv_get 0 F fl_X8_7 dX8_scissors_27 rfl rfl ?_
    refine vv_iconst (v := 0) F dX8_scissors_30 (by decide) ?_
    refine vv_iald 1 F dX8_scissors_31 rfl (vv_ixP (j := 0) (by decide) (by decide)) ?_
    refine vv_icmp_ge (tgt := 82) F dX8_scissors_32 (by decide) (fun h_1 => absurd ((c_le hcN (nI_toInt (n := u) (by omega))).mp h_1) (by omega)) (fun h_1 => ?_)
    refine vv_lload_n F dX8_scissors_35 rfl rfl ?_
    refine vv_iload_n F dX8_scissors_36 rfl rfl ?_
    refine vv_aload_n F dX8_scissors_37 rfl rfl ?_
    refine vv_get 0 F fl_X8_7 dX8_scissors_38 rfl rfl ?_
    refine vv_bipush (v := 6) F dX8_scissors_41 (by decide) ?_
    refine vv_iload F dX8_scissors_43 rfl ?_
    refine vv_iadd F dX8_scissors_45 ?_
    refine vv_iald 1 F dX8_scissors_46 rfl (vv_ixP (j := (6 + u)) (by have hz := (nn_add (by decide : (6 : Int32).toInt = ((6 : Nat) : Int)) (nI_toInt (n := u) (by omega)) (by omega)); omega) (by omega)) ?_
    refine vv_iconst (v := 2) F dX8_scissors_47 (by decide) ?_
    refine vv_idiv F dX8_scissors_48 (by decide) ?_
    refine vv_aload_n F dX8_scissors_49 rfl rfl ?_
    refine vv_get 0 F fl_X8_7 dX8_scissors_50 rfl rfl ?_
    refine vv_bipush (v := 11) F dX8_scissors_53 (by decide) ?_
    refine vv_iald 1 F dX8_scissors_55 rfl (vv_ixP (j := 11) (by decide) (by decide)) ?_
    refine vv_callSp (As := [.int ((wf (6 + u)) / 2), .int (wf 11)]) (rest := [.int c, .long up]) [] F (c_X8_bringsBy (vv_l x) (vv_k x) ((wf (6 + u)) / 2) (wf 11)) ms_X8_188 dX8_scissors_56 (by decide) rfl rfl (Nat.le_of_ble_eq_true rfl) rfl (by decide) ?_
    refine vv_imul F dX8_scissors_59 ?_
    refine vv_bipush (v := 10) F dX8_scissors_60 (by decide) ?_
    refine vv_iload_n F dX8_scissors_62 rfl rfl ?_
    refine vv_isub F dX8_scissors_63 ?_
    refine vv_aload_n F dX8_scissors_64 rfl rfl ?_
    refine vv_iconst (v := 0) F dX8_scissors_65 (by decide) ?_
    refine vv_iload F dX8_scissors_66 rfl ?_
    refine vv_callVp (As := [.int 0, .int (nI u)]) (rest := [.int (10 - c), .int (c * (f_X8_bringsBy ((wf (6 + u)) / 2) (wf 11))), .long up]) [0, 1] 0 F (c_X8_bringsIn (vv_l x) (vv_k x) qm qw qk qt txd abv blw qs atp stp nbr qi qp qh qb bmy qa q6 hsh wf 0 (nI u) 0 u (by decide : (0 : Int32).toInt = ((0 : Nat) : Int)) (nI_toInt (n := u) (by omega)) (by omega) (by omega)) mv_X8_194 dX8_scissors_68 (by decide) rfl rfl (Nat.le_of_ble_eq_true rfl) rfl (by decide) rfl ?_
    refine vv_imul F dX8_scissors_71 ?_
    refine vv_iadd F dX8_scissors_72 ?_
    refine vv_i2l F dX8_scissors_73 ?_
    refine vv_ladd F dX8_scissors_74 ?_
    refine vv_lstore_n (lv' := [(2, .long (up + (((c * (f_X8_bringsBy ((wf (6 + u)) / 2) (wf 11))) + ((10 - c) * (f_X8_bringsIn wf 0 u))).toInt64))), (4, .int (nI u)), (0, .ref qm), (1, .int c)]) F dX8_scissors_75 rfl (by decide) rfl ?_
    refine vv_iinc (v := (nI (u + 1))) (lv' := [(4, .int (nI (u + 1))), (2, .long (up + (((c * (f_X8_bringsBy ((wf (6 + u)) / 2) (wf 11))) + ((10 - c) * (f_X8_bringsIn wf 0 u))).toInt64))), (0, .ref qm), (1, .int c)]) 1 F dX8_scissors_76 rfl (nI_1 u) (by decide) rfl ?_
    refine vv_goto (tgt := 24) F dX8_scissors_79 (by decide) ?_
    refine vv_lv (lv' := [(4, .int (nI (u + 1))), (2, .long (up + (((c * (f_X8_bringsBy ((wf (6 + u)) / 2) (wf 11))) + ((10 - c) * (f_X8_bringsIn wf 0 u))).toInt64))), (0, .ref qm), (1, .int c)]) [0, 1, 2, 3] rfl ?_
    refine vv_lvE (lv' := [(4, .int (nI (u + 1))), (2, .long (up + ((c * (f_X8_bringsBy ((wf (6 + u)) / 2) (wf 11))) + ((10 - c) * (f_X8_bringsIn wf 0 u))).toInt64)), (0, .ref qm), (1, .int c)]) (by rfl) ?_
    exact ih (u + 1) (up + ((c * (f_X8_bringsBy ((wf (6 + u)) / 2) (wf 11))) + ((10 - c) * (f_X8_bringsIn wf 0 u))).toInt64) (by omega) (by rw [itr_s] at kx; exact kx)
theorem L_X8_gcd {x : vv_X} (F : vv_F x cX8_scissors 10 RX8 3) (qm qw qk qt : Nat) (txd : Int32) (abv blw : Int64) (qs : Nat) (atp stp nbr : Int32) (qi qp qh qb : Nat) (bmy : Int32) (qa q6 : Nat) (hsh : Int64) (wf ss : Nat → Int32) (c : Int32) (w : Nat)  : ∀ (n : Nat) (p : Nat) (k : Nat), k ≤ n → k < 2147483648 → p < 2147483648 → vv_V x 10 115 [(4, .long (lN (Nat.gcd p k))), (2, .long (lN w)), (0, .ref qm), (1, .int c)] [] [(qm, .inr (7, [.ref qw, .ref qk, .ref qt, .int txd, .long abv, .long blw, .ref qs, .int atp, .int stp, .int nbr, .ref qi, .ref qp, .ref qh, .ref qb, .int bmy, .ref qa, .ref q6, .long hsh])), (qw, .inl ((vv_k x).2.1.1, 456, .inl wf)), (qs, .inl ((vv_k x).2.1.1, 3, .inl ss))] → vv_V x 10 90 [(6, .long (lN k)), (4, .long (lN p)), (2, .long (lN w)), (0, .ref qm), (1, .int c)] [] [(qm, .inr (7, [.ref qw, .ref qk, .ref qt, .int txd, .long abv, .long blw, .ref qs, .int atp, .int stp, .int nbr, .ref qi, .ref qp, .ref qh, .ref qb, .int bmy, .ref qa, .ref q6, .long hsh])), (qw, .inl ((vv_k x).2.1.1, 456, .inl wf)), (qs, .inl ((vv_k x).2.1.1, 3, .inl ss))] := by
  intro n
  induction n with
  | zero =>
    intro p k hk hk2 hp  kx
    refine vv_lload F dX8_scissors_90 rfl ?_
    refine vv_lconst (v := 0) F dX8_scissors_92 (by decide) ?_
    refine vv_lcmp_eq (tgt := 115) F dX8_scissors_93 dX8_scissors_94 (by decide) (fun h_1 => ?_) (fun h_1 => absurd ((lN_0 (by omega)).mpr (by omega)) h_1)
    obtain rfl : k = 0 := by omega
    rw [Nat.gcd_zero_right] at kx
    exact vv_lv [1, 2, 3, 4] rfl kx
  | succ n ih =>
    intro p k hk hk2 hp  kx
    refine vv_lload F dX8_scissors_90 rfl ?_
    refine vv_lconst (v := 0) F dX8_scissors_92 (by decide) ?_
    refine vv_lcmp_eq (tgt := 115) F dX8_scissors_93 dX8_scissors_94 (by decide) (fun h_1 => ?_) (fun h_1 => ?_)
    · obtain rfl : k = 0 := (lN_0 (by omega)).mp h_1
      rw [Nat.gcd_zero_right] at kx
      exact vv_lv [1, 2, 3, 4] rfl kx
    · refine vv_lload F dX8_scissors_97 rfl ?_
      refine vv_lload F dX8_scissors_99 rfl ?_
      refine vv_lremR F dX8_scissors_101 h_1 ?_
      refine vv_topl (lN (p % k)) (remL_nn hp hk2 h_1) ?_
      refine vv_lstore (lv' := [(8, .long (lN (p % k))), (6, .long (lN k)), (4, .long (lN p)), (2, .long (lN w)), (0, .ref qm), (1, .int c)]) F dX8_scissors_102 (by decide) rfl ?_
      refine vv_lload F dX8_scissors_104 rfl ?_
      refine vv_lstore (lv' := [(4, .long (lN k)), (8, .long (lN (p % k))), (6, .long (lN k)), (2, .long (lN w)), (0, .ref qm), (1, .int c)]) F dX8_scissors_106 (by decide) rfl ?_
      refine vv_lload F dX8_scissors_108 rfl ?_
      refine vv_lstore (lv' := [(6, .long (lN (p % k))), (4, .long (lN k)), (8, .long (lN (p % k))), (2, .long (lN w)), (0, .ref qm), (1, .int c)]) F dX8_scissors_110 (by decide) rfl ?_
      refine vv_goto (tgt := 90) F dX8_scissors_112 (by decide) ?_
      have hk0 : ¬ k = 0 := fun z => h_1 ((lN_0 (by omega)).mpr z)
      have hml : p % k < k := Nat.mod_lt p (Nat.pos_of_ne_zero hk0)
      refine vv_lv [0, 1, 3, 4, 5] rfl ?_
      exact ih k (p % k) (by omega) (by omega) (by omega) (by rw [gcd_st] at kx; exact kx)
noncomputable def f_X8_scissors (c : Int32) : Int32 := (if p_X8_in c.toInt64 0 10 then 1 else (-2))
noncomputable def g_X8_scissors_0_4 (abv : Int64) (c : Int32) (w : Nat) : Int64 := (if p_X8_in c.toInt64 0 10 then ((lN w) / (lN (Nat.gcd w 10))) else abv)
noncomputable def g_X8_scissors_0_5 (blw : Int64) (c : Int32) (w : Nat) : Int64 := (if p_X8_in c.toInt64 0 10 then (10 / (lN (Nat.gcd w 10))) else blw)
noncomputable def g_X8_scissors_2 (ss : Nat → Int32) (c : Int32) : Nat → Int32 := (if p_X8_in c.toInt64 0 10 then ss else (upd ss 0 ((ss 0) + 1)))
theorem c_X8_scissors (l : Launch) (K : vv_K) (qm qw qk qt : Nat) (txd : Int32) (abv blw : Int64) (qs : Nat) (atp stp nbr : Int32) (qi qp qh qb : Nat) (bmy : Int32) (qa q6 : Nat) (hsh : Int64) (wf ss : Nat → Int32) (c : Int32) (w : Nat) (cN : Nat) (hcN : ((wf 0)).toInt = (cN : Int)) (hcN5 : cN ≤ 5) (hsum : p_X8_in c.toInt64 0 10 → (itr (st_X8_scissors wf c) cN 0 0) = lN w) (hw : w < 2147483648) : vv_C l K 3 yX8_scissors cX8_scissors 10 (some .int) [.ref qm, .int c] [(qm, .inr (7, [.ref qw, .ref qk, .ref qt, .int txd, .long abv, .long blw, .ref qs, .int atp, .int stp, .int nbr, .ref qi, .ref qp, .ref qh, .ref qb, .int bmy, .ref qa, .ref q6, .long hsh])), (qw, .inl (K.2.1.1, 456, .inl wf)), (qs, .inl (K.2.1.1, 3, .inl ss))] (some (.int (f_X8_scissors c))) [(qm, .inr (7, [.ref qw, .ref qk, .ref qt, .int txd, .long (g_X8_scissors_0_4 abv c w), .long (g_X8_scissors_0_5 blw c w), .ref qs, .int atp, .int stp, .int nbr, .ref qi, .ref qp, .ref qh, .ref qb, .int bmy, .ref qa, .ref q6, .long hsh])), (qw, .inl (K.2.1.1, 456, .inl wf)), (qs, .inl (K.2.1.1, 3, .inl (g_X8_scissors_2 ss c)))] := by
  refine vv_C.of (lv := [(0, .ref qm), (1, .int c)]) (by decide +kernel) (Nat.le_of_ble_eq_true rfl) rfl ?_
  intro x hl hK F hR; subst hl; obtain rfl := hK
  refine vv_iload_n F dX8_scissors_0 rfl rfl ?_
  refine vv_i2l F dX8_scissors_1 ?_
  refine vv_lconst (v := 0) F dX8_scissors_2 (by decide) ?_
  refine vv_ldc2 F cl_X8_247 dX8_scissors_3 ?_
  refine vv_callSp (As := [.long c.toInt64, .long 0, .long 10]) (rest := []) [] F (c_X8_in (vv_l x) (vv_k x) c.toInt64 0 10) ms_X8_56 dX8_scissors_6 (by decide) rfl rfl (Nat.le_of_ble_eq_true rfl) rfl (by decide) ?_
  refine vv_ifz_ne (tgt := 19) F dX8_scissors_9 (by decide) (fun h_1 => ?_) (fun h_1 => ?_)
  · have h_1r := in_rng (a := 0) (b := 10) (by decide) (by decide) h_1
    have h_1c := nn_cl (a := c) (by omega)
    refine vv_lconst (v := 0) F dX8_scissors_19 (by decide) ?_
    refine vv_lstore_n (lv' := [(2, .long 0), (0, .ref qm), (1, .int c)]) F dX8_scissors_20 rfl (by decide) rfl ?_
    refine vv_iconst (v := 0) F dX8_scissors_21 (by decide) ?_
    refine vv_istore (lv' := [(4, .int 0), (2, .long 0), (0, .ref qm), (1, .int c)]) F dX8_scissors_22 (by decide) rfl ?_
    refine vv_lv (lv' := [(4, .int 0), (2, .long 0), (0, .ref qm), (1, .int c)]) [0, 1, 2, 3] rfl ?_
    refine L_X8_scissors F qm qw qk qt txd abv blw qs atp stp nbr qi qp qh qb bmy qa q6 hsh wf ss c cN hcN (by omega) cN 0 0 (by omega) ?_
    refine vv_lload_n F dX8_scissors_82 rfl rfl ?_
    refine vv_lstore (lv' := [(4, .long (itr (st_X8_scissors wf c) cN 0 0)), (2, .long (itr (st_X8_scissors wf c) cN 0 0)), (0, .ref qm), (1, .int c)]) F dX8_scissors_83 (by decide) rfl ?_
    refine vv_ldc2 F cl_X8_247 dX8_scissors_85 ?_
    refine vv_lstore (lv' := [(6, .long 10), (4, .long (itr (st_X8_scissors wf c) cN 0 0)), (2, .long (itr (st_X8_scissors wf c) cN 0 0)), (0, .ref qm), (1, .int c)]) F dX8_scissors_88 (by decide) rfl ?_
    refine vv_lv (lv' := [(6, .long 10), (4, .long (itr (st_X8_scissors wf c) cN 0 0)), (2, .long (itr (st_X8_scissors wf c) cN 0 0)), (0, .ref qm), (1, .int c)]) [0, 1, 2, 3, 4] rfl ?_
    refine vv_lvE (lv' := [(6, .long (lN 10)), (4, .long (lN w)), (2, .long (lN w)), (0, .ref qm), (1, .int c)]) (by rw [hsum h_1]; rfl) ?_
    refine L_X8_gcd F qm qw qk qt txd abv blw qs atp stp nbr qi qp qh qb bmy qa q6 hsh wf ss c w 10 w 10 (by omega) (by omega) hw ?_
    refine vv_aload_n F dX8_scissors_115 rfl rfl ?_
    refine vv_lload_n F dX8_scissors_116 rfl rfl ?_
    refine vv_lload F dX8_scissors_117 rfl ?_
    refine vv_ldiv F dX8_scissors_119 (fun z => absurd ((lN_0 (Nat.lt_of_le_of_lt (Nat.gcd_le_right w (by decide)) (by decide))).mp z) (Nat.pos_iff_ne_zero.mp (Nat.gcd_pos_of_pos_right w (by decide)))) ?_
    refine vv_put 0 (ws' := [(qm, .inr (7, [.ref qw, .ref qk, .ref qt, .int txd, .long ((lN w) / (lN (Nat.gcd w 10))), .long blw, .ref qs, .int atp, .int stp, .int nbr, .ref qi, .ref qp, .ref qh, .ref qb, .int bmy, .ref qa, .ref q6, .long hsh])), (qw, .inl ((vv_k x).2.1.1, 456, .inl wf)), (qs, .inl ((vv_k x).2.1.1, 3, .inl ss))]) F fl_X8_20 dX8_scissors_120 rfl rfl rfl (Nat.le_of_ble_eq_true rfl) rfl ?_
    refine vv_aload_n F dX8_scissors_123 rfl rfl ?_
    refine vv_ldc2 F cl_X8_247 dX8_scissors_124 ?_
    refine vv_lload F dX8_scissors_127 rfl ?_
    refine vv_ldiv F dX8_scissors_129 (fun z => absurd ((lN_0 (Nat.lt_of_le_of_lt (Nat.gcd_le_right w (by decide)) (by decide))).mp z) (Nat.pos_iff_ne_zero.mp (Nat.gcd_pos_of_pos_right w (by decide)))) ?_
    refine vv_put 0 (ws' := [(qm, .inr (7, [.ref qw, .ref qk, .ref qt, .int txd, .long ((lN w) / (lN (Nat.gcd w 10))), .long (10 / (lN (Nat.gcd w 10))), .ref qs, .int atp, .int stp, .int nbr, .ref qi, .ref qp, .ref qh, .ref qb, .int bmy, .ref qa, .ref q6, .long hsh])), (qw, .inl ((vv_k x).2.1.1, 456, .inl wf)), (qs, .inl ((vv_k x).2.1.1, 3, .inl ss))]) F fl_X8_24 dX8_scissors_130 rfl rfl rfl (Nat.le_of_ble_eq_true rfl) rfl ?_
    refine vv_iconst (v := 1) F dX8_scissors_133 (by decide) ?_
    exact vv_iret F hR dX8_scissors_134 (congrArg (fun z => some (Value.int z)) ((if_pos h_1).trans rfl)) (by simp only [g_X8_scissors_0_4, g_X8_scissors_0_5, g_X8_scissors_2, if_pos h_1])
  · refine vv_aload_n F dX8_scissors_12 rfl rfl ?_
    refine vv_bipush (v := (-2)) F dX8_scissors_13 (by decide) ?_
    refine vv_callV (As := [.int (-2)]) (rest := []) [0, 2] 0 (ws' := [(qm, .inr (7, [.ref qw, .ref qk, .ref qt, .int txd, .long abv, .long blw, .ref qs, .int atp, .int stp, .int nbr, .ref qi, .ref qp, .ref qh, .ref qb, .int bmy, .ref qa, .ref q6, .long hsh])), (qw, .inl ((vv_k x).2.1.1, 456, .inl wf)), (qs, .inl ((vv_k x).2.1.1, 3, .inl (upd ss 0 ((ss 0) + 1))))]) F (c_X8_bad (vv_l x) (vv_k x) qm qw qk qt txd abv blw qs atp stp nbr qi qp qh qb bmy qa q6 hsh ss (-2)) mv_X8_78 dX8_scissors_15 (by decide) rfl rfl (Nat.le_of_ble_eq_true rfl) rfl (by decide) (Eq.trans (b := [qm, qs]) rfl rfl) rfl rfl ?_
    exact vv_iret F hR dX8_scissors_18 (congrArg (fun z => some (Value.int z)) ((if_neg h_1).trans rfl)) (by simp only [g_X8_scissors_0_4, g_X8_scissors_0_5, g_X8_scissors_2, if_neg h_1])
