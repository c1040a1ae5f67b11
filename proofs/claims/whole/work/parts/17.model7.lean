theorem skp_le2 {Q : Nat → Bool} {t : Nat} (hQ : ∀ q, q < 2147483648 → Q q = true → q < t) : ∀ (n p : Nat), p + n < 2147483648 → p ≤ skp Q n p ∧ (skp Q n p ≤ t ∨ skp Q n p = p)
  | 0, p, _ => by rw [skp_0]; omega
  | n + 1, p, hp => by
    by_cases h : Q p = true
    · rw [skp_t h]
      have h1 := skp_le2 hQ n (p + 1) (by omega)
      have h2 := hQ p (by omega) h
      omega
    · rw [skp_f h]; omega
noncomputable def blk (td : Int32) (tx : Nat → Int32) (t p : Nat) : Nat := skp (bQ td tx) t p
noncomputable def wlk (td : Int32) (tx : Nat → Int32) (t p : Nat) : Nat := skp (wQ td tx) t p
theorem blk_le {td : Int32} {tx : Nat → Int32} {t p : Nat} (ht : td.toInt = (t : Int)) (htt : t ≤ 150) (hp : p ≤ 151) : p ≤ blk td tx t p ∧ (blk td tx t p ≤ t ∨ blk td tx t p = p) := skp_le2 (fun q h1 h2 => bQ_lt ht h1 h2) t p (by omega)
theorem wlk_le {td : Int32} {tx : Nat → Int32} {t p : Nat} (ht : td.toInt = (t : Int)) (htt : t ≤ 150) (hp : p ≤ 151) : p ≤ wlk td tx t p ∧ (wlk td tx t p ≤ t ∨ wlk td tx t p = p) := skp_le2 (fun q h1 h2 => wQ_lt ht h1 h2) t p (by omega)
noncomputable def dg1 (td : Int32) (tx : Nat → Int32) (s : Nat) (z : Nat × Int32) : Nat × Int32 := if dQ td tx z.1 = true then (z.1 + 1, if 2 ≤ ((nI z.1) - (nI s)) then z.2 else (((10 * z.2) + (f_X8_byteAt td tx (nI z.1) z.1)) - 48)) else z
noncomputable def dgs (td : Int32) (tx : Nat → Int32) (s n p : Nat) (nb : Int32) : Nat × Int32 := itr (fun _ => dg1 td tx s) n 0 (p, nb)
theorem dgs_0 {td : Int32} {tx : Nat → Int32} {s p : Nat} {nb : Int32} : dgs td tx s 0 p nb = (p, nb) := itr_0
theorem dgs_t {td : Int32} {tx : Nat → Int32} {s n p : Nat} {nb : Int32} (h : dQ td tx p = true) : dgs td tx s (n + 1) p nb = dgs td tx s n (p + 1) (if 2 ≤ ((nI p) - (nI s)) then nb else (((10 * nb) + (f_X8_byteAt td tx (nI p) p)) - 48)) := by
  unfold dgs; rw [itr_s, show dg1 td tx s (p, nb) = _ from if_pos h]; exact itr_u _ _ _ _
theorem dgs_f {td : Int32} {tx : Nat → Int32} {s n p : Nat} {nb : Int32} (h : ¬ dQ td tx p = true) : dgs td tx s n p nb = (p, nb) := by
  unfold dgs; exact itr_abs (f := fun _ => dg1 td tx s) (s := (p, nb)) fun _ => if_neg h
theorem dgs_le {td : Int32} {tx : Nat → Int32} {t s : Nat} (ht : td.toInt = (t : Int)) : ∀ (n p : Nat) (nb : Int32), p + n < 2147483648 → p ≤ (dgs td tx s n p nb).1 ∧ ((dgs td tx s n p nb).1 ≤ t ∨ (dgs td tx s n p nb).1 = p)
  | 0, p, nb, _ => by rw [dgs_0]; dsimp only; omega
  | n + 1, p, nb, hp => by
    by_cases h : dQ td tx p = true
    · rw [dgs_t h]
      have h1 := dgs_le (tx := tx) ht (s := s) n (p + 1) (if 2 ≤ ((nI p) - (nI s)) then nb else (((10 * nb) + (f_X8_byteAt td tx (nI p) p)) - 48)) (by omega)
      have h2 := dQ_lt ht (by omega) h
      omega
    · rw [dgs_f h]; dsimp only; omega
noncomputable def nuP (td : Int32) (tx : Nat → Int32) (t p : Nat) : Nat := (dgs td tx (blk td tx t p) t (blk td tx t p) 0).1
noncomputable def nuN (td : Int32) (tx : Nat → Int32) (t p : Nat) : Int32 := (dgs td tx (blk td tx t p) t (blk td tx t p) 0).2
theorem nuP_le {td : Int32} {tx : Nat → Int32} {t p : Nat} (ht : td.toInt = (t : Int)) (htt : t ≤ 150) (hp : p ≤ 151) : blk td tx t p ≤ nuP td tx t p ∧ (nuP td tx t p ≤ t ∨ nuP td tx t p = blk td tx t p) := by
  have h := blk_le (tx := tx) ht htt hp
  exact dgs_le ht t _ 0 (by omega)
theorem in_rng2 {v lo hi : Int32} {a b : Int} (ha : lo.toInt = a) (hb : hi.toInt = b) (h : p_X8_in v.toInt64 lo.toInt64 hi.toInt64) : a ≤ v.toInt ∧ v.toInt ≤ b :=
  in_rng (by rw [Int32.toInt_toInt64]; exact ha) (by rw [Int32.toInt_toInt64]; exact hb) h
theorem in_rngS2 {v n : Int32} {c : Nat} (hn : n.toInt = (c : Int)) (h : p_X8_in v.toInt64 (0 : Int32).toInt64 (n - 1).toInt64) : 0 ≤ v.toInt ∧ v.toInt < c := in_rngS hn h
theorem L_X8_blanks {x : vv_X} (F : vv_F x cX8_blanks 1 RX8 2) (qm qw qk qt : Nat) (txd : Int32) (abv blw : Int64) (qs : Nat) (stp nbr : Int32) (qi qp qh qb : Nat) (bmy : Int32) (qa q6 : Nat) (hsh : Int64) (tx : Nat → Int32) (tt : Nat) (ht : (txd).toInt = (tt : Int)) (htt : tt ≤ 150) : ∀ (n : Nat) (p : Nat), tt ≤ p + n → p ≤ 151 → vv_V x 1 26 [(0, .ref qm)] [] [(qm, .inr (7, [.ref qw, .ref qk, .ref qt, .int txd, .long abv, .long blw, .ref qs, .int (nI (skp (bQ txd tx) n p)), .int stp, .int nbr, .ref qi, .ref qp, .ref qh, .ref qb, .int bmy, .ref qa, .ref q6, .long hsh])), (qt, .inl ((vv_k x).2.1.1, 150, .inl tx))] → vv_V x 1 0 [(0, .ref qm)] [] [(qm, .inr (7, [.ref qw, .ref qk, .ref qt, .int txd, .long abv, .long blw, .ref qs, .int (nI p), .int stp, .int nbr, .ref qi, .ref qp, .ref qh, .ref qb, .int bmy, .ref qa, .ref q6, .long hsh])), (qt, .inl ((vv_k x).2.1.1, 150, .inl tx))] := by
  intro n
  induction n with
  | zero =>
    intro p hpn hp  kx
    refine vv_aload_n F dX8_blanks_0 rfl rfl ?_
    refine vv_aload_n F dX8_blanks_1 rfl rfl ?_
    refine vv_get 0 F fl_X8_96 dX8_blanks_2 rfl rfl ?_
    refine vv_callVp (As := [.int (nI p)]) (rest := []) [0, 1] 0 F (c_X8_byteAt (vv_l x) (vv_k x) qm qw qk qt txd abv blw qs (nI p) stp nbr qi qp qh qb bmy qa q6 hsh tx (nI p) p tt (nI_toInt (n := p) (by omega)) ht (by omega)) mv_X8_99 dX8_blanks_5 (by decide) rfl rfl (Nat.le_of_ble_eq_true rfl) rfl (by decide) rfl ?_
    refine vv_bipush (v := 32) F dX8_blanks_8 (by decide) ?_
    refine vv_icmp_ne (tgt := 26) F dX8_blanks_10 (by decide) (fun h_1 => ?_) (fun h_1 => absurd h_1 (by rw [by_end ht (by omega) (by omega)]; decide))
    rw [skp_0] at kx
    exact vv_lv [0] rfl kx
  | succ n ih =>
    intro p hpn hp  kx
    refine vv_aload_n F dX8_blanks_0 rfl rfl ?_
    refine vv_aload_n F dX8_blanks_1 rfl rfl ?_
    refine vv_get 0 F fl_X8_96 dX8_blanks_2 rfl rfl ?_
    refine vv_callVp (As := [.int (nI p)]) (rest := []) [0, 1] 0 F (c_X8_byteAt (vv_l x) (vv_k x) qm qw qk qt txd abv blw qs (nI p) stp nbr qi qp qh qb bmy qa q6 hsh tx (nI p) p tt (nI_toInt (n := p) (by omega)) ht (by omega)) mv_X8_99 dX8_blanks_5 (by decide) rfl rfl (Nat.le_of_ble_eq_true rfl) rfl (by decide) rfl ?_
    refine vv_bipush (v := 32) F dX8_blanks_8 (by decide) ?_
    refine vv_icmp_ne (tgt := 26) F dX8_blanks_10 (by decide) (fun h_1 => ?_) (fun h_1 => ?_)
    · rw [skp_f (fun z => h_1 (of_decide_eq_true z))] at kx
      exact vv_lv [0] rfl kx
    · refine vv_aload_n F dX8_blanks_13 rfl rfl ?_
      refine vv_dup F dX8_blanks_14 rfl ?_
      refine vv_get 0 F fl_X8_96 dX8_blanks_15 rfl rfl ?_
      refine vv_iconst (v := 1) F dX8_blanks_18 (by decide) ?_
      refine vv_iadd F dX8_blanks_19 ?_
      refine vv_put 0 (ws' := [(qm, .inr (7, [.ref qw, .ref qk, .ref qt, .int txd, .long abv, .long blw, .ref qs, .int ((nI p) + 1), .int stp, .int nbr, .ref qi, .ref qp, .ref qh, .ref qb, .int bmy, .ref qa, .ref q6, .long hsh])), (qt, .inl ((vv_k x).2.1.1, 150, .inl tx))]) F fl_X8_96 dX8_blanks_20 rfl rfl rfl (Nat.le_of_ble_eq_true rfl) rfl ?_
      refine vv_goto (tgt := 0) F dX8_blanks_23 (by decide) ?_
      have hlt := bQ_lt (tx := tx) ht (q := p) (by omega) (decide_eq_true h_1)
      refine vv_lv [0] rfl ?_
      refine vv_ws (by rw [nI_1]) ?_
      exact ih (p + 1) (by omega) (by omega) (by rw [skp_t (decide_eq_true h_1)] at kx; exact kx)
theorem c_X8_blanks (l : Launch) (K : vv_K) (qm qw qk qt : Nat) (txd : Int32) (abv blw : Int64) (qs : Nat) (atp stp nbr : Int32) (qi qp qh qb : Nat) (bmy : Int32) (qa q6 : Nat) (hsh : Int64) (tx : Nat → Int32) (p tt : Nat) (hp : (atp).toInt = (p : Int)) (ht : (txd).toInt = (tt : Int)) (hp151 : p ≤ 151) (htt : tt ≤ 150)  : vv_C l K 2 yX8_blanks cX8_blanks 1 none [.ref qm] [(qm, .inr (7, [.ref qw, .ref qk, .ref qt, .int txd, .long abv, .long blw, .ref qs, .int atp, .int stp, .int nbr, .ref qi, .ref qp, .ref qh, .ref qb, .int bmy, .ref qa, .ref q6, .long hsh])), (qt, .inl (K.2.1.1, 150, .inl tx))] none [(qm, .inr (7, [.ref qw, .ref qk, .ref qt, .int txd, .long abv, .long blw, .ref qs, .int (nI (blk txd tx tt p)), .int (nI (blk txd tx tt p)), .int nbr, .ref qi, .ref qp, .ref qh, .ref qb, .int bmy, .ref qa, .ref q6, .long hsh])), (qt, .inl (K.2.1.1, 150, .inl tx))] := by
  refine vv_C.of (lv := [(0, .ref qm)]) (by decide +kernel) (Nat.le_of_ble_eq_true rfl) rfl ?_
  intro x hl hK F hR; subst hl; obtain rfl := hK
  refine vv_lv (lv' := [(0, .ref qm)]) [0] rfl ?_
  refine vv_ws (ws' := [(qm, .inr (7, [.ref qw, .ref qk, .ref qt, .int txd, .long abv, .long blw, .ref qs, .int (nI p), .int stp, .int nbr, .ref qi, .ref qp, .ref qh, .ref qb, .int bmy, .ref qa, .ref q6, .long hsh])), (qt, .inl ((vv_k x).2.1.1, 150, .inl tx))]) (by rw [nn_eq hp (by omega)]) ?_
  refine L_X8_blanks F qm qw qk qt txd abv blw qs stp nbr qi qp qh qb bmy qa q6 hsh tx tt ht htt tt p (by omega) (by omega) ?_
  refine vv_ws (ws' := [(qm, .inr (7, [.ref qw, .ref qk, .ref qt, .int txd, .long abv, .long blw, .ref qs, .int (nI (blk txd tx tt p)), .int stp, .int nbr, .ref qi, .ref qp, .ref qh, .ref qb, .int bmy, .ref qa, .ref q6, .long hsh])), (qt, .inl ((vv_k x).2.1.1, 150, .inl tx))]) rfl ?_
  have hfn_blk := blk_le (tx := tx) (p := p) ht htt (by omega)
  refine vv_aload_n F dX8_blanks_26 rfl rfl ?_
  refine vv_aload_n F dX8_blanks_27 rfl rfl ?_
  refine vv_get 0 F fl_X8_96 dX8_blanks_28 rfl rfl ?_
  refine vv_put 0 (ws' := [(qm, .inr (7, [.ref qw, .ref qk, .ref qt, .int txd, .long abv, .long blw, .ref qs, .int (nI (blk txd tx tt p)), .int (nI (blk txd tx tt p)), .int nbr, .ref qi, .ref qp, .ref qh, .ref qb, .int bmy, .ref qa, .ref q6, .long hsh])), (qt, .inl ((vv_k x).2.1.1, 150, .inl tx))]) F fl_X8_102 dX8_blanks_31 rfl rfl rfl (Nat.le_of_ble_eq_true rfl) rfl ?_
  exact vv_vret F hR dX8_blanks_34 rfl rfl
theorem L_X8_takesWord {x : vv_X} (F : vv_F x cX8_takesWord 1 RX8 3) (qm qw qk qt : Nat) (txd : Int32) (abv blw : Int64) (qs : Nat) (stp nbr : Int32) (qi qp qh qb : Nat) (bmy : Int32) (qa q6 : Nat) (hsh : Int64) (tx : Nat → Int32) (tt : Nat) (ht : (txd).toInt = (tt : Int)) (htt : tt ≤ 150) : ∀ (n : Nat) (p : Nat), tt ≤ p + n → p ≤ 151 → vv_V x 1 38 [(0, .ref qm)] [] [(qm, .inr (7, [.ref qw, .ref qk, .ref qt, .int txd, .long abv, .long blw, .ref qs, .int (nI (skp (wQ txd tx) n p)), .int stp, .int nbr, .ref qi, .ref qp, .ref qh, .ref qb, .int bmy, .ref qa, .ref q6, .long hsh])), (qt, .inl ((vv_k x).2.1.1, 150, .inl tx))] → vv_V x 1 4 [(0, .ref qm)] [] [(qm, .inr (7, [.ref qw, .ref qk, .ref qt, .int txd, .long abv, .long blw, .ref qs, .int (nI p), .int stp, .int nbr, .ref qi, .ref qp, .ref qh, .ref qb, .int bmy, .ref qa, .ref q6, .long hsh])), (qt, .inl ((vv_k x).2.1.1, 150, .inl tx))] := by
  intro n
  induction n with
  | zero =>
    intro p hpn hp  kx
    refine vv_aload_n F dX8_takesWord_4 rfl rfl ?_
    refine vv_aload_n F dX8_takesWord_5 rfl rfl ?_
    refine vv_get 0 F fl_X8_96 dX8_takesWord_6 rfl rfl ?_
    refine vv_callVp (As := [.int (nI p)]) (rest := []) [0, 1] 0 F (c_X8_byteAt (vv_l x) (vv_k x) qm qw qk qt txd abv blw qs (nI p) stp nbr qi qp qh qb bmy qa q6 hsh tx (nI p) p tt (nI_toInt (n := p) (by omega)) ht (by omega)) mv_X8_99 dX8_takesWord_9 (by decide) rfl rfl (Nat.le_of_ble_eq_true rfl) rfl (by decide) rfl ?_
    refine vv_i2l F dX8_takesWord_12 ?_
    refine vv_ldc2 F cl_X8_108 dX8_takesWord_13 ?_
    refine vv_ldc2 F cl_X8_110 dX8_takesWord_16 ?_
    refine vv_callSp (As := [.long ((f_X8_byteAt txd tx (nI p) p).toInt64), .long 97, .long 122]) (rest := []) [] F (c_X8_in (vv_l x) (vv_k x) ((f_X8_byteAt txd tx (nI p) p).toInt64) 97 122) ms_X8_56 dX8_takesWord_19 (by decide) rfl rfl (Nat.le_of_ble_eq_true rfl) rfl (by decide) ?_
    refine vv_ifz_eq (tgt := 38) F dX8_takesWord_22 (by decide) (fun h_1 => ?_) (fun h_1 => absurd h_1 (by rw [by_end ht (by omega) (by omega)]; decide +kernel))
    rw [skp_0] at kx
    exact vv_lv [0] rfl kx
  | succ n ih =>
    intro p hpn hp  kx
    refine vv_aload_n F dX8_takesWord_4 rfl rfl ?_
    refine vv_aload_n F dX8_takesWord_5 rfl rfl ?_
    refine vv_get 0 F fl_X8_96 dX8_takesWord_6 rfl rfl ?_
    refine vv_callVp (As := [.int (nI p)]) (rest := []) [0, 1] 0 F (c_X8_byteAt (vv_l x) (vv_k x) qm qw qk qt txd abv blw qs (nI p) stp nbr qi qp qh qb bmy qa q6 hsh tx (nI p) p tt (nI_toInt (n := p) (by omega)) ht (by omega)) mv_X8_99 dX8_takesWord_9 (by decide) rfl rfl (Nat.le_of_ble_eq_true rfl) rfl (by decide) rfl ?_
    refine vv_i2l F dX8_takesWord_12 ?_
    refine vv_ldc2 F cl_X8_108 dX8_takesWord_13 ?_
    refine vv_ldc2 F cl_X8_110 dX8_takesWord_16 ?_
    refine vv_callSp (As := [.long ((f_X8_byteAt txd tx (nI p) p).toInt64), .long 97, .long 122]) (rest := []) [] F (c_X8_in (vv_l x) (vv_k x) ((f_X8_byteAt txd tx (nI p) p).toInt64) 97 122) ms_X8_56 dX8_takesWord_19 (by decide) rfl rfl (Nat.le_of_ble_eq_true rfl) rfl (by decide) ?_
    refine vv_ifz_eq (tgt := 38) F dX8_takesWord_22 (by decide) (fun h_1 => ?_) (fun h_1 => ?_)
    · rw [skp_f (fun z => h_1 (of_decide_eq_true z))] at kx
      exact vv_lv [0] rfl kx
    · refine vv_aload_n F dX8_takesWord_25 rfl rfl ?_
      refine vv_dup F dX8_takesWord_26 rfl ?_
      refine vv_get 0 F fl_X8_96 dX8_takesWord_27 rfl rfl ?_
      refine vv_iconst (v := 1) F dX8_takesWord_30 (by decide) ?_
      refine vv_iadd F dX8_takesWord_31 ?_
      refine vv_put 0 (ws' := [(qm, .inr (7, [.ref qw, .ref qk, .ref qt, .int txd, .long abv, .long blw, .ref qs, .int ((nI p) + 1), .int stp, .int nbr, .ref qi, .ref qp, .ref qh, .ref qb, .int bmy, .ref qa, .ref q6, .long hsh])), (qt, .inl ((vv_k x).2.1.1, 150, .inl tx))]) F fl_X8_96 dX8_takesWord_32 rfl rfl rfl (Nat.le_of_ble_eq_true rfl) rfl ?_
      refine vv_goto (tgt := 4) F dX8_takesWord_35 (by decide) ?_
      have hlt := wQ_lt (tx := tx) ht (q := p) (by omega) (decide_eq_true h_1)
      refine vv_lv [0] rfl ?_
      refine vv_ws (by rw [nI_1]) ?_
      exact ih (p + 1) (by omega) (by omega) (by rw [skp_t (decide_eq_true h_1)] at kx; exact kx)
theorem c_X8_takesWord (l : Launch) (K : vv_K) (qm qw qk qt : Nat) (txd : Int32) (abv blw : Int64) (qs : Nat) (atp stp nbr : Int32) (qi qp qh qb : Nat) (bmy : Int32) (qa q6 : Nat) (hsh : Int64) (tx : Nat → Int32) (p tt : Nat) (hp : (atp).toInt = (p : Int)) (ht : (txd).toInt = (tt : Int)) (hp151 : p ≤ 151) (htt : tt ≤ 150)  : vv_C l K 3 yX8_takesWord cX8_takesWord 1 none [.ref qm] [(qm, .inr (7, [.ref qw, .ref qk, .ref qt, .int txd, .long abv, .long blw, .ref qs, .int atp, .int stp, .int nbr, .ref qi, .ref qp, .ref qh, .ref qb, .int bmy, .ref qa, .ref q6, .long hsh])), (qt, .inl (K.2.1.1, 150, .inl tx))] none [(qm, .inr (7, [.ref qw, .ref qk, .ref qt, .int txd, .long abv, .long blw, .ref qs, .int (nI (wlk txd tx tt (blk txd tx tt p))), .int (nI (blk txd tx tt p)), .int nbr, .ref qi, .ref qp, .ref qh, .ref qb, .int bmy, .ref qa, .ref q6, .long hsh])), (qt, .inl (K.2.1.1, 150, .inl tx))] := by
  refine vv_C.of (lv := [(0, .ref qm)]) (by decide +kernel) (Nat.le_of_ble_eq_true rfl) rfl ?_
  intro x hl hK F hR; subst hl; obtain rfl := hK
  refine vv_aload_n F dX8_takesWord_0 rfl rfl ?_
  refine vv_callV (As := []) (rest := []) [0, 1] 0 (ws' := [(qm, .inr (7, [.ref qw, .ref qk, .ref qt, .int txd, .long abv, .long blw, .ref qs, .int (nI (blk txd tx tt p)), .int (nI (blk txd tx tt p)), .int nbr, .ref qi, .ref qp, .ref qh, .ref qb, .int bmy, .ref qa, .ref q6, .long hsh])), (qt, .inl ((vv_k x).2.1.1, 150, .inl tx))]) F (c_X8_blanks (vv_l x) (vv_k x) qm qw qk qt txd abv blw qs atp stp nbr qi qp qh qb bmy qa q6 hsh tx p tt hp ht (by omega) (by omega)) mv_X8_105 dX8_takesWord_1 (by decide) rfl rfl (Nat.le_of_ble_eq_true rfl) rfl (by decide) (Eq.trans (b := [qm, qt]) rfl rfl) rfl rfl ?_
  have h_1b := blk_le (tx := tx) (p := p) ht htt (by omega)
  refine vv_lv (lv' := [(0, .ref qm)]) [0] rfl ?_
  refine L_X8_takesWord F qm qw qk qt txd abv blw qs (nI (blk txd tx tt p)) nbr qi qp qh qb bmy qa q6 hsh tx tt ht htt tt (blk txd tx tt p) (by omega) (by omega) ?_
  refine vv_ws (ws' := [(qm, .inr (7, [.ref qw, .ref qk, .ref qt, .int txd, .long abv, .long blw, .ref qs, .int (nI (wlk txd tx tt (blk txd tx tt p))), .int (nI (blk txd tx tt p)), .int nbr, .ref qi, .ref qp, .ref qh, .ref qb, .int bmy, .ref qa, .ref q6, .long hsh])), (qt, .inl ((vv_k x).2.1.1, 150, .inl tx))]) rfl ?_
  have hfn_wlk := wlk_le (tx := tx) (p := (blk txd tx tt p)) ht htt (by omega)
  exact vv_vret F hR dX8_takesWord_38 rfl rfl
theorem L_X8_takesNumber {x : vv_X} (F : vv_F x cX8_takesNumber 3 RX8 3) (qm qw qk qt : Nat) (txd : Int32) (abv blw : Int64) (qs qi qp qh qb : Nat) (bmy : Int32) (qa q6 : Nat) (hsh : Int64) (tx : Nat → Int32) (lo hi : Int32) (s : Nat) (tt : Nat) (ht : (txd).toInt = (tt : Int)) (htt : tt ≤ 150) : ∀ (n : Nat) (p : Nat) (nb : Int32), tt ≤ p + n → p ≤ 151 → vv_V x 3 86 [(0, .ref qm), (1, .int lo), (2, .int hi)] [] [(qm, .inr (7, [.ref qw, .ref qk, .ref qt, .int txd, .long abv, .long blw, .ref qs, .int (nI (dgs txd tx s n p nb).1), .int (nI s), .int ((dgs txd tx s n p nb).2), .ref qi, .ref qp, .ref qh, .ref qb, .int bmy, .ref qa, .ref q6, .long hsh])), (qt, .inl ((vv_k x).2.1.1, 150, .inl tx))] → vv_V x 3 9 [(0, .ref qm), (1, .int lo), (2, .int hi)] [] [(qm, .inr (7, [.ref qw, .ref qk, .ref qt, .int txd, .long abv, .long blw, .ref qs, .int (nI p), .int (nI s), .int nb, .ref qi, .ref qp, .ref qh, .ref qb, .int bmy, .ref qa, .ref q6, .long hsh])), (qt, .inl ((vv_k x).2.1.1, 150, .inl tx))] := by
  intro n
  induction n with
  | zero =>
    intro p nb hpn hp  kx
    refine vv_aload_n F dX8_takesNumber_9 rfl rfl ?_
    refine vv_aload_n F dX8_takesNumber_10 rfl rfl ?_
    refine vv_get 0 F fl_X8_96 dX8_takesNumber_11 rfl rfl ?_
    refine vv_callVp (As := [.int (nI p)]) (rest := []) [0, 1] 0 F (c_X8_byteAt (vv_l x) (vv_k x) qm qw qk qt txd abv blw qs (nI p) (nI s) nb qi qp qh qb bmy qa q6 hsh tx (nI p) p tt (nI_toInt (n := p) (by omega)) ht (by omega)) mv_X8_99 dX8_takesNumber_14 (by decide) rfl rfl (Nat.le_of_ble_eq_true rfl) rfl (by decide) rfl ?_
    refine vv_i2l F dX8_takesNumber_17 ?_
    refine vv_ldc2 F cl_X8_127 dX8_takesNumber_18 ?_
    refine vv_ldc2 F cl_X8_129 dX8_takesNumber_21 ?_
    refine vv_callSp (As := [.long ((f_X8_byteAt txd tx (nI p) p).toInt64), .long 48, .long 57]) (rest := []) [] F (c_X8_in (vv_l x) (vv_k x) ((f_X8_byteAt txd tx (nI p) p).toInt64) 48 57) ms_X8_56 dX8_takesNumber_24 (by decide) rfl rfl (Nat.le_of_ble_eq_true rfl) rfl (by decide) ?_
    refine vv_ifz_eq (tgt := 86) F dX8_takesNumber_27 (by decide) (fun h_1 => ?_) (fun h_1 => absurd h_1 (by rw [by_end ht (by omega) (by omega)]; decide +kernel))
    rw [dgs_0] at kx
    exact kx
  | succ n ih =>
    intro p nb hpn hp  kx
    refine vv_aload_n F dX8_takesNumber_9 rfl rfl ?_
    refine vv_aload_n F dX8_takesNumber_10 rfl rfl ?_
    refine vv_get 0 F fl_X8_96 dX8_takesNumber_11 rfl rfl ?_
    refine vv_callVp (As := [.int (nI p)]) (rest := []) [0, 1] 0 F (c_X8_byteAt (vv_l x) (vv_k x) qm qw qk qt txd abv blw qs (nI p) (nI s) nb qi qp qh qb bmy qa q6 hsh tx (nI p) p tt (nI_toInt (n := p) (by omega)) ht (by omega)) mv_X8_99 dX8_takesNumber_14 (by decide) rfl rfl (Nat.le_of_ble_eq_true rfl) rfl (by decide) rfl ?_
    refine vv_i2l F dX8_takesNumber_17 ?_
    refine vv_ldc2 F cl_X8_127 dX8_takesNumber_18 ?_
    refine vv_ldc2 F cl_X8_129 dX8_takesNumber_21 ?_
    refine vv_callSp (As := [.long ((f_X8_byteAt txd tx (nI p) p).toInt64), .long 48, .long 57]) (rest := []) [] F (c_X8_in (vv_l x) (vv_k x) ((f_X8_byteAt txd tx (nI p) p).toInt64) 48 57) ms_X8_56 dX8_takesNumber_24 (by decide) rfl rfl (Nat.le_of_ble_eq_true rfl) rfl (by decide) ?_
    refine vv_ifz_eq (tgt := 86) F dX8_takesNumber_27 (by decide) (fun h_1 => ?_) (fun h_1 => ?_)
    · rw [dgs_f (fun z => h_1 (of_decide_eq_true z))] at kx
      exact kx
    · refine vv_aload_n F dX8_takesNumber_30 rfl rfl ?_
      refine vv_aload_n F dX8_takesNumber_31 rfl rfl ?_
      refine vv_get 0 F fl_X8_96 dX8_takesNumber_32 rfl rfl ?_
      refine vv_aload_n F dX8_takesNumber_35 rfl rfl ?_
      refine vv_get 0 F fl_X8_102 dX8_takesNumber_36 rfl rfl ?_
      refine vv_isub F dX8_takesNumber_39 ?_
      refine vv_iconst (v := 2) F dX8_takesNumber_40 (by decide) ?_
      refine vv_icmp_ge (tgt := 66) F dX8_takesNumber_41 (by decide) (fun h_2 => ?_) (fun h_2 => ?_)
      · refine vv_aload_n F dX8_takesNumber_66 rfl rfl ?_
        refine vv_get 0 F fl_X8_124 dX8_takesNumber_67 rfl rfl ?_
        refine vv_put 0 (ws' := [(qm, .inr (7, [.ref qw, .ref qk, .ref qt, .int txd, .long abv, .long blw, .ref qs, .int (nI p), .int (nI s), .int nb, .ref qi, .ref qp, .ref qh, .ref qb, .int bmy, .ref qa, .ref q6, .long hsh])), (qt, .inl ((vv_k x).2.1.1, 150, .inl tx))]) F fl_X8_124 dX8_takesNumber_70 rfl rfl rfl (Nat.le_of_ble_eq_true rfl) rfl ?_
        refine vv_aload_n F dX8_takesNumber_73 rfl rfl ?_
        refine vv_dup F dX8_takesNumber_74 rfl ?_
        refine vv_get 0 F fl_X8_96 dX8_takesNumber_75 rfl rfl ?_
        refine vv_iconst (v := 1) F dX8_takesNumber_78 (by decide) ?_
        refine vv_iadd F dX8_takesNumber_79 ?_
        refine vv_put 0 (ws' := [(qm, .inr (7, [.ref qw, .ref qk, .ref qt, .int txd, .long abv, .long blw, .ref qs, .int ((nI p) + 1), .int (nI s), .int nb, .ref qi, .ref qp, .ref qh, .ref qb, .int bmy, .ref qa, .ref q6, .long hsh])), (qt, .inl ((vv_k x).2.1.1, 150, .inl tx))]) F fl_X8_96 dX8_takesNumber_80 rfl rfl rfl (Nat.le_of_ble_eq_true rfl) rfl ?_
        refine vv_goto (tgt := 9) F dX8_takesNumber_83 (by decide) ?_
        have hlt := dQ_lt (tx := tx) ht (q := p) (by omega) (decide_eq_true h_1)
        refine vv_ws (by rw [nI_1]) ?_
        exact ih (p + 1) _ (by omega) (by omega) (by rw [dgs_t (decide_eq_true h_1), if_pos h_2] at kx; exact kx)
      · refine vv_bipush (v := 10) F dX8_takesNumber_44 (by decide) ?_
        refine vv_aload_n F dX8_takesNumber_46 rfl rfl ?_
        refine vv_get 0 F fl_X8_124 dX8_takesNumber_47 rfl rfl ?_
        refine vv_imul F dX8_takesNumber_50 ?_
        refine vv_aload_n F dX8_takesNumber_51 rfl rfl ?_
        refine vv_aload_n F dX8_takesNumber_52 rfl rfl ?_
        refine vv_get 0 F fl_X8_96 dX8_takesNumber_53 rfl rfl ?_
        refine vv_callVp (As := [.int (nI p)]) (rest := [.int (10 * nb), .ref qm]) [0, 1] 0 F (c_X8_byteAt (vv_l x) (vv_k x) qm qw qk qt txd abv blw qs (nI p) (nI s) nb qi qp qh qb bmy qa q6 hsh tx (nI p) p tt (nI_toInt (n := p) (by omega)) ht (by omega)) mv_X8_99 dX8_takesNumber_56 (by decide) rfl rfl (Nat.le_of_ble_eq_true rfl) rfl (by decide) rfl ?_
        refine vv_iadd F dX8_takesNumber_59 ?_
        refine vv_bipush (v := 48) F dX8_takesNumber_60 (by decide) ?_
        refine vv_isub F dX8_takesNumber_62 ?_
        refine vv_goto (tgt := 70) F dX8_takesNumber_63 (by decide) ?_
        refine vv_put 0 (ws' := [(qm, .inr (7, [.ref qw, .ref qk, .ref qt, .int txd, .long abv, .long blw, .ref qs, .int (nI p), .int (nI s), .int (((10 * nb) + (f_X8_byteAt txd tx (nI p) p)) - 48), .ref qi, .ref qp, .ref qh, .ref qb, .int bmy, .ref qa, .ref q6, .long hsh])), (qt, .inl ((vv_k x).2.1.1, 150, .inl tx))]) F fl_X8_124 dX8_takesNumber_70 rfl rfl rfl (Nat.le_of_ble_eq_true rfl) rfl ?_
        refine vv_aload_n F dX8_takesNumber_73 rfl rfl ?_
        refine vv_dup F dX8_takesNumber_74 rfl ?_
        refine vv_get 0 F fl_X8_96 dX8_takesNumber_75 rfl rfl ?_
        refine vv_iconst (v := 1) F dX8_takesNumber_78 (by decide) ?_
        refine vv_iadd F dX8_takesNumber_79 ?_
        refine vv_put 0 (ws' := [(qm, .inr (7, [.ref qw, .ref qk, .ref qt, .int txd, .long abv, .long blw, .ref qs, .int ((nI p) + 1), .int (nI s), .int (((10 * nb) + (f_X8_byteAt txd tx (nI p) p)) - 48), .ref qi, .ref qp, .ref qh, .ref qb, .int bmy, .ref qa, .ref q6, .long hsh])), (qt, .inl ((vv_k x).2.1.1, 150, .inl tx))]) F fl_X8_96 dX8_takesNumber_80 rfl rfl rfl (Nat.le_of_ble_eq_true rfl) rfl ?_
        refine vv_goto (tgt := 9) F dX8_takesNumber_83 (by decide) ?_
        have hlt := dQ_lt (tx := tx) ht (q := p) (by omega) (decide_eq_true h_1)
        refine vv_ws (by rw [nI_1]) ?_
        exact ih (p + 1) _ (by omega) (by omega) (by rw [dgs_t (decide_eq_true h_1), if_neg h_2] at kx; exact kx)
abbrev p_X8_takesNumber (txd : Int32) (tx : Nat → Int32) (lo hi : Int32) (p tt : Nat) : Prop := ((p_X8_in (((nI (nuP txd tx tt p)) - (nI (blk txd tx tt p))).toInt64) 1 2) ∧ (p_X8_in ((nuN txd tx tt p).toInt64) lo.toInt64 hi.toInt64))
theorem c_X8_takesNumber (l : Launch) (K : vv_K) (qm qw qk qt : Nat) (txd : Int32) (abv blw : Int64) (qs : Nat) (atp stp nbr : Int32) (qi qp qh qb : Nat) (bmy : Int32) (qa q6 : Nat) (hsh : Int64) (tx : Nat → Int32) (lo hi : Int32) (p tt : Nat) (hp : (atp).toInt = (p : Int)) (ht : (txd).toInt = (tt : Int)) (hp151 : p ≤ 151) (htt : tt ≤ 150)  : vv_C l K 3 yX8_takesNumber cX8_takesNumber 3 (some .boolean) [.ref qm, .int lo, .int hi] [(qm, .inr (7, [.ref qw, .ref qk, .ref qt, .int txd, .long abv, .long blw, .ref qs, .int atp, .int stp, .int nbr, .ref qi, .ref qp, .ref qh, .ref qb, .int bmy, .ref qa, .ref q6, .long hsh])), (qt, .inl (K.2.1.1, 150, .inl tx))] (some (.int (vv_b (p_X8_takesNumber txd tx lo hi p tt)))) [(qm, .inr (7, [.ref qw, .ref qk, .ref qt, .int txd, .long abv, .long blw, .ref qs, .int (nI (nuP txd tx tt p)), .int (nI (blk txd tx tt p)), .int (nuN txd tx tt p), .ref qi, .ref qp, .ref qh, .ref qb, .int bmy, .ref qa, .ref q6, .long hsh])), (qt, .inl (K.2.1.1, 150, .inl tx))] := by
  refine vv_C.of (lv := [(0, .ref qm), (1, .int lo), (2, .int hi)]) (by decide +kernel) (Nat.le_of_ble_eq_true rfl) rfl ?_
  intro x hl hK F hR; subst hl; obtain rfl := hK
  refine vv_aload_n F dX8_takesNumber_0 rfl rfl ?_
  refine vv_callV (As := []) (rest := []) [0, 1] 0 (ws' := [(qm, .inr (7, [.ref qw, .ref qk, .ref qt, .int txd, .long abv, .long blw, .ref qs, .int (nI (blk txd tx tt p)), .int (nI (blk txd tx tt p)), .int nbr, .ref qi, .ref qp, .ref qh, .ref qb, .int bmy, .ref qa, .ref q6, .long hsh])), (qt, .inl ((vv_k x).2.1.1, 150, .inl tx))]) F (c_X8_blanks (vv_l x) (vv_k x) qm qw qk qt txd abv blw qs atp stp nbr qi qp qh qb bmy qa q6 hsh tx p tt hp ht (by omega) (by omega)) mv_X8_105 dX8_takesNumber_1 (by decide) rfl rfl (Nat.le_of_ble_eq_true rfl) rfl (by decide) (Eq.trans (b := [qm, qt]) rfl rfl) rfl rfl ?_
  have h_1b := blk_le (tx := tx) (p := p) ht htt (by omega)
  refine vv_aload_n F dX8_takesNumber_4 rfl rfl ?_
  refine vv_iconst (v := 0) F dX8_takesNumber_5 (by decide) ?_
  refine vv_put 0 (ws' := [(qm, .inr (7, [.ref qw, .ref qk, .ref qt, .int txd, .long abv, .long blw, .ref qs, .int (nI (blk txd tx tt p)), .int (nI (blk txd tx tt p)), .int 0, .ref qi, .ref qp, .ref qh, .ref qb, .int bmy, .ref qa, .ref q6, .long hsh])), (qt, .inl ((vv_k x).2.1.1, 150, .inl tx))]) F fl_X8_124 dX8_takesNumber_6 rfl rfl rfl (Nat.le_of_ble_eq_true rfl) rfl ?_
  refine vv_lv (lv' := [(0, .ref qm), (1, .int lo), (2, .int hi)]) [0, 1, 2] rfl ?_
  refine L_X8_takesNumber F qm qw qk qt txd abv blw qs qi qp qh qb bmy qa q6 hsh tx lo hi (blk txd tx tt p) tt ht htt tt (blk txd tx tt p) 0 (by omega) (by omega) ?_
  refine vv_ws (ws' := [(qm, .inr (7, [.ref qw, .ref qk, .ref qt, .int txd, .long abv, .long blw, .ref qs, .int (nI (nuP txd tx tt p)), .int (nI (blk txd tx tt p)), .int (nuN txd tx tt p), .ref qi, .ref qp, .ref qh, .ref qb, .int bmy, .ref qa, .ref q6, .long hsh])), (qt, .inl ((vv_k x).2.1.1, 150, .inl tx))]) rfl ?_
  have hnu := nuP_le (tx := tx) (p := p) ht htt hp151
  refine vv_aload_n F dX8_takesNumber_86 rfl rfl ?_
  refine vv_get 0 F fl_X8_96 dX8_takesNumber_87 rfl rfl ?_
  refine vv_aload_n F dX8_takesNumber_90 rfl rfl ?_
  refine vv_get 0 F fl_X8_102 dX8_takesNumber_91 rfl rfl ?_
  refine vv_isub F dX8_takesNumber_94 ?_
  refine vv_i2l F dX8_takesNumber_95 ?_
  refine vv_lconst (v := 1) F dX8_takesNumber_96 (by decide) ?_
  refine vv_ldc2 F cl_X8_131 dX8_takesNumber_97 ?_
  refine vv_callSp (As := [.long (((nI (nuP txd tx tt p)) - (nI (blk txd tx tt p))).toInt64), .long 1, .long 2]) (rest := []) [] F (c_X8_in (vv_l x) (vv_k x) (((nI (nuP txd tx tt p)) - (nI (blk txd tx tt p))).toInt64) 1 2) ms_X8_56 dX8_takesNumber_100 (by decide) rfl rfl (Nat.le_of_ble_eq_true rfl) rfl (by decide) ?_
  refine vv_ifz_eq (tgt := 125) F dX8_takesNumber_103 (by decide) (fun h_2 => ?_) (fun h_2 => ?_)
  · refine vv_iconst (v := 0) F dX8_takesNumber_125 (by decide) ?_
    exact vv_zret F hR dX8_takesNumber_126 rfl (vv_bf (fun z => h_2 z.1)) rfl
  · refine vv_aload_n F dX8_takesNumber_106 rfl rfl ?_
    refine vv_get 0 F fl_X8_124 dX8_takesNumber_107 rfl rfl ?_
    refine vv_i2l F dX8_takesNumber_110 ?_
    refine vv_iload_n F dX8_takesNumber_111 rfl rfl ?_
    refine vv_i2l F dX8_takesNumber_112 ?_
    refine vv_iload_n F dX8_takesNumber_113 rfl rfl ?_
    refine vv_i2l F dX8_takesNumber_114 ?_
    refine vv_callSp (As := [.long ((nuN txd tx tt p).toInt64), .long lo.toInt64, .long hi.toInt64]) (rest := []) [] F (c_X8_in (vv_l x) (vv_k x) ((nuN txd tx tt p).toInt64) lo.toInt64 hi.toInt64) ms_X8_56 dX8_takesNumber_115 (by decide) rfl rfl (Nat.le_of_ble_eq_true rfl) rfl (by decide) ?_
    refine vv_ifz_eq (tgt := 125) F dX8_takesNumber_118 (by decide) (fun h_3 => ?_) (fun h_3 => ?_)
    · refine vv_iconst (v := 0) F dX8_takesNumber_125 (by decide) ?_
      exact vv_zret F hR dX8_takesNumber_126 rfl (vv_bf (fun z => h_3 z.2)) rfl
    · refine vv_iconst (v := 1) F dX8_takesNumber_121 (by decide) ?_
      refine vv_goto (tgt := 126) F dX8_takesNumber_122 (by decide) ?_
      exact vv_zret F hR dX8_takesNumber_126 rfl (vv_bt ⟨h_2, h_3⟩) rfl
abbrev p_X8_takesEnd (txd : Int32) (tx : Nat → Int32) (p tt : Nat) : Prop := ((f_X8_byteAt txd tx (nI (blk txd tx tt p)) (blk txd tx tt p)) = 59)
theorem c_X8_takesEnd (l : Launch) (K : vv_K) (qm qw qk qt : Nat) (txd : Int32) (abv blw : Int64) (qs : Nat) (atp stp nbr : Int32) (qi qp qh qb : Nat) (bmy : Int32) (qa q6 : Nat) (hsh : Int64) (tx : Nat → Int32) (p tt : Nat) (hp : (atp).toInt = (p : Int)) (ht : (txd).toInt = (tt : Int)) (hp151 : p ≤ 151) (htt : tt ≤ 150)  : vv_C l K 3 yX8_takesEnd cX8_takesEnd 1 (some .boolean) [.ref qm] [(qm, .inr (7, [.ref qw, .ref qk, .ref qt, .int txd, .long abv, .long blw, .ref qs, .int atp, .int stp, .int nbr, .ref qi, .ref qp, .ref qh, .ref qb, .int bmy, .ref qa, .ref q6, .long hsh])), (qt, .inl (K.2.1.1, 150, .inl tx))] (some (.int (vv_b (p_X8_takesEnd txd tx p tt)))) [(qm, .inr (7, [.ref qw, .ref qk, .ref qt, .int txd, .long abv, .long blw, .ref qs, .int ((nI (blk txd tx tt p)) + 1), .int (nI (blk txd tx tt p)), .int nbr, .ref qi, .ref qp, .ref qh, .ref qb, .int bmy, .ref qa, .ref q6, .long hsh])), (qt, .inl (K.2.1.1, 150, .inl tx))] := by
  refine vv_C.of (lv := [(0, .ref qm)]) (by decide +kernel) (Nat.le_of_ble_eq_true rfl) rfl ?_
  intro x hl hK F hR; subst hl; obtain rfl := hK
  refine vv_aload_n F dX8_takesEnd_0 rfl rfl ?_
  refine vv_callV (As := []) (rest := []) [0, 1] 0 (ws' := [(qm, .inr (7, [.ref qw, .ref qk, .ref qt, .int txd, .long abv, .long blw, .ref qs, .int (nI (blk txd tx tt p)), .int (nI (blk txd tx tt p)), .int nbr, .ref qi, .ref qp, .ref qh, .ref qb, .int bmy, .ref qa, .ref q6, .long hsh])), (qt, .inl ((vv_k x).2.1.1, 150, .inl tx))]) F (c_X8_blanks (vv_l x) (vv_k x) qm qw qk qt txd abv blw qs atp stp nbr qi qp qh qb bmy qa q6 hsh tx p tt hp ht (by omega) (by omega)) mv_X8_105 dX8_takesEnd_1 (by decide) rfl rfl (Nat.le_of_ble_eq_true rfl) rfl (by decide) (Eq.trans (b := [qm, qt]) rfl rfl) rfl rfl ?_
  have h_1b := blk_le (tx := tx) (p := p) ht htt (by omega)
  refine vv_aload_n F dX8_takesEnd_4 rfl rfl ?_
  refine vv_dup F dX8_takesEnd_5 rfl ?_
  refine vv_get 0 F fl_X8_96 dX8_takesEnd_6 rfl rfl ?_
  refine vv_iconst (v := 1) F dX8_takesEnd_9 (by decide) ?_
  refine vv_iadd F dX8_takesEnd_10 ?_
  refine vv_put 0 (ws' := [(qm, .inr (7, [.ref qw, .ref qk, .ref qt, .int txd, .long abv, .long blw, .ref qs, .int ((nI (blk txd tx tt p)) + 1), .int (nI (blk txd tx tt p)), .int nbr, .ref qi, .ref qp, .ref qh, .ref qb, .int bmy, .ref qa, .ref q6, .long hsh])), (qt, .inl ((vv_k x).2.1.1, 150, .inl tx))]) F fl_X8_96 dX8_takesEnd_11 rfl rfl rfl (Nat.le_of_ble_eq_true rfl) rfl ?_
  refine vv_aload_n F dX8_takesEnd_14 rfl rfl ?_
  refine vv_aload_n F dX8_takesEnd_15 rfl rfl ?_
  refine vv_get 0 F fl_X8_102 dX8_takesEnd_16 rfl rfl ?_
  refine vv_callVp (As := [.int (nI (blk txd tx tt p))]) (rest := []) [0, 1] 0 F (c_X8_byteAt (vv_l x) (vv_k x) qm qw qk qt txd abv blw qs ((nI (blk txd tx tt p)) + 1) (nI (blk txd tx tt p)) nbr qi qp qh qb bmy qa q6 hsh tx (nI (blk txd tx tt p)) (blk txd tx tt p) tt (nI_toInt (n := (blk txd tx tt p)) (by omega)) ht (by omega)) mv_X8_99 dX8_takesEnd_19 (by decide) rfl rfl (Nat.le_of_ble_eq_true rfl) rfl (by decide) rfl ?_
  refine vv_bipush (v := 59) F dX8_takesEnd_22 (by decide) ?_
  refine vv_icmp_ne (tgt := 31) F dX8_takesEnd_24 (by decide) (fun h_2 => ?_) (fun h_2 => ?_)
  · refine vv_iconst (v := 0) F dX8_takesEnd_31 (by decide) ?_
    exact vv_zret F hR dX8_takesEnd_32 rfl (vv_bf h_2) rfl
  · refine vv_iconst (v := 1) F dX8_takesEnd_27 (by decide) ?_
    refine vv_goto (tgt := 32) F dX8_takesEnd_28 (by decide) ?_
    exact vv_zret F hR dX8_takesEnd_32 rfl (vv_bt h_2) rfl
abbrev p_X8_isLetter (tx : Nat → Int32) (k le lg : Int32) (s kk : Nat) : Prop := (((le = 0) ∧ (¬ (k < lg))) ∨ ((¬ (le = 0)) ∧ ((¬ (lg ≤ k)) ∧ ((tx (s + kk)) = le))))
theorem c_X8_isLetter (l : Launch) (K : vv_K) (qm qw qk qt : Nat) (txd : Int32) (abv blw : Int64) (qs : Nat) (atp stp nbr : Int32) (qi qp qh qb : Nat) (bmy : Int32) (qa q6 : Nat) (hsh : Int64) (tx : Nat → Int32) (k le lg : Int32) (s kk gl : Nat) (hs : (stp).toInt = (s : Int)) (hk : (k).toInt = (kk : Int)) (hl : (lg).toInt = (gl : Int)) (hsl : s + gl ≤ 150)  : vv_C l K 1 yX8_isLetter cX8_isLetter 4 (some .boolean) [.ref qm, .int k, .int le, .int lg] [(qm, .inr (7, [.ref qw, .ref qk, .ref qt, .int txd, .long abv, .long blw, .ref qs, .int atp, .int stp, .int nbr, .ref qi, .ref qp, .ref qh, .ref qb, .int bmy, .ref qa, .ref q6, .long hsh])), (qt, .inl (K.2.1.1, 150, .inl tx))] (some (.int (vv_b (p_X8_isLetter tx k le lg s kk)))) [(qm, .inr (7, [.ref qw, .ref qk, .ref qt, .int txd, .long abv, .long blw, .ref qs, .int atp, .int stp, .int nbr, .ref qi, .ref qp, .ref qh, .ref qb, .int bmy, .ref qa, .ref q6, .long hsh])), (qt, .inl (K.2.1.1, 150, .inl tx))] := by
  refine vv_C.of (lv := [(0, .ref qm), (1, .int k), (2, .int le), (3, .int lg)]) (by decide +kernel) (Nat.le_of_ble_eq_true rfl) rfl ?_
  intro x hl hK F hR; subst hl; obtain rfl := hK
  refine vv_iload_n F dX8_isLetter_0 rfl rfl ?_
  refine vv_if_ne (tgt := 17) F dX8_isLetter_1 (by decide) (fun h_1 => ?_) (fun h_1 => ?_)
  · refine vv_iload_n F dX8_isLetter_17 rfl rfl ?_
    refine vv_iload_n F dX8_isLetter_18 rfl rfl ?_
    refine vv_icmp_le (tgt := 41) F dX8_isLetter_19 (by decide) (fun h_2 => ?_) (fun h_2 => ?_)
    · refine vv_iconst (v := 0) F dX8_isLetter_41 (by decide) ?_
      exact vv_zret F hR dX8_isLetter_42 rfl (vv_bf (fun z => z.elim (fun z => h_1 z.1) (fun z => (fun z => z.1 h_2) z.2))) rfl
    · have hlt := mt (c_le hl hk).mpr h_2
      refine vv_aload_n F dX8_isLetter_22 rfl rfl ?_
      refine vv_get 0 F fl_X8_17 dX8_isLetter_23 rfl rfl ?_
      refine vv_aload_n F dX8_isLetter_26 rfl rfl ?_
      refine vv_get 0 F fl_X8_102 dX8_isLetter_27 rfl rfl ?_
      refine vv_iload_n F dX8_isLetter_30 rfl rfl ?_
      refine vv_iadd F dX8_isLetter_31 ?_
      refine vv_iald 1 F dX8_isLetter_32 rfl (vv_ixP (j := (s + kk)) (by have hz := (nn_add hs hk (by omega)); omega) (by omega)) ?_
      refine vv_iload_n F dX8_isLetter_33 rfl rfl ?_
      refine vv_icmp_ne (tgt := 41) F dX8_isLetter_34 (by decide) (fun h_3 => ?_) (fun h_3 => ?_)
      · refine vv_iconst (v := 0) F dX8_isLetter_41 (by decide) ?_
        exact vv_zret F hR dX8_isLetter_42 rfl (vv_bf (fun z => z.elim (fun z => h_1 z.1) (fun z => (fun z => h_3 z.2) z.2))) rfl
      · refine vv_iconst (v := 1) F dX8_isLetter_37 (by decide) ?_
        refine vv_goto (tgt := 42) F dX8_isLetter_38 (by decide) ?_
        exact vv_zret F hR dX8_isLetter_42 rfl (vv_bt (Or.inr ⟨h_1, ⟨h_2, h_3⟩⟩)) rfl
  · refine vv_iload_n F dX8_isLetter_4 rfl rfl ?_
    refine vv_iload_n F dX8_isLetter_5 rfl rfl ?_
    refine vv_icmp_gt (tgt := 13) F dX8_isLetter_6 (by decide) (fun h_4 => ?_) (fun h_4 => ?_)
    · refine vv_iconst (v := 0) F dX8_isLetter_13 (by decide) ?_
      refine vv_goto (tgt := 42) F dX8_isLetter_14 (by decide) ?_
      exact vv_zret F hR dX8_isLetter_42 rfl (vv_bf (fun z => z.elim (fun z => (fun z => z h_4) z.2) (fun z => z.1 h_1))) rfl
    · refine vv_iconst (v := 1) F dX8_isLetter_9 (by decide) ?_
      refine vv_goto (tgt := 42) F dX8_isLetter_10 (by decide) ?_
      exact vv_zret F hR dX8_isLetter_42 rfl (vv_bt (Or.inl ⟨h_1, h_4⟩)) rfl
abbrev p_X8_isWord (atp stp : Int32) (tx : Nat → Int32) (c1 c2 c3 c4 c5 c6 c7 : Int32) (s : Nat) : Prop := ((p_X8_isLetter tx 0 c1 (atp - stp) s 0) ∧ ((p_X8_isLetter tx 1 c2 (atp - stp) s 1) ∧ ((p_X8_isLetter tx 2 c3 (atp - stp) s 2) ∧ ((p_X8_isLetter tx 3 c4 (atp - stp) s 3) ∧ ((p_X8_isLetter tx 4 c5 (atp - stp) s 4) ∧ ((p_X8_isLetter tx 5 c6 (atp - stp) s 5) ∧ ((p_X8_isLetter tx 6 c7 (atp - stp) s 6) ∧ (¬ (8 ≤ (atp - stp))))))))))
theorem c_X8_isWord (l : Launch) (K : vv_K) (qm qw qk qt : Nat) (txd : Int32) (abv blw : Int64) (qs : Nat) (atp stp nbr : Int32) (qi qp qh qb : Nat) (bmy : Int32) (qa q6 : Nat) (hsh : Int64) (tx : Nat → Int32) (c1 c2 c3 c4 c5 c6 c7 : Int32) (p s : Nat) (hp : (atp).toInt = (p : Int)) (hs : (stp).toInt = (s : Int)) (hsp : s ≤ p) (hp150 : p ≤ 150)  : vv_C l K 2 yX8_isWord cX8_isWord 9 (some .boolean) [.ref qm, .int c1, .int c2, .int c3, .int c4, .int c5, .int c6, .int c7] [(qm, .inr (7, [.ref qw, .ref qk, .ref qt, .int txd, .long abv, .long blw, .ref qs, .int atp, .int stp, .int nbr, .ref qi, .ref qp, .ref qh, .ref qb, .int bmy, .ref qa, .ref q6, .long hsh])), (qt, .inl (K.2.1.1, 150, .inl tx))] (some (.int (vv_b (p_X8_isWord atp stp tx c1 c2 c3 c4 c5 c6 c7 s)))) [(qm, .inr (7, [.ref qw, .ref qk, .ref qt, .int txd, .long abv, .long blw, .ref qs, .int atp, .int stp, .int nbr, .ref qi, .ref qp, .ref qh, .ref qb, .int bmy, .ref qa, .ref q6, .long hsh])), (qt, .inl (K.2.1.1, 150, .inl tx))] := by
  refine vv_C.of (lv := [(0, .ref qm), (1, .int c1), (2, .int c2), (3, .int c3), (4, .int c4), (5, .int c5), (6, .int c6), (7, .int c7)]) (by decide +kernel) (Nat.le_of_ble_eq_true rfl) rfl ?_
  intro x hl hK F hR; subst hl; obtain rfl := hK
  refine vv_aload_n F dX8_isWord_0 rfl rfl ?_
  refine vv_get 0 F fl_X8_96 dX8_isWord_1 rfl rfl ?_
  refine vv_aload_n F dX8_isWord_4 rfl rfl ?_
  refine vv_get 0 F fl_X8_102 dX8_isWord_5 rfl rfl ?_
  refine vv_isub F dX8_isWord_8 ?_
  refine vv_istore (lv' := [(8, .int (atp - stp)), (0, .ref qm), (1, .int c1), (2, .int c2), (3, .int c3), (4, .int c4), (5, .int c5), (6, .int c6), (7, .int c7)]) F dX8_isWord_9 (by decide) rfl ?_
  refine vv_aload_n F dX8_isWord_11 rfl rfl ?_
  refine vv_iconst (v := 0) F dX8_isWord_12 (by decide) ?_
  refine vv_iload_n F dX8_isWord_13 rfl rfl ?_
  refine vv_iload F dX8_isWord_14 rfl ?_
  refine vv_callVp (As := [.int 0, .int c1, .int (atp - stp)]) (rest := []) [0, 1] 0 F (c_X8_isLetter (vv_l x) (vv_k x) qm qw qk qt txd abv blw qs atp stp nbr qi qp qh qb bmy qa q6 hsh tx 0 c1 (atp - stp) s 0 (p - s) hs (by decide : (0 : Int32).toInt = ((0 : Nat) : Int)) (nn_sub hp hs (by omega)) (by omega)) mv_X8_112 dX8_isWord_16 (by decide) rfl rfl (Nat.le_of_ble_eq_true rfl) rfl (by decide) rfl ?_
  refine vv_ifz_eq (tgt := 104) F dX8_isWord_19 (by decide) (fun h_1 => ?_) (fun h_1 => ?_)
  · refine vv_iconst (v := 0) F dX8_isWord_104 (by decide) ?_
    exact vv_zret F hR dX8_isWord_105 rfl (vv_bf (fun z => h_1 z.1)) rfl
  · refine vv_aload_n F dX8_isWord_22 rfl rfl ?_
    refine vv_iconst (v := 1) F dX8_isWord_23 (by decide) ?_
    refine vv_iload_n F dX8_isWord_24 rfl rfl ?_
    refine vv_iload F dX8_isWord_25 rfl ?_
    refine vv_callVp (As := [.int 1, .int c2, .int (atp - stp)]) (rest := []) [0, 1] 0 F (c_X8_isLetter (vv_l x) (vv_k x) qm qw qk qt txd abv blw qs atp stp nbr qi qp qh qb bmy qa q6 hsh tx 1 c2 (atp - stp) s 1 (p - s) hs (by decide : (1 : Int32).toInt = ((1 : Nat) : Int)) (nn_sub hp hs (by omega)) (by omega)) mv_X8_112 dX8_isWord_27 (by decide) rfl rfl (Nat.le_of_ble_eq_true rfl) rfl (by decide) rfl ?_
    refine vv_ifz_eq (tgt := 104) F dX8_isWord_30 (by decide) (fun h_2 => ?_) (fun h_2 => ?_)
    · refine vv_iconst (v := 0) F dX8_isWord_104 (by decide) ?_
      exact vv_zret F hR dX8_isWord_105 rfl (vv_bf (fun z => (fun z => h_2 z.1) z.2)) rfl
    · refine vv_aload_n F dX8_isWord_33 rfl rfl ?_
      refine vv_iconst (v := 2) F dX8_isWord_34 (by decide) ?_
      refine vv_iload_n F dX8_isWord_35 rfl rfl ?_
      refine vv_iload F dX8_isWord_36 rfl ?_
      refine vv_callVp (As := [.int 2, .int c3, .int (atp - stp)]) (rest := []) [0, 1] 0 F (c_X8_isLetter (vv_l x) (vv_k x) qm qw qk qt txd abv blw qs atp stp nbr qi qp qh qb bmy qa q6 hsh tx 2 c3 (atp - stp) s 2 (p - s) hs (by decide : (2 : Int32).toInt = ((2 : Nat) : Int)) (nn_sub hp hs (by omega)) (by omega)) mv_X8_112 dX8_isWord_38 (by decide) rfl rfl (Nat.le_of_ble_eq_true rfl) rfl (by decide) rfl ?_
      refine vv_ifz_eq (tgt := 104) F dX8_isWord_41 (by decide) (fun h_3 => ?_) (fun h_3 => ?_)
      · refine vv_iconst (v := 0) F dX8_isWord_104 (by decide) ?_
        exact vv_zret F hR dX8_isWord_105 rfl (vv_bf (fun z => (fun z => (fun z => h_3 z.1) z.2) z.2)) rfl
      · refine vv_aload_n F dX8_isWord_44 rfl rfl ?_
        refine vv_iconst (v := 3) F dX8_isWord_45 (by decide) ?_
        refine vv_iload F dX8_isWord_46 rfl ?_
        refine vv_iload F dX8_isWord_48 rfl ?_
        refine vv_callVp (As := [.int 3, .int c4, .int (atp - stp)]) (rest := []) [0, 1] 0 F (c_X8_isLetter (vv_l x) (vv_k x) qm qw qk qt txd abv blw qs atp stp nbr qi qp qh qb bmy qa q6 hsh tx 3 c4 (atp - stp) s 3 (p - s) hs (by decide : (3 : Int32).toInt = ((3 : Nat) : Int)) (nn_sub hp hs (by omega)) (by omega)) mv_X8_112 dX8_isWord_50 (by decide) rfl rfl (Nat.le_of_ble_eq_true rfl) rfl (by decide) rfl ?_
        refine vv_ifz_eq (tgt := 104) F dX8_isWord_53 (by decide) (fun h_4 => ?_) (fun h_4 => ?_)
        · refine vv_iconst (v := 0) F dX8_isWord_104 (by decide) ?_
          exact vv_zret F hR dX8_isWord_105 rfl (vv_bf (fun z => (fun z => (fun z => (fun z => h_4 z.1) z.2) z.2) z.2)) rfl
        · refine vv_aload_n F dX8_isWord_56 rfl rfl ?_
          refine vv_iconst (v := 4) F dX8_isWord_57 (by decide) ?_
          refine vv_iload F dX8_isWord_58 rfl ?_
          refine vv_iload F dX8_isWord_60 rfl ?_
          refine vv_callVp (As := [.int 4, .int c5, .int (atp - stp)]) (rest := []) [0, 1] 0 F (c_X8_isLetter (vv_l x) (vv_k x) qm qw qk qt txd abv blw qs atp stp nbr qi qp qh qb bmy qa q6 hsh tx 4 c5 (atp - stp) s 4 (p - s) hs (by decide : (4 : Int32).toInt = ((4 : Nat) : Int)) (nn_sub hp hs (by omega)) (by omega)) mv_X8_112 dX8_isWord_62 (by decide) rfl rfl (Nat.le_of_ble_eq_true rfl) rfl (by decide) rfl ?_
          refine vv_ifz_eq (tgt := 104) F dX8_isWord_65 (by decide) (fun h_5 => ?_) (fun h_5 => ?_)
          · refine vv_iconst (v := 0) F dX8_isWord_104 (by decide) ?_
            exact vv_zret F hR dX8_isWord_105 rfl (vv_bf (fun z => (fun z => (fun z => (fun z => (fun z => h_5 z.1) z.2) z.2) z.2) z.2)) rfl
          · refine vv_aload_n F dX8_isWord_68 rfl rfl ?_
            refine vv_iconst (v := 5) F dX8_isWord_69 (by decide) ?_
            refine vv_iload F dX8_isWord_70 rfl ?_
            refine vv_iload F dX8_isWord_72 rfl ?_
            refine vv_callVp (As := [.int 5, .int c6, .int (atp - stp)]) (rest := []) [0, 1] 0 F (c_X8_isLetter (vv_l x) (vv_k x) qm qw qk qt txd abv blw qs atp stp nbr qi qp qh qb bmy qa q6 hsh tx 5 c6 (atp - stp) s 5 (p - s) hs (by decide : (5 : Int32).toInt = ((5 : Nat) : Int)) (nn_sub hp hs (by omega)) (by omega)) mv_X8_112 dX8_isWord_74 (by decide) rfl rfl (Nat.le_of_ble_eq_true rfl) rfl (by decide) rfl ?_
            refine vv_ifz_eq (tgt := 104) F dX8_isWord_77 (by decide) (fun h_6 => ?_) (fun h_6 => ?_)
            · refine vv_iconst (v := 0) F dX8_isWord_104 (by decide) ?_
              exact vv_zret F hR dX8_isWord_105 rfl (vv_bf (fun z => (fun z => (fun z => (fun z => (fun z => (fun z => h_6 z.1) z.2) z.2) z.2) z.2) z.2)) rfl
            · refine vv_aload_n F dX8_isWord_80 rfl rfl ?_
              refine vv_bipush (v := 6) F dX8_isWord_81 (by decide) ?_
              refine vv_iload F dX8_isWord_83 rfl ?_
              refine vv_iload F dX8_isWord_85 rfl ?_
              refine vv_callVp (As := [.int 6, .int c7, .int (atp - stp)]) (rest := []) [0, 1] 0 F (c_X8_isLetter (vv_l x) (vv_k x) qm qw qk qt txd abv blw qs atp stp nbr qi qp qh qb bmy qa q6 hsh tx 6 c7 (atp - stp) s 6 (p - s) hs (by decide : (6 : Int32).toInt = ((6 : Nat) : Int)) (nn_sub hp hs (by omega)) (by omega)) mv_X8_112 dX8_isWord_87 (by decide) rfl rfl (Nat.le_of_ble_eq_true rfl) rfl (by decide) rfl ?_
              refine vv_ifz_eq (tgt := 104) F dX8_isWord_90 (by decide) (fun h_7 => ?_) (fun h_7 => ?_)
              · refine vv_iconst (v := 0) F dX8_isWord_104 (by decide) ?_
                exact vv_zret F hR dX8_isWord_105 rfl (vv_bf (fun z => (fun z => (fun z => (fun z => (fun z => (fun z => (fun z => h_7 z.1) z.2) z.2) z.2) z.2) z.2) z.2)) rfl
              · refine vv_iload F dX8_isWord_93 rfl ?_
                refine vv_bipush (v := 8) F dX8_isWord_95 (by decide) ?_
                refine vv_icmp_ge (tgt := 104) F dX8_isWord_97 (by decide) (fun h_8 => ?_) (fun h_8 => ?_)
                · refine vv_iconst (v := 0) F dX8_isWord_104 (by decide) ?_
                  exact vv_zret F hR dX8_isWord_105 rfl (vv_bf (fun z => (fun z => (fun z => (fun z => (fun z => (fun z => (fun z => (fun z => z h_8) z.2) z.2) z.2) z.2) z.2) z.2) z.2)) rfl
                · refine vv_iconst (v := 1) F dX8_isWord_100 (by decide) ?_
                  refine vv_goto (tgt := 105) F dX8_isWord_101 (by decide) ?_
                  exact vv_zret F hR dX8_isWord_105 rfl (vv_bt ⟨h_1, ⟨h_2, ⟨h_3, ⟨h_4, ⟨h_5, ⟨h_6, ⟨h_7, h_8⟩⟩⟩⟩⟩⟩⟩) rfl
abbrev p_X8_isProvince (atp stp : Int32) (tx : Nat → Int32) (s : Nat) : Prop := (((atp - stp) = 8) ∧ (((tx s) = 112) ∧ (((tx (1 + s)) = 114) ∧ (((tx (2 + s)) = 111) ∧ (((tx (3 + s)) = 118) ∧ (((tx (4 + s)) = 105) ∧ (((tx (5 + s)) = 110) ∧ (((tx (6 + s)) = 99) ∧ ((tx (7 + s)) = 101)))))))))
theorem c_X8_isProvince (l : Launch) (K : vv_K) (qm qw qk qt : Nat) (txd : Int32) (abv blw : Int64) (qs : Nat) (atp stp nbr : Int32) (qi qp qh qb : Nat) (bmy : Int32) (qa q6 : Nat) (hsh : Int64) (tx : Nat → Int32) (p s : Nat) (hp : (atp).toInt = (p : Int)) (hs : (stp).toInt = (s : Int)) (hsp : s ≤ p) (hp150 : p ≤ 150)  : vv_C l K 1 yX8_isProvince cX8_isProvince 1 (some .boolean) [.ref qm] [(qm, .inr (7, [.ref qw, .ref qk, .ref qt, .int txd, .long abv, .long blw, .ref qs, .int atp, .int stp, .int nbr, .ref qi, .ref qp, .ref qh, .ref qb, .int bmy, .ref qa, .ref q6, .long hsh])), (qt, .inl (K.2.1.1, 150, .inl tx))] (some (.int (vv_b (p_X8_isProvince atp stp tx s)))) [(qm, .inr (7, [.ref qw, .ref qk, .ref qt, .int txd, .long abv, .long blw, .ref qs, .int atp, .int stp, .int nbr, .ref qi, .ref qp, .ref qh, .ref qb, .int bmy, .ref qa, .ref q6, .long hsh])), (qt, .inl (K.2.1.1, 150, .inl tx))] := by
  refine vv_C.of (lv := [(0, .ref qm)]) (by decide +kernel) (Nat.le_of_ble_eq_true rfl) rfl ?_
  intro x hl hK F hR; subst hl; obtain rfl := hK
  refine vv_aload_n F dX8_isProvince_0 rfl rfl ?_
  refine vv_get 0 F fl_X8_96 dX8_isProvince_1 rfl rfl ?_
  refine vv_aload_n F dX8_isProvince_4 rfl rfl ?_
  refine vv_get 0 F fl_X8_102 dX8_isProvince_5 rfl rfl ?_
  refine vv_isub F dX8_isProvince_8 ?_
  refine vv_bipush (v := 8) F dX8_isProvince_9 (by decide) ?_
  refine vv_icmp_ne (tgt := 146) F dX8_isProvince_11 (by decide) (fun h_1 => ?_) (fun h_1 => ?_)
  · refine vv_iconst (v := 0) F dX8_isProvince_146 (by decide) ?_
    exact vv_zret F hR dX8_isProvince_147 rfl (vv_bf (fun z => h_1 z.1)) rfl
  · have h8 : p - s = 8 := (c_eq (nn_sub hp hs (by omega)) (by decide : (8 : Int32).toInt = ((8 : Nat) : Int))).mp h_1
    refine vv_aload_n F dX8_isProvince_14 rfl rfl ?_
    refine vv_get 0 F fl_X8_17 dX8_isProvince_15 rfl rfl ?_
    refine vv_aload_n F dX8_isProvince_18 rfl rfl ?_
    refine vv_get 0 F fl_X8_102 dX8_isProvince_19 rfl rfl ?_
    refine vv_iald 1 F dX8_isProvince_22 rfl (vv_ixP (j := s) (by have hz := hs; omega) (by omega)) ?_
    refine vv_bipush (v := 112) F dX8_isProvince_23 (by decide) ?_
    refine vv_icmp_ne (tgt := 146) F dX8_isProvince_25 (by decide) (fun h_2 => ?_) (fun h_2 => ?_)
    · refine vv_iconst (v := 0) F dX8_isProvince_146 (by decide) ?_
      exact vv_zret F hR dX8_isProvince_147 rfl (vv_bf (fun z => (fun z => h_2 z.1) z.2)) rfl
    · refine vv_aload_n F dX8_isProvince_28 rfl rfl ?_
      refine vv_get 0 F fl_X8_17 dX8_isProvince_29 rfl rfl ?_
      refine vv_aload_n F dX8_isProvince_32 rfl rfl ?_
      refine vv_get 0 F fl_X8_102 dX8_isProvince_33 rfl rfl ?_
      refine vv_iconst (v := 1) F dX8_isProvince_36 (by decide) ?_
      refine vv_iadd F dX8_isProvince_37 ?_
      refine vv_iald 1 F dX8_isProvince_38 rfl (vv_ixP (j := (1 + s)) (by have hz := (nn_add hs (by decide : (1 : Int32).toInt = ((1 : Nat) : Int)) (by omega)); omega) (by omega)) ?_
      refine vv_bipush (v := 114) F dX8_isProvince_39 (by decide) ?_
      refine vv_icmp_ne (tgt := 146) F dX8_isProvince_41 (by decide) (fun h_3 => ?_) (fun h_3 => ?_)
      · refine vv_iconst (v := 0) F dX8_isProvince_146 (by decide) ?_
        exact vv_zret F hR dX8_isProvince_147 rfl (vv_bf (fun z => (fun z => (fun z => h_3 z.1) z.2) z.2)) rfl
      · refine vv_aload_n F dX8_isProvince_44 rfl rfl ?_
        refine vv_get 0 F fl_X8_17 dX8_isProvince_45 rfl rfl ?_
        refine vv_aload_n F dX8_isProvince_48 rfl rfl ?_
        refine vv_get 0 F fl_X8_102 dX8_isProvince_49 rfl rfl ?_
        refine vv_iconst (v := 2) F dX8_isProvince_52 (by decide) ?_
        refine vv_iadd F dX8_isProvince_53 ?_
        refine vv_iald 1 F dX8_isProvince_54 rfl (vv_ixP (j := (2 + s)) (by have hz := (nn_add hs (by decide : (2 : Int32).toInt = ((2 : Nat) : Int)) (by omega)); omega) (by omega)) ?_
        refine vv_bipush (v := 111) F dX8_isProvince_55 (by decide) ?_
        refine vv_icmp_ne (tgt := 146) F dX8_isProvince_57 (by decide) (fun h_4 => ?_) (fun h_4 => ?_)
        · refine vv_iconst (v := 0) F dX8_isProvince_146 (by decide) ?_
          exact vv_zret F hR dX8_isProvince_147 rfl (vv_bf (fun z => (fun z => (fun z => (fun z => h_4 z.1) z.2) z.2) z.2)) rfl
        · refine vv_aload_n F dX8_isProvince_60 rfl rfl ?_
          refine vv_get 0 F fl_X8_17 dX8_isProvince_61 rfl rfl ?_
          refine vv_aload_n F dX8_isProvince_64 rfl rfl ?_
          refine vv_get 0 F fl_X8_102 dX8_isProvince_65 rfl rfl ?_
          refine vv_iconst (v := 3) F dX8_isProvince_68 (by decide) ?_
          refine vv_iadd F dX8_isProvince_69 ?_
          refine vv_iald 1 F dX8_isProvince_70 rfl (vv_ixP (j := (3 + s)) (by have hz := (nn_add hs (by decide : (3 : Int32).toInt = ((3 : Nat) : Int)) (by omega)); omega) (by omega)) ?_
          refine vv_bipush (v := 118) F dX8_isProvince_71 (by decide) ?_
          refine vv_icmp_ne (tgt := 146) F dX8_isProvince_73 (by decide) (fun h_5 => ?_) (fun h_5 => ?_)
          · refine vv_iconst (v := 0) F dX8_isProvince_146 (by decide) ?_
            exact vv_zret F hR dX8_isProvince_147 rfl (vv_bf (fun z => (fun z => (fun z => (fun z => (fun z => h_5 z.1) z.2) z.2) z.2) z.2)) rfl
          · refine vv_aload_n F dX8_isProvince_76 rfl rfl ?_
            refine vv_get 0 F fl_X8_17 dX8_isProvince_77 rfl rfl ?_
            refine vv_aload_n F dX8_isProvince_80 rfl rfl ?_
            refine vv_get 0 F fl_X8_102 dX8_isProvince_81 rfl rfl ?_
            refine vv_iconst (v := 4) F dX8_isProvince_84 (by decide) ?_
            refine vv_iadd F dX8_isProvince_85 ?_
            refine vv_iald 1 F dX8_isProvince_86 rfl (vv_ixP (j := (4 + s)) (by have hz := (nn_add hs (by decide : (4 : Int32).toInt = ((4 : Nat) : Int)) (by omega)); omega) (by omega)) ?_
            refine vv_bipush (v := 105) F dX8_isProvince_87 (by decide) ?_
            refine vv_icmp_ne (tgt := 146) F dX8_isProvince_89 (by decide) (fun h_6 => ?_) (fun h_6 => ?_)
            · refine vv_iconst (v := 0) F dX8_isProvince_146 (by decide) ?_
              exact vv_zret F hR dX8_isProvince_147 rfl (vv_bf (fun z => (fun z => (fun z => (fun z => (fun z => (fun z => h_6 z.1) z.2) z.2) z.2) z.2) z.2)) rfl
            · refine vv_aload_n F dX8_isProvince_92 rfl rfl ?_
              refine vv_get 0 F fl_X8_17 dX8_isProvince_93 rfl rfl ?_
              refine vv_aload_n F dX8_isProvince_96 rfl rfl ?_
              refine vv_get 0 F fl_X8_102 dX8_isProvince_97 rfl rfl ?_
              refine vv_iconst (v := 5) F dX8_isProvince_100 (by decide) ?_
              refine vv_iadd F dX8_isProvince_101 ?_
              refine vv_iald 1 F dX8_isProvince_102 rfl (vv_ixP (j := (5 + s)) (by have hz := (nn_add hs (by decide : (5 : Int32).toInt = ((5 : Nat) : Int)) (by omega)); omega) (by omega)) ?_
              refine vv_bipush (v := 110) F dX8_isProvince_103 (by decide) ?_
              refine vv_icmp_ne (tgt := 146) F dX8_isProvince_105 (by decide) (fun h_7 => ?_) (fun h_7 => ?_)
              · refine vv_iconst (v := 0) F dX8_isProvince_146 (by decide) ?_
                exact vv_zret F hR dX8_isProvince_147 rfl (vv_bf (fun z => (fun z => (fun z => (fun z => (fun z => (fun z => (fun z => h_7 z.1) z.2) z.2) z.2) z.2) z.2) z.2)) rfl
              · refine vv_aload_n F dX8_isProvince_108 rfl rfl ?_
                refine vv_get 0 F fl_X8_17 dX8_isProvince_109 rfl rfl ?_
                refine vv_aload_n F dX8_isProvince_112 rfl rfl ?_
                refine vv_get 0 F fl_X8_102 dX8_isProvince_113 rfl rfl ?_
                refine vv_bipush (v := 6) F dX8_isProvince_116 (by decide) ?_
                refine vv_iadd F dX8_isProvince_118 ?_
                refine vv_iald 1 F dX8_isProvince_119 rfl (vv_ixP (j := (6 + s)) (by have hz := (nn_add hs (by decide : (6 : Int32).toInt = ((6 : Nat) : Int)) (by omega)); omega) (by omega)) ?_
                refine vv_bipush (v := 99) F dX8_isProvince_120 (by decide) ?_
                refine vv_icmp_ne (tgt := 146) F dX8_isProvince_122 (by decide) (fun h_8 => ?_) (fun h_8 => ?_)
                · refine vv_iconst (v := 0) F dX8_isProvince_146 (by decide) ?_
                  exact vv_zret F hR dX8_isProvince_147 rfl (vv_bf (fun z => (fun z => (fun z => (fun z => (fun z => (fun z => (fun z => (fun z => h_8 z.1) z.2) z.2) z.2) z.2) z.2) z.2) z.2)) rfl
                · refine vv_aload_n F dX8_isProvince_125 rfl rfl ?_
                  refine vv_get 0 F fl_X8_17 dX8_isProvince_126 rfl rfl ?_
                  refine vv_aload_n F dX8_isProvince_129 rfl rfl ?_
                  refine vv_get 0 F fl_X8_102 dX8_isProvince_130 rfl rfl ?_
                  refine vv_bipush (v := 7) F dX8_isProvince_133 (by decide) ?_
                  refine vv_iadd F dX8_isProvince_135 ?_
                  refine vv_iald 1 F dX8_isProvince_136 rfl (vv_ixP (j := (7 + s)) (by have hz := (nn_add hs (by decide : (7 : Int32).toInt = ((7 : Nat) : Int)) (by omega)); omega) (by omega)) ?_
                  refine vv_bipush (v := 101) F dX8_isProvince_137 (by decide) ?_
                  refine vv_icmp_ne (tgt := 146) F dX8_isProvince_139 (by decide) (fun h_9 => ?_) (fun h_9 => ?_)
                  · refine vv_iconst (v := 0) F dX8_isProvince_146 (by decide) ?_
                    exact vv_zret F hR dX8_isProvince_147 rfl (vv_bf (fun z => (fun z => (fun z => (fun z => (fun z => (fun z => (fun z => (fun z => h_9 z.2) z.2) z.2) z.2) z.2) z.2) z.2) z.2)) rfl
                  · refine vv_iconst (v := 1) F dX8_isProvince_142 (by decide) ?_
                    refine vv_goto (tgt := 147) F dX8_isProvince_143 (by decide) ?_
                    exact vv_zret F hR dX8_isProvince_147 rfl (vv_bt ⟨h_1, ⟨h_2, ⟨h_3, ⟨h_4, ⟨h_5, ⟨h_6, ⟨h_7, ⟨h_8, h_9⟩⟩⟩⟩⟩⟩⟩⟩) rfl
noncomputable def f_X8_wordOf (atp stp : Int32) (tx : Nat → Int32) (s : Nat) : Int32 := (if p_X8_isWord atp stp tx 104 111 117 115 101 0 0 s then 2 else (if p_X8_isWord atp stp tx 115 116 114 105 110 103 0 s then 3 else (if p_X8_isWord atp stp tx 112 117 114 115 101 0 0 s then 4 else (if p_X8_isWord atp stp tx 115 101 110 100 0 0 0 s then 5 else (if p_X8_isWord atp stp tx 119 97 105 116 0 0 0 s then 6 else (if p_X8_isProvince atp stp tx s then 1 else 0))))))
theorem c_X8_wordOf (l : Launch) (K : vv_K) (qm qw qk qt : Nat) (txd : Int32) (abv blw : Int64) (qs : Nat) (atp stp nbr : Int32) (qi qp qh qb : Nat) (bmy : Int32) (qa q6 : Nat) (hsh : Int64) (tx : Nat → Int32) (p s : Nat) (hp : (atp).toInt = (p : Int)) (hs : (stp).toInt = (s : Int)) (hsp : s ≤ p) (hp150 : p ≤ 150)  : vv_C l K 3 yX8_wordOf cX8_wordOf 1 (some .int) [.ref qm] [(qm, .inr (7, [.ref qw, .ref qk, .ref qt, .int txd, .long abv, .long blw, .ref qs, .int atp, .int stp, .int nbr, .ref qi, .ref qp, .ref qh, .ref qb, .int bmy, .ref qa, .ref q6, .long hsh])), (qt, .inl (K.2.1.1, 150, .inl tx))] (some (.int (f_X8_wordOf atp stp tx s))) [(qm, .inr (7, [.ref qw, .ref qk, .ref qt, .int txd, .long abv, .long blw, .ref qs, .int atp, .int stp, .int nbr, .ref qi, .ref qp, .ref qh, .ref qb, .int bmy, .ref qa, .ref q6, .long hsh])), (qt, .inl (K.2.1.1, 150, .inl tx))] := by
  refine vv_C.of (lv := [(0, .ref qm)]) (by decide +kernel) (Nat.le_of_ble_eq_true rfl) rfl ?_
  intro x hl hK F hR; subst hl; obtain rfl := hK
  refine vv_aload_n F dX8_wordOf_0 rfl rfl ?_
  refine vv_bipush (v := 104) F dX8_wordOf_1 (by decide) ?_
  refine vv_bipush (v := 111) F dX8_wordOf_3 (by decide) ?_
  refine vv_bipush (v := 117) F dX8_wordOf_5 (by decide) ?_
  refine vv_bipush (v := 115) F dX8_wordOf_7 (by decide) ?_
  refine vv_bipush (v := 101) F dX8_wordOf_9 (by decide) ?_
  refine vv_iconst (v := 0) F dX8_wordOf_11 (by decide) ?_
  refine vv_iconst (v := 0) F dX8_wordOf_12 (by decide) ?_
  refine vv_callVp (As := [.int 104, .int 111, .int 117, .int 115, .int 101, .int 0, .int 0]) (rest := []) [0, 1] 0 F (c_X8_isWord (vv_l x) (vv_k x) qm qw qk qt txd abv blw qs atp stp nbr qi qp qh qb bmy qa q6 hsh tx 104 111 117 115 101 0 0 p s hp hs (by omega) (by omega)) mv_X8_116 dX8_wordOf_13 (by decide) rfl rfl (Nat.le_of_ble_eq_true rfl) rfl (by decide) rfl ?_
  refine vv_ifz_eq (tgt := 23) F dX8_wordOf_16 (by decide) (fun h_1 => ?_) (fun h_1 => ?_)
  · refine vv_aload_n F dX8_wordOf_23 rfl rfl ?_
    refine vv_bipush (v := 115) F dX8_wordOf_24 (by decide) ?_
    refine vv_bipush (v := 116) F dX8_wordOf_26 (by decide) ?_
    refine vv_bipush (v := 114) F dX8_wordOf_28 (by decide) ?_
    refine vv_bipush (v := 105) F dX8_wordOf_30 (by decide) ?_
    refine vv_bipush (v := 110) F dX8_wordOf_32 (by decide) ?_
    refine vv_bipush (v := 103) F dX8_wordOf_34 (by decide) ?_
    refine vv_iconst (v := 0) F dX8_wordOf_36 (by decide) ?_
    refine vv_callVp (As := [.int 115, .int 116, .int 114, .int 105, .int 110, .int 103, .int 0]) (rest := []) [0, 1] 0 F (c_X8_isWord (vv_l x) (vv_k x) qm qw qk qt txd abv blw qs atp stp nbr qi qp qh qb bmy qa q6 hsh tx 115 116 114 105 110 103 0 p s hp hs (by omega) (by omega)) mv_X8_116 dX8_wordOf_37 (by decide) rfl rfl (Nat.le_of_ble_eq_true rfl) rfl (by decide) rfl ?_
    refine vv_ifz_eq (tgt := 47) F dX8_wordOf_40 (by decide) (fun h_2 => ?_) (fun h_2 => ?_)
    · refine vv_aload_n F dX8_wordOf_47 rfl rfl ?_
      refine vv_bipush (v := 112) F dX8_wordOf_48 (by decide) ?_
      refine vv_bipush (v := 117) F dX8_wordOf_50 (by decide) ?_
      refine vv_bipush (v := 114) F dX8_wordOf_52 (by decide) ?_
      refine vv_bipush (v := 115) F dX8_wordOf_54 (by decide) ?_
      refine vv_bipush (v := 101) F dX8_wordOf_56 (by decide) ?_
      refine vv_iconst (v := 0) F dX8_wordOf_58 (by decide) ?_
      refine vv_iconst (v := 0) F dX8_wordOf_59 (by decide) ?_
      refine vv_callVp (As := [.int 112, .int 117, .int 114, .int 115, .int 101, .int 0, .int 0]) (rest := []) [0, 1] 0 F (c_X8_isWord (vv_l x) (vv_k x) qm qw qk qt txd abv blw qs atp stp nbr qi qp qh qb bmy qa q6 hsh tx 112 117 114 115 101 0 0 p s hp hs (by omega) (by omega)) mv_X8_116 dX8_wordOf_60 (by decide) rfl rfl (Nat.le_of_ble_eq_true rfl) rfl (by decide) rfl ?_
      refine vv_ifz_eq (tgt := 70) F dX8_wordOf_63 (by decide) (fun h_3 => ?_) (fun h_3 => ?_)
      · refine vv_aload_n F dX8_wordOf_70 rfl rfl ?_
        refine vv_bipush (v := 115) F dX8_wordOf_71 (by decide) ?_
        refine vv_bipush (v := 101) F dX8_wordOf_73 (by decide) ?_
        refine vv_bipush (v := 110) F dX8_wordOf_75 (by decide) ?_
        refine vv_bipush (v := 100) F dX8_wordOf_77 (by decide) ?_
        refine vv_iconst (v := 0) F dX8_wordOf_79 (by decide) ?_
        refine vv_iconst (v := 0) F dX8_wordOf_80 (by decide) ?_
        refine vv_iconst (v := 0) F dX8_wordOf_81 (by decide) ?_
        refine vv_callVp (As := [.int 115, .int 101, .int 110, .int 100, .int 0, .int 0, .int 0]) (rest := []) [0, 1] 0 F (c_X8_isWord (vv_l x) (vv_k x) qm qw qk qt txd abv blw qs atp stp nbr qi qp qh qb bmy qa q6 hsh tx 115 101 110 100 0 0 0 p s hp hs (by omega) (by omega)) mv_X8_116 dX8_wordOf_82 (by decide) rfl rfl (Nat.le_of_ble_eq_true rfl) rfl (by decide) rfl ?_
        refine vv_ifz_eq (tgt := 92) F dX8_wordOf_85 (by decide) (fun h_4 => ?_) (fun h_4 => ?_)
        · refine vv_aload_n F dX8_wordOf_92 rfl rfl ?_
          refine vv_bipush (v := 119) F dX8_wordOf_93 (by decide) ?_
          refine vv_bipush (v := 97) F dX8_wordOf_95 (by decide) ?_
          refine vv_bipush (v := 105) F dX8_wordOf_97 (by decide) ?_
          refine vv_bipush (v := 116) F dX8_wordOf_99 (by decide) ?_
          refine vv_iconst (v := 0) F dX8_wordOf_101 (by decide) ?_
          refine vv_iconst (v := 0) F dX8_wordOf_102 (by decide) ?_
          refine vv_iconst (v := 0) F dX8_wordOf_103 (by decide) ?_
          refine vv_callVp (As := [.int 119, .int 97, .int 105, .int 116, .int 0, .int 0, .int 0]) (rest := []) [0, 1] 0 F (c_X8_isWord (vv_l x) (vv_k x) qm qw qk qt txd abv blw qs atp stp nbr qi qp qh qb bmy qa q6 hsh tx 119 97 105 116 0 0 0 p s hp hs (by omega) (by omega)) mv_X8_116 dX8_wordOf_104 (by decide) rfl rfl (Nat.le_of_ble_eq_true rfl) rfl (by decide) rfl ?_
          refine vv_ifz_eq (tgt := 115) F dX8_wordOf_107 (by decide) (fun h_5 => ?_) (fun h_5 => ?_)
          · refine vv_aload_n F dX8_wordOf_115 rfl rfl ?_
            refine vv_callVp (As := []) (rest := []) [0, 1] 0 F (c_X8_isProvince (vv_l x) (vv_k x) qm qw qk qt txd abv blw qs atp stp nbr qi qp qh qb bmy qa q6 hsh tx p s hp hs (by omega) (by omega)) mv_X8_120 dX8_wordOf_116 (by decide) rfl rfl (Nat.le_of_ble_eq_true rfl) rfl (by decide) rfl ?_
            refine vv_ifz_eq (tgt := 126) F dX8_wordOf_119 (by decide) (fun h_6 => ?_) (fun h_6 => ?_)
            · refine vv_iconst (v := 0) F dX8_wordOf_126 (by decide) ?_
              exact vv_iret F hR dX8_wordOf_127 (congrArg (fun z => some (Value.int z)) ((if_neg h_1).trans ((if_neg h_2).trans ((if_neg h_3).trans ((if_neg h_4).trans ((if_neg h_5).trans ((if_neg h_6).trans rfl))))))) rfl
            · refine vv_iconst (v := 1) F dX8_wordOf_122 (by decide) ?_
              refine vv_goto (tgt := 127) F dX8_wordOf_123 (by decide) ?_
              exact vv_iret F hR dX8_wordOf_127 (congrArg (fun z => some (Value.int z)) ((if_neg h_1).trans ((if_neg h_2).trans ((if_neg h_3).trans ((if_neg h_4).trans ((if_neg h_5).trans ((if_pos h_6).trans rfl))))))) rfl
          · refine vv_bipush (v := 6) F dX8_wordOf_110 (by decide) ?_
            refine vv_goto (tgt := 127) F dX8_wordOf_112 (by decide) ?_
            exact vv_iret F hR dX8_wordOf_127 (congrArg (fun z => some (Value.int z)) ((if_neg h_1).trans ((if_neg h_2).trans ((if_neg h_3).trans ((if_neg h_4).trans ((if_pos h_5).trans rfl)))))) rfl
        · refine vv_iconst (v := 5) F dX8_wordOf_88 (by decide) ?_
          refine vv_goto (tgt := 127) F dX8_wordOf_89 (by decide) ?_
          exact vv_iret F hR dX8_wordOf_127 (congrArg (fun z => some (Value.int z)) ((if_neg h_1).trans ((if_neg h_2).trans ((if_neg h_3).trans ((if_pos h_4).trans rfl))))) rfl
      · refine vv_iconst (v := 4) F dX8_wordOf_66 (by decide) ?_
        refine vv_goto (tgt := 127) F dX8_wordOf_67 (by decide) ?_
        exact vv_iret F hR dX8_wordOf_127 (congrArg (fun z => some (Value.int z)) ((if_neg h_1).trans ((if_neg h_2).trans ((if_pos h_3).trans rfl)))) rfl
    · refine vv_iconst (v := 3) F dX8_wordOf_43 (by decide) ?_
      refine vv_goto (tgt := 127) F dX8_wordOf_44 (by decide) ?_
      exact vv_iret F hR dX8_wordOf_127 (congrArg (fun z => some (Value.int z)) ((if_neg h_1).trans ((if_pos h_2).trans rfl))) rfl
  · refine vv_iconst (v := 2) F dX8_wordOf_19 (by decide) ?_
    refine vv_goto (tgt := 127) F dX8_wordOf_20 (by decide) ?_
    exact vv_iret F hR dX8_wordOf_127 (congrArg (fun z => some (Value.int z)) ((if_pos h_1).trans rfl)) rfl
abbrev p_X8_readsHouse (txd : Int32) (tx : Nat → Int32) (p tt : Nat) : Prop := ((p_X8_takesNumber txd tx 0 1 p tt) ∧ (p_X8_takesNumber txd tx 0 5 (nuP txd tx tt p) tt))
noncomputable def g_X8_readsHouse_0_7 (txd : Int32) (tx : Nat → Int32) (p tt : Nat) : Int32 := (if p_X8_takesNumber txd tx 0 1 p tt then (if p_X8_takesNumber txd tx 0 5 (nuP txd tx tt p) tt then (nI (nuP txd tx tt (nuP txd tx tt p))) else (nI (nuP txd tx tt (nuP txd tx tt p)))) else (nI (nuP txd tx tt p)))
noncomputable def g_X8_readsHouse_0_8 (txd : Int32) (tx : Nat → Int32) (p tt : Nat) : Int32 := (if p_X8_takesNumber txd tx 0 1 p tt then (if p_X8_takesNumber txd tx 0 5 (nuP txd tx tt p) tt then (nI (blk txd tx tt (nuP txd tx tt p))) else (nI (blk txd tx tt (nuP txd tx tt p)))) else (nI (blk txd tx tt p)))
noncomputable def g_X8_readsHouse_0_9 (txd : Int32) (tx : Nat → Int32) (p tt : Nat) : Int32 := (if p_X8_takesNumber txd tx 0 1 p tt then (if p_X8_takesNumber txd tx 0 5 (nuP txd tx tt p) tt then (nuN txd tx tt (nuP txd tx tt p)) else (nuN txd tx tt (nuP txd tx tt p))) else (nuN txd tx tt p))
noncomputable def g_X8_readsHouse_1 (txd : Int32) (wf tx : Nat → Int32) (p tt : Nat) : Nat → Int32 := (if p_X8_takesNumber txd tx 0 1 p tt then (if p_X8_takesNumber txd tx 0 5 (nuP txd tx tt p) tt then (upd wf (354 + ((nuN txd tx tt p).toNatClampNeg)) (nuN txd tx tt (nuP txd tx tt p))) else wf) else wf)
theorem c_X8_readsHouse (l : Launch) (K : vv_K) (qm qw qk qt : Nat) (txd : Int32) (abv blw : Int64) (qs : Nat) (atp stp nbr : Int32) (qi qp qh qb : Nat) (bmy : Int32) (qa q6 : Nat) (hsh : Int64) (wf tx : Nat → Int32) (p tt : Nat) (hp : (atp).toInt = (p : Int)) (ht : (txd).toInt = (tt : Int)) (hp151 : p ≤ 151) (htt : tt ≤ 150)  : vv_C l K 4 yX8_readsHouse cX8_readsHouse 2 (some .boolean) [.ref qm] [(qm, .inr (7, [.ref qw, .ref qk, .ref qt, .int txd, .long abv, .long blw, .ref qs, .int atp, .int stp, .int nbr, .ref qi, .ref qp, .ref qh, .ref qb, .int bmy, .ref qa, .ref q6, .long hsh])), (qw, .inl (K.2.1.1, 456, .inl wf)), (qt, .inl (K.2.1.1, 150, .inl tx))] (some (.int (vv_b (p_X8_readsHouse txd tx p tt)))) [(qm, .inr (7, [.ref qw, .ref qk, .ref qt, .int txd, .long abv, .long blw, .ref qs, .int (g_X8_readsHouse_0_7 txd tx p tt), .int (g_X8_readsHouse_0_8 txd tx p tt), .int (g_X8_readsHouse_0_9 txd tx p tt), .ref qi, .ref qp, .ref qh, .ref qb, .int bmy, .ref qa, .ref q6, .long hsh])), (qw, .inl (K.2.1.1, 456, .inl (g_X8_readsHouse_1 txd wf tx p tt))), (qt, .inl (K.2.1.1, 150, .inl tx))] := by
  refine vv_C.of (lv := [(0, .ref qm)]) (by decide +kernel) (Nat.le_of_ble_eq_true rfl) rfl ?_
  intro x hl hK F hR; subst hl; obtain rfl := hK
  refine vv_aload_n F dX8_readsHouse_0 rfl rfl ?_
  refine vv_iconst (v := 0) F dX8_readsHouse_1 (by decide) ?_
  refine vv_iconst (v := 1) F dX8_readsHouse_2 (by decide) ?_
  refine vv_callV (As := [.int 0, .int 1]) (rest := []) [0, 2] 0 (ws' := [(qm, .inr (7, [.ref qw, .ref qk, .ref qt, .int txd, .long abv, .long blw, .ref qs, .int (nI (nuP txd tx tt p)), .int (nI (blk txd tx tt p)), .int (nuN txd tx tt p), .ref qi, .ref qp, .ref qh, .ref qb, .int bmy, .ref qa, .ref q6, .long hsh])), (qw, .inl ((vv_k x).2.1.1, 456, .inl wf)), (qt, .inl ((vv_k x).2.1.1, 150, .inl tx))]) F (c_X8_takesNumber (vv_l x) (vv_k x) qm qw qk qt txd abv blw qs atp stp nbr qi qp qh qb bmy qa q6 hsh tx 0 1 p tt hp ht (by omega) (by omega)) mv_X8_133 dX8_readsHouse_3 (by decide) rfl rfl (Nat.le_of_ble_eq_true rfl) rfl (by decide) (Eq.trans (b := [qm, qt]) rfl rfl) rfl rfl ?_
  have h_1b := blk_le (tx := tx) (p := p) ht htt (by omega)
  have h_2n := nuP_le (tx := tx) (p := p) ht htt (by omega)
  refine vv_ifz_ne (tgt := 11) F dX8_readsHouse_6 (by decide) (fun h_3 => ?_) (fun h_3 => ?_)
  · have h_3r := in_rng2 (a := 0) (b := 1) (by decide) (by decide) h_3.2
    have h_3c := nn_cl (a := (nuN txd tx tt p)) (by omega)
    refine vv_aload_n F dX8_readsHouse_11 rfl rfl ?_
    refine vv_get 0 F fl_X8_124 dX8_readsHouse_12 rfl rfl ?_
    refine vv_istore_n (lv' := [(1, .int (nuN txd tx tt p)), (0, .ref qm)]) F dX8_readsHouse_15 rfl (by decide) rfl ?_
    refine vv_aload_n F dX8_readsHouse_16 rfl rfl ?_
    refine vv_iconst (v := 0) F dX8_readsHouse_17 (by decide) ?_
    refine vv_iconst (v := 5) F dX8_readsHouse_18 (by decide) ?_
    refine vv_callV (As := [.int 0, .int 5]) (rest := []) [0, 2] 0 (ws' := [(qm, .inr (7, [.ref qw, .ref qk, .ref qt, .int txd, .long abv, .long blw, .ref qs, .int (nI (nuP txd tx tt (nuP txd tx tt p))), .int (nI (blk txd tx tt (nuP txd tx tt p))), .int (nuN txd tx tt (nuP txd tx tt p)), .ref qi, .ref qp, .ref qh, .ref qb, .int bmy, .ref qa, .ref q6, .long hsh])), (qw, .inl ((vv_k x).2.1.1, 456, .inl wf)), (qt, .inl ((vv_k x).2.1.1, 150, .inl tx))]) F (c_X8_takesNumber (vv_l x) (vv_k x) qm qw qk qt txd abv blw qs (nI (nuP txd tx tt p)) (nI (blk txd tx tt p)) (nuN txd tx tt p) qi qp qh qb bmy qa q6 hsh tx 0 5 (nuP txd tx tt p) tt (nI_toInt (n := (nuP txd tx tt p)) (by omega)) ht (by omega) (by omega)) mv_X8_133 dX8_readsHouse_19 (by decide) rfl rfl (Nat.le_of_ble_eq_true rfl) rfl (by decide) (Eq.trans (b := [qm, qt]) rfl rfl) rfl rfl ?_
    have h_4b := blk_le (tx := tx) (p := (nuP txd tx tt p)) ht htt (by omega)
    have h_5n := nuP_le (tx := tx) (p := (nuP txd tx tt p)) ht htt (by omega)
    refine vv_ifz_ne (tgt := 27) F dX8_readsHouse_22 (by decide) (fun h_6 => ?_) (fun h_6 => ?_)
    · have h_6r := in_rng2 (a := 0) (b := 5) (by decide) (by decide) h_6.2
      have h_6c := nn_cl (a := (nuN txd tx tt (nuP txd tx tt p))) (by omega)
      refine vv_aload_n F dX8_readsHouse_27 rfl rfl ?_
      refine vv_get 0 F fl_X8_7 dX8_readsHouse_28 rfl rfl ?_
      refine vv_sipush (v := 354) F dX8_readsHouse_31 (by decide) ?_
      refine vv_iload_n F dX8_readsHouse_34 rfl rfl ?_
      refine vv_iadd F dX8_readsHouse_35 ?_
      refine vv_aload_n F dX8_readsHouse_36 rfl rfl ?_
      refine vv_get 0 F fl_X8_124 dX8_readsHouse_37 rfl rfl ?_
      refine vv_iast 1 (ws' := [(qm, .inr (7, [.ref qw, .ref qk, .ref qt, .int txd, .long abv, .long blw, .ref qs, .int (nI (nuP txd tx tt (nuP txd tx tt p))), .int (nI (blk txd tx tt (nuP txd tx tt p))), .int (nuN txd tx tt (nuP txd tx tt p)), .ref qi, .ref qp, .ref qh, .ref qb, .int bmy, .ref qa, .ref q6, .long hsh])), (qw, .inl ((vv_k x).2.1.1, 456, .inl (upd wf (354 + ((nuN txd tx tt p).toNatClampNeg)) (nuN txd tx tt (nuP txd tx tt p))))), (qt, .inl ((vv_k x).2.1.1, 150, .inl tx))]) F dX8_readsHouse_40 rfl (vv_ixP (j := (354 + ((nuN txd tx tt p).toNatClampNeg))) (by have hz := (nn_add (by decide : (354 : Int32).toInt = ((354 : Nat) : Int)) h_3c (by omega)); omega) (by omega)) rfl ?_
      refine vv_iconst (v := 1) F dX8_readsHouse_41 (by decide) ?_
      exact vv_zret F hR dX8_readsHouse_42 rfl (vv_bt ⟨h_3, h_6⟩) (by simp only [g_X8_readsHouse_0_7, g_X8_readsHouse_0_8, g_X8_readsHouse_0_9, g_X8_readsHouse_1, if_pos h_3, if_pos h_6])
    · refine vv_iconst (v := 0) F dX8_readsHouse_25 (by decide) ?_
      exact vv_zret F hR dX8_readsHouse_26 rfl (vv_bf (fun z => h_6 z.2)) (by simp only [g_X8_readsHouse_0_7, g_X8_readsHouse_0_8, g_X8_readsHouse_0_9, g_X8_readsHouse_1, if_pos h_3, if_neg h_6])
  · refine vv_iconst (v := 0) F dX8_readsHouse_9 (by decide) ?_
    exact vv_zret F hR dX8_readsHouse_10 rfl (vv_bf (fun z => h_3 z.1)) (by simp only [g_X8_readsHouse_0_7, g_X8_readsHouse_0_8, g_X8_readsHouse_0_9, g_X8_readsHouse_1, if_neg h_3])
abbrev p_X8_readsPurse (txd : Int32) (tx : Nat → Int32) (p tt : Nat) : Prop := (p_X8_takesNumber txd tx 0 99 p tt)
noncomputable def g_X8_readsPurse_1 (txd : Int32) (wf tx : Nat → Int32) (p tt : Nat) : Nat → Int32 := (if p_X8_takesNumber txd tx 0 99 p tt then (upd wf 356 (100 * (nuN txd tx tt p))) else wf)
theorem c_X8_readsPurse (l : Launch) (K : vv_K) (qm qw qk qt : Nat) (txd : Int32) (abv blw : Int64) (qs : Nat) (atp stp nbr : Int32) (qi qp qh qb : Nat) (bmy : Int32) (qa q6 : Nat) (hsh : Int64) (wf tx : Nat → Int32) (p tt : Nat) (hp : (atp).toInt = (p : Int)) (ht : (txd).toInt = (tt : Int)) (hp151 : p ≤ 151) (htt : tt ≤ 150)  : vv_C l K 4 yX8_readsPurse cX8_readsPurse 1 (some .boolean) [.ref qm] [(qm, .inr (7, [.ref qw, .ref qk, .ref qt, .int txd, .long abv, .long blw, .ref qs, .int atp, .int stp, .int nbr, .ref qi, .ref qp, .ref qh, .ref qb, .int bmy, .ref qa, .ref q6, .long hsh])), (qw, .inl (K.2.1.1, 456, .inl wf)), (qt, .inl (K.2.1.1, 150, .inl tx))] (some (.int (vv_b (p_X8_readsPurse txd tx p tt)))) [(qm, .inr (7, [.ref qw, .ref qk, .ref qt, .int txd, .long abv, .long blw, .ref qs, .int (nI (nuP txd tx tt p)), .int (nI (blk txd tx tt p)), .int (nuN txd tx tt p), .ref qi, .ref qp, .ref qh, .ref qb, .int bmy, .ref qa, .ref q6, .long hsh])), (qw, .inl (K.2.1.1, 456, .inl (g_X8_readsPurse_1 txd wf tx p tt))), (qt, .inl (K.2.1.1, 150, .inl tx))] := by
  refine vv_C.of (lv := [(0, .ref qm)]) (by decide +kernel) (Nat.le_of_ble_eq_true rfl) rfl ?_
  intro x hl hK F hR; subst hl; obtain rfl := hK
  refine vv_aload_n F dX8_readsPurse_0 rfl rfl ?_
  refine vv_iconst (v := 0) F dX8_readsPurse_1 (by decide) ?_
  refine vv_bipush (v := 99) F dX8_readsPurse_2 (by decide) ?_
  refine vv_callV (As := [.int 0, .int 99]) (rest := []) [0, 2] 0 (ws' := [(qm, .inr (7, [.ref qw, .ref qk, .ref qt, .int txd, .long abv, .long blw, .ref qs, .int (nI (nuP txd tx tt p)), .int (nI (blk txd tx tt p)), .int (nuN txd tx tt p), .ref qi, .ref qp, .ref qh, .ref qb, .int bmy, .ref qa, .ref q6, .long hsh])), (qw, .inl ((vv_k x).2.1.1, 456, .inl wf)), (qt, .inl ((vv_k x).2.1.1, 150, .inl tx))]) F (c_X8_takesNumber (vv_l x) (vv_k x) qm qw qk qt txd abv blw qs atp stp nbr qi qp qh qb bmy qa q6 hsh tx 0 99 p tt hp ht (by omega) (by omega)) mv_X8_133 dX8_readsPurse_4 (by decide) rfl rfl (Nat.le_of_ble_eq_true rfl) rfl (by decide) (Eq.trans (b := [qm, qt]) rfl rfl) rfl rfl ?_
  have h_1b := blk_le (tx := tx) (p := p) ht htt (by omega)
  have h_2n := nuP_le (tx := tx) (p := p) ht htt (by omega)
  refine vv_ifz_ne (tgt := 12) F dX8_readsPurse_7 (by decide) (fun h_3 => ?_) (fun h_3 => ?_)
  · have h_3r := in_rng2 (a := 0) (b := 99) (by decide) (by decide) h_3.2
    have h_3c := nn_cl (a := (nuN txd tx tt p)) (by omega)
    refine vv_aload_n F dX8_readsPurse_12 rfl rfl ?_
    refine vv_get 0 F fl_X8_7 dX8_readsPurse_13 rfl rfl ?_
    refine vv_sipush (v := 356) F dX8_readsPurse_16 (by decide) ?_
    refine vv_bipush (v := 100) F dX8_readsPurse_19 (by decide) ?_
    refine vv_aload_n F dX8_readsPurse_21 rfl rfl ?_
    refine vv_get 0 F fl_X8_124 dX8_readsPurse_22 rfl rfl ?_
    refine vv_imul F dX8_readsPurse_25 ?_
    refine vv_iast 1 (ws' := [(qm, .inr (7, [.ref qw, .ref qk, .ref qt, .int txd, .long abv, .long blw, .ref qs, .int (nI (nuP txd tx tt p)), .int (nI (blk txd tx tt p)), .int (nuN txd tx tt p), .ref qi, .ref qp, .ref qh, .ref qb, .int bmy, .ref qa, .ref q6, .long hsh])), (qw, .inl ((vv_k x).2.1.1, 456, .inl (upd wf 356 (100 * (nuN txd tx tt p))))), (qt, .inl ((vv_k x).2.1.1, 150, .inl tx))]) F dX8_readsPurse_26 rfl (vv_ixP (j := 356) (by decide) (by decide)) rfl ?_
    refine vv_iconst (v := 1) F dX8_readsPurse_27 (by decide) ?_
    exact vv_zret F hR dX8_readsPurse_28 rfl (vv_bt h_3) (by simp only [g_X8_readsPurse_1, if_pos h_3])
  · refine vv_iconst (v := 0) F dX8_readsPurse_10 (by decide) ?_
    exact vv_zret F hR dX8_readsPurse_11 rfl (vv_bf h_3) (by simp only [g_X8_readsPurse_1, if_neg h_3])
abbrev p_X8_readsWait (txd : Int32) (tx : Nat → Int32) (p tt : Nat) : Prop := (p_X8_takesNumber txd tx 1 99 p tt)
noncomputable def g_X8_readsWait_1 (txd : Int32) (wf tx : Nat → Int32) (p tt : Nat) : Nat → Int32 := (if p_X8_takesNumber txd tx 1 99 p tt then (if ((wf 359) + (nuN txd tx tt p)) ≤ 9999 then (upd wf 359 ((wf 359) + (nuN txd tx tt p))) else (upd wf 359 9999)) else wf)
theorem c_X8_readsWait (l : Launch) (K : vv_K) (qm qw qk qt : Nat) (txd : Int32) (abv blw : Int64) (qs : Nat) (atp stp nbr : Int32) (qi qp qh qb : Nat) (bmy : Int32) (qa q6 : Nat) (hsh : Int64) (wf tx : Nat → Int32) (p tt : Nat) (hp : (atp).toInt = (p : Int)) (ht : (txd).toInt = (tt : Int)) (hp151 : p ≤ 151) (htt : tt ≤ 150)  : vv_C l K 4 yX8_readsWait cX8_readsWait 1 (some .boolean) [.ref qm] [(qm, .inr (7, [.ref qw, .ref qk, .ref qt, .int txd, .long abv, .long blw, .ref qs, .int atp, .int stp, .int nbr, .ref qi, .ref qp, .ref qh, .ref qb, .int bmy, .ref qa, .ref q6, .long hsh])), (qw, .inl (K.2.1.1, 456, .inl wf)), (qt, .inl (K.2.1.1, 150, .inl tx))] (some (.int (vv_b (p_X8_readsWait txd tx p tt)))) [(qm, .inr (7, [.ref qw, .ref qk, .ref qt, .int txd, .long abv, .long blw, .ref qs, .int (nI (nuP txd tx tt p)), .int (nI (blk txd tx tt p)), .int (nuN txd tx tt p), .ref qi, .ref qp, .ref qh, .ref qb, .int bmy, .ref qa, .ref q6, .long hsh])), (qw, .inl (K.2.1.1, 456, .inl (g_X8_readsWait_1 txd wf tx p tt))), (qt, .inl (K.2.1.1, 150, .inl tx))] := by
  refine vv_C.of (lv := [(0, .ref qm)]) (by decide +kernel) (Nat.le_of_ble_eq_true rfl) rfl ?_
  intro x hl hK F hR; subst hl; obtain rfl := hK
  refine vv_aload_n F dX8_readsWait_0 rfl rfl ?_
  refine vv_iconst (v := 1) F dX8_readsWait_1 (by decide) ?_
  refine vv_bipush (v := 99) F dX8_readsWait_2 (by decide) ?_
  refine vv_callV (As := [.int 1, .int 99]) (rest := []) [0, 2] 0 (ws' := [(qm, .inr (7, [.ref qw, .ref qk, .ref qt, .int txd, .long abv, .long blw, .ref qs, .int (nI (nuP txd tx tt p)), .int (nI (blk txd tx tt p)), .int (nuN txd tx tt p), .ref qi, .ref qp, .ref qh, .ref qb, .int bmy, .ref qa, .ref q6, .long hsh])), (qw, .inl ((vv_k x).2.1.1, 456, .inl wf)), (qt, .inl ((vv_k x).2.1.1, 150, .inl tx))]) F (c_X8_takesNumber (vv_l x) (vv_k x) qm qw qk qt txd abv blw qs atp stp nbr qi qp qh qb bmy qa q6 hsh tx 1 99 p tt hp ht (by omega) (by omega)) mv_X8_133 dX8_readsWait_4 (by decide) rfl rfl (Nat.le_of_ble_eq_true rfl) rfl (by decide) (Eq.trans (b := [qm, qt]) rfl rfl) rfl rfl ?_
  have h_1b := blk_le (tx := tx) (p := p) ht htt (by omega)
  have h_2n := nuP_le (tx := tx) (p := p) ht htt (by omega)
  refine vv_ifz_ne (tgt := 12) F dX8_readsWait_7 (by decide) (fun h_3 => ?_) (fun h_3 => ?_)
  · have h_3r := in_rng2 (a := 1) (b := 99) (by decide) (by decide) h_3.2
    have h_3c := nn_cl (a := (nuN txd tx tt p)) (by omega)
    refine vv_aload_n F dX8_readsWait_12 rfl rfl ?_
    refine vv_get 0 F fl_X8_7 dX8_readsWait_13 rfl rfl ?_
    refine vv_sipush (v := 359) F dX8_readsWait_16 (by decide) ?_
    refine vv_aload_n F dX8_readsWait_19 rfl rfl ?_
    refine vv_get 0 F fl_X8_7 dX8_readsWait_20 rfl rfl ?_
    refine vv_sipush (v := 359) F dX8_readsWait_23 (by decide) ?_
    refine vv_iald 1 F dX8_readsWait_26 rfl (vv_ixP (j := 359) (by decide) (by decide)) ?_
    refine vv_aload_n F dX8_readsWait_27 rfl rfl ?_
    refine vv_get 0 F fl_X8_124 dX8_readsWait_28 rfl rfl ?_
    refine vv_iadd F dX8_readsWait_31 ?_
    refine vv_sipush (v := 9999) F dX8_readsWait_32 (by decide) ?_
    refine vv_icmp_le (tgt := 44) F dX8_readsWait_35 (by decide) (fun h_4 => ?_) (fun h_4 => ?_)
    · refine vv_aload_n F dX8_readsWait_44 rfl rfl ?_
      refine vv_get 0 F fl_X8_7 dX8_readsWait_45 rfl rfl ?_
      refine vv_sipush (v := 359) F dX8_readsWait_48 (by decide) ?_
      refine vv_iald 1 F dX8_readsWait_51 rfl (vv_ixP (j := 359) (by decide) (by decide)) ?_
      refine vv_aload_n F dX8_readsWait_52 rfl rfl ?_
      refine vv_get 0 F fl_X8_124 dX8_readsWait_53 rfl rfl ?_
      refine vv_iadd F dX8_readsWait_56 ?_
      refine vv_iast 1 (ws' := [(qm, .inr (7, [.ref qw, .ref qk, .ref qt, .int txd, .long abv, .long blw, .ref qs, .int (nI (nuP txd tx tt p)), .int (nI (blk txd tx tt p)), .int (nuN txd tx tt p), .ref qi, .ref qp, .ref qh, .ref qb, .int bmy, .ref qa, .ref q6, .long hsh])), (qw, .inl ((vv_k x).2.1.1, 456, .inl (upd wf 359 ((wf 359) + (nuN txd tx tt p))))), (qt, .inl ((vv_k x).2.1.1, 150, .inl tx))]) F dX8_readsWait_57 rfl (vv_ixP (j := 359) (by decide) (by decide)) rfl ?_
      refine vv_iconst (v := 1) F dX8_readsWait_58 (by decide) ?_
      exact vv_zret F hR dX8_readsWait_59 rfl (vv_bt h_3) (by simp only [g_X8_readsWait_1, if_pos h_3, if_pos h_4])
    · refine vv_sipush (v := 9999) F dX8_readsWait_38 (by decide) ?_
      refine vv_goto (tgt := 57) F dX8_readsWait_41 (by decide) ?_
      refine vv_iast 1 (ws' := [(qm, .inr (7, [.ref qw, .ref qk, .ref qt, .int txd, .long abv, .long blw, .ref qs, .int (nI (nuP txd tx tt p)), .int (nI (blk txd tx tt p)), .int (nuN txd tx tt p), .ref qi, .ref qp, .ref qh, .ref qb, .int bmy, .ref qa, .ref q6, .long hsh])), (qw, .inl ((vv_k x).2.1.1, 456, .inl (upd wf 359 9999))), (qt, .inl ((vv_k x).2.1.1, 150, .inl tx))]) F dX8_readsWait_57 rfl (vv_ixP (j := 359) (by decide) (by decide)) rfl ?_
      refine vv_iconst (v := 1) F dX8_readsWait_58 (by decide) ?_
      exact vv_zret F hR dX8_readsWait_59 rfl (vv_bt h_3) (by simp only [g_X8_readsWait_1, if_pos h_3, if_neg h_4])
  · refine vv_iconst (v := 0) F dX8_readsWait_10 (by decide) ?_
    exact vv_zret F hR dX8_readsWait_11 rfl (vv_bf h_3) (by simp only [g_X8_readsWait_1, if_neg h_3])
abbrev p_X8_readsProvince (txd : Int32) (tx : Nat → Int32) (p tt : Nat) : Prop := (p_X8_takesNumber txd tx 1 60 p tt)
noncomputable def g_X8_readsProvince_1 (txd : Int32) (wf tx : Nat → Int32) (p tt : Nat) : Nat → Int32 := (if p_X8_takesNumber txd tx 1 60 p tt then (upd wf 353 (nuN txd tx tt p)) else wf)
theorem c_X8_readsProvince (l : Launch) (K : vv_K) (qm qw qk qt : Nat) (txd : Int32) (abv blw : Int64) (qs : Nat) (atp stp nbr : Int32) (qi qp qh qb : Nat) (bmy : Int32) (qa q6 : Nat) (hsh : Int64) (wf tx : Nat → Int32) (p tt : Nat) (hp : (atp).toInt = (p : Int)) (ht : (txd).toInt = (tt : Int)) (hp151 : p ≤ 151) (htt : tt ≤ 150)  : vv_C l K 4 yX8_readsProvince cX8_readsProvince 1 (some .boolean) [.ref qm] [(qm, .inr (7, [.ref qw, .ref qk, .ref qt, .int txd, .long abv, .long blw, .ref qs, .int atp, .int stp, .int nbr, .ref qi, .ref qp, .ref qh, .ref qb, .int bmy, .ref qa, .ref q6, .long hsh])), (qw, .inl (K.2.1.1, 456, .inl wf)), (qt, .inl (K.2.1.1, 150, .inl tx))] (some (.int (vv_b (p_X8_readsProvince txd tx p tt)))) [(qm, .inr (7, [.ref qw, .ref qk, .ref qt, .int txd, .long abv, .long blw, .ref qs, .int (nI (nuP txd tx tt p)), .int (nI (blk txd tx tt p)), .int (nuN txd tx tt p), .ref qi, .ref qp, .ref qh, .ref qb, .int bmy, .ref qa, .ref q6, .long hsh])), (qw, .inl (K.2.1.1, 456, .inl (g_X8_readsProvince_1 txd wf tx p tt))), (qt, .inl (K.2.1.1, 150, .inl tx))] := by
  refine vv_C.of (lv := [(0, .ref qm)]) (by decide +kernel) (Nat.le_of_ble_eq_true rfl) rfl ?_
  intro x hl hK F hR; subst hl; obtain rfl := hK
  refine vv_aload_n F dX8_readsProvince_0 rfl rfl ?_
  refine vv_iconst (v := 1) F dX8_readsProvince_1 (by decide) ?_
  refine vv_bipush (v := 60) F dX8_readsProvince_2 (by decide) ?_
  refine vv_callV (As := [.int 1, .int 60]) (rest := []) [0, 2] 0 (ws' := [(qm, .inr (7, [.ref qw, .ref qk, .ref qt, .int txd, .long abv, .long blw, .ref qs, .int (nI (nuP txd tx tt p)), .int (nI (blk txd tx tt p)), .int (nuN txd tx tt p), .ref qi, .ref qp, .ref qh, .ref qb, .int bmy, .ref qa, .ref q6, .long hsh])), (qw, .inl ((vv_k x).2.1.1, 456, .inl wf)), (qt, .inl ((vv_k x).2.1.1, 150, .inl tx))]) F (c_X8_takesNumber (vv_l x) (vv_k x) qm qw qk qt txd abv blw qs atp stp nbr qi qp qh qb bmy qa q6 hsh tx 1 60 p tt hp ht (by omega) (by omega)) mv_X8_133 dX8_readsProvince_4 (by decide) rfl rfl (Nat.le_of_ble_eq_true rfl) rfl (by decide) (Eq.trans (b := [qm, qt]) rfl rfl) rfl rfl ?_
  have h_1b := blk_le (tx := tx) (p := p) ht htt (by omega)
  have h_2n := nuP_le (tx := tx) (p := p) ht htt (by omega)
  refine vv_ifz_ne (tgt := 12) F dX8_readsProvince_7 (by decide) (fun h_3 => ?_) (fun h_3 => ?_)
  · have h_3r := in_rng2 (a := 1) (b := 60) (by decide) (by decide) h_3.2
    have h_3c := nn_cl (a := (nuN txd tx tt p)) (by omega)
    refine vv_aload_n F dX8_readsProvince_12 rfl rfl ?_
    refine vv_get 0 F fl_X8_7 dX8_readsProvince_13 rfl rfl ?_
    refine vv_sipush (v := 353) F dX8_readsProvince_16 (by decide) ?_
    refine vv_aload_n F dX8_readsProvince_19 rfl rfl ?_
    refine vv_get 0 F fl_X8_124 dX8_readsProvince_20 rfl rfl ?_
    refine vv_iast 1 (ws' := [(qm, .inr (7, [.ref qw, .ref qk, .ref qt, .int txd, .long abv, .long blw, .ref qs, .int (nI (nuP txd tx tt p)), .int (nI (blk txd tx tt p)), .int (nuN txd tx tt p), .ref qi, .ref qp, .ref qh, .ref qb, .int bmy, .ref qa, .ref q6, .long hsh])), (qw, .inl ((vv_k x).2.1.1, 456, .inl (upd wf 353 (nuN txd tx tt p)))), (qt, .inl ((vv_k x).2.1.1, 150, .inl tx))]) F dX8_readsProvince_23 rfl (vv_ixP (j := 353) (by decide) (by decide)) rfl ?_
    refine vv_iconst (v := 1) F dX8_readsProvince_24 (by decide) ?_
    exact vv_zret F hR dX8_readsProvince_25 rfl (vv_bt h_3) (by simp only [g_X8_readsProvince_1, if_pos h_3])
  · refine vv_iconst (v := 0) F dX8_readsProvince_10 (by decide) ?_
    exact vv_zret F hR dX8_readsProvince_11 rfl (vv_bf h_3) (by simp only [g_X8_readsProvince_1, if_neg h_3])
abbrev p_X8_readsString (txd : Int32) (wf tx : Nat → Int32) (p tt : Nat) : Prop := ((¬ ((wf 342) = 5)) ∧ ((p_X8_takesNumber txd tx 0 5 p tt) ∧ (p_X8_takesNumber txd tx 1 60 (nuP txd tx tt p) tt)))
noncomputable def g_X8_readsString_0_7 (txd atp : Int32) (wf tx : Nat → Int32) (p tt : Nat) : Int32 := (if (wf 342) = 5 then atp else (if p_X8_takesNumber txd tx 0 5 p tt then (if p_X8_takesNumber txd tx 1 60 (nuP txd tx tt p) tt then (nI (nuP txd tx tt (nuP txd tx tt p))) else (nI (nuP txd tx tt (nuP txd tx tt p)))) else (nI (nuP txd tx tt p))))
noncomputable def g_X8_readsString_0_8 (txd stp : Int32) (wf tx : Nat → Int32) (p tt : Nat) : Int32 := (if (wf 342) = 5 then stp else (if p_X8_takesNumber txd tx 0 5 p tt then (if p_X8_takesNumber txd tx 1 60 (nuP txd tx tt p) tt then (nI (blk txd tx tt (nuP txd tx tt p))) else (nI (blk txd tx tt (nuP txd tx tt p)))) else (nI (blk txd tx tt p))))
noncomputable def g_X8_readsString_0_9 (txd nbr : Int32) (wf tx : Nat → Int32) (p tt : Nat) : Int32 := (if (wf 342) = 5 then nbr else (if p_X8_takesNumber txd tx 0 5 p tt then (if p_X8_takesNumber txd tx 1 60 (nuP txd tx tt p) tt then (nuN txd tx tt (nuP txd tx tt p)) else (nuN txd tx tt (nuP txd tx tt p))) else (nuN txd tx tt p)))
noncomputable def g_X8_readsString_1 (txd : Int32) (wf tx : Nat → Int32) (p tt cW : Nat) : Nat → Int32 := (if (wf 342) = 5 then wf else (if p_X8_takesNumber txd tx 0 5 p tt then (if p_X8_takesNumber txd tx 1 60 (nuP txd tx tt p) tt then (upd (upd (upd wf (1 + 342 + cW) (nuN txd tx tt p)) (6 + 342 + cW) (nuN txd tx tt (nuP txd tx tt p))) 342 ((wf 342) + 1)) else wf) else wf))
theorem c_X8_readsString (l : Launch) (K : vv_K) (qm qw qk qt : Nat) (txd : Int32) (abv blw : Int64) (qs : Nat) (atp stp nbr : Int32) (qi qp qh qb : Nat) (bmy : Int32) (qa q6 : Nat) (hsh : Int64) (wf tx : Nat → Int32) (p tt cW : Nat) (hp : (atp).toInt = (p : Int)) (ht : (txd).toInt = (tt : Int)) (hcW : ((wf 342)).toInt = (cW : Int)) (hp151 : p ≤ 151) (htt : tt ≤ 150) (hcW5 : cW ≤ 5)  : vv_C l K 4 yX8_readsString cX8_readsString 2 (some .boolean) [.ref qm] [(qm, .inr (7, [.ref qw, .ref qk, .ref qt, .int txd, .long abv, .long blw, .ref qs, .int atp, .int stp, .int nbr, .ref qi, .ref qp, .ref qh, .ref qb, .int bmy, .ref qa, .ref q6, .long hsh])), (qw, .inl (K.2.1.1, 456, .inl wf)), (qt, .inl (K.2.1.1, 150, .inl tx))] (some (.int (vv_b (p_X8_readsString txd wf tx p tt)))) [(qm, .inr (7, [.ref qw, .ref qk, .ref qt, .int txd, .long abv, .long blw, .ref qs, .int (g_X8_readsString_0_7 txd atp wf tx p tt), .int (g_X8_readsString_0_8 txd stp wf tx p tt), .int (g_X8_readsString_0_9 txd nbr wf tx p tt), .ref qi, .ref qp, .ref qh, .ref qb, .int bmy, .ref qa, .ref q6, .long hsh])), (qw, .inl (K.2.1.1, 456, .inl (g_X8_readsString_1 txd wf tx p tt cW))), (qt, .inl (K.2.1.1, 150, .inl tx))] := by
  refine vv_C.of (lv := [(0, .ref qm)]) (by decide +kernel) (Nat.le_of_ble_eq_true rfl) rfl ?_
  intro x hl hK F hR; subst hl; obtain rfl := hK
  refine vv_aload_n F dX8_readsString_0 rfl rfl ?_
  refine vv_get 0 F fl_X8_7 dX8_readsString_1 rfl rfl ?_
  refine vv_sipush (v := 342) F dX8_readsString_4 (by decide) ?_
  refine vv_iald 1 F dX8_readsString_7 rfl (vv_ixP (j := 342) (by decide) (by decide)) ?_
  refine vv_iconst (v := 5) F dX8_readsString_8 (by decide) ?_
  refine vv_icmp_eq (tgt := 21) F dX8_readsString_9 (by decide) (fun h_1 => ?_) (fun h_1 => ?_)
  · refine vv_iconst (v := 0) F dX8_readsString_21 (by decide) ?_
    exact vv_zret F hR dX8_readsString_22 rfl (vv_bf (fun z => z.1 h_1)) (by simp only [g_X8_readsString_0_7, g_X8_readsString_0_8, g_X8_readsString_0_9, g_X8_readsString_1, if_pos h_1])
  · have hne : ¬ cW = 5 := mt (c_eq hcW (by decide : (5 : Int32).toInt = ((5 : Nat) : Int))).mpr h_1
    refine vv_aload_n F dX8_readsString_12 rfl rfl ?_
    refine vv_iconst (v := 0) F dX8_readsString_13 (by decide) ?_
    refine vv_iconst (v := 5) F dX8_readsString_14 (by decide) ?_
    refine vv_callV (As := [.int 0, .int 5]) (rest := []) [0, 2] 0 (ws' := [(qm, .inr (7, [.ref qw, .ref qk, .ref qt, .int txd, .long abv, .long blw, .ref qs, .int (nI (nuP txd tx tt p)), .int (nI (blk txd tx tt p)), .int (nuN txd tx tt p), .ref qi, .ref qp, .ref qh, .ref qb, .int bmy, .ref qa, .ref q6, .long hsh])), (qw, .inl ((vv_k x).2.1.1, 456, .inl wf)), (qt, .inl ((vv_k x).2.1.1, 150, .inl tx))]) F (c_X8_takesNumber (vv_l x) (vv_k x) qm qw qk qt txd abv blw qs atp stp nbr qi qp qh qb bmy qa q6 hsh tx 0 5 p tt hp ht (by omega) (by omega)) mv_X8_133 dX8_readsString_15 (by decide) rfl rfl (Nat.le_of_ble_eq_true rfl) rfl (by decide) (Eq.trans (b := [qm, qt]) rfl rfl) rfl rfl ?_
    have h_2b := blk_le (tx := tx) (p := p) ht htt (by omega)
    have h_3n := nuP_le (tx := tx) (p := p) ht htt (by omega)
    refine vv_ifz_ne (tgt := 23) F dX8_readsString_18 (by decide) (fun h_4 => ?_) (fun h_4 => ?_)
    · have h_4r := in_rng2 (a := 0) (b := 5) (by decide) (by decide) h_4.2
      have h_4c := nn_cl (a := (nuN txd tx tt p)) (by omega)
      refine vv_aload_n F dX8_readsString_23 rfl rfl ?_
      refine vv_get 0 F fl_X8_124 dX8_readsString_24 rfl rfl ?_
      refine vv_istore_n (lv' := [(1, .int (nuN txd tx tt p)), (0, .ref qm)]) F dX8_readsString_27 rfl (by decide) rfl ?_
      refine vv_aload_n F dX8_readsString_28 rfl rfl ?_
      refine vv_iconst (v := 1) F dX8_readsString_29 (by decide) ?_
      refine vv_bipush (v := 60) F dX8_readsString_30 (by decide) ?_
      refine vv_callV (As := [.int 1, .int 60]) (rest := []) [0, 2] 0 (ws' := [(qm, .inr (7, [.ref qw, .ref qk, .ref qt, .int txd, .long abv, .long blw, .ref qs, .int (nI (nuP txd tx tt (nuP txd tx tt p))), .int (nI (blk txd tx tt (nuP txd tx tt p))), .int (nuN txd tx tt (nuP txd tx tt p)), .ref qi, .ref qp, .ref qh, .ref qb, .int bmy, .ref qa, .ref q6, .long hsh])), (qw, .inl ((vv_k x).2.1.1, 456, .inl wf)), (qt, .inl ((vv_k x).2.1.1, 150, .inl tx))]) F (c_X8_takesNumber (vv_l x) (vv_k x) qm qw qk qt txd abv blw qs (nI (nuP txd tx tt p)) (nI (blk txd tx tt p)) (nuN txd tx tt p) qi qp qh qb bmy qa q6 hsh tx 1 60 (nuP txd tx tt p) tt (nI_toInt (n := (nuP txd tx tt p)) (by omega)) ht (by omega) (by omega)) mv_X8_133 dX8_readsString_32 (by decide) rfl rfl (Nat.le_of_ble_eq_true rfl) rfl (by decide) (Eq.trans (b := [qm, qt]) rfl rfl) rfl rfl ?_
      have h_5b := blk_le (tx := tx) (p := (nuP txd tx tt p)) ht htt (by omega)
      have h_6n := nuP_le (tx := tx) (p := (nuP txd tx tt p)) ht htt (by omega)
      refine vv_ifz_ne (tgt := 40) F dX8_readsString_35 (by decide) (fun h_7 => ?_) (fun h_7 => ?_)
      · have h_7r := in_rng2 (a := 1) (b := 60) (by decide) (by decide) h_7.2
        have h_7c := nn_cl (a := (nuN txd tx tt (nuP txd tx tt p))) (by omega)
        refine vv_aload_n F dX8_readsString_40 rfl rfl ?_
        refine vv_sipush (v := 342) F dX8_readsString_41 (by decide) ?_
        refine vv_iload_n F dX8_readsString_44 rfl rfl ?_
        refine vv_aload_n F dX8_readsString_45 rfl rfl ?_
        refine vv_get 0 F fl_X8_124 dX8_readsString_46 rfl rfl ?_
        refine vv_callV (As := [.int 342, .int (nuN txd tx tt p), .int (nuN txd tx tt (nuP txd tx tt p))]) (rest := []) [0, 1] 0 (ws' := [(qm, .inr (7, [.ref qw, .ref qk, .ref qt, .int txd, .long abv, .long blw, .ref qs, .int (nI (nuP txd tx tt (nuP txd tx tt p))), .int (nI (blk txd tx tt (nuP txd tx tt p))), .int (nuN txd tx tt (nuP txd tx tt p)), .ref qi, .ref qp, .ref qh, .ref qb, .int bmy, .ref qa, .ref q6, .long hsh])), (qw, .inl ((vv_k x).2.1.1, 456, .inl (upd (upd (upd wf (1 + 342 + cW) (nuN txd tx tt p)) (6 + 342 + cW) (nuN txd tx tt (nuP txd tx tt p))) 342 ((wf 342) + 1)))), (qt, .inl ((vv_k x).2.1.1, 150, .inl tx))]) F (c_X8_adds (vv_l x) (vv_k x) qm qw qk qt txd abv blw qs (nI (nuP txd tx tt (nuP txd tx tt p))) (nI (blk txd tx tt (nuP txd tx tt p))) (nuN txd tx tt (nuP txd tx tt p)) qi qp qh qb bmy qa q6 hsh wf 342 (nuN txd tx tt p) (nuN txd tx tt (nuP txd tx tt p)) 342 cW (by decide : (342 : Int32).toInt = ((342 : Nat) : Int)) hcW (by omega) (by omega)) mv_X8_91 dX8_readsString_49 (by decide) rfl rfl (Nat.le_of_ble_eq_true rfl) rfl (by decide) (Eq.trans (b := [qm, qw]) rfl rfl) rfl rfl ?_
        refine vv_iconst (v := 1) F dX8_readsString_52 (by decide) ?_
        exact vv_zret F hR dX8_readsString_53 rfl (vv_bt ⟨h_1, ⟨h_4, h_7⟩⟩) (by simp only [g_X8_readsString_0_7, g_X8_readsString_0_8, g_X8_readsString_0_9, g_X8_readsString_1, if_neg h_1, if_pos h_4, if_pos h_7])
      · refine vv_iconst (v := 0) F dX8_readsString_38 (by decide) ?_
        exact vv_zret F hR dX8_readsString_39 rfl (vv_bf (fun z => (fun z => h_7 z.2) z.2)) (by simp only [g_X8_readsString_0_7, g_X8_readsString_0_8, g_X8_readsString_0_9, g_X8_readsString_1, if_neg h_1, if_pos h_4, if_neg h_7])
    · refine vv_iconst (v := 0) F dX8_readsString_21 (by decide) ?_
      exact vv_zret F hR dX8_readsString_22 rfl (vv_bf (fun z => (fun z => h_4 z.1) z.2)) (by simp only [g_X8_readsString_0_7, g_X8_readsString_0_8, g_X8_readsString_0_9, g_X8_readsString_1, if_neg h_1, if_neg h_4])
abbrev p_X8_readsSend (txd : Int32) (wf tx : Nat → Int32) (p tt : Nat) : Prop := ((p_X8_takesNumber txd tx 0 ((wf 342) - 1) p tt) ∧ (p_X8_canSend wf 342 ((nuN txd tx tt p).toNatClampNeg)))
noncomputable def g_X8_readsSend_1 (txd : Int32) (wf tx : Nat → Int32) (p tt : Nat) : Nat → Int32 := (if p_X8_takesNumber txd tx 0 ((wf 342) - 1) p tt then (if p_X8_canSend wf 342 ((nuN txd tx tt p).toNatClampNeg) then (g_X8_isSent_1 wf 342 ((nuN txd tx tt p).toNatClampNeg)) else wf) else wf)
theorem c_X8_readsSend (l : Launch) (K : vv_K) (qm qw qk qt : Nat) (txd : Int32) (abv blw : Int64) (qs : Nat) (atp stp nbr : Int32) (qi qp qh qb : Nat) (bmy : Int32) (qa q6 : Nat) (hsh : Int64) (wf tx : Nat → Int32) (p tt cW : Nat) (hp : (atp).toInt = (p : Int)) (ht : (txd).toInt = (tt : Int)) (hcW : ((wf 342)).toInt = (cW : Int)) (hp151 : p ≤ 151) (htt : tt ≤ 150) (hcW5 : cW ≤ 5)  : vv_C l K 6 yX8_readsSend cX8_readsSend 1 (some .boolean) [.ref qm] [(qm, .inr (7, [.ref qw, .ref qk, .ref qt, .int txd, .long abv, .long blw, .ref qs, .int atp, .int stp, .int nbr, .ref qi, .ref qp, .ref qh, .ref qb, .int bmy, .ref qa, .ref q6, .long hsh])), (qw, .inl (K.2.1.1, 456, .inl wf)), (qt, .inl (K.2.1.1, 150, .inl tx))] (some (.int (vv_b (p_X8_readsSend txd wf tx p tt)))) [(qm, .inr (7, [.ref qw, .ref qk, .ref qt, .int txd, .long abv, .long blw, .ref qs, .int (nI (nuP txd tx tt p)), .int (nI (blk txd tx tt p)), .int (nuN txd tx tt p), .ref qi, .ref qp, .ref qh, .ref qb, .int bmy, .ref qa, .ref q6, .long hsh])), (qw, .inl (K.2.1.1, 456, .inl (g_X8_readsSend_1 txd wf tx p tt))), (qt, .inl (K.2.1.1, 150, .inl tx))] := by
  refine vv_C.of (lv := [(0, .ref qm)]) (by decide +kernel) (Nat.le_of_ble_eq_true rfl) rfl ?_
  intro x hl hK F hR; subst hl; obtain rfl := hK
  refine vv_aload_n F dX8_readsSend_0 rfl rfl ?_
  refine vv_iconst (v := 0) F dX8_readsSend_1 (by decide) ?_
  refine vv_aload_n F dX8_readsSend_2 rfl rfl ?_
  refine vv_get 0 F fl_X8_7 dX8_readsSend_3 rfl rfl ?_
  refine vv_sipush (v := 342) F dX8_readsSend_6 (by decide) ?_
  refine vv_iald 1 F dX8_readsSend_9 rfl (vv_ixP (j := 342) (by decide) (by decide)) ?_
  refine vv_iconst (v := 1) F dX8_readsSend_10 (by decide) ?_
  refine vv_isub F dX8_readsSend_11 ?_
  refine vv_callV (As := [.int 0, .int ((wf 342) - 1)]) (rest := []) [0, 2] 0 (ws' := [(qm, .inr (7, [.ref qw, .ref qk, .ref qt, .int txd, .long abv, .long blw, .ref qs, .int (nI (nuP txd tx tt p)), .int (nI (blk txd tx tt p)), .int (nuN txd tx tt p), .ref qi, .ref qp, .ref qh, .ref qb, .int bmy, .ref qa, .ref q6, .long hsh])), (qw, .inl ((vv_k x).2.1.1, 456, .inl wf)), (qt, .inl ((vv_k x).2.1.1, 150, .inl tx))]) F (c_X8_takesNumber (vv_l x) (vv_k x) qm qw qk qt txd abv blw qs atp stp nbr qi qp qh qb bmy qa q6 hsh tx 0 ((wf 342) - 1) p tt hp ht (by omega) (by omega)) mv_X8_133 dX8_readsSend_12 (by decide) rfl rfl (Nat.le_of_ble_eq_true rfl) rfl (by decide) (Eq.trans (b := [qm, qt]) rfl rfl) rfl rfl ?_
  have h_1b := blk_le (tx := tx) (p := p) ht htt (by omega)
  have h_2n := nuP_le (tx := tx) (p := p) ht htt (by omega)
  refine vv_ifz_eq (tgt := 32) F dX8_readsSend_15 (by decide) (fun h_3 => ?_) (fun h_3 => ?_)
  · refine vv_iconst (v := 0) F dX8_readsSend_32 (by decide) ?_
    exact vv_zret F hR dX8_readsSend_33 rfl (vv_bf (fun z => h_3 z.1)) (by simp only [g_X8_readsSend_1, if_neg h_3])
  · have h_3r := in_rngS2 hcW h_3.2
    have h_3c := nn_cl (a := (nuN txd tx tt p)) (by omega)
    refine vv_aload_n F dX8_readsSend_18 rfl rfl ?_
    refine vv_sipush (v := 342) F dX8_readsSend_19 (by decide) ?_
    refine vv_aload_n F dX8_readsSend_22 rfl rfl ?_
    refine vv_get 0 F fl_X8_124 dX8_readsSend_23 rfl rfl ?_
    refine vv_callVp (As := [.int 342, .int (nuN txd tx tt p)]) (rest := []) [0, 1] 0 F (c_X8_canSend (vv_l x) (vv_k x) qm qw qk qt txd abv blw qs (nI (nuP txd tx tt p)) (nI (blk txd tx tt p)) (nuN txd tx tt p) qi qp qh qb bmy qa q6 hsh wf 342 (nuN txd tx tt p) 342 ((nuN txd tx tt p).toNatClampNeg) (by decide : (342 : Int32).toInt = ((342 : Nat) : Int)) h_3c (by omega) (by omega)) mv_X8_137 dX8_readsSend_26 (by decide) rfl rfl (Nat.le_of_ble_eq_true rfl) rfl (by decide) rfl ?_
    refine vv_ifz_ne (tgt := 34) F dX8_readsSend_29 (by decide) (fun h_4 => ?_) (fun h_4 => ?_)
    · refine vv_aload_n F dX8_readsSend_34 rfl rfl ?_
      refine vv_sipush (v := 342) F dX8_readsSend_35 (by decide) ?_
      refine vv_aload_n F dX8_readsSend_38 rfl rfl ?_
      refine vv_get 0 F fl_X8_124 dX8_readsSend_39 rfl rfl ?_
      refine vv_callV (As := [.int 342, .int (nuN txd tx tt p)]) (rest := []) [0, 1] 0 (ws' := [(qm, .inr (7, [.ref qw, .ref qk, .ref qt, .int txd, .long abv, .long blw, .ref qs, .int (nI (nuP txd tx tt p)), .int (nI (blk txd tx tt p)), .int (nuN txd tx tt p), .ref qi, .ref qp, .ref qh, .ref qb, .int bmy, .ref qa, .ref q6, .long hsh])), (qw, .inl ((vv_k x).2.1.1, 456, .inl (g_X8_isSent_1 wf 342 ((nuN txd tx tt p).toNatClampNeg)))), (qt, .inl ((vv_k x).2.1.1, 150, .inl tx))]) F (c_X8_isSent (vv_l x) (vv_k x) qm qw qk qt txd abv blw qs (nI (nuP txd tx tt p)) (nI (blk txd tx tt p)) (nuN txd tx tt p) qi qp qh qb bmy qa q6 hsh wf 342 (nuN txd tx tt p) 342 ((nuN txd tx tt p).toNatClampNeg) (by decide : (342 : Int32).toInt = ((342 : Nat) : Int)) h_3c (by omega) (by omega)) mv_X8_140 dX8_readsSend_42 (by decide) rfl rfl (Nat.le_of_ble_eq_true rfl) rfl (by decide) (Eq.trans (b := [qm, qw]) rfl rfl) rfl rfl ?_
      refine vv_iconst (v := 1) F dX8_readsSend_45 (by decide) ?_
      exact vv_zret F hR dX8_readsSend_46 rfl (vv_bt ⟨h_3, h_4⟩) (by simp only [g_X8_readsSend_1, if_pos h_3, if_pos h_4])
    · refine vv_iconst (v := 0) F dX8_readsSend_32 (by decide) ?_
      exact vv_zret F hR dX8_readsSend_33 rfl (vv_bf (fun z => h_4 z.2)) (by simp only [g_X8_readsSend_1, if_pos h_3, if_neg h_4])
