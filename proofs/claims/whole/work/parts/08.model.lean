/-! numbers as naturals -/
theorem nn_add {a b : Int32} {k m : Nat} (ha : a.toInt = (k : Int)) (hb : b.toInt = (m : Int)) (h : k + m < 2147483648) : (a + b).toInt = ((k + m : Nat) : Int) := by
  rw [ti_add (by omega) (by omega)]; omega
theorem nn_sub {a b : Int32} {k m : Nat} (ha : a.toInt = (k : Int)) (hb : b.toInt = (m : Int)) (h : m ≤ k) : (a - b).toInt = ((k - m : Nat) : Int) := by
  have : a.toInt < 2147483648 := Int32.toInt_lt a
  rw [ti_sub (by omega) (by omega)]; omega
theorem nn_mul {a b : Int32} {k m : Nat} (ha : a.toInt = (k : Int)) (hb : b.toInt = (m : Int)) (h : k * m < 2147483648) : (a * b).toInt = ((k * m : Nat) : Int) := by
  have e : a.toInt * b.toInt = ((k * m : Nat) : Int) := by rw [ha, hb]; simp
  rw [ti_mul (by rw [e]; omega) (by rw [e]; omega), e]
theorem nn_cl {a : Int32} (h : 0 ≤ a.toInt) : a.toInt = (a.toNatClampNeg : Int) := by rw [ti_cl]; omega
theorem c_le {a b : Int32} {k m : Nat} (ha : a.toInt = (k : Int)) (hb : b.toInt = (m : Int)) : a ≤ b ↔ k ≤ m := by rw [Int32.le_iff_toInt_le, ha, hb]; omega
theorem c_lt {a b : Int32} {k m : Nat} (ha : a.toInt = (k : Int)) (hb : b.toInt = (m : Int)) : a < b ↔ k < m := by rw [Int32.lt_iff_toInt_lt, ha, hb]; omega
theorem c_eq {a b : Int32} {k m : Nat} (ha : a.toInt = (k : Int)) (hb : b.toInt = (m : Int)) : a = b ↔ k = m := by rw [← Int32.toInt_inj, ha, hb]; omega
theorem in_rng {v : Int32} {lo hi : Int64} {a b : Int} (ha : lo.toInt = a) (hb : hi.toInt = b) (h : p_X8_in v.toInt64 lo hi) : a ≤ v.toInt ∧ v.toInt ≤ b := by
  obtain ⟨h1, h2⟩ := h
  rw [Int64.lt_iff_toInt_lt, Int32.toInt_toInt64] at h1 h2
  omega
theorem in_rngS {v n : Int32} {c : Nat} (hn : n.toInt = (c : Int)) (h : p_X8_in v.toInt64 0 (n - 1).toInt64) : 0 ≤ v.toInt ∧ v.toInt < c := by
  have e1 : (1 : Int32).toInt = 1 := rfl
  have hb : n.toInt < 2147483648 := Int32.toInt_lt n
  have e : (n - 1).toInt = n.toInt - 1 := by rw [ti_sub (by omega) (by omega), e1]
  have := in_rng (a := 0) (b := n.toInt - 1) rfl (by rw [Int32.toInt_toInt64, e]) h
  omega
theorem wi_rng {v lo hi : Int32} {a b : Int} (ha : lo.toInt = a) (hb : hi.toInt = b) (h : p_X7_within v lo hi) : a ≤ v.toInt ∧ v.toInt ≤ b := by
  obtain ⟨h1, h2⟩ := h
  rw [Int32.lt_iff_toInt_lt] at h1 h2
  omega
theorem wi_rngS {v n : Int32} {c : Nat} (hn : n.toInt = (c : Int)) (h : p_X7_within v 0 (n - 1)) : 0 ≤ v.toInt ∧ v.toInt < c := by
  have e1 : (1 : Int32).toInt = 1 := rfl
  have hb : n.toInt < 2147483648 := Int32.toInt_lt n
  have e : (n - 1).toInt = n.toInt - 1 := by rw [ti_sub (by omega) (by omega), e1]
  have := wi_rng (a := 0) (b := n.toInt - 1) rfl e h
  omega
/-! rows that are moved or wiped in part -/
theorem cpy_0 (f : Nat → Int32) (a b : Nat) : va_cpy f f a b 0 = f := funext fun j => by unfold va_cpy; rw [if_neg (by omega)]
theorem cpy_s {f : Nat → Int32} {a b k : Nat} : upd (va_cpy f f a b k) (b + k) (f (a + k)) = va_cpy f f a b (k + 1) := funext fun j => by
  by_cases h : j = b + k
  · subst h
    rw [pk_us]; unfold va_cpy
    rw [if_pos (by omega), show b + k - b = k by omega]
  · rw [pk_un h]; unfold va_cpy
    by_cases h2 : b ≤ j ∧ j < b + k
    · rw [if_pos h2, if_pos (by omega)]
    · rw [if_neg h2, if_neg (by omega)]
theorem cpy_out {f : Nat → Int32} {a b k j : Nat} (h : j < b ∨ b + k ≤ j) : va_cpy f f a b k j = f j := pk_cpy_out h
def zer (f : Nat → Int32) (b k : Nat) : Nat → Int32 := fun j => if b ≤ j ∧ j < b + k then 0 else f j
theorem zer_0 (f : Nat → Int32) (b : Nat) : zer f b 0 = f := funext fun j => by unfold zer; rw [if_neg (by omega)]
theorem zer_s {f : Nat → Int32} {b k : Nat} : upd (zer f b k) (b + k) 0 = zer f b (k + 1) := funext fun j => by
  by_cases h : j = b + k
  · subst h
    rw [pk_us]; unfold zer
    rw [if_pos (by omega)]
  · rw [pk_un h]; unfold zer
    by_cases h2 : b ≤ j ∧ j < b + k
    · rw [if_pos h2, if_pos (by omega)]
    · rw [if_neg h2, if_neg (by omega)]
theorem c_X8_bad (l : Launch) (K : vv_K) (qm qw qk qt : Nat) (txd : Int32) (abv blw : Int64) (qs : Nat) (atp stp nbr : Int32) (qi qp qh qb : Nat) (bmy : Int32) (qa q6 : Nat) (hsh : Int64) (ss : Nat → Int32) (z : Int32)  : vv_C l K 1 yX8_bad cX8_bad 2 (some .int) [.ref qm, .int z] [(qm, .inr (7, [.ref qw, .ref qk, .ref qt, .int txd, .long abv, .long blw, .ref qs, .int atp, .int stp, .int nbr, .ref qi, .ref qp, .ref qh, .ref qb, .int bmy, .ref qa, .ref q6, .long hsh])), (qs, .inl (K.2.1.1, 3, .inl ss))] (some (.int z)) [(qm, .inr (7, [.ref qw, .ref qk, .ref qt, .int txd, .long abv, .long blw, .ref qs, .int atp, .int stp, .int nbr, .ref qi, .ref qp, .ref qh, .ref qb, .int bmy, .ref qa, .ref q6, .long hsh])), (qs, .inl (K.2.1.1, 3, .inl (upd ss 0 ((ss 0) + 1))))] := by
  refine vv_C.of (lv := [(0, .ref qm), (1, .int z)]) (by decide +kernel) (Nat.le_of_ble_eq_true rfl) rfl ?_
  intro x hl hK F hR; subst hl; obtain rfl := hK
  refine vv_aload_n F dX8_bad_0 rfl rfl ?_
  refine vv_get 0 F fl_X8_27 dX8_bad_1 rfl rfl ?_
  refine vv_iconst (v := 0) F dX8_bad_4 (by decide) ?_
  refine vv_dup2_11 F dX8_bad_5 rfl rfl ?_
  refine vv_iald 1 F dX8_bad_6 rfl (vv_ixP (j := 0) (by decide) (by decide)) ?_
  refine vv_iconst (v := 1) F dX8_bad_7 (by decide) ?_
  refine vv_iadd F dX8_bad_8 ?_
  refine vv_iast 1 (ws' := [(qm, .inr (7, [.ref qw, .ref qk, .ref qt, .int txd, .long abv, .long blw, .ref qs, .int atp, .int stp, .int nbr, .ref qi, .ref qp, .ref qh, .ref qb, .int bmy, .ref qa, .ref q6, .long hsh])), (qs, .inl ((vv_k x).2.1.1, 3, .inl (upd ss 0 ((ss 0) + 1))))]) F dX8_bad_9 rfl (vv_ixP (j := 0) (by decide) (by decide)) rfl ?_
  refine vv_iload_n F dX8_bad_10 rfl rfl ?_
  exact vv_iret F hR dX8_bad_11 rfl rfl
theorem c_X8_no (l : Launch) (K : vv_K) (qm qw qk qt : Nat) (txd : Int32) (abv blw : Int64) (qs : Nat) (atp stp nbr : Int32) (qi qp qh qb : Nat) (bmy : Int32) (qa q6 : Nat) (hsh : Int64) (ss : Nat → Int32)  : vv_C l K 1 yX8_no cX8_no 1 (some .int) [.ref qm] [(qm, .inr (7, [.ref qw, .ref qk, .ref qt, .int txd, .long abv, .long blw, .ref qs, .int atp, .int stp, .int nbr, .ref qi, .ref qp, .ref qh, .ref qb, .int bmy, .ref qa, .ref q6, .long hsh])), (qs, .inl (K.2.1.1, 3, .inl ss))] (some (.int (-3))) [(qm, .inr (7, [.ref qw, .ref qk, .ref qt, .int txd, .long abv, .long blw, .ref qs, .int atp, .int stp, .int nbr, .ref qi, .ref qp, .ref qh, .ref qb, .int bmy, .ref qa, .ref q6, .long hsh])), (qs, .inl (K.2.1.1, 3, .inl (upd ss 1 ((ss 1) + 1))))] := by
  refine vv_C.of (lv := [(0, .ref qm)]) (by decide +kernel) (Nat.le_of_ble_eq_true rfl) rfl ?_
  intro x hl hK F hR; subst hl; obtain rfl := hK
  refine vv_aload_n F dX8_no_0 rfl rfl ?_
  refine vv_get 0 F fl_X8_27 dX8_no_1 rfl rfl ?_
  refine vv_iconst (v := 1) F dX8_no_4 (by decide) ?_
  refine vv_dup2_11 F dX8_no_5 rfl rfl ?_
  refine vv_iald 1 F dX8_no_6 rfl (vv_ixP (j := 1) (by decide) (by decide)) ?_
  refine vv_iconst (v := 1) F dX8_no_7 (by decide) ?_
  refine vv_iadd F dX8_no_8 ?_
  refine vv_iast 1 (ws' := [(qm, .inr (7, [.ref qw, .ref qk, .ref qt, .int txd, .long abv, .long blw, .ref qs, .int atp, .int stp, .int nbr, .ref qi, .ref qp, .ref qh, .ref qb, .int bmy, .ref qa, .ref q6, .long hsh])), (qs, .inl ((vv_k x).2.1.1, 3, .inl (upd ss 1 ((ss 1) + 1))))]) F dX8_no_9 rfl (vv_ixP (j := 1) (by decide) (by decide)) rfl ?_
  refine vv_bipush (v := (-3)) F dX8_no_10 (by decide) ?_
  exact vv_iret F hR dX8_no_12 rfl rfl
theorem c_X8_full (l : Launch) (K : vv_K) (qm qw qk qt : Nat) (txd : Int32) (abv blw : Int64) (qs : Nat) (atp stp nbr : Int32) (qi qp qh qb : Nat) (bmy : Int32) (qa q6 : Nat) (hsh : Int64) (ss : Nat → Int32)  : vv_C l K 1 yX8_full cX8_full 1 (some .int) [.ref qm] [(qm, .inr (7, [.ref qw, .ref qk, .ref qt, .int txd, .long abv, .long blw, .ref qs, .int atp, .int stp, .int nbr, .ref qi, .ref qp, .ref qh, .ref qb, .int bmy, .ref qa, .ref q6, .long hsh])), (qs, .inl (K.2.1.1, 3, .inl ss))] (some (.int (-4))) [(qm, .inr (7, [.ref qw, .ref qk, .ref qt, .int txd, .long abv, .long blw, .ref qs, .int atp, .int stp, .int nbr, .ref qi, .ref qp, .ref qh, .ref qb, .int bmy, .ref qa, .ref q6, .long hsh])), (qs, .inl (K.2.1.1, 3, .inl (upd ss 2 ((ss 2) + 1))))] := by
  refine vv_C.of (lv := [(0, .ref qm)]) (by decide +kernel) (Nat.le_of_ble_eq_true rfl) rfl ?_
  intro x hl hK F hR; subst hl; obtain rfl := hK
  refine vv_aload_n F dX8_full_0 rfl rfl ?_
  refine vv_get 0 F fl_X8_27 dX8_full_1 rfl rfl ?_
  refine vv_iconst (v := 2) F dX8_full_4 (by decide) ?_
  refine vv_dup2_11 F dX8_full_5 rfl rfl ?_
  refine vv_iald 1 F dX8_full_6 rfl (vv_ixP (j := 2) (by decide) (by decide)) ?_
  refine vv_iconst (v := 1) F dX8_full_7 (by decide) ?_
  refine vv_iadd F dX8_full_8 ?_
  refine vv_iast 1 (ws' := [(qm, .inr (7, [.ref qw, .ref qk, .ref qt, .int txd, .long abv, .long blw, .ref qs, .int atp, .int stp, .int nbr, .ref qi, .ref qp, .ref qh, .ref qb, .int bmy, .ref qa, .ref q6, .long hsh])), (qs, .inl ((vv_k x).2.1.1, 3, .inl (upd ss 2 ((ss 2) + 1))))]) F dX8_full_9 rfl (vv_ixP (j := 2) (by decide) (by decide)) rfl ?_
  refine vv_bipush (v := (-4)) F dX8_full_10 (by decide) ?_
  exact vv_iret F hR dX8_full_12 rfl rfl
theorem c_X8_isString (l : Launch) (K : vv_K) (qm qw qk qt : Nat) (txd : Int32) (abv blw : Int64) (qs : Nat) (atp stp nbr : Int32) (qi qp qh qb : Nat) (bmy : Int32) (qa q6 : Nat) (hsh : Int64) (wf : Nat → Int32) (i : Int32)  : vv_C l K 2 yX8_isString cX8_isString 2 (some .boolean) [.ref qm, .int i] [(qm, .inr (7, [.ref qw, .ref qk, .ref qt, .int txd, .long abv, .long blw, .ref qs, .int atp, .int stp, .int nbr, .ref qi, .ref qp, .ref qh, .ref qb, .int bmy, .ref qa, .ref q6, .long hsh])), (qw, .inl (K.2.1.1, 456, .inl wf))] (some (.int (vv_b (p_X8_in i.toInt64 0 (((wf 0) - 1).toInt64))))) [(qm, .inr (7, [.ref qw, .ref qk, .ref qt, .int txd, .long abv, .long blw, .ref qs, .int atp, .int stp, .int nbr, .ref qi, .ref qp, .ref qh, .ref qb, .int bmy, .ref qa, .ref q6, .long hsh])), (qw, .inl (K.2.1.1, 456, .inl wf))] := by
  refine vv_C.of (lv := [(0, .ref qm), (1, .int i)]) (by decide +kernel) (Nat.le_of_ble_eq_true rfl) rfl ?_
  intro x hl hK F hR; subst hl; obtain rfl := hK
  refine vv_iload_n F dX8_isString_0 rfl rfl ?_
  refine vv_i2l F dX8_isString_1 ?_
  refine vv_lconst (v := 0) F dX8_isString_2 (by decide) ?_
  refine vv_aload_n F dX8_isString_3 rfl rfl ?_
  refine vv_get 0 F fl_X8_7 dX8_isString_4 rfl rfl ?_
  refine vv_iconst (v := 0) F dX8_isString_7 (by decide) ?_
  refine vv_iald 1 F dX8_isString_8 rfl (vv_ixP (j := 0) (by decide) (by decide)) ?_
  refine vv_iconst (v := 1) F dX8_isString_9 (by decide) ?_
  refine vv_isub F dX8_isString_10 ?_
  refine vv_i2l F dX8_isString_11 ?_
  refine vv_callSp (As := [.long i.toInt64, .long 0, .long (((wf 0) - 1).toInt64)]) (rest := []) [] F (c_X8_in (vv_l x) (vv_k x) i.toInt64 0 (((wf 0) - 1).toInt64)) ms_X8_56 dX8_isString_12 (by decide) rfl rfl (Nat.le_of_ble_eq_true rfl) rfl (by decide) ?_
  exact vv_zret F hR dX8_isString_15 (vv_b_nar _) rfl rfl
theorem L_X8_copy {x : vv_X} (F : vv_F x cX8_copy 4 RX8 1) (qm qw qk qt : Nat) (txd : Int32) (abv blw : Int64) (qs : Nat) (atp stp nbr : Int32) (qi qp qh qb : Nat) (bmy : Int32) (qa q6 : Nat) (hsh : Int64) (wf : Nat → Int32) (fr to : Int32) (a b : Nat) (hfa : (fr).toInt = (a : Int)) (htb : (to).toInt = (b : Int)) (hd : a + 114 ≤ b ∨ b + 114 ≤ a) (ha : a + 114 ≤ 456) (hb : b + 114 ≤ 456) : ∀ (n : Nat) (u : Nat), u + n = 114 → vv_V x 4 30 [(3, .int (nI 114)), (0, .ref qm), (1, .int fr), (2, .int to)] [] [(qm, .inr (7, [.ref qw, .ref qk, .ref qt, .int txd, .long abv, .long blw, .ref qs, .int atp, .int stp, .int nbr, .ref qi, .ref qp, .ref qh, .ref qb, .int bmy, .ref qa, .ref q6, .long hsh])), (qw, .inl ((vv_k x).2.1.1, 456, .inl (va_cpy wf wf a b 114)))] → vv_V x 4 2 [(3, .int (nI u)), (0, .ref qm), (1, .int fr), (2, .int to)] [] [(qm, .inr (7, [.ref qw, .ref qk, .ref qt, .int txd, .long abv, .long blw, .ref qs, .int atp, .int stp, .int nbr, .ref qi, .ref qp, .ref qh, .ref qb, .int bmy, .ref qa, .ref q6, .long hsh])), (qw, .inl ((vv_k x).2.1.1, 456, .inl (va_cpy wf wf a b u)))] := by
  intro n
  induction n with
  | zero =>
    intro u hu  kx
    refine vv_iload_n F dX8_copy_2 rfl rfl ?_
    refine vv_bipush (v := 114) F dX8_copy_3 (by decide) ?_
    refine vv_icmp_ge (tgt := 30) F dX8_copy_5 (by decide) (fun h_1 => ?_) (fun h_1 => absurd ((c_le (by decide : (114 : Int32).toInt = ((114 : Nat) : Int)) (nI_toInt (n := u) (by omega))).mpr (by omega)) h_1)
    obtain rfl : u = 114 := by omega
    exact vv_lv [0, 1, 2, 3] rfl kx
  | succ n ih =>
    intro u hu  kx
    refine vv_iload_n F dX8_copy_2 rfl rfl ?_
    refine vv_bipush (v := 114) F dX8_copy_3 (by decide) ?_
    refine vv_icmp_ge (tgt := 30) F dX8_copy_5 (by decide) (fun h_1 => absurd ((c_le (by decide : (114 : Int32).toInt = ((114 : Nat) : Int)) (nI_toInt (n := u) (by omega))).mp h_1) (by omega)) (fun h_1 => ?_)
    refine vv_aload_n F dX8_copy_8 rfl rfl ?_
    refine vv_get 0 F fl_X8_7 dX8_copy_9 rfl rfl ?_
    refine vv_iload_n F dX8_copy_12 rfl rfl ?_
    refine vv_iload_n F dX8_copy_13 rfl rfl ?_
    refine vv_iadd F dX8_copy_14 ?_
    refine vv_aload_n F dX8_copy_15 rfl rfl ?_
    refine vv_get 0 F fl_X8_7 dX8_copy_16 rfl rfl ?_
    refine vv_iload_n F dX8_copy_19 rfl rfl ?_
    refine vv_iload_n F dX8_copy_20 rfl rfl ?_
    refine vv_iadd F dX8_copy_21 ?_
    refine vv_iald 1 F dX8_copy_22 rfl (vv_ixP (j := (a + u)) (by have hz := (nn_add hfa (nI_toInt (n := u) (by omega)) (by omega)); omega) (by omega)) ?_
    refine vv_topi (wf (a + u)) (cpy_out (by omega)) ?_
    refine vv_iast 1 (ws' := [(qm, .inr (7, [.ref qw, .ref qk, .ref qt, .int txd, .long abv, .long blw, .ref qs, .int atp, .int stp, .int nbr, .ref qi, .ref qp, .ref qh, .ref qb, .int bmy, .ref qa, .ref q6, .long hsh])), (qw, .inl ((vv_k x).2.1.1, 456, .inl (upd (va_cpy wf wf a b u) (b + u) (wf (a + u)))))]) F dX8_copy_23 rfl (vv_ixP (j := (b + u)) (by have hz := (nn_add htb (nI_toInt (n := u) (by omega)) (by omega)); omega) (by omega)) rfl ?_
    refine vv_iinc (v := (nI (u + 1))) (lv' := [(3, .int (nI (u + 1))), (0, .ref qm), (1, .int fr), (2, .int to)]) 0 F dX8_copy_24 rfl (nI_1 u) (by decide) rfl ?_
    refine vv_goto (tgt := 2) F dX8_copy_27 (by decide) ?_
    refine vv_lv [0, 1, 2, 3] rfl ?_
    refine vv_ws (by rw [cpy_s]) ?_
    exact ih (u + 1) (by omega) kx
theorem c_X8_copy (l : Launch) (K : vv_K) (qm qw qk qt : Nat) (txd : Int32) (abv blw : Int64) (qs : Nat) (atp stp nbr : Int32) (qi qp qh qb : Nat) (bmy : Int32) (qa q6 : Nat) (hsh : Int64) (wf : Nat → Int32) (fr to : Int32) (a b : Nat) (hfa : (fr).toInt = (a : Int)) (htb : (to).toInt = (b : Int)) (hd : a + 114 ≤ b ∨ b + 114 ≤ a) (ha : a + 114 ≤ 456) (hb : b + 114 ≤ 456)  : vv_C l K 1 yX8_copy cX8_copy 4 none [.ref qm, .int fr, .int to] [(qm, .inr (7, [.ref qw, .ref qk, .ref qt, .int txd, .long abv, .long blw, .ref qs, .int atp, .int stp, .int nbr, .ref qi, .ref qp, .ref qh, .ref qb, .int bmy, .ref qa, .ref q6, .long hsh])), (qw, .inl (K.2.1.1, 456, .inl wf))] none [(qm, .inr (7, [.ref qw, .ref qk, .ref qt, .int txd, .long abv, .long blw, .ref qs, .int atp, .int stp, .int nbr, .ref qi, .ref qp, .ref qh, .ref qb, .int bmy, .ref qa, .ref q6, .long hsh])), (qw, .inl (K.2.1.1, 456, .inl (va_cpy wf wf a b 114)))] := by
  refine vv_C.of (lv := [(0, .ref qm), (1, .int fr), (2, .int to)]) (by decide +kernel) (Nat.le_of_ble_eq_true rfl) rfl ?_
  intro x hl hK F hR; subst hl; obtain rfl := hK
  refine vv_iconst (v := 0) F dX8_copy_0 (by decide) ?_
  refine vv_istore_n (lv' := [(3, .int 0), (0, .ref qm), (1, .int fr), (2, .int to)]) F dX8_copy_1 rfl (by decide) rfl ?_
  refine vv_lv (lv' := [(3, .int 0), (0, .ref qm), (1, .int fr), (2, .int to)]) [0, 1, 2, 3] rfl ?_
  refine vv_ws (by rw [← cpy_0 wf a b]) ?_
  refine L_X8_copy F qm qw qk qt txd abv blw qs atp stp nbr qi qp qh qb bmy qa q6 hsh wf fr to a b hfa htb hd ha hb 114 0 (by omega) ?_
  exact vv_vret F hR dX8_copy_30 rfl rfl
theorem L_X8_begins {x : vv_X} (F : vv_F x cX8_begins 5 RX8 1) (qm qw qk qt : Nat) (txd : Int32) (abv blw : Int64) (qs : Nat) (atp stp nbr : Int32) (qi qp qh qb : Nat) (bmy : Int32) (qa q6 : Nat) (hsh : Int64) (wf : Nat → Int32) (rr lne pse : Int32) (a : Nat) (hra : (rr).toInt = (a : Int)) (ha : a + 114 ≤ 456) : ∀ (n : Nat) (u : Nat), u + n = 114 → vv_V x 5 26 [(4, .int (nI 114)), (0, .ref qm), (1, .int rr), (2, .int lne), (3, .int pse)] [] [(qm, .inr (7, [.ref qw, .ref qk, .ref qt, .int txd, .long abv, .long blw, .ref qs, .int atp, .int stp, .int nbr, .ref qi, .ref qp, .ref qh, .ref qb, .int bmy, .ref qa, .ref q6, .long hsh])), (qw, .inl ((vv_k x).2.1.1, 456, .inl (zer wf a 114)))] → vv_V x 5 3 [(4, .int (nI u)), (0, .ref qm), (1, .int rr), (2, .int lne), (3, .int pse)] [] [(qm, .inr (7, [.ref qw, .ref qk, .ref qt, .int txd, .long abv, .long blw, .ref qs, .int atp, .int stp, .int nbr, .ref qi, .ref qp, .ref qh, .ref qb, .int bmy, .ref qa, .ref q6, .long hsh])), (qw, .inl ((vv_k x).2.1.1, 456, .inl (zer wf a u)))] := by
  intro n
  induction n with
  | zero =>
    intro u hu  kx
    refine vv_iload F dX8_begins_3 rfl ?_
    refine vv_bipush (v := 114) F dX8_begins_5 (by decide) ?_
    refine vv_icmp_ge (tgt := 26) F dX8_begins_7 (by decide) (fun h_1 => ?_) (fun h_1 => absurd ((c_le (by decide : (114 : Int32).toInt = ((114 : Nat) : Int)) (nI_toInt (n := u) (by omega))).mpr (by omega)) h_1)
    obtain rfl : u = 114 := by omega
    exact vv_lv [0, 1, 2, 3, 4] rfl kx
  | succ n ih =>
    intro u hu  kx
    refine vv_iload F dX8_begins_3 rfl ?_
    refine vv_bipush (v := 114) F dX8_begins_5 (by decide) ?_
    refine vv_icmp_ge (tgt := 26) F dX8_begins_7 (by decide) (fun h_1 => absurd ((c_le (by decide : (114 : Int32).toInt = ((114 : Nat) : Int)) (nI_toInt (n := u) (by omega))).mp h_1) (by omega)) (fun h_1 => ?_)
    refine vv_aload_n F dX8_begins_10 rfl rfl ?_
    refine vv_get 0 F fl_X8_7 dX8_begins_11 rfl rfl ?_
    refine vv_iload_n F dX8_begins_14 rfl rfl ?_
    refine vv_iload F dX8_begins_15 rfl ?_
    refine vv_iadd F dX8_begins_17 ?_
    refine vv_iconst (v := 0) F dX8_begins_18 (by decide) ?_
    refine vv_iast 1 (ws' := [(qm, .inr (7, [.ref qw, .ref qk, .ref qt, .int txd, .long abv, .long blw, .ref qs, .int atp, .int stp, .int nbr, .ref qi, .ref qp, .ref qh, .ref qb, .int bmy, .ref qa, .ref q6, .long hsh])), (qw, .inl ((vv_k x).2.1.1, 456, .inl (upd (zer wf a u) (a + u) 0)))]) F dX8_begins_19 rfl (vv_ixP (j := (a + u)) (by have hz := (nn_add hra (nI_toInt (n := u) (by omega)) (by omega)); omega) (by omega)) rfl ?_
    refine vv_iinc (v := (nI (u + 1))) (lv' := [(4, .int (nI (u + 1))), (0, .ref qm), (1, .int rr), (2, .int lne), (3, .int pse)]) 0 F dX8_begins_20 rfl (nI_1 u) (by decide) rfl ?_
    refine vv_goto (tgt := 3) F dX8_begins_23 (by decide) ?_
    refine vv_lv [0, 1, 2, 3, 4] rfl ?_
    refine vv_ws (by rw [zer_s]) ?_
    exact ih (u + 1) (by omega) kx
theorem c_X8_begins (l : Launch) (K : vv_K) (qm qw qk qt : Nat) (txd : Int32) (abv blw : Int64) (qs : Nat) (atp stp nbr : Int32) (qi qp qh qb : Nat) (bmy : Int32) (qa q6 : Nat) (hsh : Int64) (wf : Nat → Int32) (rr lne pse : Int32) (a : Nat) (hra : (rr).toInt = (a : Int)) (ha : a + 114 ≤ 456)  : vv_C l K 1 yX8_begins cX8_begins 5 none [.ref qm, .int rr, .int lne, .int pse] [(qm, .inr (7, [.ref qw, .ref qk, .ref qt, .int txd, .long abv, .long blw, .ref qs, .int atp, .int stp, .int nbr, .ref qi, .ref qp, .ref qh, .ref qb, .int bmy, .ref qa, .ref q6, .long hsh])), (qw, .inl (K.2.1.1, 456, .inl wf))] none [(qm, .inr (7, [.ref qw, .ref qk, .ref qt, .int txd, .long abv, .long blw, .ref qs, .int atp, .int stp, .int nbr, .ref qi, .ref qp, .ref qh, .ref qb, .int bmy, .ref qa, .ref q6, .long hsh])), (qw, .inl (K.2.1.1, 456, .inl (upd (upd (zer wf a 114) (11 + a) lne) (14 + a) pse)))] := by
  refine vv_C.of (lv := [(0, .ref qm), (1, .int rr), (2, .int lne), (3, .int pse)]) (by decide +kernel) (Nat.le_of_ble_eq_true rfl) rfl ?_
  intro x hl hK F hR; subst hl; obtain rfl := hK
  refine vv_iconst (v := 0) F dX8_begins_0 (by decide) ?_
  refine vv_istore (lv' := [(4, .int 0), (0, .ref qm), (1, .int rr), (2, .int lne), (3, .int pse)]) F dX8_begins_1 (by decide) rfl ?_
  refine vv_lv (lv' := [(4, .int 0), (0, .ref qm), (1, .int rr), (2, .int lne), (3, .int pse)]) [0, 1, 2, 3, 4] rfl ?_
  refine vv_ws (by rw [← zer_0 wf a]) ?_
  refine L_X8_begins F qm qw qk qt txd abv blw qs atp stp nbr qi qp qh qb bmy qa q6 hsh wf rr lne pse a hra ha 114 0 (by omega) ?_
  refine vv_aload_n F dX8_begins_26 rfl rfl ?_
  refine vv_get 0 F fl_X8_7 dX8_begins_27 rfl rfl ?_
  refine vv_iload_n F dX8_begins_30 rfl rfl ?_
  refine vv_bipush (v := 11) F dX8_begins_31 (by decide) ?_
  refine vv_iadd F dX8_begins_33 ?_
  refine vv_iload_n F dX8_begins_34 rfl rfl ?_
  refine vv_iast 1 (ws' := [(qm, .inr (7, [.ref qw, .ref qk, .ref qt, .int txd, .long abv, .long blw, .ref qs, .int atp, .int stp, .int nbr, .ref qi, .ref qp, .ref qh, .ref qb, .int bmy, .ref qa, .ref q6, .long hsh])), (qw, .inl ((vv_k x).2.1.1, 456, .inl (upd (zer wf a 114) (11 + a) lne)))]) F dX8_begins_35 rfl (vv_ixP (j := (11 + a)) (by have hz := (nn_add hra (by decide : (11 : Int32).toInt = ((11 : Nat) : Int)) (by omega)); omega) (by omega)) rfl ?_
  refine vv_aload_n F dX8_begins_36 rfl rfl ?_
  refine vv_get 0 F fl_X8_7 dX8_begins_37 rfl rfl ?_
  refine vv_iload_n F dX8_begins_40 rfl rfl ?_
  refine vv_bipush (v := 14) F dX8_begins_41 (by decide) ?_
  refine vv_iadd F dX8_begins_43 ?_
  refine vv_iload_n F dX8_begins_44 rfl rfl ?_
  refine vv_iast 1 (ws' := [(qm, .inr (7, [.ref qw, .ref qk, .ref qt, .int txd, .long abv, .long blw, .ref qs, .int atp, .int stp, .int nbr, .ref qi, .ref qp, .ref qh, .ref qb, .int bmy, .ref qa, .ref q6, .long hsh])), (qw, .inl ((vv_k x).2.1.1, 456, .inl (upd (upd (zer wf a 114) (11 + a) lne) (14 + a) pse)))]) F dX8_begins_45 rfl (vv_ixP (j := (14 + a)) (by have hz := (nn_add hra (by decide : (14 : Int32).toInt = ((14 : Nat) : Int)) (by omega)); omega) (by omega)) rfl ?_
  exact vv_vret F hR dX8_begins_46 rfl rfl
noncomputable def f_X8_province (wf : Nat → Int32) (lne pse : Int32) : Int32 := (if p_X8_in lne.toInt64 1 60 then (if p_X8_in pse.toInt64 0 9999 then (wf 0) else (-2)) else (-2))
noncomputable def g_X8_province_1 (wf : Nat → Int32) (lne pse : Int32) : Nat → Int32 := (if p_X8_in lne.toInt64 1 60 then (if p_X8_in pse.toInt64 0 9999 then (upd (upd (zer wf 0 114) (11 + 0) lne) (14 + 0) pse) else wf) else wf)
noncomputable def g_X8_province_2 (ss : Nat → Int32) (lne pse : Int32) : Nat → Int32 := (if p_X8_in lne.toInt64 1 60 then (if p_X8_in pse.toInt64 0 9999 then ss else (upd ss 0 ((ss 0) + 1))) else (upd ss 0 ((ss 0) + 1)))
theorem c_X8_province (l : Launch) (K : vv_K) (qm qw qk qt : Nat) (txd : Int32) (abv blw : Int64) (qs : Nat) (atp stp nbr : Int32) (qi qp qh qb : Nat) (bmy : Int32) (qa q6 : Nat) (hsh : Int64) (wf ss : Nat → Int32) (lne pse : Int32)  : vv_C l K 3 yX8_province cX8_province 4 (some .int) [.ref qm, .int lne, .int pse] [(qm, .inr (7, [.ref qw, .ref qk, .ref qt, .int txd, .long abv, .long blw, .ref qs, .int atp, .int stp, .int nbr, .ref qi, .ref qp, .ref qh, .ref qb, .int bmy, .ref qa, .ref q6, .long hsh])), (qw, .inl (K.2.1.1, 456, .inl wf)), (qs, .inl (K.2.1.1, 3, .inl ss))] (some (.int (f_X8_province wf lne pse))) [(qm, .inr (7, [.ref qw, .ref qk, .ref qt, .int txd, .long abv, .long blw, .ref qs, .int atp, .int stp, .int nbr, .ref qi, .ref qp, .ref qh, .ref qb, .int bmy, .ref qa, .ref q6, .long hsh])), (qw, .inl (K.2.1.1, 456, .inl (g_X8_province_1 wf lne pse))), (qs, .inl (K.2.1.1, 3, .inl (g_X8_province_2 ss lne pse)))] := by
  refine vv_C.of (lv := [(0, .ref qm), (1, .int lne), (2, .int pse)]) (by decide +kernel) (Nat.le_of_ble_eq_true rfl) rfl ?_
  intro x hl hK F hR; subst hl; obtain rfl := hK
  refine vv_iload_n F dX8_province_0 rfl rfl ?_
  refine vv_i2l F dX8_province_1 ?_
  refine vv_lconst (v := 1) F dX8_province_2 (by decide) ?_
  refine vv_ldc2 F cl_X8_74 dX8_province_3 ?_
  refine vv_callSp (As := [.long lne.toInt64, .long 1, .long 60]) (rest := []) [] F (c_X8_in (vv_l x) (vv_k x) lne.toInt64 1 60) ms_X8_56 dX8_province_6 (by decide) rfl rfl (Nat.le_of_ble_eq_true rfl) rfl (by decide) ?_
  refine vv_ifz_eq (tgt := 24) F dX8_province_9 (by decide) (fun h_1 => ?_) (fun h_1 => ?_)
  · refine vv_aload_n F dX8_province_24 rfl rfl ?_
    refine vv_bipush (v := (-2)) F dX8_province_25 (by decide) ?_
    refine vv_callV (As := [.int (-2)]) (rest := []) [0, 2] 0 (ws' := [(qm, .inr (7, [.ref qw, .ref qk, .ref qt, .int txd, .long abv, .long blw, .ref qs, .int atp, .int stp, .int nbr, .ref qi, .ref qp, .ref qh, .ref qb, .int bmy, .ref qa, .ref q6, .long hsh])), (qw, .inl ((vv_k x).2.1.1, 456, .inl wf)), (qs, .inl ((vv_k x).2.1.1, 3, .inl (upd ss 0 ((ss 0) + 1))))]) F (c_X8_bad (vv_l x) (vv_k x) qm qw qk qt txd abv blw qs atp stp nbr qi qp qh qb bmy qa q6 hsh ss (-2)) mv_X8_78 dX8_province_27 (by decide) rfl rfl (Nat.le_of_ble_eq_true rfl) rfl (by decide) (Eq.trans (b := [qm, qs]) rfl rfl) rfl rfl ?_
    exact vv_iret F hR dX8_province_30 (congrArg (fun z => some (Value.int z)) ((if_neg h_1).trans rfl)) (by simp only [g_X8_province_1, g_X8_province_2, if_neg h_1])
  · have h_1r := in_rng (a := 1) (b := 60) (by decide) (by decide) h_1
    have h_1c := nn_cl (a := lne) (by omega)
    refine vv_iload_n F dX8_province_12 rfl rfl ?_
    refine vv_i2l F dX8_province_13 ?_
    refine vv_lconst (v := 0) F dX8_province_14 (by decide) ?_
    refine vv_ldc2 F cl_X8_76 dX8_province_15 ?_
    refine vv_callSp (As := [.long pse.toInt64, .long 0, .long 9999]) (rest := []) [] F (c_X8_in (vv_l x) (vv_k x) pse.toInt64 0 9999) ms_X8_56 dX8_province_18 (by decide) rfl rfl (Nat.le_of_ble_eq_true rfl) rfl (by decide) ?_
    refine vv_ifz_ne (tgt := 31) F dX8_province_21 (by decide) (fun h_2 => ?_) (fun h_2 => ?_)
    · have h_2r := in_rng (a := 0) (b := 9999) (by decide) (by decide) h_2
      have h_2c := nn_cl (a := pse) (by omega)
      refine vv_aload_n F dX8_province_31 rfl rfl ?_
      refine vv_get 0 F fl_X8_7 dX8_province_32 rfl rfl ?_
      refine vv_iconst (v := 0) F dX8_province_35 (by decide) ?_
      refine vv_iald 1 F dX8_province_36 rfl (vv_ixP (j := 0) (by decide) (by decide)) ?_
      refine vv_istore_n (lv' := [(3, .int (wf 0)), (0, .ref qm), (1, .int lne), (2, .int pse)]) F dX8_province_37 rfl (by decide) rfl ?_
      refine vv_aload_n F dX8_province_38 rfl rfl ?_
      refine vv_iconst (v := 0) F dX8_province_39 (by decide) ?_
      refine vv_iload_n F dX8_province_40 rfl rfl ?_
      refine vv_iload_n F dX8_province_41 rfl rfl ?_
      refine vv_callV (As := [.int 0, .int lne, .int pse]) (rest := []) [0, 1] 0 (ws' := [(qm, .inr (7, [.ref qw, .ref qk, .ref qt, .int txd, .long abv, .long blw, .ref qs, .int atp, .int stp, .int nbr, .ref qi, .ref qp, .ref qh, .ref qb, .int bmy, .ref qa, .ref q6, .long hsh])), (qw, .inl ((vv_k x).2.1.1, 456, .inl (upd (upd (zer wf 0 114) (11 + 0) lne) (14 + 0) pse))), (qs, .inl ((vv_k x).2.1.1, 3, .inl ss))]) F (c_X8_begins (vv_l x) (vv_k x) qm qw qk qt txd abv blw qs atp stp nbr qi qp qh qb bmy qa q6 hsh wf 0 lne pse 0 (by decide : (0 : Int32).toInt = ((0 : Nat) : Int)) (by omega)) mv_X8_52 dX8_province_42 (by decide) rfl rfl (Nat.le_of_ble_eq_true rfl) rfl (by decide) (Eq.trans (b := [qm, qw]) rfl rfl) rfl rfl ?_
      refine vv_iload_n F dX8_province_45 rfl rfl ?_
      exact vv_iret F hR dX8_province_46 (congrArg (fun z => some (Value.int z)) ((if_pos h_1).trans ((if_pos h_2).trans rfl))) (by simp only [g_X8_province_1, g_X8_province_2, if_pos h_1, if_pos h_2])
    · refine vv_aload_n F dX8_province_24 rfl rfl ?_
      refine vv_bipush (v := (-2)) F dX8_province_25 (by decide) ?_
      refine vv_callV (As := [.int (-2)]) (rest := []) [0, 2] 0 (ws' := [(qm, .inr (7, [.ref qw, .ref qk, .ref qt, .int txd, .long abv, .long blw, .ref qs, .int atp, .int stp, .int nbr, .ref qi, .ref qp, .ref qh, .ref qb, .int bmy, .ref qa, .ref q6, .long hsh])), (qw, .inl ((vv_k x).2.1.1, 456, .inl wf)), (qs, .inl ((vv_k x).2.1.1, 3, .inl (upd ss 0 ((ss 0) + 1))))]) F (c_X8_bad (vv_l x) (vv_k x) qm qw qk qt txd abv blw qs atp stp nbr qi qp qh qb bmy qa q6 hsh ss (-2)) mv_X8_78 dX8_province_27 (by decide) rfl rfl (Nat.le_of_ble_eq_true rfl) rfl (by decide) (Eq.trans (b := [qm, qs]) rfl rfl) rfl rfl ?_
      exact vv_iret F hR dX8_province_30 (congrArg (fun z => some (Value.int z)) ((if_pos h_1).trans ((if_neg h_2).trans rfl))) (by simp only [g_X8_province_1, g_X8_province_2, if_pos h_1, if_neg h_2])
noncomputable def f_X8_house (wf : Nat → Int32) (hs kd : Int32) : Int32 := (if p_X8_in hs.toInt64 0 1 then (if p_X8_in kd.toInt64 0 5 then (wf (12 + hs.toNatClampNeg)) else (-2)) else (-2))
noncomputable def g_X8_house_1 (wf : Nat → Int32) (hs kd : Int32) : Nat → Int32 := (if p_X8_in hs.toInt64 0 1 then (if p_X8_in kd.toInt64 0 5 then (upd (upd wf (12 + hs.toNatClampNeg) kd) 81 0) else wf) else wf)
noncomputable def g_X8_house_2 (ss : Nat → Int32) (hs kd : Int32) : Nat → Int32 := (if p_X8_in hs.toInt64 0 1 then (if p_X8_in kd.toInt64 0 5 then ss else (upd ss 0 ((ss 0) + 1))) else (upd ss 0 ((ss 0) + 1)))
theorem c_X8_house (l : Launch) (K : vv_K) (qm qw qk qt : Nat) (txd : Int32) (abv blw : Int64) (qs : Nat) (atp stp nbr : Int32) (qi qp qh qb : Nat) (bmy : Int32) (qa q6 : Nat) (hsh : Int64) (wf ss : Nat → Int32) (hs kd : Int32)  : vv_C l K 3 yX8_house cX8_house 4 (some .int) [.ref qm, .int hs, .int kd] [(qm, .inr (7, [.ref qw, .ref qk, .ref qt, .int txd, .long abv, .long blw, .ref qs, .int atp, .int stp, .int nbr, .ref qi, .ref qp, .ref qh, .ref qb, .int bmy, .ref qa, .ref q6, .long hsh])), (qw, .inl (K.2.1.1, 456, .inl wf)), (qs, .inl (K.2.1.1, 3, .inl ss))] (some (.int (f_X8_house wf hs kd))) [(qm, .inr (7, [.ref qw, .ref qk, .ref qt, .int txd, .long abv, .long blw, .ref qs, .int atp, .int stp, .int nbr, .ref qi, .ref qp, .ref qh, .ref qb, .int bmy, .ref qa, .ref q6, .long hsh])), (qw, .inl (K.2.1.1, 456, .inl (g_X8_house_1 wf hs kd))), (qs, .inl (K.2.1.1, 3, .inl (g_X8_house_2 ss hs kd)))] := by
  refine vv_C.of (lv := [(0, .ref qm), (1, .int hs), (2, .int kd)]) (by decide +kernel) (Nat.le_of_ble_eq_true rfl) rfl ?_
  intro x hl hK F hR; subst hl; obtain rfl := hK
  refine vv_iload_n F dX8_house_0 rfl rfl ?_
  refine vv_callSp (As := [.int hs]) (rest := []) [] F (c_X8_isHouse (vv_l x) (vv_k x) hs) ms_X8_81 dX8_house_1 (by decide) rfl rfl (Nat.le_of_ble_eq_true rfl) rfl (by decide) ?_
  refine vv_ifz_eq (tgt := 19) F dX8_house_4 (by decide) (fun h_1 => ?_) (fun h_1 => ?_)
  · refine vv_aload_n F dX8_house_19 rfl rfl ?_
    refine vv_bipush (v := (-2)) F dX8_house_20 (by decide) ?_
    refine vv_callV (As := [.int (-2)]) (rest := []) [0, 2] 0 (ws' := [(qm, .inr (7, [.ref qw, .ref qk, .ref qt, .int txd, .long abv, .long blw, .ref qs, .int atp, .int stp, .int nbr, .ref qi, .ref qp, .ref qh, .ref qb, .int bmy, .ref qa, .ref q6, .long hsh])), (qw, .inl ((vv_k x).2.1.1, 456, .inl wf)), (qs, .inl ((vv_k x).2.1.1, 3, .inl (upd ss 0 ((ss 0) + 1))))]) F (c_X8_bad (vv_l x) (vv_k x) qm qw qk qt txd abv blw qs atp stp nbr qi qp qh qb bmy qa q6 hsh ss (-2)) mv_X8_78 dX8_house_22 (by decide) rfl rfl (Nat.le_of_ble_eq_true rfl) rfl (by decide) (Eq.trans (b := [qm, qs]) rfl rfl) rfl rfl ?_
    exact vv_iret F hR dX8_house_25 (congrArg (fun z => some (Value.int z)) ((if_neg h_1).trans rfl)) (by simp only [g_X8_house_1, g_X8_house_2, if_neg h_1])
  · have h_1r := in_rng (a := 0) (b := 1) (by decide) (by decide) h_1
    have h_1c := nn_cl (a := hs) (by omega)
    refine vv_iload_n F dX8_house_7 rfl rfl ?_
    refine vv_i2l F dX8_house_8 ?_
    refine vv_lconst (v := 0) F dX8_house_9 (by decide) ?_
    refine vv_ldc2 F cl_X8_85 dX8_house_10 ?_
    refine vv_callSp (As := [.long kd.toInt64, .long 0, .long 5]) (rest := []) [] F (c_X8_in (vv_l x) (vv_k x) kd.toInt64 0 5) ms_X8_56 dX8_house_13 (by decide) rfl rfl (Nat.le_of_ble_eq_true rfl) rfl (by decide) ?_
    refine vv_ifz_ne (tgt := 26) F dX8_house_16 (by decide) (fun h_2 => ?_) (fun h_2 => ?_)
    · have h_2r := in_rng (a := 0) (b := 5) (by decide) (by decide) h_2
      have h_2c := nn_cl (a := kd) (by omega)
      refine vv_aload_n F dX8_house_26 rfl rfl ?_
      refine vv_get 0 F fl_X8_7 dX8_house_27 rfl rfl ?_
      refine vv_bipush (v := 12) F dX8_house_30 (by decide) ?_
      refine vv_iload_n F dX8_house_32 rfl rfl ?_
      refine vv_iadd F dX8_house_33 ?_
      refine vv_iald 1 F dX8_house_34 rfl (vv_ixP (j := (12 + hs.toNatClampNeg)) (by have hz := (nn_add (by decide : (12 : Int32).toInt = ((12 : Nat) : Int)) h_1c (by omega)); omega) (by omega)) ?_
      refine vv_istore_n (lv' := [(3, .int (wf (12 + hs.toNatClampNeg))), (0, .ref qm), (1, .int hs), (2, .int kd)]) F dX8_house_35 rfl (by decide) rfl ?_
      refine vv_aload_n F dX8_house_36 rfl rfl ?_
      refine vv_get 0 F fl_X8_7 dX8_house_37 rfl rfl ?_
      refine vv_bipush (v := 12) F dX8_house_40 (by decide) ?_
      refine vv_iload_n F dX8_house_42 rfl rfl ?_
      refine vv_iadd F dX8_house_43 ?_
      refine vv_iload_n F dX8_house_44 rfl rfl ?_
      refine vv_iast 1 (ws' := [(qm, .inr (7, [.ref qw, .ref qk, .ref qt, .int txd, .long abv, .long blw, .ref qs, .int atp, .int stp, .int nbr, .ref qi, .ref qp, .ref qh, .ref qb, .int bmy, .ref qa, .ref q6, .long hsh])), (qw, .inl ((vv_k x).2.1.1, 456, .inl (upd wf (12 + hs.toNatClampNeg) kd))), (qs, .inl ((vv_k x).2.1.1, 3, .inl ss))]) F dX8_house_45 rfl (vv_ixP (j := (12 + hs.toNatClampNeg)) (by have hz := (nn_add (by decide : (12 : Int32).toInt = ((12 : Nat) : Int)) h_1c (by omega)); omega) (by omega)) rfl ?_
      refine vv_aload_n F dX8_house_46 rfl rfl ?_
      refine vv_get 0 F fl_X8_7 dX8_house_47 rfl rfl ?_
      refine vv_bipush (v := 81) F dX8_house_50 (by decide) ?_
      refine vv_iconst (v := 0) F dX8_house_52 (by decide) ?_
      refine vv_iast 1 (ws' := [(qm, .inr (7, [.ref qw, .ref qk, .ref qt, .int txd, .long abv, .long blw, .ref qs, .int atp, .int stp, .int nbr, .ref qi, .ref qp, .ref qh, .ref qb, .int bmy, .ref qa, .ref q6, .long hsh])), (qw, .inl ((vv_k x).2.1.1, 456, .inl (upd (upd wf (12 + hs.toNatClampNeg) kd) 81 0))), (qs, .inl ((vv_k x).2.1.1, 3, .inl ss))]) F dX8_house_53 rfl (vv_ixP (j := 81) (by decide) (by decide)) rfl ?_
      refine vv_iload_n F dX8_house_54 rfl rfl ?_
      exact vv_iret F hR dX8_house_55 (congrArg (fun z => some (Value.int z)) ((if_pos h_1).trans ((if_pos h_2).trans rfl))) (by simp only [g_X8_house_1, g_X8_house_2, if_pos h_1, if_pos h_2])
    · refine vv_aload_n F dX8_house_19 rfl rfl ?_
      refine vv_bipush (v := (-2)) F dX8_house_20 (by decide) ?_
      refine vv_callV (As := [.int (-2)]) (rest := []) [0, 2] 0 (ws' := [(qm, .inr (7, [.ref qw, .ref qk, .ref qt, .int txd, .long abv, .long blw, .ref qs, .int atp, .int stp, .int nbr, .ref qi, .ref qp, .ref qh, .ref qb, .int bmy, .ref qa, .ref q6, .long hsh])), (qw, .inl ((vv_k x).2.1.1, 456, .inl wf)), (qs, .inl ((vv_k x).2.1.1, 3, .inl (upd ss 0 ((ss 0) + 1))))]) F (c_X8_bad (vv_l x) (vv_k x) qm qw qk qt txd abv blw qs atp stp nbr qi qp qh qb bmy qa q6 hsh ss (-2)) mv_X8_78 dX8_house_22 (by decide) rfl rfl (Nat.le_of_ble_eq_true rfl) rfl (by decide) (Eq.trans (b := [qm, qs]) rfl rfl) rfl rfl ?_
      exact vv_iret F hR dX8_house_25 (congrArg (fun z => some (Value.int z)) ((if_pos h_1).trans ((if_neg h_2).trans rfl))) (by simp only [g_X8_house_1, g_X8_house_2, if_pos h_1, if_neg h_2])
theorem c_X8_adds (l : Launch) (K : vv_K) (qm qw qk qt : Nat) (txd : Int32) (abv blw : Int64) (qs : Nat) (atp stp nbr : Int32) (qi qp qh qb : Nat) (bmy : Int32) (qa q6 : Nat) (hsh : Int64) (wf : Nat → Int32) (rr kd lg : Int32) (a c : Nat) (hra : (rr).toInt = (a : Int)) (hc : ((wf a)).toInt = (c : Int)) (ha : a + 12 ≤ 456) (hc5 : c < 5)  : vv_C l K 1 yX8_adds cX8_adds 4 none [.ref qm, .int rr, .int kd, .int lg] [(qm, .inr (7, [.ref qw, .ref qk, .ref qt, .int txd, .long abv, .long blw, .ref qs, .int atp, .int stp, .int nbr, .ref qi, .ref qp, .ref qh, .ref qb, .int bmy, .ref qa, .ref q6, .long hsh])), (qw, .inl (K.2.1.1, 456, .inl wf))] none [(qm, .inr (7, [.ref qw, .ref qk, .ref qt, .int txd, .long abv, .long blw, .ref qs, .int atp, .int stp, .int nbr, .ref qi, .ref qp, .ref qh, .ref qb, .int bmy, .ref qa, .ref q6, .long hsh])), (qw, .inl (K.2.1.1, 456, .inl (upd (upd (upd wf (1 + a + c) kd) (6 + a + c) lg) a ((wf a) + 1))))] := by
  refine vv_C.of (lv := [(0, .ref qm), (1, .int rr), (2, .int kd), (3, .int lg)]) (by decide +kernel) (Nat.le_of_ble_eq_true rfl) rfl ?_
  intro x hl hK F hR; subst hl; obtain rfl := hK
  refine vv_aload_n F dX8_adds_0 rfl rfl ?_
  refine vv_get 0 F fl_X8_7 dX8_adds_1 rfl rfl ?_
  refine vv_iload_n F dX8_adds_4 rfl rfl ?_
  refine vv_iconst (v := 1) F dX8_adds_5 (by decide) ?_
  refine vv_iadd F dX8_adds_6 ?_
  refine vv_aload_n F dX8_adds_7 rfl rfl ?_
  refine vv_get 0 F fl_X8_7 dX8_adds_8 rfl rfl ?_
  refine vv_iload_n F dX8_adds_11 rfl rfl ?_
  refine vv_iconst (v := 0) F dX8_adds_12 (by decide) ?_
  refine vv_iadd F dX8_adds_13 ?_
  refine vv_iald 1 F dX8_adds_14 rfl (vv_ixP (j := a) (by have hz := (nn_add hra (by decide : (0 : Int32).toInt = ((0 : Nat) : Int)) (by omega)); omega) (by omega)) ?_
  refine vv_iadd F dX8_adds_15 ?_
  refine vv_iload_n F dX8_adds_16 rfl rfl ?_
  refine vv_iast 1 (ws' := [(qm, .inr (7, [.ref qw, .ref qk, .ref qt, .int txd, .long abv, .long blw, .ref qs, .int atp, .int stp, .int nbr, .ref qi, .ref qp, .ref qh, .ref qb, .int bmy, .ref qa, .ref q6, .long hsh])), (qw, .inl ((vv_k x).2.1.1, 456, .inl (upd wf (1 + a + c) kd)))]) F dX8_adds_17 rfl (vv_ixP (j := (1 + a + c)) (by have hz := (nn_add (nn_add hra (by decide : (1 : Int32).toInt = ((1 : Nat) : Int)) (by omega)) hc (by omega)); omega) (by omega)) rfl ?_
  refine vv_aload_n F dX8_adds_18 rfl rfl ?_
  refine vv_get 0 F fl_X8_7 dX8_adds_19 rfl rfl ?_
  refine vv_iload_n F dX8_adds_22 rfl rfl ?_
  refine vv_bipush (v := 6) F dX8_adds_23 (by decide) ?_
  refine vv_iadd F dX8_adds_25 ?_
  refine vv_aload_n F dX8_adds_26 rfl rfl ?_
  refine vv_get 0 F fl_X8_7 dX8_adds_27 rfl rfl ?_
  refine vv_iload_n F dX8_adds_30 rfl rfl ?_
  refine vv_iconst (v := 0) F dX8_adds_31 (by decide) ?_
  refine vv_iadd F dX8_adds_32 ?_
  refine vv_iald 1 F dX8_adds_33 rfl (vv_ixP (j := a) (by have hz := (nn_add hra (by decide : (0 : Int32).toInt = ((0 : Nat) : Int)) (by omega)); omega) (by omega)) ?_
  refine vv_topi (wf a) (pk_un (by omega)) ?_
  refine vv_iadd F dX8_adds_34 ?_
  refine vv_iload_n F dX8_adds_35 rfl rfl ?_
  refine vv_iast 1 (ws' := [(qm, .inr (7, [.ref qw, .ref qk, .ref qt, .int txd, .long abv, .long blw, .ref qs, .int atp, .int stp, .int nbr, .ref qi, .ref qp, .ref qh, .ref qb, .int bmy, .ref qa, .ref q6, .long hsh])), (qw, .inl ((vv_k x).2.1.1, 456, .inl (upd (upd wf (1 + a + c) kd) (6 + a + c) lg)))]) F dX8_adds_36 rfl (vv_ixP (j := (6 + a + c)) (by have hz := (nn_add (nn_add hra (by decide : (6 : Int32).toInt = ((6 : Nat) : Int)) (by omega)) hc (by omega)); omega) (by omega)) rfl ?_
  refine vv_aload_n F dX8_adds_37 rfl rfl ?_
  refine vv_get 0 F fl_X8_7 dX8_adds_38 rfl rfl ?_
  refine vv_iload_n F dX8_adds_41 rfl rfl ?_
  refine vv_iconst (v := 0) F dX8_adds_42 (by decide) ?_
  refine vv_iadd F dX8_adds_43 ?_
  refine vv_dup2_11 F dX8_adds_44 rfl rfl ?_
  refine vv_iald 1 F dX8_adds_45 rfl (vv_ixP (j := a) (by have hz := (nn_add hra (by decide : (0 : Int32).toInt = ((0 : Nat) : Int)) (by omega)); omega) (by omega)) ?_
  refine vv_topi (wf a) ((pk_un (by omega)).trans (pk_un (by omega))) ?_
  refine vv_iconst (v := 1) F dX8_adds_46 (by decide) ?_
  refine vv_iadd F dX8_adds_47 ?_
  refine vv_iast 1 (ws' := [(qm, .inr (7, [.ref qw, .ref qk, .ref qt, .int txd, .long abv, .long blw, .ref qs, .int atp, .int stp, .int nbr, .ref qi, .ref qp, .ref qh, .ref qb, .int bmy, .ref qa, .ref q6, .long hsh])), (qw, .inl ((vv_k x).2.1.1, 456, .inl (upd (upd (upd wf (1 + a + c) kd) (6 + a + c) lg) a ((wf a) + 1))))]) F dX8_adds_48 rfl (vv_ixP (j := a) (by have hz := (nn_add hra (by decide : (0 : Int32).toInt = ((0 : Nat) : Int)) (by omega)); omega) (by omega)) rfl ?_
  exact vv_vret F hR dX8_adds_49 rfl rfl
theorem c_X8_clear (l : Launch) (K : vv_K) (qm qw qk qt : Nat) (txd : Int32) (abv blw : Int64) (qs : Nat) (atp stp nbr : Int32) (qi qp qh qb : Nat) (bmy : Int32) (qa q6 : Nat) (hsh : Int64)  : vv_C l K 1 yX8_clear cX8_clear 2 (some .int) [.ref qm] [(qm, .inr (7, [.ref qw, .ref qk, .ref qt, .int txd, .long abv, .long blw, .ref qs, .int atp, .int stp, .int nbr, .ref qi, .ref qp, .ref qh, .ref qb, .int bmy, .ref qa, .ref q6, .long hsh]))] (some (.int txd)) [(qm, .inr (7, [.ref qw, .ref qk, .ref qt, .int 0, .long abv, .long blw, .ref qs, .int atp, .int stp, .int nbr, .ref qi, .ref qp, .ref qh, .ref qb, .int bmy, .ref qa, .ref q6, .long hsh]))] := by
  refine vv_C.of (lv := [(0, .ref qm)]) (by decide +kernel) (Nat.le_of_ble_eq_true rfl) rfl ?_
  intro x hl hK F hR; subst hl; obtain rfl := hK
  refine vv_aload_n F dX8_clear_0 rfl rfl ?_
  refine vv_get 0 F fl_X8_48 dX8_clear_1 rfl rfl ?_
  refine vv_istore_n (lv' := [(1, .int txd), (0, .ref qm)]) F dX8_clear_4 rfl (by decide) rfl ?_
  refine vv_aload_n F dX8_clear_5 rfl rfl ?_
  refine vv_iconst (v := 0) F dX8_clear_6 (by decide) ?_
  refine vv_put 0 (ws' := [(qm, .inr (7, [.ref qw, .ref qk, .ref qt, .int 0, .long abv, .long blw, .ref qs, .int atp, .int stp, .int nbr, .ref qi, .ref qp, .ref qh, .ref qb, .int bmy, .ref qa, .ref q6, .long hsh]))]) F fl_X8_48 dX8_clear_7 rfl rfl rfl (Nat.le_of_ble_eq_true rfl) rfl ?_
  refine vv_iload_n F dX8_clear_10 rfl rfl ?_
  exact vv_iret F hR dX8_clear_11 rfl rfl
noncomputable def f_X8_byteAt (txd : Int32) (tx : Nat → Int32) (k : Int32) (kk : Nat) : Int32 := (if txd ≤ k then (-1) else (tx kk))
theorem c_X8_byteAt (l : Launch) (K : vv_K) (qm qw qk qt : Nat) (txd : Int32) (abv blw : Int64) (qs : Nat) (atp stp nbr : Int32) (qi qp qh qb : Nat) (bmy : Int32) (qa q6 : Nat) (hsh : Int64) (tx : Nat → Int32) (k : Int32) (kk tt : Nat) (hk : (k).toInt = (kk : Int)) (ht : (txd).toInt = (tt : Int)) (htt : tt ≤ 150)  : vv_C l K 1 yX8_byteAt cX8_byteAt 2 (some .int) [.ref qm, .int k] [(qm, .inr (7, [.ref qw, .ref qk, .ref qt, .int txd, .long abv, .long blw, .ref qs, .int atp, .int stp, .int nbr, .ref qi, .ref qp, .ref qh, .ref qb, .int bmy, .ref qa, .ref q6, .long hsh])), (qt, .inl (K.2.1.1, 150, .inl tx))] (some (.int (f_X8_byteAt txd tx k kk))) [(qm, .inr (7, [.ref qw, .ref qk, .ref qt, .int txd, .long abv, .long blw, .ref qs, .int atp, .int stp, .int nbr, .ref qi, .ref qp, .ref qh, .ref qb, .int bmy, .ref qa, .ref q6, .long hsh])), (qt, .inl (K.2.1.1, 150, .inl tx))] := by
  refine vv_C.of (lv := [(0, .ref qm), (1, .int k)]) (by decide +kernel) (Nat.le_of_ble_eq_true rfl) rfl ?_
  intro x hl hK F hR; subst hl; obtain rfl := hK
  refine vv_iload_n F dX8_byteAt_0 rfl rfl ?_
  refine vv_aload_n F dX8_byteAt_1 rfl rfl ?_
  refine vv_get 0 F fl_X8_48 dX8_byteAt_2 rfl rfl ?_
  refine vv_icmp_ge (tgt := 17) F dX8_byteAt_5 (by decide) (fun h_1 => ?_) (fun h_1 => ?_)
  · refine vv_iconst (v := (-1)) F dX8_byteAt_17 (by decide) ?_
    exact vv_iret F hR dX8_byteAt_18 (congrArg (fun z => some (Value.int z)) ((if_pos h_1).trans rfl)) rfl
  · refine vv_aload_n F dX8_byteAt_8 rfl rfl ?_
    refine vv_get 0 F fl_X8_17 dX8_byteAt_9 rfl rfl ?_
    refine vv_iload_n F dX8_byteAt_12 rfl rfl ?_
    have hlt := mt (c_le ht hk).mpr h_1
    refine vv_iald 1 F dX8_byteAt_13 rfl (vv_ixP (j := kk) (by have hz := hk; omega) (by omega)) ?_
    refine vv_goto (tgt := 18) F dX8_byteAt_14 (by decide) ?_
    exact vv_iret F hR dX8_byteAt_18 (congrArg (fun z => some (Value.int z)) ((if_neg h_1).trans rfl)) rfl
noncomputable def f_X8_type (txd ch : Int32) : Int32 := (if p_X8_in ch.toInt64 0 127 then (if txd = 150 then (-4) else (txd + 1)) else (-2))
noncomputable def g_X8_type_0_3 (txd ch : Int32) : Int32 := (if p_X8_in ch.toInt64 0 127 then (if txd = 150 then txd else (txd + 1)) else txd)
noncomputable def g_X8_type_1 (txd : Int32) (tx : Nat → Int32) (ch : Int32) (tt : Nat) : Nat → Int32 := (if p_X8_in ch.toInt64 0 127 then (if txd = 150 then tx else (upd tx tt ch)) else tx)
noncomputable def g_X8_type_2 (txd : Int32) (ss : Nat → Int32) (ch : Int32) : Nat → Int32 := (if p_X8_in ch.toInt64 0 127 then (if txd = 150 then (upd ss 2 ((ss 2) + 1)) else ss) else (upd ss 0 ((ss 0) + 1)))
theorem c_X8_type (l : Launch) (K : vv_K) (qm qw qk qt : Nat) (txd : Int32) (abv blw : Int64) (qs : Nat) (atp stp nbr : Int32) (qi qp qh qb : Nat) (bmy : Int32) (qa q6 : Nat) (hsh : Int64) (tx ss : Nat → Int32) (ch : Int32) (tt : Nat) (ht : (txd).toInt = (tt : Int)) (htt : tt ≤ 150)  : vv_C l K 3 yX8_type cX8_type 2 (some .int) [.ref qm, .int ch] [(qm, .inr (7, [.ref qw, .ref qk, .ref qt, .int txd, .long abv, .long blw, .ref qs, .int atp, .int stp, .int nbr, .ref qi, .ref qp, .ref qh, .ref qb, .int bmy, .ref qa, .ref q6, .long hsh])), (qt, .inl (K.2.1.1, 150, .inl tx)), (qs, .inl (K.2.1.1, 3, .inl ss))] (some (.int (f_X8_type txd ch))) [(qm, .inr (7, [.ref qw, .ref qk, .ref qt, .int (g_X8_type_0_3 txd ch), .long abv, .long blw, .ref qs, .int atp, .int stp, .int nbr, .ref qi, .ref qp, .ref qh, .ref qb, .int bmy, .ref qa, .ref q6, .long hsh])), (qt, .inl (K.2.1.1, 150, .inl (g_X8_type_1 txd tx ch tt))), (qs, .inl (K.2.1.1, 3, .inl (g_X8_type_2 txd ss ch)))] := by
  refine vv_C.of (lv := [(0, .ref qm), (1, .int ch)]) (by decide +kernel) (Nat.le_of_ble_eq_true rfl) rfl ?_
  intro x hl hK F hR; subst hl; obtain rfl := hK
  refine vv_iload_n F dX8_type_0 rfl rfl ?_
  refine vv_i2l F dX8_type_1 ?_
  refine vv_lconst (v := 0) F dX8_type_2 (by decide) ?_
  refine vv_ldc2 F cl_X8_94 dX8_type_3 ?_
  refine vv_callSp (As := [.long ch.toInt64, .long 0, .long 127]) (rest := []) [] F (c_X8_in (vv_l x) (vv_k x) ch.toInt64 0 127) ms_X8_56 dX8_type_6 (by decide) rfl rfl (Nat.le_of_ble_eq_true rfl) rfl (by decide) ?_
  refine vv_ifz_ne (tgt := 19) F dX8_type_9 (by decide) (fun h_1 => ?_) (fun h_1 => ?_)
  · have h_1r := in_rng (a := 0) (b := 127) (by decide) (by decide) h_1
    have h_1c := nn_cl (a := ch) (by omega)
    refine vv_aload_n F dX8_type_19 rfl rfl ?_
    refine vv_get 0 F fl_X8_48 dX8_type_20 rfl rfl ?_
    refine vv_sipush (v := 150) F dX8_type_23 (by decide) ?_
    refine vv_icmp_ne (tgt := 34) F dX8_type_26 (by decide) (fun h_2 => ?_) (fun h_2 => ?_)
    · refine vv_aload_n F dX8_type_34 rfl rfl ?_
      refine vv_get 0 F fl_X8_17 dX8_type_35 rfl rfl ?_
      refine vv_aload_n F dX8_type_38 rfl rfl ?_
      refine vv_get 0 F fl_X8_48 dX8_type_39 rfl rfl ?_
      refine vv_iload_n F dX8_type_42 rfl rfl ?_
      have hne : ¬ tt = 150 := mt (c_eq ht (by decide : (150 : Int32).toInt = ((150 : Nat) : Int))).mpr h_2
      refine vv_iast 1 (ws' := [(qm, .inr (7, [.ref qw, .ref qk, .ref qt, .int txd, .long abv, .long blw, .ref qs, .int atp, .int stp, .int nbr, .ref qi, .ref qp, .ref qh, .ref qb, .int bmy, .ref qa, .ref q6, .long hsh])), (qt, .inl ((vv_k x).2.1.1, 150, .inl (upd tx tt ch))), (qs, .inl ((vv_k x).2.1.1, 3, .inl ss))]) F dX8_type_43 rfl (vv_ixP (j := tt) (by have hz := ht; omega) (by omega)) rfl ?_
      refine vv_aload_n F dX8_type_44 rfl rfl ?_
      refine vv_dup F dX8_type_45 rfl ?_
      refine vv_get 0 F fl_X8_48 dX8_type_46 rfl rfl ?_
      refine vv_iconst (v := 1) F dX8_type_49 (by decide) ?_
      refine vv_iadd F dX8_type_50 ?_
      refine vv_put 0 (ws' := [(qm, .inr (7, [.ref qw, .ref qk, .ref qt, .int (txd + 1), .long abv, .long blw, .ref qs, .int atp, .int stp, .int nbr, .ref qi, .ref qp, .ref qh, .ref qb, .int bmy, .ref qa, .ref q6, .long hsh])), (qt, .inl ((vv_k x).2.1.1, 150, .inl (upd tx tt ch))), (qs, .inl ((vv_k x).2.1.1, 3, .inl ss))]) F fl_X8_48 dX8_type_51 rfl rfl rfl (Nat.le_of_ble_eq_true rfl) rfl ?_
      refine vv_aload_n F dX8_type_54 rfl rfl ?_
      refine vv_get 0 F fl_X8_48 dX8_type_55 rfl rfl ?_
      exact vv_iret F hR dX8_type_58 (congrArg (fun z => some (Value.int z)) ((if_pos h_1).trans ((if_neg h_2).trans rfl))) (by simp only [g_X8_type_0_3, g_X8_type_1, g_X8_type_2, if_pos h_1, if_neg h_2])
    · refine vv_aload_n F dX8_type_29 rfl rfl ?_
      refine vv_callV (As := []) (rest := []) [0, 2] 0 (ws' := [(qm, .inr (7, [.ref qw, .ref qk, .ref qt, .int txd, .long abv, .long blw, .ref qs, .int atp, .int stp, .int nbr, .ref qi, .ref qp, .ref qh, .ref qb, .int bmy, .ref qa, .ref q6, .long hsh])), (qt, .inl ((vv_k x).2.1.1, 150, .inl tx)), (qs, .inl ((vv_k x).2.1.1, 3, .inl (upd ss 2 ((ss 2) + 1))))]) F (c_X8_full (vv_l x) (vv_k x) qm qw qk qt txd abv blw qs atp stp nbr qi qp qh qb bmy qa q6 hsh ss) mv_X8_87 dX8_type_30 (by decide) rfl rfl (Nat.le_of_ble_eq_true rfl) rfl (by decide) (Eq.trans (b := [qm, qs]) rfl rfl) rfl rfl ?_
      exact vv_iret F hR dX8_type_33 (congrArg (fun z => some (Value.int z)) ((if_pos h_1).trans ((if_pos h_2).trans rfl))) (by simp only [g_X8_type_0_3, g_X8_type_1, g_X8_type_2, if_pos h_1, if_pos h_2])
  · refine vv_aload_n F dX8_type_12 rfl rfl ?_
    refine vv_bipush (v := (-2)) F dX8_type_13 (by decide) ?_
    refine vv_callV (As := [.int (-2)]) (rest := []) [0, 2] 0 (ws' := [(qm, .inr (7, [.ref qw, .ref qk, .ref qt, .int txd, .long abv, .long blw, .ref qs, .int atp, .int stp, .int nbr, .ref qi, .ref qp, .ref qh, .ref qb, .int bmy, .ref qa, .ref q6, .long hsh])), (qt, .inl ((vv_k x).2.1.1, 150, .inl tx)), (qs, .inl ((vv_k x).2.1.1, 3, .inl (upd ss 0 ((ss 0) + 1))))]) F (c_X8_bad (vv_l x) (vv_k x) qm qw qk qt txd abv blw qs atp stp nbr qi qp qh qb bmy qa q6 hsh ss (-2)) mv_X8_78 dX8_type_15 (by decide) rfl rfl (Nat.le_of_ble_eq_true rfl) rfl (by decide) (Eq.trans (b := [qm, qs]) rfl rfl) rfl rfl ?_
    exact vv_iret F hR dX8_type_18 (congrArg (fun z => some (Value.int z)) ((if_neg h_1).trans rfl)) (by simp only [g_X8_type_0_3, g_X8_type_1, g_X8_type_2, if_neg h_1])
noncomputable def f_X8_string (wf : Nat → Int32) (kd lg : Int32) : Int32 := (if p_X8_in kd.toInt64 0 5 then (if p_X8_in lg.toInt64 1 60 then (if (wf 0) = 5 then (-4) else (((wf 0) + 1) - 1)) else (-2)) else (-2))
noncomputable def g_X8_string_1 (wf : Nat → Int32) (kd lg : Int32) (c : Nat) : Nat → Int32 := (if p_X8_in kd.toInt64 0 5 then (if p_X8_in lg.toInt64 1 60 then (if (wf 0) = 5 then wf else (upd (upd (upd (upd wf (1 + 0 + c) kd) (6 + 0 + c) lg) 0 ((wf 0) + 1)) 81 0)) else wf) else wf)
noncomputable def g_X8_string_2 (wf ss : Nat → Int32) (kd lg : Int32) : Nat → Int32 := (if p_X8_in kd.toInt64 0 5 then (if p_X8_in lg.toInt64 1 60 then (if (wf 0) = 5 then (upd ss 2 ((ss 2) + 1)) else ss) else (upd ss 0 ((ss 0) + 1))) else (upd ss 0 ((ss 0) + 1)))
theorem c_X8_string (l : Launch) (K : vv_K) (qm qw qk qt : Nat) (txd : Int32) (abv blw : Int64) (qs : Nat) (atp stp nbr : Int32) (qi qp qh qb : Nat) (bmy : Int32) (qa q6 : Nat) (hsh : Int64) (wf ss : Nat → Int32) (kd lg : Int32) (c : Nat) (hc : ((wf 0)).toInt = (c : Int)) (hc5 : c ≤ 5)  : vv_C l K 3 yX8_string cX8_string 3 (some .int) [.ref qm, .int kd, .int lg] [(qm, .inr (7, [.ref qw, .ref qk, .ref qt, .int txd, .long abv, .long blw, .ref qs, .int atp, .int stp, .int nbr, .ref qi, .ref qp, .ref qh, .ref qb, .int bmy, .ref qa, .ref q6, .long hsh])), (qw, .inl (K.2.1.1, 456, .inl wf)), (qs, .inl (K.2.1.1, 3, .inl ss))] (some (.int (f_X8_string wf kd lg))) [(qm, .inr (7, [.ref qw, .ref qk, .ref qt, .int txd, .long abv, .long blw, .ref qs, .int atp, .int stp, .int nbr, .ref qi, .ref qp, .ref qh, .ref qb, .int bmy, .ref qa, .ref q6, .long hsh])), (qw, .inl (K.2.1.1, 456, .inl (g_X8_string_1 wf kd lg c))), (qs, .inl (K.2.1.1, 3, .inl (g_X8_string_2 wf ss kd lg)))] := by
  refine vv_C.of (lv := [(0, .ref qm), (1, .int kd), (2, .int lg)]) (by decide +kernel) (Nat.le_of_ble_eq_true rfl) rfl ?_
  intro x hl hK F hR; subst hl; obtain rfl := hK
  refine vv_iload_n F dX8_string_0 rfl rfl ?_
  refine vv_i2l F dX8_string_1 ?_
  refine vv_lconst (v := 0) F dX8_string_2 (by decide) ?_
  refine vv_ldc2 F cl_X8_85 dX8_string_3 ?_
  refine vv_callSp (As := [.long kd.toInt64, .long 0, .long 5]) (rest := []) [] F (c_X8_in (vv_l x) (vv_k x) kd.toInt64 0 5) ms_X8_56 dX8_string_6 (by decide) rfl rfl (Nat.le_of_ble_eq_true rfl) rfl (by decide) ?_
  refine vv_ifz_eq (tgt := 24) F dX8_string_9 (by decide) (fun h_1 => ?_) (fun h_1 => ?_)
  · refine vv_aload_n F dX8_string_24 rfl rfl ?_
    refine vv_bipush (v := (-2)) F dX8_string_25 (by decide) ?_
    refine vv_callV (As := [.int (-2)]) (rest := []) [0, 2] 0 (ws' := [(qm, .inr (7, [.ref qw, .ref qk, .ref qt, .int txd, .long abv, .long blw, .ref qs, .int atp, .int stp, .int nbr, .ref qi, .ref qp, .ref qh, .ref qb, .int bmy, .ref qa, .ref q6, .long hsh])), (qw, .inl ((vv_k x).2.1.1, 456, .inl wf)), (qs, .inl ((vv_k x).2.1.1, 3, .inl (upd ss 0 ((ss 0) + 1))))]) F (c_X8_bad (vv_l x) (vv_k x) qm qw qk qt txd abv blw qs atp stp nbr qi qp qh qb bmy qa q6 hsh ss (-2)) mv_X8_78 dX8_string_27 (by decide) rfl rfl (Nat.le_of_ble_eq_true rfl) rfl (by decide) (Eq.trans (b := [qm, qs]) rfl rfl) rfl rfl ?_
    exact vv_iret F hR dX8_string_30 (congrArg (fun z => some (Value.int z)) ((if_neg h_1).trans rfl)) (by simp only [g_X8_string_1, g_X8_string_2, if_neg h_1])
  · have h_1r := in_rng (a := 0) (b := 5) (by decide) (by decide) h_1
    have h_1c := nn_cl (a := kd) (by omega)
    refine vv_iload_n F dX8_string_12 rfl rfl ?_
    refine vv_i2l F dX8_string_13 ?_
    refine vv_lconst (v := 1) F dX8_string_14 (by decide) ?_
    refine vv_ldc2 F cl_X8_74 dX8_string_15 ?_
    refine vv_callSp (As := [.long lg.toInt64, .long 1, .long 60]) (rest := []) [] F (c_X8_in (vv_l x) (vv_k x) lg.toInt64 1 60) ms_X8_56 dX8_string_18 (by decide) rfl rfl (Nat.le_of_ble_eq_true rfl) rfl (by decide) ?_
    refine vv_ifz_ne (tgt := 31) F dX8_string_21 (by decide) (fun h_2 => ?_) (fun h_2 => ?_)
    · have h_2r := in_rng (a := 1) (b := 60) (by decide) (by decide) h_2
      have h_2c := nn_cl (a := lg) (by omega)
      refine vv_aload_n F dX8_string_31 rfl rfl ?_
      refine vv_get 0 F fl_X8_7 dX8_string_32 rfl rfl ?_
      refine vv_iconst (v := 0) F dX8_string_35 (by decide) ?_
      refine vv_iald 1 F dX8_string_36 rfl (vv_ixP (j := 0) (by decide) (by decide)) ?_
      refine vv_iconst (v := 5) F dX8_string_37 (by decide) ?_
      refine vv_icmp_ne (tgt := 46) F dX8_string_38 (by decide) (fun h_3 => ?_) (fun h_3 => ?_)
      · refine vv_aload_n F dX8_string_46 rfl rfl ?_
        refine vv_iconst (v := 0) F dX8_string_47 (by decide) ?_
        refine vv_iload_n F dX8_string_48 rfl rfl ?_
        refine vv_iload_n F dX8_string_49 rfl rfl ?_
        have hne : ¬ c = 5 := mt (c_eq hc (by decide : (5 : Int32).toInt = ((5 : Nat) : Int))).mpr h_3
        refine vv_callV (As := [.int 0, .int kd, .int lg]) (rest := []) [0, 1] 0 (ws' := [(qm, .inr (7, [.ref qw, .ref qk, .ref qt, .int txd, .long abv, .long blw, .ref qs, .int atp, .int stp, .int nbr, .ref qi, .ref qp, .ref qh, .ref qb, .int bmy, .ref qa, .ref q6, .long hsh])), (qw, .inl ((vv_k x).2.1.1, 456, .inl (upd (upd (upd wf (1 + 0 + c) kd) (6 + 0 + c) lg) 0 ((wf 0) + 1)))), (qs, .inl ((vv_k x).2.1.1, 3, .inl ss))]) F (c_X8_adds (vv_l x) (vv_k x) qm qw qk qt txd abv blw qs atp stp nbr qi qp qh qb bmy qa q6 hsh wf 0 kd lg 0 c (by decide : (0 : Int32).toInt = ((0 : Nat) : Int)) hc (by omega) (by omega)) mv_X8_91 dX8_string_50 (by decide) rfl rfl (Nat.le_of_ble_eq_true rfl) rfl (by decide) (Eq.trans (b := [qm, qw]) rfl rfl) rfl rfl ?_
        refine vv_aload_n F dX8_string_53 rfl rfl ?_
        refine vv_get 0 F fl_X8_7 dX8_string_54 rfl rfl ?_
        refine vv_bipush (v := 81) F dX8_string_57 (by decide) ?_
        refine vv_iconst (v := 0) F dX8_string_59 (by decide) ?_
        refine vv_iast 1 (ws' := [(qm, .inr (7, [.ref qw, .ref qk, .ref qt, .int txd, .long abv, .long blw, .ref qs, .int atp, .int stp, .int nbr, .ref qi, .ref qp, .ref qh, .ref qb, .int bmy, .ref qa, .ref q6, .long hsh])), (qw, .inl ((vv_k x).2.1.1, 456, .inl (upd (upd (upd (upd wf (1 + 0 + c) kd) (6 + 0 + c) lg) 0 ((wf 0) + 1)) 81 0))), (qs, .inl ((vv_k x).2.1.1, 3, .inl ss))]) F dX8_string_60 rfl (vv_ixP (j := 81) (by decide) (by decide)) rfl ?_
        refine vv_aload_n F dX8_string_61 rfl rfl ?_
        refine vv_get 0 F fl_X8_7 dX8_string_62 rfl rfl ?_
        refine vv_iconst (v := 0) F dX8_string_65 (by decide) ?_
        refine vv_iald 1 F dX8_string_66 rfl (vv_ixP (j := 0) (by decide) (by decide)) ?_
        refine vv_topi ((wf 0) + 1) ((pk_un (by decide)).trans (pk_us)) ?_
        refine vv_iconst (v := 1) F dX8_string_67 (by decide) ?_
        refine vv_isub F dX8_string_68 ?_
        exact vv_iret F hR dX8_string_69 (congrArg (fun z => some (Value.int z)) ((if_pos h_1).trans ((if_pos h_2).trans ((if_neg h_3).trans rfl)))) (by simp only [g_X8_string_1, g_X8_string_2, if_pos h_1, if_pos h_2, if_neg h_3])
      · refine vv_aload_n F dX8_string_41 rfl rfl ?_
        refine vv_callV (As := []) (rest := []) [0, 2] 0 (ws' := [(qm, .inr (7, [.ref qw, .ref qk, .ref qt, .int txd, .long abv, .long blw, .ref qs, .int atp, .int stp, .int nbr, .ref qi, .ref qp, .ref qh, .ref qb, .int bmy, .ref qa, .ref q6, .long hsh])), (qw, .inl ((vv_k x).2.1.1, 456, .inl wf)), (qs, .inl ((vv_k x).2.1.1, 3, .inl (upd ss 2 ((ss 2) + 1))))]) F (c_X8_full (vv_l x) (vv_k x) qm qw qk qt txd abv blw qs atp stp nbr qi qp qh qb bmy qa q6 hsh ss) mv_X8_87 dX8_string_42 (by decide) rfl rfl (Nat.le_of_ble_eq_true rfl) rfl (by decide) (Eq.trans (b := [qm, qs]) rfl rfl) rfl rfl ?_
        exact vv_iret F hR dX8_string_45 (congrArg (fun z => some (Value.int z)) ((if_pos h_1).trans ((if_pos h_2).trans ((if_pos h_3).trans rfl)))) (by simp only [g_X8_string_1, g_X8_string_2, if_pos h_1, if_pos h_2, if_pos h_3])
    · refine vv_aload_n F dX8_string_24 rfl rfl ?_
      refine vv_bipush (v := (-2)) F dX8_string_25 (by decide) ?_
      refine vv_callV (As := [.int (-2)]) (rest := []) [0, 2] 0 (ws' := [(qm, .inr (7, [.ref qw, .ref qk, .ref qt, .int txd, .long abv, .long blw, .ref qs, .int atp, .int stp, .int nbr, .ref qi, .ref qp, .ref qh, .ref qb, .int bmy, .ref qa, .ref q6, .long hsh])), (qw, .inl ((vv_k x).2.1.1, 456, .inl wf)), (qs, .inl ((vv_k x).2.1.1, 3, .inl (upd ss 0 ((ss 0) + 1))))]) F (c_X8_bad (vv_l x) (vv_k x) qm qw qk qt txd abv blw qs atp stp nbr qi qp qh qb bmy qa q6 hsh ss (-2)) mv_X8_78 dX8_string_27 (by decide) rfl rfl (Nat.le_of_ble_eq_true rfl) rfl (by decide) (Eq.trans (b := [qm, qs]) rfl rfl) rfl rfl ?_
      exact vv_iret F hR dX8_string_30 (congrArg (fun z => some (Value.int z)) ((if_pos h_1).trans ((if_neg h_2).trans rfl))) (by simp only [g_X8_string_1, g_X8_string_2, if_pos h_1, if_neg h_2])
