theorem itr_abs {σ : Type} {f : Nat → σ → σ} {s : σ} (h : ∀ u, f u s = s) : ∀ {n u : Nat}, itr f n u s = s
  | 0, u => itr_0
  | n + 1, u => by rw [itr_s, h u]; exact itr_abs h
theorem dn_1 {u : Nat} (h : u < 60) : nI (60 - u) + (-1) = nI (60 - (u + 1)) := by
  rw [show 60 - u = (60 - (u + 1)) + 1 by omega]; exact pk_m1 _
theorem wi_in {v lo hi : Int32} {k a b : Nat} (hk : v.toInt = (k : Int)) (ha : lo.toInt = (a : Int)) (hb : hi.toInt = (b : Int)) (h1 : a ≤ k) (h2 : k ≤ b) : p_X7_within v lo hi := ⟨mt (c_lt hk ha).mp (by omega), mt (c_lt hb hk).mp (by omega)⟩
def oI (o : Option Nat) : Int32 := match o with
  | none => -1
  | some k => nI k
theorem L_X3_dropFirst {x : vv_X} (F : vv_F x cX3_dropFirst 2 RX3 1) (h a : Nat) (m n : Int32) (f : Nat → Int32) (c : Nat) (hc : (n).toInt = (c : Int)) (hc8 : c ≤ 8) (hc1 : 1 ≤ c) : ∀ (nn : Nat) (u : Nat), u + nn = 4 * c → 4 ≤ u → vv_V x 2 40 [(1, .int (nI (4 * c))), (0, .ref h)] [] [(h, .inr (2, [.ref a, .int m, .int n])), (a, .inl ((vv_k x).2.1.1, 32, .inl (va_cpy f f 4 0 (4 * c - 4))))] → vv_V x 2 10 [(1, .int (nI u)), (0, .ref h)] [] [(h, .inr (2, [.ref a, .int m, .int n])), (a, .inl ((vv_k x).2.1.1, 32, .inl (va_cpy f f 4 0 (u - 4))))] := by
  intro nn
  induction nn with
  | zero =>
    intro u hu hu4  kx
    refine vv_iload_n F dX3_dropFirst_10 rfl rfl ?_
    refine vv_aload_n F dX3_dropFirst_11 rfl rfl ?_
    refine vv_get 0 F fl_X3_23 dX3_dropFirst_12 rfl rfl ?_
    refine vv_iconst (v := 4) F dX3_dropFirst_15 (by decide) ?_
    refine vv_imul F dX3_dropFirst_16 ?_
    refine vv_icmp_ge (tgt := 40) F dX3_dropFirst_17 (by decide) (fun h_1 => ?_) (fun h_1 => absurd ((c_le (nn_mul hc (by decide : (4 : Int32).toInt = ((4 : Nat) : Int)) (by omega)) (nI_toInt (n := u) (by omega))).mpr (by omega)) h_1)
    obtain rfl : u = 4 * c := by omega
    exact vv_lv [0, 1] rfl kx
  | succ nn ih =>
    intro u hu hu4  kx
    refine vv_iload_n F dX3_dropFirst_10 rfl rfl ?_
    refine vv_aload_n F dX3_dropFirst_11 rfl rfl ?_
    refine vv_get 0 F fl_X3_23 dX3_dropFirst_12 rfl rfl ?_
    refine vv_iconst (v := 4) F dX3_dropFirst_15 (by decide) ?_
    refine vv_imul F dX3_dropFirst_16 ?_
    refine vv_icmp_ge (tgt := 40) F dX3_dropFirst_17 (by decide) (fun h_1 => absurd ((c_le (nn_mul hc (by decide : (4 : Int32).toInt = ((4 : Nat) : Int)) (by omega)) (nI_toInt (n := u) (by omega))).mp h_1) (by omega)) (fun h_1 => ?_)
    refine vv_aload_n F dX3_dropFirst_20 rfl rfl ?_
    refine vv_get 0 F fl_X3_9 dX3_dropFirst_21 rfl rfl ?_
    refine vv_iload_n F dX3_dropFirst_24 rfl rfl ?_
    refine vv_iconst (v := 4) F dX3_dropFirst_25 (by decide) ?_
    refine vv_isub F dX3_dropFirst_26 ?_
    refine vv_aload_n F dX3_dropFirst_27 rfl rfl ?_
    refine vv_get 0 F fl_X3_9 dX3_dropFirst_28 rfl rfl ?_
    refine vv_iload_n F dX3_dropFirst_31 rfl rfl ?_
    refine vv_iald 1 F dX3_dropFirst_32 rfl (vv_ixP (j := u) (by have hz := (nI_toInt (n := u) (by omega)); omega) (by omega)) ?_
    refine vv_topi (f (4 + (u - 4))) ((cpy_out (by omega)).trans (congrArg f (by omega))) ?_
    refine vv_iast 1 (ws' := [(h, .inr (2, [.ref a, .int m, .int n])), (a, .inl ((vv_k x).2.1.1, 32, .inl (upd (va_cpy f f 4 0 (u - 4)) (0 + (u - 4)) (f (4 + (u - 4))))))]) F dX3_dropFirst_33 rfl (vv_ixP (j := 0 + (u - 4)) (by have hz := (nn_sub (nI_toInt (n := u) (by omega)) (by decide : (4 : Int32).toInt = ((4 : Nat) : Int)) (by omega)); omega) (by omega)) rfl ?_
    refine vv_iinc (v := (nI (u + 1))) (lv' := [(1, .int (nI (u + 1))), (0, .ref h)]) 0 F dX3_dropFirst_34 rfl (nI_1 u) (by decide) rfl ?_
    refine vv_goto (tgt := 10) F dX3_dropFirst_37 (by decide) ?_
    refine vv_lv [0, 1] rfl ?_
    refine vv_ws (by rw [cpy_s, show u - 4 + 1 = u + 1 - 4 by omega]) ?_
    exact ih (u + 1) (by omega) (by omega) kx
noncomputable def g_X3_dropFirst_0_2 (n : Int32) : Int32 := (if n = 0 then n else (n - 1))
noncomputable def g_X3_dropFirst_1 (n : Int32) (f : Nat → Int32) (c : Nat) : Nat → Int32 := (if n = 0 then f else (va_cpy f f 4 0 (4 * c - 4)))
theorem c_X3_dropFirst (l : Launch) (K : vv_K) (h a : Nat) (m n : Int32) (f : Nat → Int32) (c : Nat) (hc : (n).toInt = (c : Int)) (hc8 : c ≤ 8)  : vv_C l K 1 yX3_dropFirst cX3_dropFirst 2 none [.ref h] [(h, .inr (2, [.ref a, .int m, .int n])), (a, .inl (K.2.1.1, 32, .inl f))] none [(h, .inr (2, [.ref a, .int m, .int (g_X3_dropFirst_0_2 n)])), (a, .inl (K.2.1.1, 32, .inl (g_X3_dropFirst_1 n f c)))] := by
  refine vv_C.of (lv := [(0, .ref h)]) (by decide +kernel) (Nat.le_of_ble_eq_true rfl) rfl ?_
  intro x hl hK F hR; subst hl; obtain rfl := hK
  refine vv_aload_n F dX3_dropFirst_0 rfl rfl ?_
  refine vv_get 0 F fl_X3_23 dX3_dropFirst_1 rfl rfl ?_
  refine vv_if_ne (tgt := 8) F dX3_dropFirst_4 (by decide) (fun h_1 => ?_) (fun h_1 => ?_)
  · have h0 : ¬ c = 0 := mt (c_eq hc (by decide : (0 : Int32).toInt = ((0 : Nat) : Int))).mpr h_1
    refine vv_iconst (v := 4) F dX3_dropFirst_8 (by decide) ?_
    refine vv_istore_n (lv' := [(1, .int 4), (0, .ref h)]) F dX3_dropFirst_9 rfl (by decide) rfl ?_
    refine vv_lv (lv' := [(1, .int 4), (0, .ref h)]) [0, 1] rfl ?_
    refine vv_ws (by rw [← cpy_0 f 4 0]) ?_
    refine L_X3_dropFirst F h a m n f c hc hc8 (by omega) (4 * c - 4) 4 (by omega) (by omega) ?_
    refine vv_aload_n F dX3_dropFirst_40 rfl rfl ?_
    refine vv_dup F dX3_dropFirst_41 rfl ?_
    refine vv_get 0 F fl_X3_23 dX3_dropFirst_42 rfl rfl ?_
    refine vv_iconst (v := 1) F dX3_dropFirst_45 (by decide) ?_
    refine vv_isub F dX3_dropFirst_46 ?_
    refine vv_put 0 (ws' := [(h, .inr (2, [.ref a, .int m, .int (n - 1)])), (a, .inl ((vv_k x).2.1.1, 32, .inl (va_cpy f f 4 0 (4 * c - 4))))]) F fl_X3_23 dX3_dropFirst_47 rfl rfl rfl (Nat.le_of_ble_eq_true rfl) rfl ?_
    exact vv_vret F hR dX3_dropFirst_50 rfl (by simp only [g_X3_dropFirst_0_2, g_X3_dropFirst_1, if_neg h_1])
  · exact vv_vret F hR dX3_dropFirst_7 rfl (by simp only [g_X3_dropFirst_0_2, g_X3_dropFirst_1, if_pos h_1])
noncomputable def st_X3_digestOn_in (f : Nat → Int32) (sz : Int32) (v : Nat) (u : Nat) (s : Int64) : Int64 := ((31 * s) + (f_X3_cell sz f (nI v) (nI u)).toInt64)
theorem L_X3_digestOn_in {x : vv_X} (F : vv_F x cX3_digestOn 8 RX3 2) (h a : Nat) (m : Int32) (f : Nat → Int32) (sz : Int32) (bf : Int64) (cs : Int32) (v : Nat) (c k : Nat) (hc : (sz).toInt = (c : Int)) (hk : (cs).toInt = (k : Int)) (hc8 : c ≤ 8) (hk4 : k ≤ 4) (hv8 : v < 8) : ∀ (n : Nat) (u : Nat) (hq : Int64), u + n = k → vv_V x 8 48 [(7, .int (nI k)), (4, .long (itr (st_X3_digestOn_in f sz v) n u hq)), (0, .ref h), (1, .long bf), (3, .int cs), (6, .int (nI v))] [] [(h, .inr (2, [.ref a, .int m, .int sz])), (a, .inl ((vv_k x).2.1.1, 32, .inl f))] → vv_V x 8 18 [(7, .int (nI u)), (4, .long hq), (0, .ref h), (1, .long bf), (3, .int cs), (6, .int (nI v))] [] [(h, .inr (2, [.ref a, .int m, .int sz])), (a, .inl ((vv_k x).2.1.1, 32, .inl f))] := by
  intro n
  induction n with
  | zero =>
    intro u hq hu  kx
    refine vv_iload F dX3_digestOn_18 rfl ?_
    refine vv_iload_n F dX3_digestOn_20 rfl rfl ?_
    refine vv_icmp_ge (tgt := 48) F dX3_digestOn_21 (by decide) (fun h_1 => ?_) (fun h_1 => absurd ((c_le hk (nI_toInt (n := u) (by omega))).mpr (by omega)) h_1)
    obtain rfl : u = k := by omega
    rw [itr_0] at kx
    exact vv_lv [0, 1, 2, 3, 4, 5] rfl kx
  | succ n ih =>
    intro u hq hu  kx
    refine vv_iload F dX3_digestOn_18 rfl ?_
    refine vv_iload_n F dX3_digestOn_20 rfl rfl ?_
    refine vv_icmp_ge (tgt := 48) F dX3_digestOn_21 (by decide) (fun h_1 => absurd ((c_le hk (nI_toInt (n := u) (by omega))).mp h_1) (by omega)) (fun h_1 => ?_)
    refine vv_ldc2 F cl_X3_36 dX3_digestOn_24 ?_
    refine vv_lload F dX3_digestOn_27 rfl ?_
    refine vv_lmul F dX3_digestOn_29 ?_
    refine vv_aload_n F dX3_digestOn_30 rfl rfl ?_
    refine vv_iload F dX3_digestOn_31 rfl ?_
    refine vv_iload F dX3_digestOn_33 rfl ?_
    refine vv_callVp (As := [.int (nI v), .int (nI u)]) (rest := [.long (31 * hq)]) [0, 1] 0 F (c_X3_cell (vv_l x) (vv_k x) h a m sz f (nI v) (nI u) (by omega)) mv_X3_38 dX3_digestOn_35 (by decide) rfl rfl (Nat.le_of_ble_eq_true rfl) rfl (by decide) rfl ?_
    refine vv_i2l F dX3_digestOn_38 ?_
    refine vv_ladd F dX3_digestOn_39 ?_
    refine vv_lstore (lv' := [(4, .long ((31 * hq) + ((f_X3_cell sz f (nI v) (nI u)).toInt64))), (7, .int (nI u)), (0, .ref h), (1, .long bf), (3, .int cs), (6, .int (nI v))]) F dX3_digestOn_40 (by decide) rfl ?_
    refine vv_iinc (v := (nI (u + 1))) (lv' := [(7, .int (nI (u + 1))), (4, .long ((31 * hq) + ((f_X3_cell sz f (nI v) (nI u)).toInt64))), (0, .ref h), (1, .long bf), (3, .int cs), (6, .int (nI v))]) 1 F dX3_digestOn_42 rfl (nI_1 u) (by decide) rfl ?_
    refine vv_goto (tgt := 18) F dX3_digestOn_45 (by decide) ?_
    refine vv_lv (lv' := [(7, .int (nI (u + 1))), (4, .long ((31 * hq) + ((f_X3_cell sz f (nI v) (nI u)).toInt64))), (0, .ref h), (1, .long bf), (3, .int cs), (6, .int (nI v))]) [0, 1, 2, 3, 4, 5] rfl ?_
    refine vv_lvE (lv' := [(7, .int (nI (u + 1))), (4, .long ((31 * hq) + (f_X3_cell sz f (nI v) (nI u)).toInt64)), (0, .ref h), (1, .long bf), (3, .int cs), (6, .int (nI v))]) (by rfl) ?_
    exact ih (u + 1) ((31 * hq) + (f_X3_cell sz f (nI v) (nI u)).toInt64) (by omega) (by rw [itr_s] at kx; exact kx)
noncomputable def st_X3_digestOn (f : Nat → Int32) (sz : Int32) (k : Nat) (u : Nat) (s : Int64) : Int64 := (itr (st_X3_digestOn_in f sz u) k 0 s)
theorem L_X3_digestOn {x : vv_X} (F : vv_F x cX3_digestOn 8 RX3 2) (h a : Nat) (m : Int32) (f : Nat → Int32) (sz : Int32) (bf : Int64) (cs : Int32) (c k : Nat) (hc : (sz).toInt = (c : Int)) (hk : (cs).toInt = (k : Int)) (hc8 : c ≤ 8) (hk4 : k ≤ 4) : ∀ (n : Nat) (u : Nat) (hq : Int64), u + n = c → vv_V x 8 54 [(6, .int (nI c)), (4, .long (itr (st_X3_digestOn f sz k) n u hq)), (0, .ref h), (1, .long bf), (3, .int cs)] [] [(h, .inr (2, [.ref a, .int m, .int sz])), (a, .inl ((vv_k x).2.1.1, 32, .inl f))] → vv_V x 8 6 [(6, .int (nI u)), (4, .long hq), (0, .ref h), (1, .long bf), (3, .int cs)] [] [(h, .inr (2, [.ref a, .int m, .int sz])), (a, .inl ((vv_k x).2.1.1, 32, .inl f))] := by
  intro n
  induction n with
  | zero =>
    intro u hq hu  kx
    refine vv_iload F dX3_digestOn_6 rfl ?_
    refine vv_aload_n F dX3_digestOn_8 rfl rfl ?_
    refine vv_get 0 F fl_X3_23 dX3_digestOn_9 rfl rfl ?_
    refine vv_icmp_ge (tgt := 54) F dX3_digestOn_12 (by decide) (fun h_1 => ?_) (fun h_1 => absurd ((c_le hc (nI_toInt (n := u) (by omega))).mpr (by omega)) h_1)
    obtain rfl : u = c := by omega
    rw [itr_0] at kx
    exact vv_lv [0, 1, 2, 3, 4] rfl kx
  | succ n ih =>
    intro u hq hu  kx
    refine vv_iload F dX3_digestOn_6 rfl ?_
    refine vv_aload_n F dX3_digestOn_8 rfl rfl ?_
    refine vv_get 0 F fl_X3_23 dX3_digestOn_9 rfl rfl ?_
    refine vv_icmp_ge (tgt := 54) F dX3_digestOn_12 (by decide) (fun h_1 => absurd ((c_le hc (nI_toInt (n := u) (by omega))).mp h_1) (by omega)) (fun h_1 => ?_)
    refine vv_iconst (v := 0) F dX3_digestOn_15 (by decide) ?_
    refine vv_istore (lv' := [(7, .int 0), (6, .int (nI u)), (4, .long hq), (0, .ref h), (1, .long bf), (3, .int cs)]) F dX3_digestOn_16 (by decide) rfl ?_
    refine vv_lv (lv' := [(7, .int 0), (4, .long hq), (0, .ref h), (1, .long bf), (3, .int cs), (6, .int (nI u))]) [0, 2, 3, 4, 5, 1] rfl ?_
    refine L_X3_digestOn_in F h a m f sz bf cs u c k hc hk (by omega) (by omega) (by omega) k 0 hq (by omega) ?_
    refine vv_iinc (v := (nI (u + 1))) (lv' := [(6, .int (nI (u + 1))), (7, .int (nI k)), (4, .long (itr (st_X3_digestOn_in f sz u) k 0 hq)), (0, .ref h), (1, .long bf), (3, .int cs)]) 5 F dX3_digestOn_48 rfl (nI_1 u) (by decide) rfl ?_
    refine vv_goto (tgt := 6) F dX3_digestOn_51 (by decide) ?_
    refine vv_lv (lv' := [(6, .int (nI (u + 1))), (4, .long (itr (st_X3_digestOn_in f sz u) k 0 hq)), (0, .ref h), (1, .long bf), (3, .int cs)]) [0, 2, 3, 4, 5] rfl ?_
    refine vv_lvE (lv' := [(6, .int (nI (u + 1))), (4, .long (itr (st_X3_digestOn_in f sz u) k 0 hq)), (0, .ref h), (1, .long bf), (3, .int cs)]) (by rfl) ?_
    exact ih (u + 1) (itr (st_X3_digestOn_in f sz u) k 0 hq) (by omega) (by rw [itr_s] at kx; exact kx)
theorem c_X3_digestOn (l : Launch) (K : vv_K) (h a : Nat) (m : Int32) (f : Nat → Int32) (sz : Int32) (bf : Int64) (cs : Int32) (c k : Nat) (hc : (sz).toInt = (c : Int)) (hk : (cs).toInt = (k : Int)) (hc8 : c ≤ 8) (hk4 : k ≤ 4)  : vv_C l K 2 yX3_digestOn cX3_digestOn 8 (some .long) [.ref h, .long bf, .int cs] [(h, .inr (2, [.ref a, .int m, .int sz])), (a, .inl (K.2.1.1, 32, .inl f))] (some (.long (itr (st_X3_digestOn f sz k) c 0 bf))) [(h, .inr (2, [.ref a, .int m, .int sz])), (a, .inl (K.2.1.1, 32, .inl f))] := by
  refine vv_C.of (lv := [(0, .ref h), (1, .long bf), (3, .int cs)]) (by decide +kernel) (Nat.le_of_ble_eq_true rfl) rfl ?_
  intro x hl hK F hR; subst hl; obtain rfl := hK
  refine vv_lload_n F dX3_digestOn_0 rfl rfl ?_
  refine vv_lstore (lv' := [(4, .long bf), (0, .ref h), (1, .long bf), (3, .int cs)]) F dX3_digestOn_1 (by decide) rfl ?_
  refine vv_iconst (v := 0) F dX3_digestOn_3 (by decide) ?_
  refine vv_istore (lv' := [(6, .int 0), (4, .long bf), (0, .ref h), (1, .long bf), (3, .int cs)]) F dX3_digestOn_4 (by decide) rfl ?_
  refine vv_lv (lv' := [(6, .int 0), (4, .long bf), (0, .ref h), (1, .long bf), (3, .int cs)]) [0, 1, 2, 3, 4] rfl ?_
  refine L_X3_digestOn F h a m f sz bf cs c k hc hk (by omega) (by omega) c 0 bf (by omega) ?_
  refine vv_lload F dX3_digestOn_54 rfl ?_
  exact vv_lret F hR dX3_digestOn_56 rfl rfl
noncomputable def g_X2_remember_1_2 (mU nU : Int32) : Int32 := (if p_X3_isFull mU nU then (g_X3_put_0_2 mU (g_X3_dropFirst_0_2 nU)) else (g_X3_put_0_2 mU nU))
noncomputable def g_X2_remember_2 (pu hl sm hr mU nU : Int32) (fU : Nat → Int32) (c : Nat) : Nat → Int32 := (if p_X3_isFull mU nU then (g_X3_put_1 mU (g_X3_dropFirst_0_2 nU) (g_X3_dropFirst_1 nU fU c) pu hl sm hr) else (g_X3_put_1 mU nU fU pu hl sm hr))
theorem c_X2_remember (l : Launch) (K : vv_K) (hP hS hC hN hM hU : Nat) (ln hb ha pu hl sm hr : Int32) (aU : Nat) (mU nU : Int32) (fU : Nat → Int32) (c : Nat) (hc : (nU).toInt = (c : Int)) (hc8 : c ≤ 8) (hm8 : mU.toInt = 8) : vv_C l K 3 yX2_remember cX2_remember 1 none [.ref hP] [(hP, .inr (1, [.int ln, .int hb, .int ha, .int pu, .int hl, .int sm, .int hr, .ref hS, .ref hC, .ref hN, .ref hM, .ref hU])), (hU, .inr (2, [.ref aU, .int mU, .int nU])), (aU, .inl (K.2.1.1, 32, .inl fU))] none [(hP, .inr (1, [.int ln, .int hb, .int ha, .int pu, .int hl, .int sm, .int hr, .ref hS, .ref hC, .ref hN, .ref hM, .ref hU])), (hU, .inr (2, [.ref aU, .int mU, .int (g_X2_remember_1_2 mU nU)])), (aU, .inl (K.2.1.1, 32, .inl (g_X2_remember_2 pu hl sm hr mU nU fU c)))] := by
  refine vv_C.of (lv := [(0, .ref hP)]) (by decide +kernel) (Nat.le_of_ble_eq_true rfl) rfl ?_
  intro x hl hK F hR; subst hl; obtain rfl := hK
  refine vv_aload_n F dX2_remember_0 rfl rfl ?_
  refine vv_get 0 F fl_X2_36 dX2_remember_1 rfl rfl ?_
  refine vv_callVp (As := []) (rest := []) [1] 1 F (c_X3_isFull (vv_l x) (vv_k x) hU aU mU nU) mv_X2_105 dX2_remember_4 (by decide) rfl rfl (Nat.le_of_ble_eq_true rfl) rfl (by decide) rfl ?_
  refine vv_ifz_eq (tgt := 17) F dX2_remember_7 (by decide) (fun h_1 => ?_) (fun h_1 => ?_)
  · refine vv_aload_n F dX2_remember_17 rfl rfl ?_
    refine vv_get 0 F fl_X2_36 dX2_remember_18 rfl rfl ?_
    refine vv_aload_n F dX2_remember_21 rfl rfl ?_
    refine vv_get 0 F fl_X2_15 dX2_remember_22 rfl rfl ?_
    refine vv_aload_n F dX2_remember_25 rfl rfl ?_
    refine vv_get 0 F fl_X2_45 dX2_remember_26 rfl rfl ?_
    refine vv_aload_n F dX2_remember_29 rfl rfl ?_
    refine vv_get 0 F fl_X2_48 dX2_remember_30 rfl rfl ?_
    refine vv_aload_n F dX2_remember_33 rfl rfl ?_
    refine vv_get 0 F fl_X2_51 dX2_remember_34 rfl rfl ?_
    refine vv_callV (As := [.int pu, .int hl, .int sm, .int hr]) (rest := []) [1, 2] 1 (ws' := [(hP, .inr (1, [.int ln, .int hb, .int ha, .int pu, .int hl, .int sm, .int hr, .ref hS, .ref hC, .ref hN, .ref hM, .ref hU])), (hU, .inr (2, [.ref aU, .int mU, .int (g_X3_put_0_2 mU nU)])), (aU, .inl ((vv_k x).2.1.1, 32, .inl (g_X3_put_1 mU nU fU pu hl sm hr)))]) F (c_X3_put (vv_l x) (vv_k x) hU aU mU nU fU pu hl sm hr (by first | omega | (have hz := nn_sub hc (by decide : (1 : Int32).toInt = ((1 : Nat) : Int)) (by omega); first | omega | (unfold g_X3_dropFirst_0_2; split <;> omega))) (by omega)) mv_X2_112 dX2_remember_37 (by decide) rfl rfl (Nat.le_of_ble_eq_true rfl) rfl (by decide) (Eq.trans (b := [hU, aU]) rfl rfl) rfl rfl ?_
    exact vv_vret F hR dX2_remember_40 rfl (by simp only [g_X2_remember_1_2, g_X2_remember_2, if_neg h_1])
  · have hfl : 8 ≤ c := by have hz : ¬ nU < mU := h_1; rw [Int32.lt_iff_toInt_lt] at hz; omega
    refine vv_aload_n F dX2_remember_10 rfl rfl ?_
    refine vv_get 0 F fl_X2_36 dX2_remember_11 rfl rfl ?_
    refine vv_callV (As := []) (rest := []) [1, 2] 1 (ws' := [(hP, .inr (1, [.int ln, .int hb, .int ha, .int pu, .int hl, .int sm, .int hr, .ref hS, .ref hC, .ref hN, .ref hM, .ref hU])), (hU, .inr (2, [.ref aU, .int mU, .int (g_X3_dropFirst_0_2 nU)])), (aU, .inl ((vv_k x).2.1.1, 32, .inl (g_X3_dropFirst_1 nU fU c)))]) F (c_X3_dropFirst (vv_l x) (vv_k x) hU aU mU nU fU c hc (by omega)) mv_X2_109 dX2_remember_14 (by decide) rfl rfl (Nat.le_of_ble_eq_true rfl) rfl (by decide) (Eq.trans (b := [hU, aU]) rfl rfl) rfl rfl ?_
    refine vv_aload_n F dX2_remember_17 rfl rfl ?_
    refine vv_get 0 F fl_X2_36 dX2_remember_18 rfl rfl ?_
    refine vv_aload_n F dX2_remember_21 rfl rfl ?_
    refine vv_get 0 F fl_X2_15 dX2_remember_22 rfl rfl ?_
    refine vv_aload_n F dX2_remember_25 rfl rfl ?_
    refine vv_get 0 F fl_X2_45 dX2_remember_26 rfl rfl ?_
    refine vv_aload_n F dX2_remember_29 rfl rfl ?_
    refine vv_get 0 F fl_X2_48 dX2_remember_30 rfl rfl ?_
    refine vv_aload_n F dX2_remember_33 rfl rfl ?_
    refine vv_get 0 F fl_X2_51 dX2_remember_34 rfl rfl ?_
    refine vv_callV (As := [.int pu, .int hl, .int sm, .int hr]) (rest := []) [1, 2] 1 (ws' := [(hP, .inr (1, [.int ln, .int hb, .int ha, .int pu, .int hl, .int sm, .int hr, .ref hS, .ref hC, .ref hN, .ref hM, .ref hU])), (hU, .inr (2, [.ref aU, .int mU, .int (g_X3_put_0_2 mU (g_X3_dropFirst_0_2 nU))])), (aU, .inl ((vv_k x).2.1.1, 32, .inl (g_X3_put_1 mU (g_X3_dropFirst_0_2 nU) (g_X3_dropFirst_1 nU fU c) pu hl sm hr)))]) F (c_X3_put (vv_l x) (vv_k x) hU aU mU (g_X3_dropFirst_0_2 nU) (g_X3_dropFirst_1 nU fU c) pu hl sm hr (by first | omega | (have hz := nn_sub hc (by decide : (1 : Int32).toInt = ((1 : Nat) : Int)) (by omega); first | omega | (unfold g_X3_dropFirst_0_2; split <;> omega))) (by omega)) mv_X2_112 dX2_remember_37 (by decide) rfl rfl (Nat.le_of_ble_eq_true rfl) rfl (by decide) (Eq.trans (b := [hU, aU]) rfl rfl) rfl rfl ?_
    exact vv_vret F hR dX2_remember_40 rfl (by simp only [g_X2_remember_1_2, g_X2_remember_2, if_pos h_1])
noncomputable def st_X0_fits (nC : Int32) (fC : Nat → Int32) (lz : Int32) (u : Nat) (s : Bool) : Bool := (s && decide ((f_X1_brought (f_X3_cell nC fC (nI u) 0) lz) = (f_X3_cell nC fC (nI u) 1)))
theorem L_X0_fits {x : vv_X} (F : vv_F x cX0_fits 4 RX0 2) (hG aG : Nat) (av : Int32) (hP hS hC hN hM hU : Nat) (ln hb ha pu hl sm hr : Int32) (aC : Nat) (mC nC : Int32) (fC : Nat → Int32) (lz : Int32) (c : Nat) (hc : (nC).toInt = (c : Int)) (hc6 : c ≤ 6) {r : Option Value} {wc' : va_W} (hR : vv_R x (some .boolean) r wc') : ∀ (n : Nat) (u : Nat), u + n = c → wc' = [(hG, .inr (0, [.ref aG, .int av])), (hP, .inr (1, [.int ln, .int hb, .int ha, .int pu, .int hl, .int sm, .int hr, .ref hS, .ref hC, .ref hN, .ref hM, .ref hU])), (hC, .inr (2, [.ref aC, .int mC, .int nC])), (aC, .inl ((vv_k x).2.1.1, 32, .inl fC))] → r = some (.int (vv_b ((itr (st_X0_fits nC fC lz) n u true) = true))) → vv_V x 4 2 [(3, .int (nI u)), (0, .ref hG), (1, .ref hP), (2, .int lz)] [] [(hG, .inr (0, [.ref aG, .int av])), (hP, .inr (1, [.int ln, .int hb, .int ha, .int pu, .int hl, .int sm, .int hr, .ref hS, .ref hC, .ref hN, .ref hM, .ref hU])), (hC, .inr (2, [.ref aC, .int mC, .int nC])), (aC, .inl ((vv_k x).2.1.1, 32, .inl fC))] := by
  intro n
  induction n with
  | zero =>
    intro u hu hwc hres
    refine vv_iload_n F dX0_fits_2 rfl rfl ?_
    refine vv_aload_n F dX0_fits_3 rfl rfl ?_
    refine vv_get 1 F fl_X0_70 dX0_fits_4 rfl rfl ?_
    refine vv_get 2 F fl_X0_74 dX0_fits_7 rfl rfl ?_
    refine vv_icmp_ge (tgt := 46) F dX0_fits_10 (by decide) (fun h_1 => ?_) (fun h_1 => absurd ((c_le hc (nI_toInt (n := u) (by omega))).mpr (by omega)) h_1)
    refine vv_iconst (v := 1) F dX0_fits_46 (by decide) ?_
    exact vv_zret F hR dX0_fits_47 rfl (by rw [hres, itr_0]; rfl) hwc
  | succ n ih =>
    intro u hu hwc hres
    refine vv_iload_n F dX0_fits_2 rfl rfl ?_
    refine vv_aload_n F dX0_fits_3 rfl rfl ?_
    refine vv_get 1 F fl_X0_70 dX0_fits_4 rfl rfl ?_
    refine vv_get 2 F fl_X0_74 dX0_fits_7 rfl rfl ?_
    refine vv_icmp_ge (tgt := 46) F dX0_fits_10 (by decide) (fun h_1 => absurd ((c_le hc (nI_toInt (n := u) (by omega))).mp h_1) (by omega)) (fun h_1 => ?_)
    refine vv_aload_n F dX0_fits_13 rfl rfl ?_
    refine vv_get 1 F fl_X0_70 dX0_fits_14 rfl rfl ?_
    refine vv_iload_n F dX0_fits_17 rfl rfl ?_
    refine vv_iconst (v := 0) F dX0_fits_18 (by decide) ?_
    refine vv_callVp (As := [.int (nI u), .int 0]) (rest := []) [2, 3] 2 F (c_X3_cell (vv_l x) (vv_k x) hC aC mC nC fC (nI u) 0 (by omega)) mv_X0_79 dX0_fits_19 (by decide) rfl rfl (Nat.le_of_ble_eq_true rfl) rfl (by decide) rfl ?_
    refine vv_iload_n F dX0_fits_22 rfl rfl ?_
    refine vv_callSp (As := [.int (f_X3_cell nC fC (nI u) 0), .int lz]) (rest := []) [] F (c_X1_brought (vv_l x) (vv_k x) (f_X3_cell nC fC (nI u) 0) lz) ms_X0_82 dX0_fits_23 (by decide) rfl rfl (Nat.le_of_ble_eq_true rfl) rfl (by decide) ?_
    refine vv_aload_n F dX0_fits_26 rfl rfl ?_
    refine vv_get 1 F fl_X0_70 dX0_fits_27 rfl rfl ?_
    refine vv_iload_n F dX0_fits_30 rfl rfl ?_
    refine vv_iconst (v := 1) F dX0_fits_31 (by decide) ?_
    refine vv_callVp (As := [.int (nI u), .int 1]) (rest := [.int (f_X1_brought (f_X3_cell nC fC (nI u) 0) lz)]) [2, 3] 2 F (c_X3_cell (vv_l x) (vv_k x) hC aC mC nC fC (nI u) 1 (by omega)) mv_X0_79 dX0_fits_32 (by decide) rfl rfl (Nat.le_of_ble_eq_true rfl) rfl (by decide) rfl ?_
    refine vv_icmp_eq (tgt := 40) F dX0_fits_35 (by decide) (fun h_2 => ?_) (fun h_2 => ?_)
    · refine vv_iinc (v := (nI (u + 1))) (lv' := [(3, .int (nI (u + 1))), (0, .ref hG), (1, .ref hP), (2, .int lz)]) 0 F dX0_fits_40 rfl (nI_1 u) (by decide) rfl ?_
      refine vv_goto (tgt := 2) F dX0_fits_43 (by decide) ?_
      refine vv_lv [0, 1, 2, 3] rfl ?_
      exact ih (u + 1) (by omega) hwc (by rw [hres, itr_s, show (st_X0_fits nC fC lz) u true = true from (by simp [st_X0_fits, h_2])])
    · refine vv_iconst (v := 0) F dX0_fits_38 (by decide) ?_
      exact vv_zret F hR dX0_fits_39 rfl (by rw [hres, itr_s, show (st_X0_fits nC fC lz) u true = false from (by simp [st_X0_fits, h_2]), itr_abs (fun _ => rfl)]; rfl) hwc
theorem c_X0_fits (l : Launch) (K : vv_K) (hG aG : Nat) (av : Int32) (hP hS hC hN hM hU : Nat) (ln hb ha pu hl sm hr : Int32) (aC : Nat) (mC nC : Int32) (fC : Nat → Int32) (lz : Int32) (c : Nat) (hc : (nC).toInt = (c : Int)) (hc6 : c ≤ 6)  : vv_C l K 2 yX0_fits cX0_fits 4 (some .boolean) [.ref hG, .ref hP, .int lz] [(hG, .inr (0, [.ref aG, .int av])), (hP, .inr (1, [.int ln, .int hb, .int ha, .int pu, .int hl, .int sm, .int hr, .ref hS, .ref hC, .ref hN, .ref hM, .ref hU])), (hC, .inr (2, [.ref aC, .int mC, .int nC])), (aC, .inl (K.2.1.1, 32, .inl fC))] (some (.int (vv_b ((itr (st_X0_fits nC fC lz) c 0 true) = true)))) [(hG, .inr (0, [.ref aG, .int av])), (hP, .inr (1, [.int ln, .int hb, .int ha, .int pu, .int hl, .int sm, .int hr, .ref hS, .ref hC, .ref hN, .ref hM, .ref hU])), (hC, .inr (2, [.ref aC, .int mC, .int nC])), (aC, .inl (K.2.1.1, 32, .inl fC))] := by
  refine vv_C.of (lv := [(0, .ref hG), (1, .ref hP), (2, .int lz)]) (by decide +kernel) (Nat.le_of_ble_eq_true rfl) rfl ?_
  intro x hl hK F hR; subst hl; obtain rfl := hK
  refine vv_iconst (v := 0) F dX0_fits_0 (by decide) ?_
  refine vv_istore_n (lv' := [(3, .int 0), (0, .ref hG), (1, .ref hP), (2, .int lz)]) F dX0_fits_1 rfl (by decide) rfl ?_
  refine vv_lv (lv' := [(3, .int 0), (0, .ref hG), (1, .ref hP), (2, .int lz)]) [0, 1, 2, 3] rfl ?_
  exact L_X0_fits F hG aG av hP hS hC hN hM hU ln hb ha pu hl sm hr aC mC nC fC lz c hc (by omega) hR c 0 (by omega) rfl rfl
noncomputable def st_X0_notesFit (nN : Int32) (fN : Nat → Int32) (i kd : Int32) (u : Nat) (s : Bool) : Bool := (s && (decide (¬ (f_X3_cell nN fN (nI u) 0) = i) || decide ((f_X1_shown kd (f_X3_cell nN fN (nI u) 1) (f_X3_cell nN fN (nI u) 2)) = (f_X3_cell nN fN (nI u) 3))))
theorem L_X0_notesFit {x : vv_X} (F : vv_F x cX0_notesFit 5 RX0 3) (hG aG : Nat) (av : Int32) (hP hS hC hN hM hU : Nat) (ln hb ha pu hl sm hr : Int32) (aN : Nat) (mN nN : Int32) (fN : Nat → Int32) (i kd : Int32) (c : Nat) (hc : (nN).toInt = (c : Int)) (hc6 : c ≤ 6) {r : Option Value} {wc' : va_W} (hR : vv_R x (some .boolean) r wc') : ∀ (n : Nat) (u : Nat), u + n = c → wc' = [(hG, .inr (0, [.ref aG, .int av])), (hP, .inr (1, [.int ln, .int hb, .int ha, .int pu, .int hl, .int sm, .int hr, .ref hS, .ref hC, .ref hN, .ref hM, .ref hU])), (hN, .inr (2, [.ref aN, .int mN, .int nN])), (aN, .inl ((vv_k x).2.1.1, 32, .inl fN))] → r = some (.int (vv_b ((itr (st_X0_notesFit nN fN i kd) n u true) = true))) → vv_V x 5 3 [(4, .int (nI u)), (0, .ref hG), (1, .ref hP), (2, .int i), (3, .int kd)] [] [(hG, .inr (0, [.ref aG, .int av])), (hP, .inr (1, [.int ln, .int hb, .int ha, .int pu, .int hl, .int sm, .int hr, .ref hS, .ref hC, .ref hN, .ref hM, .ref hU])), (hN, .inr (2, [.ref aN, .int mN, .int nN])), (aN, .inl ((vv_k x).2.1.1, 32, .inl fN))] := by
  intro n
  induction n with
  | zero =>
    intro u hu hwc hres
    refine vv_iload F dX0_notesFit_3 rfl ?_
    refine vv_aload_n F dX0_notesFit_5 rfl rfl ?_
    refine vv_get 1 F fl_X0_85 dX0_notesFit_6 rfl rfl ?_
    refine vv_get 2 F fl_X0_74 dX0_notesFit_9 rfl rfl ?_
    refine vv_icmp_ge (tgt := 74) F dX0_notesFit_12 (by decide) (fun h_1 => ?_) (fun h_1 => absurd ((c_le hc (nI_toInt (n := u) (by omega))).mpr (by omega)) h_1)
    refine vv_iconst (v := 1) F dX0_notesFit_74 (by decide) ?_
    exact vv_zret F hR dX0_notesFit_75 rfl (by rw [hres, itr_0]; rfl) hwc
  | succ n ih =>
    intro u hu hwc hres
    refine vv_iload F dX0_notesFit_3 rfl ?_
    refine vv_aload_n F dX0_notesFit_5 rfl rfl ?_
    refine vv_get 1 F fl_X0_85 dX0_notesFit_6 rfl rfl ?_
    refine vv_get 2 F fl_X0_74 dX0_notesFit_9 rfl rfl ?_
    refine vv_icmp_ge (tgt := 74) F dX0_notesFit_12 (by decide) (fun h_1 => absurd ((c_le hc (nI_toInt (n := u) (by omega))).mp h_1) (by omega)) (fun h_1 => ?_)
    refine vv_aload_n F dX0_notesFit_15 rfl rfl ?_
    refine vv_get 1 F fl_X0_85 dX0_notesFit_16 rfl rfl ?_
    refine vv_iload F dX0_notesFit_19 rfl ?_
    refine vv_iconst (v := 0) F dX0_notesFit_21 (by decide) ?_
    refine vv_callVp (As := [.int (nI u), .int 0]) (rest := []) [2, 3] 2 F (c_X3_cell (vv_l x) (vv_k x) hN aN mN nN fN (nI u) 0 (by omega)) mv_X0_79 dX0_notesFit_22 (by decide) rfl rfl (Nat.le_of_ble_eq_true rfl) rfl (by decide) rfl ?_
    refine vv_iload_n F dX0_notesFit_25 rfl rfl ?_
    refine vv_icmp_ne (tgt := 68) F dX0_notesFit_26 (by decide) (fun h_2 => ?_) (fun h_2 => ?_)
    · refine vv_iinc (v := (nI (u + 1))) (lv' := [(4, .int (nI (u + 1))), (0, .ref hG), (1, .ref hP), (2, .int i), (3, .int kd)]) 0 F dX0_notesFit_68 rfl (nI_1 u) (by decide) rfl ?_
      refine vv_goto (tgt := 3) F dX0_notesFit_71 (by decide) ?_
      refine vv_lv [0, 1, 2, 3, 4] rfl ?_
      exact ih (u + 1) (by omega) hwc (by rw [hres, itr_s, show (st_X0_notesFit nN fN i kd) u true = true from (by simp [st_X0_notesFit, h_2])])
    · refine vv_iload_n F dX0_notesFit_29 rfl rfl ?_
      refine vv_aload_n F dX0_notesFit_30 rfl rfl ?_
      refine vv_get 1 F fl_X0_85 dX0_notesFit_31 rfl rfl ?_
      refine vv_iload F dX0_notesFit_34 rfl ?_
      refine vv_iconst (v := 1) F dX0_notesFit_36 (by decide) ?_
      refine vv_callVp (As := [.int (nI u), .int 1]) (rest := [.int kd]) [2, 3] 2 F (c_X3_cell (vv_l x) (vv_k x) hN aN mN nN fN (nI u) 1 (by omega)) mv_X0_79 dX0_notesFit_37 (by decide) rfl rfl (Nat.le_of_ble_eq_true rfl) rfl (by decide) rfl ?_
      refine vv_aload_n F dX0_notesFit_40 rfl rfl ?_
      refine vv_get 1 F fl_X0_85 dX0_notesFit_41 rfl rfl ?_
      refine vv_iload F dX0_notesFit_44 rfl ?_
      refine vv_iconst (v := 2) F dX0_notesFit_46 (by decide) ?_
      refine vv_callVp (As := [.int (nI u), .int 2]) (rest := [.int (f_X3_cell nN fN (nI u) 1), .int kd]) [2, 3] 2 F (c_X3_cell (vv_l x) (vv_k x) hN aN mN nN fN (nI u) 2 (by omega)) mv_X0_79 dX0_notesFit_47 (by decide) rfl rfl (Nat.le_of_ble_eq_true rfl) rfl (by decide) rfl ?_
      refine vv_callSp (As := [.int kd, .int (f_X3_cell nN fN (nI u) 1), .int (f_X3_cell nN fN (nI u) 2)]) (rest := []) [] F (c_X1_shown (vv_l x) (vv_k x) kd (f_X3_cell nN fN (nI u) 1) (f_X3_cell nN fN (nI u) 2)) ms_X0_49 dX0_notesFit_50 (by decide) rfl rfl (Nat.le_of_ble_eq_true rfl) rfl (by decide) ?_
      refine vv_aload_n F dX0_notesFit_53 rfl rfl ?_
      refine vv_get 1 F fl_X0_85 dX0_notesFit_54 rfl rfl ?_
      refine vv_iload F dX0_notesFit_57 rfl ?_
      refine vv_iconst (v := 3) F dX0_notesFit_59 (by decide) ?_
      refine vv_callVp (As := [.int (nI u), .int 3]) (rest := [.int (f_X1_shown kd (f_X3_cell nN fN (nI u) 1) (f_X3_cell nN fN (nI u) 2))]) [2, 3] 2 F (c_X3_cell (vv_l x) (vv_k x) hN aN mN nN fN (nI u) 3 (by omega)) mv_X0_79 dX0_notesFit_60 (by decide) rfl rfl (Nat.le_of_ble_eq_true rfl) rfl (by decide) rfl ?_
      refine vv_icmp_eq (tgt := 68) F dX0_notesFit_63 (by decide) (fun h_3 => ?_) (fun h_3 => ?_)
      · refine vv_iinc (v := (nI (u + 1))) (lv' := [(4, .int (nI (u + 1))), (0, .ref hG), (1, .ref hP), (2, .int i), (3, .int kd)]) 0 F dX0_notesFit_68 rfl (nI_1 u) (by decide) rfl ?_
        refine vv_goto (tgt := 3) F dX0_notesFit_71 (by decide) ?_
        refine vv_lv [0, 1, 2, 3, 4] rfl ?_
        exact ih (u + 1) (by omega) hwc (by rw [hres, itr_s, show (st_X0_notesFit nN fN i kd) u true = true from (by simp [st_X0_notesFit, h_2, h_3])])
      · refine vv_iconst (v := 0) F dX0_notesFit_66 (by decide) ?_
        exact vv_zret F hR dX0_notesFit_67 rfl (by rw [hres, itr_s, show (st_X0_notesFit nN fN i kd) u true = false from (by simp [st_X0_notesFit, h_2, h_3]), itr_abs (fun _ => rfl)]; rfl) hwc
theorem c_X0_notesFit (l : Launch) (K : vv_K) (hG aG : Nat) (av : Int32) (hP hS hC hN hM hU : Nat) (ln hb ha pu hl sm hr : Int32) (aN : Nat) (mN nN : Int32) (fN : Nat → Int32) (i kd : Int32) (c : Nat) (hc : (nN).toInt = (c : Int)) (hc6 : c ≤ 6)  : vv_C l K 3 yX0_notesFit cX0_notesFit 5 (some .boolean) [.ref hG, .ref hP, .int i, .int kd] [(hG, .inr (0, [.ref aG, .int av])), (hP, .inr (1, [.int ln, .int hb, .int ha, .int pu, .int hl, .int sm, .int hr, .ref hS, .ref hC, .ref hN, .ref hM, .ref hU])), (hN, .inr (2, [.ref aN, .int mN, .int nN])), (aN, .inl (K.2.1.1, 32, .inl fN))] (some (.int (vv_b ((itr (st_X0_notesFit nN fN i kd) c 0 true) = true)))) [(hG, .inr (0, [.ref aG, .int av])), (hP, .inr (1, [.int ln, .int hb, .int ha, .int pu, .int hl, .int sm, .int hr, .ref hS, .ref hC, .ref hN, .ref hM, .ref hU])), (hN, .inr (2, [.ref aN, .int mN, .int nN])), (aN, .inl (K.2.1.1, 32, .inl fN))] := by
  refine vv_C.of (lv := [(0, .ref hG), (1, .ref hP), (2, .int i), (3, .int kd)]) (by decide +kernel) (Nat.le_of_ble_eq_true rfl) rfl ?_
  intro x hl hK F hR; subst hl; obtain rfl := hK
  refine vv_iconst (v := 0) F dX0_notesFit_0 (by decide) ?_
  refine vv_istore (lv' := [(4, .int 0), (0, .ref hG), (1, .ref hP), (2, .int i), (3, .int kd)]) F dX0_notesFit_1 (by decide) rfl ?_
  refine vv_lv (lv' := [(4, .int 0), (0, .ref hG), (1, .ref hP), (2, .int i), (3, .int kd)]) [0, 1, 2, 3, 4] rfl ?_
  exact L_X0_notesFit F hG aG av hP hS hC hN hM hU ln hb ha pu hl sm hr aN mN nN fN i kd c hc (by omega) hR c 0 (by omega) rfl rfl
noncomputable def st_X0_marksFit (nM : Int32) (fM : Nat → Int32) (i kd : Int32) (u : Nat) (s : Bool) : Bool := (s && (decide (¬ (f_X3_cell nM fM (nI u) 0) = i) || decide ((f_X1_charged kd (f_X3_cell nM fM (nI u) 1) (f_X3_cell nM fM (nI u) 2)) = (f_X3_cell nM fM (nI u) 3))))
theorem L_X0_marksFit {x : vv_X} (F : vv_F x cX0_marksFit 5 RX0 3) (hG aG : Nat) (av : Int32) (hP hS hC hN hM hU : Nat) (ln hb ha pu hl sm hr : Int32) (aM : Nat) (mM nM : Int32) (fM : Nat → Int32) (i kd : Int32) (c : Nat) (hc : (nM).toInt = (c : Int)) (hc6 : c ≤ 6) {r : Option Value} {wc' : va_W} (hR : vv_R x (some .boolean) r wc') : ∀ (n : Nat) (u : Nat), u + n = c → wc' = [(hG, .inr (0, [.ref aG, .int av])), (hP, .inr (1, [.int ln, .int hb, .int ha, .int pu, .int hl, .int sm, .int hr, .ref hS, .ref hC, .ref hN, .ref hM, .ref hU])), (hM, .inr (2, [.ref aM, .int mM, .int nM])), (aM, .inl ((vv_k x).2.1.1, 32, .inl fM))] → r = some (.int (vv_b ((itr (st_X0_marksFit nM fM i kd) n u true) = true))) → vv_V x 5 3 [(4, .int (nI u)), (0, .ref hG), (1, .ref hP), (2, .int i), (3, .int kd)] [] [(hG, .inr (0, [.ref aG, .int av])), (hP, .inr (1, [.int ln, .int hb, .int ha, .int pu, .int hl, .int sm, .int hr, .ref hS, .ref hC, .ref hN, .ref hM, .ref hU])), (hM, .inr (2, [.ref aM, .int mM, .int nM])), (aM, .inl ((vv_k x).2.1.1, 32, .inl fM))] := by
  intro n
  induction n with
  | zero =>
    intro u hu hwc hres
    refine vv_iload F dX0_marksFit_3 rfl ?_
    refine vv_aload_n F dX0_marksFit_5 rfl rfl ?_
    refine vv_get 1 F fl_X0_88 dX0_marksFit_6 rfl rfl ?_
    refine vv_get 2 F fl_X0_74 dX0_marksFit_9 rfl rfl ?_
    refine vv_icmp_ge (tgt := 74) F dX0_marksFit_12 (by decide) (fun h_1 => ?_) (fun h_1 => absurd ((c_le hc (nI_toInt (n := u) (by omega))).mpr (by omega)) h_1)
    refine vv_iconst (v := 1) F dX0_marksFit_74 (by decide) ?_
    exact vv_zret F hR dX0_marksFit_75 rfl (by rw [hres, itr_0]; rfl) hwc
  | succ n ih =>
    intro u hu hwc hres
    refine vv_iload F dX0_marksFit_3 rfl ?_
    refine vv_aload_n F dX0_marksFit_5 rfl rfl ?_
    refine vv_get 1 F fl_X0_88 dX0_marksFit_6 rfl rfl ?_
    refine vv_get 2 F fl_X0_74 dX0_marksFit_9 rfl rfl ?_
    refine vv_icmp_ge (tgt := 74) F dX0_marksFit_12 (by decide) (fun h_1 => absurd ((c_le hc (nI_toInt (n := u) (by omega))).mp h_1) (by omega)) (fun h_1 => ?_)
    refine vv_aload_n F dX0_marksFit_15 rfl rfl ?_
    refine vv_get 1 F fl_X0_88 dX0_marksFit_16 rfl rfl ?_
    refine vv_iload F dX0_marksFit_19 rfl ?_
    refine vv_iconst (v := 0) F dX0_marksFit_21 (by decide) ?_
    refine vv_callVp (As := [.int (nI u), .int 0]) (rest := []) [2, 3] 2 F (c_X3_cell (vv_l x) (vv_k x) hM aM mM nM fM (nI u) 0 (by omega)) mv_X0_79 dX0_marksFit_22 (by decide) rfl rfl (Nat.le_of_ble_eq_true rfl) rfl (by decide) rfl ?_
    refine vv_iload_n F dX0_marksFit_25 rfl rfl ?_
    refine vv_icmp_ne (tgt := 68) F dX0_marksFit_26 (by decide) (fun h_2 => ?_) (fun h_2 => ?_)
    · refine vv_iinc (v := (nI (u + 1))) (lv' := [(4, .int (nI (u + 1))), (0, .ref hG), (1, .ref hP), (2, .int i), (3, .int kd)]) 0 F dX0_marksFit_68 rfl (nI_1 u) (by decide) rfl ?_
      refine vv_goto (tgt := 3) F dX0_marksFit_71 (by decide) ?_
      refine vv_lv [0, 1, 2, 3, 4] rfl ?_
      exact ih (u + 1) (by omega) hwc (by rw [hres, itr_s, show (st_X0_marksFit nM fM i kd) u true = true from (by simp [st_X0_marksFit, h_2])])
    · refine vv_iload_n F dX0_marksFit_29 rfl rfl ?_
      refine vv_aload_n F dX0_marksFit_30 rfl rfl ?_
      refine vv_get 1 F fl_X0_88 dX0_marksFit_31 rfl rfl ?_
      refine vv_iload F dX0_marksFit_34 rfl ?_
      refine vv_iconst (v := 1) F dX0_marksFit_36 (by decide) ?_
      refine vv_callVp (As := [.int (nI u), .int 1]) (rest := [.int kd]) [2, 3] 2 F (c_X3_cell (vv_l x) (vv_k x) hM aM mM nM fM (nI u) 1 (by omega)) mv_X0_79 dX0_marksFit_37 (by decide) rfl rfl (Nat.le_of_ble_eq_true rfl) rfl (by decide) rfl ?_
      refine vv_aload_n F dX0_marksFit_40 rfl rfl ?_
      refine vv_get 1 F fl_X0_88 dX0_marksFit_41 rfl rfl ?_
      refine vv_iload F dX0_marksFit_44 rfl ?_
      refine vv_iconst (v := 2) F dX0_marksFit_46 (by decide) ?_
      refine vv_callVp (As := [.int (nI u), .int 2]) (rest := [.int (f_X3_cell nM fM (nI u) 1), .int kd]) [2, 3] 2 F (c_X3_cell (vv_l x) (vv_k x) hM aM mM nM fM (nI u) 2 (by omega)) mv_X0_79 dX0_marksFit_47 (by decide) rfl rfl (Nat.le_of_ble_eq_true rfl) rfl (by decide) rfl ?_
      refine vv_callSp (As := [.int kd, .int (f_X3_cell nM fM (nI u) 1), .int (f_X3_cell nM fM (nI u) 2)]) (rest := []) [] F (c_X1_charged (vv_l x) (vv_k x) kd (f_X3_cell nM fM (nI u) 1) (f_X3_cell nM fM (nI u) 2)) ms_X0_67 dX0_marksFit_50 (by decide) rfl rfl (Nat.le_of_ble_eq_true rfl) rfl (by decide) ?_
      refine vv_aload_n F dX0_marksFit_53 rfl rfl ?_
      refine vv_get 1 F fl_X0_88 dX0_marksFit_54 rfl rfl ?_
      refine vv_iload F dX0_marksFit_57 rfl ?_
      refine vv_iconst (v := 3) F dX0_marksFit_59 (by decide) ?_
      refine vv_callVp (As := [.int (nI u), .int 3]) (rest := [.int (f_X1_charged kd (f_X3_cell nM fM (nI u) 1) (f_X3_cell nM fM (nI u) 2))]) [2, 3] 2 F (c_X3_cell (vv_l x) (vv_k x) hM aM mM nM fM (nI u) 3 (by omega)) mv_X0_79 dX0_marksFit_60 (by decide) rfl rfl (Nat.le_of_ble_eq_true rfl) rfl (by decide) rfl ?_
      refine vv_icmp_eq (tgt := 68) F dX0_marksFit_63 (by decide) (fun h_3 => ?_) (fun h_3 => ?_)
      · refine vv_iinc (v := (nI (u + 1))) (lv' := [(4, .int (nI (u + 1))), (0, .ref hG), (1, .ref hP), (2, .int i), (3, .int kd)]) 0 F dX0_marksFit_68 rfl (nI_1 u) (by decide) rfl ?_
        refine vv_goto (tgt := 3) F dX0_marksFit_71 (by decide) ?_
        refine vv_lv [0, 1, 2, 3, 4] rfl ?_
        exact ih (u + 1) (by omega) hwc (by rw [hres, itr_s, show (st_X0_marksFit nM fM i kd) u true = true from (by simp [st_X0_marksFit, h_2, h_3])])
      · refine vv_iconst (v := 0) F dX0_marksFit_66 (by decide) ?_
        exact vv_zret F hR dX0_marksFit_67 rfl (by rw [hres, itr_s, show (st_X0_marksFit nM fM i kd) u true = false from (by simp [st_X0_marksFit, h_2, h_3]), itr_abs (fun _ => rfl)]; rfl) hwc
theorem c_X0_marksFit (l : Launch) (K : vv_K) (hG aG : Nat) (av : Int32) (hP hS hC hN hM hU : Nat) (ln hb ha pu hl sm hr : Int32) (aM : Nat) (mM nM : Int32) (fM : Nat → Int32) (i kd : Int32) (c : Nat) (hc : (nM).toInt = (c : Int)) (hc6 : c ≤ 6)  : vv_C l K 3 yX0_marksFit cX0_marksFit 5 (some .boolean) [.ref hG, .ref hP, .int i, .int kd] [(hG, .inr (0, [.ref aG, .int av])), (hP, .inr (1, [.int ln, .int hb, .int ha, .int pu, .int hl, .int sm, .int hr, .ref hS, .ref hC, .ref hN, .ref hM, .ref hU])), (hM, .inr (2, [.ref aM, .int mM, .int nM])), (aM, .inl (K.2.1.1, 32, .inl fM))] (some (.int (vv_b ((itr (st_X0_marksFit nM fM i kd) c 0 true) = true)))) [(hG, .inr (0, [.ref aG, .int av])), (hP, .inr (1, [.int ln, .int hb, .int ha, .int pu, .int hl, .int sm, .int hr, .ref hS, .ref hC, .ref hN, .ref hM, .ref hU])), (hM, .inr (2, [.ref aM, .int mM, .int nM])), (aM, .inl (K.2.1.1, 32, .inl fM))] := by
  refine vv_C.of (lv := [(0, .ref hG), (1, .ref hP), (2, .int i), (3, .int kd)]) (by decide +kernel) (Nat.le_of_ble_eq_true rfl) rfl ?_
  intro x hl hK F hR; subst hl; obtain rfl := hK
  refine vv_iconst (v := 0) F dX0_marksFit_0 (by decide) ?_
  refine vv_istore (lv' := [(4, .int 0), (0, .ref hG), (1, .ref hP), (2, .int i), (3, .int kd)]) F dX0_marksFit_1 (by decide) rfl ?_
  refine vv_lv (lv' := [(4, .int 0), (0, .ref hG), (1, .ref hP), (2, .int i), (3, .int kd)]) [0, 1, 2, 3, 4] rfl ?_
  exact L_X0_marksFit F hG aG av hP hS hC hN hM hU ln hb ha pu hl sm hr aM mM nM fM i kd c hc (by omega) hR c 0 (by omega) rfl rfl
noncomputable def st_X0_linesThatFit (nC : Int32) (fC : Nat → Int32) (c : Nat) (u : Nat) (s : Int32) : Int32 := (if (itr (st_X0_fits nC fC (nI u)) c 0 true) = true then (s + 1) else s)
theorem L_X0_linesThatFit {x : vv_X} (F : vv_F x cX0_linesThatFit 4 RX0 3) (hG aG : Nat) (av : Int32) (hP hS hC hN hM hU : Nat) (ln hb ha pu hl sm hr : Int32) (aC : Nat) (mC nC : Int32) (fC : Nat → Int32) (c : Nat) (hc : (nC).toInt = (c : Int)) (hc6 : c ≤ 6) : ∀ (n : Nat) (u : Nat) (k : Int32), u + n = 61 → vv_V x 4 28 [(3, .int (nI 61)), (2, .int (itr (st_X0_linesThatFit nC fC c) n u k)), (0, .ref hG), (1, .ref hP)] [] [(hG, .inr (0, [.ref aG, .int av])), (hP, .inr (1, [.int ln, .int hb, .int ha, .int pu, .int hl, .int sm, .int hr, .ref hS, .ref hC, .ref hN, .ref hM, .ref hU])), (hC, .inr (2, [.ref aC, .int mC, .int nC])), (aC, .inl ((vv_k x).2.1.1, 32, .inl fC))] → vv_V x 4 4 [(3, .int (nI u)), (2, .int k), (0, .ref hG), (1, .ref hP)] [] [(hG, .inr (0, [.ref aG, .int av])), (hP, .inr (1, [.int ln, .int hb, .int ha, .int pu, .int hl, .int sm, .int hr, .ref hS, .ref hC, .ref hN, .ref hM, .ref hU])), (hC, .inr (2, [.ref aC, .int mC, .int nC])), (aC, .inl ((vv_k x).2.1.1, 32, .inl fC))] := by
  intro n
  induction n with
  | zero =>
    intro u k hu  kx
    refine vv_iload_n F dX0_linesThatFit_4 rfl rfl ?_
    refine vv_bipush (v := 60) F dX0_linesThatFit_5 (by decide) ?_
    refine vv_icmp_gt (tgt := 28) F dX0_linesThatFit_7 (by decide) (fun h_1 => ?_) (fun h_1 => absurd ((c_lt (by decide : (60 : Int32).toInt = ((60 : Nat) : Int)) (nI_toInt (n := u) (by omega))).mpr (by omega)) h_1)
    obtain rfl : u = 61 := by omega
    rw [itr_0] at kx
    exact vv_lv [0, 1, 2, 3] rfl kx
  | succ n ih =>
    intro u k hu  kx
    refine vv_iload_n F dX0_linesThatFit_4 rfl rfl ?_
    refine vv_bipush (v := 60) F dX0_linesThatFit_5 (by decide) ?_
    refine vv_icmp_gt (tgt := 28) F dX0_linesThatFit_7 (by decide) (fun h_1 => absurd ((c_lt (by decide : (60 : Int32).toInt = ((60 : Nat) : Int)) (nI_toInt (n := u) (by omega))).mp h_1) (by omega)) (fun h_1 => ?_)
    refine vv_aload_n F dX0_linesThatFit_10 rfl rfl ?_
    refine vv_aload_n F dX0_linesThatFit_11 rfl rfl ?_
    refine vv_iload_n F dX0_linesThatFit_12 rfl rfl ?_
    refine vv_callVp (As := [.ref hP, .int (nI u)]) (rest := []) [0, 1, 2, 3] 0 F (c_X0_fits (vv_l x) (vv_k x) hG aG av hP hS hC hN hM hU ln hb ha pu hl sm hr aC mC nC fC (nI u) c hc (by omega)) mv_X0_17 dX0_linesThatFit_13 (by decide) rfl rfl (Nat.le_of_ble_eq_true rfl) rfl (by decide) rfl ?_
    refine vv_ifz_eq (tgt := 22) F dX0_linesThatFit_16 (by decide) (fun h_2 => ?_) (fun h_2 => ?_)
    · refine vv_iinc (v := (nI (u + 1))) (lv' := [(3, .int (nI (u + 1))), (2, .int k), (0, .ref hG), (1, .ref hP)]) 0 F dX0_linesThatFit_22 rfl (nI_1 u) (by decide) rfl ?_
      refine vv_goto (tgt := 4) F dX0_linesThatFit_25 (by decide) ?_
      refine vv_lv (lv' := [(3, .int (nI (u + 1))), (2, .int k), (0, .ref hG), (1, .ref hP)]) [0, 1, 2, 3] rfl ?_
      refine vv_lvE (lv' := [(3, .int (nI (u + 1))), (2, .int (if (itr (st_X0_fits nC fC (nI u)) c 0 true) = true then (k + 1) else k)), (0, .ref hG), (1, .ref hP)]) (by first | (simp only [if_neg h_2]; done) | (simp [vv_b, h_2]; done)) ?_
      exact ih (u + 1) (if (itr (st_X0_fits nC fC (nI u)) c 0 true) = true then (k + 1) else k) (by omega) (by rw [itr_s] at kx; exact kx)
    · refine vv_iinc (v := (k + 1)) (lv' := [(2, .int (k + 1)), (3, .int (nI u)), (0, .ref hG), (1, .ref hP)]) 1 F dX0_linesThatFit_19 rfl rfl (by decide) rfl ?_
      refine vv_iinc (v := (nI (u + 1))) (lv' := [(3, .int (nI (u + 1))), (2, .int (k + 1)), (0, .ref hG), (1, .ref hP)]) 1 F dX0_linesThatFit_22 rfl (nI_1 u) (by decide) rfl ?_
      refine vv_goto (tgt := 4) F dX0_linesThatFit_25 (by decide) ?_
      refine vv_lv (lv' := [(3, .int (nI (u + 1))), (2, .int (k + 1)), (0, .ref hG), (1, .ref hP)]) [0, 1, 2, 3] rfl ?_
      refine vv_lvE (lv' := [(3, .int (nI (u + 1))), (2, .int (if (itr (st_X0_fits nC fC (nI u)) c 0 true) = true then (k + 1) else k)), (0, .ref hG), (1, .ref hP)]) (by first | (simp only [if_pos h_2]; done) | (simp [vv_b, h_2]; done)) ?_
      exact ih (u + 1) (if (itr (st_X0_fits nC fC (nI u)) c 0 true) = true then (k + 1) else k) (by omega) (by rw [itr_s] at kx; exact kx)
theorem c_X0_linesThatFit (l : Launch) (K : vv_K) (hG aG : Nat) (av : Int32) (hP hS hC hN hM hU : Nat) (ln hb ha pu hl sm hr : Int32) (aC : Nat) (mC nC : Int32) (fC : Nat → Int32) (c : Nat) (hc : (nC).toInt = (c : Int)) (hc6 : c ≤ 6)  : vv_C l K 3 yX0_linesThatFit cX0_linesThatFit 4 (some .int) [.ref hG, .ref hP] [(hG, .inr (0, [.ref aG, .int av])), (hP, .inr (1, [.int ln, .int hb, .int ha, .int pu, .int hl, .int sm, .int hr, .ref hS, .ref hC, .ref hN, .ref hM, .ref hU])), (hC, .inr (2, [.ref aC, .int mC, .int nC])), (aC, .inl (K.2.1.1, 32, .inl fC))] (some (.int (itr (st_X0_linesThatFit nC fC c) 60 1 0))) [(hG, .inr (0, [.ref aG, .int av])), (hP, .inr (1, [.int ln, .int hb, .int ha, .int pu, .int hl, .int sm, .int hr, .ref hS, .ref hC, .ref hN, .ref hM, .ref hU])), (hC, .inr (2, [.ref aC, .int mC, .int nC])), (aC, .inl (K.2.1.1, 32, .inl fC))] := by
  refine vv_C.of (lv := [(0, .ref hG), (1, .ref hP)]) (by decide +kernel) (Nat.le_of_ble_eq_true rfl) rfl ?_
  intro x hl hK F hR; subst hl; obtain rfl := hK
  refine vv_iconst (v := 0) F dX0_linesThatFit_0 (by decide) ?_
  refine vv_istore_n (lv' := [(2, .int 0), (0, .ref hG), (1, .ref hP)]) F dX0_linesThatFit_1 rfl (by decide) rfl ?_
  refine vv_iconst (v := 1) F dX0_linesThatFit_2 (by decide) ?_
  refine vv_istore_n (lv' := [(3, .int 1), (2, .int 0), (0, .ref hG), (1, .ref hP)]) F dX0_linesThatFit_3 rfl (by decide) rfl ?_
  refine vv_lv (lv' := [(3, .int 1), (2, .int 0), (0, .ref hG), (1, .ref hP)]) [0, 1, 2, 3] rfl ?_
  refine L_X0_linesThatFit F hG aG av hP hS hC hN hM hU ln hb ha pu hl sm hr aC mC nC fC c hc (by omega) 60 1 0 (by omega) ?_
  refine vv_iload_n F dX0_linesThatFit_28 rfl rfl ?_
  exact vv_iret F hR dX0_linesThatFit_29 rfl rfl
noncomputable def st_X0_leastLine (nC : Int32) (fC : Nat → Int32) (c : Nat) (u : Nat) (s : Option Nat) : Option Nat := (if s.isSome then s else if (itr (st_X0_fits nC fC (nI u)) c 0 true) = true then some u else s)
theorem L_X0_leastLine {x : vv_X} (F : vv_F x cX0_leastLine 3 RX0 3) (hG aG : Nat) (av : Int32) (hP hS hC hN hM hU : Nat) (ln hb ha pu hl sm hr : Int32) (aC : Nat) (mC nC : Int32) (fC : Nat → Int32) (c : Nat) (hc : (nC).toInt = (c : Int)) (hc6 : c ≤ 6) {r : Option Value} {wc' : va_W} (hR : vv_R x (some .int) r wc') : ∀ (n : Nat) (u : Nat), u + n = 61 → wc' = [(hG, .inr (0, [.ref aG, .int av])), (hP, .inr (1, [.int ln, .int hb, .int ha, .int pu, .int hl, .int sm, .int hr, .ref hS, .ref hC, .ref hN, .ref hM, .ref hU])), (hC, .inr (2, [.ref aC, .int mC, .int nC])), (aC, .inl ((vv_k x).2.1.1, 32, .inl fC))] → r = some (.int (oI (itr (st_X0_leastLine nC fC c) n u none))) → vv_V x 3 2 [(2, .int (nI u)), (0, .ref hG), (1, .ref hP)] [] [(hG, .inr (0, [.ref aG, .int av])), (hP, .inr (1, [.int ln, .int hb, .int ha, .int pu, .int hl, .int sm, .int hr, .ref hS, .ref hC, .ref hN, .ref hM, .ref hU])), (hC, .inr (2, [.ref aC, .int mC, .int nC])), (aC, .inl ((vv_k x).2.1.1, 32, .inl fC))] := by
  intro n
  induction n with
  | zero =>
    intro u hu hwc hres
    refine vv_iload_n F dX0_leastLine_2 rfl rfl ?_
    refine vv_bipush (v := 60) F dX0_leastLine_3 (by decide) ?_
    refine vv_icmp_gt (tgt := 25) F dX0_leastLine_5 (by decide) (fun h_1 => ?_) (fun h_1 => absurd ((c_lt (by decide : (60 : Int32).toInt = ((60 : Nat) : Int)) (nI_toInt (n := u) (by omega))).mpr (by omega)) h_1)
    refine vv_iconst (v := (-1)) F dX0_leastLine_25 (by decide) ?_
    exact vv_iret F hR dX0_leastLine_26 (by rw [hres, itr_0]; rfl) hwc
  | succ n ih =>
    intro u hu hwc hres
    refine vv_iload_n F dX0_leastLine_2 rfl rfl ?_
    refine vv_bipush (v := 60) F dX0_leastLine_3 (by decide) ?_
    refine vv_icmp_gt (tgt := 25) F dX0_leastLine_5 (by decide) (fun h_1 => absurd ((c_lt (by decide : (60 : Int32).toInt = ((60 : Nat) : Int)) (nI_toInt (n := u) (by omega))).mp h_1) (by omega)) (fun h_1 => ?_)
    refine vv_aload_n F dX0_leastLine_8 rfl rfl ?_
    refine vv_aload_n F dX0_leastLine_9 rfl rfl ?_
    refine vv_iload_n F dX0_leastLine_10 rfl rfl ?_
    refine vv_callVp (As := [.ref hP, .int (nI u)]) (rest := []) [0, 1, 2, 3] 0 F (c_X0_fits (vv_l x) (vv_k x) hG aG av hP hS hC hN hM hU ln hb ha pu hl sm hr aC mC nC fC (nI u) c hc (by omega)) mv_X0_17 dX0_leastLine_11 (by decide) rfl rfl (Nat.le_of_ble_eq_true rfl) rfl (by decide) rfl ?_
    refine vv_ifz_eq (tgt := 19) F dX0_leastLine_14 (by decide) (fun h_2 => ?_) (fun h_2 => ?_)
    · refine vv_iinc (v := (nI (u + 1))) (lv' := [(2, .int (nI (u + 1))), (0, .ref hG), (1, .ref hP)]) 0 F dX0_leastLine_19 rfl (nI_1 u) (by decide) rfl ?_
      refine vv_goto (tgt := 2) F dX0_leastLine_22 (by decide) ?_
      refine vv_lv [0, 1, 2] rfl ?_
      exact ih (u + 1) (by omega) hwc (by rw [hres, itr_s, show (st_X0_leastLine nC fC c) u none = none from (by simp [st_X0_leastLine, h_2])])
    · refine vv_iload_n F dX0_leastLine_17 rfl rfl ?_
      exact vv_iret F hR dX0_leastLine_18 (by rw [hres, itr_s, show (st_X0_leastLine nC fC c) u none = (some u) from (by simp [st_X0_leastLine, h_2]), itr_abs (fun _ => rfl)]; rfl) hwc
noncomputable def f_X0_leastLine (nC : Int32) (fC : Nat → Int32) (c : Nat) : Int32 := (oI (itr (st_X0_leastLine nC fC c) 60 1 none))
theorem c_X0_leastLine (l : Launch) (K : vv_K) (hG aG : Nat) (av : Int32) (hP hS hC hN hM hU : Nat) (ln hb ha pu hl sm hr : Int32) (aC : Nat) (mC nC : Int32) (fC : Nat → Int32) (c : Nat) (hc : (nC).toInt = (c : Int)) (hc6 : c ≤ 6)  : vv_C l K 3 yX0_leastLine cX0_leastLine 3 (some .int) [.ref hG, .ref hP] [(hG, .inr (0, [.ref aG, .int av])), (hP, .inr (1, [.int ln, .int hb, .int ha, .int pu, .int hl, .int sm, .int hr, .ref hS, .ref hC, .ref hN, .ref hM, .ref hU])), (hC, .inr (2, [.ref aC, .int mC, .int nC])), (aC, .inl (K.2.1.1, 32, .inl fC))] (some (.int (f_X0_leastLine nC fC c))) [(hG, .inr (0, [.ref aG, .int av])), (hP, .inr (1, [.int ln, .int hb, .int ha, .int pu, .int hl, .int sm, .int hr, .ref hS, .ref hC, .ref hN, .ref hM, .ref hU])), (hC, .inr (2, [.ref aC, .int mC, .int nC])), (aC, .inl (K.2.1.1, 32, .inl fC))] := by
  refine vv_C.of (lv := [(0, .ref hG), (1, .ref hP)]) (by decide +kernel) (Nat.le_of_ble_eq_true rfl) rfl ?_
  intro x hl hK F hR; subst hl; obtain rfl := hK
  refine vv_iconst (v := 1) F dX0_leastLine_0 (by decide) ?_
  refine vv_istore_n (lv' := [(2, .int 1), (0, .ref hG), (1, .ref hP)]) F dX0_leastLine_1 rfl (by decide) rfl ?_
  refine vv_lv (lv' := [(2, .int 1), (0, .ref hG), (1, .ref hP)]) [0, 1, 2] rfl ?_
  exact L_X0_leastLine F hG aG av hP hS hC hN hM hU ln hb ha pu hl sm hr aC mC nC fC c hc (by omega) hR 60 1 (by omega) rfl rfl
noncomputable def st_X0_greatestLine (nC : Int32) (fC : Nat → Int32) (c : Nat) (u : Nat) (s : Option Nat) : Option Nat := (if s.isSome then s else if (itr (st_X0_fits nC fC (nI (60 - u))) c 0 true) = true then some (60 - u) else s)
theorem L_X0_greatestLine {x : vv_X} (F : vv_F x cX0_greatestLine 3 RX0 3) (hG aG : Nat) (av : Int32) (hP hS hC hN hM hU : Nat) (ln hb ha pu hl sm hr : Int32) (aC : Nat) (mC nC : Int32) (fC : Nat → Int32) (c : Nat) (hc : (nC).toInt = (c : Int)) (hc6 : c ≤ 6) {r : Option Value} {wc' : va_W} (hR : vv_R x (some .int) r wc') : ∀ (n : Nat) (u : Nat), u + n = 60 → wc' = [(hG, .inr (0, [.ref aG, .int av])), (hP, .inr (1, [.int ln, .int hb, .int ha, .int pu, .int hl, .int sm, .int hr, .ref hS, .ref hC, .ref hN, .ref hM, .ref hU])), (hC, .inr (2, [.ref aC, .int mC, .int nC])), (aC, .inl ((vv_k x).2.1.1, 32, .inl fC))] → r = some (.int (oI (itr (st_X0_greatestLine nC fC c) n u none))) → vv_V x 3 3 [(2, .int (nI (60 - u))), (0, .ref hG), (1, .ref hP)] [] [(hG, .inr (0, [.ref aG, .int av])), (hP, .inr (1, [.int ln, .int hb, .int ha, .int pu, .int hl, .int sm, .int hr, .ref hS, .ref hC, .ref hN, .ref hM, .ref hU])), (hC, .inr (2, [.ref aC, .int mC, .int nC])), (aC, .inl ((vv_k x).2.1.1, 32, .inl fC))] := by
  intro n
  induction n with
  | zero =>
    intro u hu hwc hres
    refine vv_iload_n F dX0_greatestLine_3 rfl rfl ?_
    refine vv_iconst (v := 1) F dX0_greatestLine_4 (by decide) ?_
    refine vv_icmp_lt (tgt := 25) F dX0_greatestLine_5 (by decide) (fun h_1 => ?_) (fun h_1 => absurd ((c_lt (nI_toInt (n := (60 - u)) (by omega)) (by decide : (1 : Int32).toInt = ((1 : Nat) : Int))).mpr (by omega)) h_1)
    refine vv_iconst (v := (-1)) F dX0_greatestLine_25 (by decide) ?_
    exact vv_iret F hR dX0_greatestLine_26 (by rw [hres, itr_0]; rfl) hwc
  | succ n ih =>
    intro u hu hwc hres
    refine vv_iload_n F dX0_greatestLine_3 rfl rfl ?_
    refine vv_iconst (v := 1) F dX0_greatestLine_4 (by decide) ?_
    refine vv_icmp_lt (tgt := 25) F dX0_greatestLine_5 (by decide) (fun h_1 => absurd ((c_lt (nI_toInt (n := (60 - u)) (by omega)) (by decide : (1 : Int32).toInt = ((1 : Nat) : Int))).mp h_1) (by omega)) (fun h_1 => ?_)
    refine vv_aload_n F dX0_greatestLine_8 rfl rfl ?_
    refine vv_aload_n F dX0_greatestLine_9 rfl rfl ?_
    refine vv_iload_n F dX0_greatestLine_10 rfl rfl ?_
    refine vv_callVp (As := [.ref hP, .int (nI (60 - u))]) (rest := []) [0, 1, 2, 3] 0 F (c_X0_fits (vv_l x) (vv_k x) hG aG av hP hS hC hN hM hU ln hb ha pu hl sm hr aC mC nC fC (nI (60 - u)) c hc (by omega)) mv_X0_17 dX0_greatestLine_11 (by decide) rfl rfl (Nat.le_of_ble_eq_true rfl) rfl (by decide) rfl ?_
    refine vv_ifz_eq (tgt := 19) F dX0_greatestLine_14 (by decide) (fun h_2 => ?_) (fun h_2 => ?_)
    · refine vv_iinc (v := (nI (60 - (u + 1)))) (lv' := [(2, .int (nI (60 - (u + 1)))), (0, .ref hG), (1, .ref hP)]) 0 F dX0_greatestLine_19 rfl (dn_1 (by omega)) (by decide) rfl ?_
      refine vv_goto (tgt := 3) F dX0_greatestLine_22 (by decide) ?_
      refine vv_lv [0, 1, 2] rfl ?_
      exact ih (u + 1) (by omega) hwc (by rw [hres, itr_s, show (st_X0_greatestLine nC fC c) u none = none from (by simp [st_X0_greatestLine, h_2])])
    · refine vv_iload_n F dX0_greatestLine_17 rfl rfl ?_
      exact vv_iret F hR dX0_greatestLine_18 (by rw [hres, itr_s, show (st_X0_greatestLine nC fC c) u none = (some (60 - u)) from (by simp [st_X0_greatestLine, h_2]), itr_abs (fun _ => rfl)]; rfl) hwc
noncomputable def f_X0_greatestLine (nC : Int32) (fC : Nat → Int32) (c : Nat) : Int32 := (oI (itr (st_X0_greatestLine nC fC c) 60 0 none))
theorem c_X0_greatestLine (l : Launch) (K : vv_K) (hG aG : Nat) (av : Int32) (hP hS hC hN hM hU : Nat) (ln hb ha pu hl sm hr : Int32) (aC : Nat) (mC nC : Int32) (fC : Nat → Int32) (c : Nat) (hc : (nC).toInt = (c : Int)) (hc6 : c ≤ 6)  : vv_C l K 3 yX0_greatestLine cX0_greatestLine 3 (some .int) [.ref hG, .ref hP] [(hG, .inr (0, [.ref aG, .int av])), (hP, .inr (1, [.int ln, .int hb, .int ha, .int pu, .int hl, .int sm, .int hr, .ref hS, .ref hC, .ref hN, .ref hM, .ref hU])), (hC, .inr (2, [.ref aC, .int mC, .int nC])), (aC, .inl (K.2.1.1, 32, .inl fC))] (some (.int (f_X0_greatestLine nC fC c))) [(hG, .inr (0, [.ref aG, .int av])), (hP, .inr (1, [.int ln, .int hb, .int ha, .int pu, .int hl, .int sm, .int hr, .ref hS, .ref hC, .ref hN, .ref hM, .ref hU])), (hC, .inr (2, [.ref aC, .int mC, .int nC])), (aC, .inl (K.2.1.1, 32, .inl fC))] := by
  refine vv_C.of (lv := [(0, .ref hG), (1, .ref hP)]) (by decide +kernel) (Nat.le_of_ble_eq_true rfl) rfl ?_
  intro x hl hK F hR; subst hl; obtain rfl := hK
  refine vv_bipush (v := 60) F dX0_greatestLine_0 (by decide) ?_
  refine vv_istore_n (lv' := [(2, .int 60), (0, .ref hG), (1, .ref hP)]) F dX0_greatestLine_2 rfl (by decide) rfl ?_
  refine vv_lv (lv' := [(2, .int 60), (0, .ref hG), (1, .ref hP)]) [0, 1, 2] rfl ?_
  exact L_X0_greatestLine F hG aG av hP hS hC hN hM hU ln hb ha pu hl sm hr aC mC nC fC c hc (by omega) hR 60 0 (by omega) rfl rfl
noncomputable def st_X0_stringKinds (nN : Int32) (fN : Nat → Int32) (i : Int32) (c : Nat) (u : Nat) (s : Int32) : Int32 := (if (itr (st_X0_notesFit nN fN i (nI u)) c 0 true) = true then (s ||| (1 <<< ((nI u) &&& 31))) else s)
theorem L_X0_stringKinds {x : vv_X} (F : vv_F x cX0_stringKinds 5 RX0 4) (hG aG : Nat) (av : Int32) (hP hS hC hN hM hU : Nat) (ln hb ha pu hl sm hr : Int32) (aN : Nat) (mN nN : Int32) (fN : Nat → Int32) (i : Int32) (c : Nat) (hc : (nN).toInt = (c : Int)) (hc6 : c ≤ 6) : ∀ (n : Nat) (u : Nat) (sa : Int32), u + n = 6 → vv_V x 5 36 [(4, .int (nI 6)), (3, .int (itr (st_X0_stringKinds nN fN i c) n u sa)), (0, .ref hG), (1, .ref hP), (2, .int i)] [] [(hG, .inr (0, [.ref aG, .int av])), (hP, .inr (1, [.int ln, .int hb, .int ha, .int pu, .int hl, .int sm, .int hr, .ref hS, .ref hC, .ref hN, .ref hM, .ref hU])), (hN, .inr (2, [.ref aN, .int mN, .int nN])), (aN, .inl ((vv_k x).2.1.1, 32, .inl fN))] → vv_V x 5 5 [(4, .int (nI u)), (3, .int sa), (0, .ref hG), (1, .ref hP), (2, .int i)] [] [(hG, .inr (0, [.ref aG, .int av])), (hP, .inr (1, [.int ln, .int hb, .int ha, .int pu, .int hl, .int sm, .int hr, .ref hS, .ref hC, .ref hN, .ref hM, .ref hU])), (hN, .inr (2, [.ref aN, .int mN, .int nN])), (aN, .inl ((vv_k x).2.1.1, 32, .inl fN))] := by
  intro n
  induction n with
  | zero =>
    intro u sa hu  kx
    refine vv_iload F dX0_stringKinds_5 rfl ?_
    refine vv_bipush (v := 6) F dX0_stringKinds_7 (by decide) ?_
    refine vv_icmp_ge (tgt := 36) F dX0_stringKinds_9 (by decide) (fun h_1 => ?_) (fun h_1 => absurd ((c_le (by decide : (6 : Int32).toInt = ((6 : Nat) : Int)) (nI_toInt (n := u) (by omega))).mpr (by omega)) h_1)
    obtain rfl : u = 6 := by omega
    rw [itr_0] at kx
    exact vv_lv [0, 1, 2, 3, 4] rfl kx
  | succ n ih =>
    intro u sa hu  kx
    refine vv_iload F dX0_stringKinds_5 rfl ?_
    refine vv_bipush (v := 6) F dX0_stringKinds_7 (by decide) ?_
    refine vv_icmp_ge (tgt := 36) F dX0_stringKinds_9 (by decide) (fun h_1 => absurd ((c_le (by decide : (6 : Int32).toInt = ((6 : Nat) : Int)) (nI_toInt (n := u) (by omega))).mp h_1) (by omega)) (fun h_1 => ?_)
    refine vv_aload_n F dX0_stringKinds_12 rfl rfl ?_
    refine vv_aload_n F dX0_stringKinds_13 rfl rfl ?_
    refine vv_iload_n F dX0_stringKinds_14 rfl rfl ?_
    refine vv_iload F dX0_stringKinds_15 rfl ?_
    refine vv_callVp (As := [.ref hP, .int i, .int (nI u)]) (rest := []) [0, 1, 2, 3] 0 F (c_X0_notesFit (vv_l x) (vv_k x) hG aG av hP hS hC hN hM hU ln hb ha pu hl sm hr aN mN nN fN i (nI u) c hc (by omega)) mv_X0_31 dX0_stringKinds_17 (by decide) rfl rfl (Nat.le_of_ble_eq_true rfl) rfl (by decide) rfl ?_
    refine vv_ifz_eq (tgt := 30) F dX0_stringKinds_20 (by decide) (fun h_2 => ?_) (fun h_2 => ?_)
    · refine vv_iinc (v := (nI (u + 1))) (lv' := [(4, .int (nI (u + 1))), (3, .int sa), (0, .ref hG), (1, .ref hP), (2, .int i)]) 0 F dX0_stringKinds_30 rfl (nI_1 u) (by decide) rfl ?_
      refine vv_goto (tgt := 5) F dX0_stringKinds_33 (by decide) ?_
      refine vv_lv (lv' := [(4, .int (nI (u + 1))), (3, .int sa), (0, .ref hG), (1, .ref hP), (2, .int i)]) [0, 1, 2, 3, 4] rfl ?_
      refine vv_lvE (lv' := [(4, .int (nI (u + 1))), (3, .int (if (itr (st_X0_notesFit nN fN i (nI u)) c 0 true) = true then (sa ||| (1 <<< ((nI u) &&& 31))) else sa)), (0, .ref hG), (1, .ref hP), (2, .int i)]) (by first | (simp only [if_neg h_2]; done) | (simp [vv_b, h_2]; done)) ?_
      exact ih (u + 1) (if (itr (st_X0_notesFit nN fN i (nI u)) c 0 true) = true then (sa ||| (1 <<< ((nI u) &&& 31))) else sa) (by omega) (by rw [itr_s] at kx; exact kx)
    · refine vv_iload_n F dX0_stringKinds_23 rfl rfl ?_
      refine vv_iconst (v := 1) F dX0_stringKinds_24 (by decide) ?_
      refine vv_iload F dX0_stringKinds_25 rfl ?_
      refine vv_ishl F dX0_stringKinds_27 ?_
      refine vv_ior F dX0_stringKinds_28 ?_
      refine vv_istore_n (lv' := [(3, .int (sa ||| (1 <<< ((nI u) &&& 31)))), (4, .int (nI u)), (0, .ref hG), (1, .ref hP), (2, .int i)]) F dX0_stringKinds_29 rfl (by decide) rfl ?_
      refine vv_iinc (v := (nI (u + 1))) (lv' := [(4, .int (nI (u + 1))), (3, .int (sa ||| (1 <<< ((nI u) &&& 31)))), (0, .ref hG), (1, .ref hP), (2, .int i)]) 1 F dX0_stringKinds_30 rfl (nI_1 u) (by decide) rfl ?_
      refine vv_goto (tgt := 5) F dX0_stringKinds_33 (by decide) ?_
      refine vv_lv (lv' := [(4, .int (nI (u + 1))), (3, .int (sa ||| (1 <<< ((nI u) &&& 31)))), (0, .ref hG), (1, .ref hP), (2, .int i)]) [0, 1, 2, 3, 4] rfl ?_
      refine vv_lvE (lv' := [(4, .int (nI (u + 1))), (3, .int (if (itr (st_X0_notesFit nN fN i (nI u)) c 0 true) = true then (sa ||| (1 <<< ((nI u) &&& 31))) else sa)), (0, .ref hG), (1, .ref hP), (2, .int i)]) (by first | (simp only [if_pos h_2]; done) | (simp [vv_b, h_2]; done)) ?_
      exact ih (u + 1) (if (itr (st_X0_notesFit nN fN i (nI u)) c 0 true) = true then (sa ||| (1 <<< ((nI u) &&& 31))) else sa) (by omega) (by rw [itr_s] at kx; exact kx)
theorem c_X0_stringKinds (l : Launch) (K : vv_K) (hG aG : Nat) (av : Int32) (hP hS hC hN hM hU : Nat) (ln hb ha pu hl sm hr : Int32) (aN : Nat) (mN nN : Int32) (fN : Nat → Int32) (i : Int32) (c : Nat) (hc : (nN).toInt = (c : Int)) (hc6 : c ≤ 6)  : vv_C l K 4 yX0_stringKinds cX0_stringKinds 5 (some .int) [.ref hG, .ref hP, .int i] [(hG, .inr (0, [.ref aG, .int av])), (hP, .inr (1, [.int ln, .int hb, .int ha, .int pu, .int hl, .int sm, .int hr, .ref hS, .ref hC, .ref hN, .ref hM, .ref hU])), (hN, .inr (2, [.ref aN, .int mN, .int nN])), (aN, .inl (K.2.1.1, 32, .inl fN))] (some (.int (itr (st_X0_stringKinds nN fN i c) 6 0 0))) [(hG, .inr (0, [.ref aG, .int av])), (hP, .inr (1, [.int ln, .int hb, .int ha, .int pu, .int hl, .int sm, .int hr, .ref hS, .ref hC, .ref hN, .ref hM, .ref hU])), (hN, .inr (2, [.ref aN, .int mN, .int nN])), (aN, .inl (K.2.1.1, 32, .inl fN))] := by
  refine vv_C.of (lv := [(0, .ref hG), (1, .ref hP), (2, .int i)]) (by decide +kernel) (Nat.le_of_ble_eq_true rfl) rfl ?_
  intro x hl hK F hR; subst hl; obtain rfl := hK
  refine vv_iconst (v := 0) F dX0_stringKinds_0 (by decide) ?_
  refine vv_istore_n (lv' := [(3, .int 0), (0, .ref hG), (1, .ref hP), (2, .int i)]) F dX0_stringKinds_1 rfl (by decide) rfl ?_
  refine vv_iconst (v := 0) F dX0_stringKinds_2 (by decide) ?_
  refine vv_istore (lv' := [(4, .int 0), (3, .int 0), (0, .ref hG), (1, .ref hP), (2, .int i)]) F dX0_stringKinds_3 (by decide) rfl ?_
  refine vv_lv (lv' := [(4, .int 0), (3, .int 0), (0, .ref hG), (1, .ref hP), (2, .int i)]) [0, 1, 2, 3, 4] rfl ?_
  refine L_X0_stringKinds F hG aG av hP hS hC hN hM hU ln hb ha pu hl sm hr aN mN nN fN i c hc (by omega) 6 0 0 (by omega) ?_
  refine vv_iload_n F dX0_stringKinds_36 rfl rfl ?_
  exact vv_iret F hR dX0_stringKinds_37 rfl rfl
noncomputable def st_X0_houseKinds (nM : Int32) (fM : Nat → Int32) (i : Int32) (c : Nat) (u : Nat) (s : Int32) : Int32 := (if (itr (st_X0_marksFit nM fM i (nI u)) c 0 true) = true then (s ||| (1 <<< ((nI u) &&& 31))) else s)
theorem L_X0_houseKinds {x : vv_X} (F : vv_F x cX0_houseKinds 5 RX0 4) (hG aG : Nat) (av : Int32) (hP hS hC hN hM hU : Nat) (ln hb ha pu hl sm hr : Int32) (aM : Nat) (mM nM : Int32) (fM : Nat → Int32) (i : Int32) (c : Nat) (hc : (nM).toInt = (c : Int)) (hc6 : c ≤ 6) : ∀ (n : Nat) (u : Nat) (sa : Int32), u + n = 6 → vv_V x 5 36 [(4, .int (nI 6)), (3, .int (itr (st_X0_houseKinds nM fM i c) n u sa)), (0, .ref hG), (1, .ref hP), (2, .int i)] [] [(hG, .inr (0, [.ref aG, .int av])), (hP, .inr (1, [.int ln, .int hb, .int ha, .int pu, .int hl, .int sm, .int hr, .ref hS, .ref hC, .ref hN, .ref hM, .ref hU])), (hM, .inr (2, [.ref aM, .int mM, .int nM])), (aM, .inl ((vv_k x).2.1.1, 32, .inl fM))] → vv_V x 5 5 [(4, .int (nI u)), (3, .int sa), (0, .ref hG), (1, .ref hP), (2, .int i)] [] [(hG, .inr (0, [.ref aG, .int av])), (hP, .inr (1, [.int ln, .int hb, .int ha, .int pu, .int hl, .int sm, .int hr, .ref hS, .ref hC, .ref hN, .ref hM, .ref hU])), (hM, .inr (2, [.ref aM, .int mM, .int nM])), (aM, .inl ((vv_k x).2.1.1, 32, .inl fM))] := by
  intro n
  induction n with
  | zero =>
    intro u sa hu  kx
    refine vv_iload F dX0_houseKinds_5 rfl ?_
    refine vv_bipush (v := 6) F dX0_houseKinds_7 (by decide) ?_
    refine vv_icmp_ge (tgt := 36) F dX0_houseKinds_9 (by decide) (fun h_1 => ?_) (fun h_1 => absurd ((c_le (by decide : (6 : Int32).toInt = ((6 : Nat) : Int)) (nI_toInt (n := u) (by omega))).mpr (by omega)) h_1)
    obtain rfl : u = 6 := by omega
    rw [itr_0] at kx
    exact vv_lv [0, 1, 2, 3, 4] rfl kx
  | succ n ih =>
    intro u sa hu  kx
    refine vv_iload F dX0_houseKinds_5 rfl ?_
    refine vv_bipush (v := 6) F dX0_houseKinds_7 (by decide) ?_
    refine vv_icmp_ge (tgt := 36) F dX0_houseKinds_9 (by decide) (fun h_1 => absurd ((c_le (by decide : (6 : Int32).toInt = ((6 : Nat) : Int)) (nI_toInt (n := u) (by omega))).mp h_1) (by omega)) (fun h_1 => ?_)
    refine vv_aload_n F dX0_houseKinds_12 rfl rfl ?_
    refine vv_aload_n F dX0_houseKinds_13 rfl rfl ?_
    refine vv_iload_n F dX0_houseKinds_14 rfl rfl ?_
    refine vv_iload F dX0_houseKinds_15 rfl ?_
    refine vv_callVp (As := [.ref hP, .int i, .int (nI u)]) (rest := []) [0, 1, 2, 3] 0 F (c_X0_marksFit (vv_l x) (vv_k x) hG aG av hP hS hC hN hM hU ln hb ha pu hl sm hr aM mM nM fM i (nI u) c hc (by omega)) mv_X0_61 dX0_houseKinds_17 (by decide) rfl rfl (Nat.le_of_ble_eq_true rfl) rfl (by decide) rfl ?_
    refine vv_ifz_eq (tgt := 30) F dX0_houseKinds_20 (by decide) (fun h_2 => ?_) (fun h_2 => ?_)
    · refine vv_iinc (v := (nI (u + 1))) (lv' := [(4, .int (nI (u + 1))), (3, .int sa), (0, .ref hG), (1, .ref hP), (2, .int i)]) 0 F dX0_houseKinds_30 rfl (nI_1 u) (by decide) rfl ?_
      refine vv_goto (tgt := 5) F dX0_houseKinds_33 (by decide) ?_
      refine vv_lv (lv' := [(4, .int (nI (u + 1))), (3, .int sa), (0, .ref hG), (1, .ref hP), (2, .int i)]) [0, 1, 2, 3, 4] rfl ?_
      refine vv_lvE (lv' := [(4, .int (nI (u + 1))), (3, .int (if (itr (st_X0_marksFit nM fM i (nI u)) c 0 true) = true then (sa ||| (1 <<< ((nI u) &&& 31))) else sa)), (0, .ref hG), (1, .ref hP), (2, .int i)]) (by first | (simp only [if_neg h_2]; done) | (simp [vv_b, h_2]; done)) ?_
      exact ih (u + 1) (if (itr (st_X0_marksFit nM fM i (nI u)) c 0 true) = true then (sa ||| (1 <<< ((nI u) &&& 31))) else sa) (by omega) (by rw [itr_s] at kx; exact kx)
    · refine vv_iload_n F dX0_houseKinds_23 rfl rfl ?_
      refine vv_iconst (v := 1) F dX0_houseKinds_24 (by decide) ?_
      refine vv_iload F dX0_houseKinds_25 rfl ?_
      refine vv_ishl F dX0_houseKinds_27 ?_
      refine vv_ior F dX0_houseKinds_28 ?_
      refine vv_istore_n (lv' := [(3, .int (sa ||| (1 <<< ((nI u) &&& 31)))), (4, .int (nI u)), (0, .ref hG), (1, .ref hP), (2, .int i)]) F dX0_houseKinds_29 rfl (by decide) rfl ?_
      refine vv_iinc (v := (nI (u + 1))) (lv' := [(4, .int (nI (u + 1))), (3, .int (sa ||| (1 <<< ((nI u) &&& 31)))), (0, .ref hG), (1, .ref hP), (2, .int i)]) 1 F dX0_houseKinds_30 rfl (nI_1 u) (by decide) rfl ?_
      refine vv_goto (tgt := 5) F dX0_houseKinds_33 (by decide) ?_
      refine vv_lv (lv' := [(4, .int (nI (u + 1))), (3, .int (sa ||| (1 <<< ((nI u) &&& 31)))), (0, .ref hG), (1, .ref hP), (2, .int i)]) [0, 1, 2, 3, 4] rfl ?_
      refine vv_lvE (lv' := [(4, .int (nI (u + 1))), (3, .int (if (itr (st_X0_marksFit nM fM i (nI u)) c 0 true) = true then (sa ||| (1 <<< ((nI u) &&& 31))) else sa)), (0, .ref hG), (1, .ref hP), (2, .int i)]) (by first | (simp only [if_pos h_2]; done) | (simp [vv_b, h_2]; done)) ?_
      exact ih (u + 1) (if (itr (st_X0_marksFit nM fM i (nI u)) c 0 true) = true then (sa ||| (1 <<< ((nI u) &&& 31))) else sa) (by omega) (by rw [itr_s] at kx; exact kx)
theorem c_X0_houseKinds (l : Launch) (K : vv_K) (hG aG : Nat) (av : Int32) (hP hS hC hN hM hU : Nat) (ln hb ha pu hl sm hr : Int32) (aM : Nat) (mM nM : Int32) (fM : Nat → Int32) (i : Int32) (c : Nat) (hc : (nM).toInt = (c : Int)) (hc6 : c ≤ 6)  : vv_C l K 4 yX0_houseKinds cX0_houseKinds 5 (some .int) [.ref hG, .ref hP, .int i] [(hG, .inr (0, [.ref aG, .int av])), (hP, .inr (1, [.int ln, .int hb, .int ha, .int pu, .int hl, .int sm, .int hr, .ref hS, .ref hC, .ref hN, .ref hM, .ref hU])), (hM, .inr (2, [.ref aM, .int mM, .int nM])), (aM, .inl (K.2.1.1, 32, .inl fM))] (some (.int (itr (st_X0_houseKinds nM fM i c) 6 0 0))) [(hG, .inr (0, [.ref aG, .int av])), (hP, .inr (1, [.int ln, .int hb, .int ha, .int pu, .int hl, .int sm, .int hr, .ref hS, .ref hC, .ref hN, .ref hM, .ref hU])), (hM, .inr (2, [.ref aM, .int mM, .int nM])), (aM, .inl (K.2.1.1, 32, .inl fM))] := by
  refine vv_C.of (lv := [(0, .ref hG), (1, .ref hP), (2, .int i)]) (by decide +kernel) (Nat.le_of_ble_eq_true rfl) rfl ?_
  intro x hl hK F hR; subst hl; obtain rfl := hK
  refine vv_iconst (v := 0) F dX0_houseKinds_0 (by decide) ?_
  refine vv_istore_n (lv' := [(3, .int 0), (0, .ref hG), (1, .ref hP), (2, .int i)]) F dX0_houseKinds_1 rfl (by decide) rfl ?_
  refine vv_iconst (v := 0) F dX0_houseKinds_2 (by decide) ?_
  refine vv_istore (lv' := [(4, .int 0), (3, .int 0), (0, .ref hG), (1, .ref hP), (2, .int i)]) F dX0_houseKinds_3 (by decide) rfl ?_
  refine vv_lv (lv' := [(4, .int 0), (3, .int 0), (0, .ref hG), (1, .ref hP), (2, .int i)]) [0, 1, 2, 3, 4] rfl ?_
  refine L_X0_houseKinds F hG aG av hP hS hC hN hM hU ln hb ha pu hl sm hr aM mM nM fM i c hc (by omega) 6 0 0 (by omega) ?_
  refine vv_iload_n F dX0_houseKinds_36 rfl rfl ?_
  exact vv_iret F hR dX0_houseKinds_37 rfl rfl
theorem c_X0_putAnswer (l : Launch) (K : vv_K) (hG aG : Nat) (av : Int32) (an : Nat → Int32) (z : Int32) (k : Nat) (hk : (av).toInt = (k : Int)) (hk6 : k < 6)  : vv_C l K 2 yX0_putAnswer cX0_putAnswer 2 none [.ref hG, .int z] [(hG, .inr (0, [.ref aG, .int av])), (aG, .inl (K.2.1.1, 6, .inl an))] none [(hG, .inr (0, [.ref aG, .int (av + 1)])), (aG, .inl (K.2.1.1, 6, .inl (upd an k z)))] := by
  refine vv_C.of (lv := [(0, .ref hG), (1, .int z)]) (by decide +kernel) (Nat.le_of_ble_eq_true rfl) rfl ?_
  intro x hl hK F hR; subst hl; obtain rfl := hK
  refine vv_aload_n F dX0_putAnswer_0 rfl rfl ?_
  refine vv_get 0 F fl_X0_39 dX0_putAnswer_1 rfl rfl ?_
  refine vv_iconst (v := 0) F dX0_putAnswer_4 (by decide) ?_
  refine vv_iconst (v := 5) F dX0_putAnswer_5 (by decide) ?_
  refine vv_callSp (As := [.int av, .int 0, .int 5]) (rest := []) [] F (c_X7_within (vv_l x) (vv_k x) av 0 5) ms_X0_91 dX0_putAnswer_6 (by decide) rfl rfl (Nat.le_of_ble_eq_true rfl) rfl (by decide) ?_
  refine vv_ifz_eq (tgt := 32) F dX0_putAnswer_9 (by decide) (fun h_1 => absurd (wi_in (a := 0) (b := 5) hk (by decide) (by decide) (by omega) (by omega)) h_1) (fun h_1 => ?_)
  refine vv_aload_n F dX0_putAnswer_12 rfl rfl ?_
  refine vv_get 0 F fl_X0_11 dX0_putAnswer_13 rfl rfl ?_
  refine vv_aload_n F dX0_putAnswer_16 rfl rfl ?_
  refine vv_get 0 F fl_X0_39 dX0_putAnswer_17 rfl rfl ?_
  refine vv_iload_n F dX0_putAnswer_20 rfl rfl ?_
  refine vv_iast 1 (ws' := [(hG, .inr (0, [.ref aG, .int av])), (aG, .inl ((vv_k x).2.1.1, 6, .inl (upd an k z)))]) F dX0_putAnswer_21 rfl (vv_ixP (j := k) (by have hz := hk; omega) (by omega)) rfl ?_
  refine vv_aload_n F dX0_putAnswer_22 rfl rfl ?_
  refine vv_dup F dX0_putAnswer_23 rfl ?_
  refine vv_get 0 F fl_X0_39 dX0_putAnswer_24 rfl rfl ?_
  refine vv_iconst (v := 1) F dX0_putAnswer_27 (by decide) ?_
  refine vv_iadd F dX0_putAnswer_28 ?_
  refine vv_put 0 (ws' := [(hG, .inr (0, [.ref aG, .int (av + 1)])), (aG, .inl ((vv_k x).2.1.1, 6, .inl (upd an k z)))]) F fl_X0_39 dX0_putAnswer_29 rfl rfl rfl (Nat.le_of_ble_eq_true rfl) rfl ?_
  exact vv_vret F hR dX0_putAnswer_32 rfl rfl
noncomputable def st_X0_mostAlike_in (an : Nat → Int32) (v : Nat) (u : Nat) (s : Int32) : Int32 := (if (an u) = (an v) then (s + 1) else s)
theorem L_X0_mostAlike_in {x : vv_X} (F : vv_F x cX0_mostAlike 5 RX0 2) (hG aG : Nat) (av : Int32) (an : Nat → Int32) (mo : Int32) (v : Nat) (hv6 : v < 6) : ∀ (n : Nat) (u : Nat) (q : Int32), u + n = v → vv_V x 5 54 [(4, .int (nI v)), (3, .int (itr (st_X0_mostAlike_in an v) n u q)), (0, .ref hG), (1, .int mo), (2, .int (nI v))] [] [(hG, .inr (0, [.ref aG, .int av])), (aG, .inl ((vv_k x).2.1.1, 6, .inl an))] → vv_V x 5 23 [(4, .int (nI u)), (3, .int q), (0, .ref hG), (1, .int mo), (2, .int (nI v))] [] [(hG, .inr (0, [.ref aG, .int av])), (aG, .inl ((vv_k x).2.1.1, 6, .inl an))] := by
  intro n
  induction n with
  | zero =>
    intro u q hu  kx
    refine vv_iload F dX0_mostAlike_23 rfl ?_
    refine vv_iload_n F dX0_mostAlike_25 rfl rfl ?_
    refine vv_icmp_ge (tgt := 54) F dX0_mostAlike_26 (by decide) (fun h_1 => ?_) (fun h_1 => absurd ((c_le (nI_toInt (n := v) (by omega)) (nI_toInt (n := u) (by omega))).mpr (by omega)) h_1)
    obtain rfl : u = v := by omega
    rw [itr_0] at kx
    exact vv_lv [0, 1, 2, 3, 4] rfl kx
  | succ n ih =>
    intro u q hu  kx
    refine vv_iload F dX0_mostAlike_23 rfl ?_
    refine vv_iload_n F dX0_mostAlike_25 rfl rfl ?_
    refine vv_icmp_ge (tgt := 54) F dX0_mostAlike_26 (by decide) (fun h_1 => absurd ((c_le (nI_toInt (n := v) (by omega)) (nI_toInt (n := u) (by omega))).mp h_1) (by omega)) (fun h_1 => ?_)
    refine vv_aload_n F dX0_mostAlike_29 rfl rfl ?_
    refine vv_get 0 F fl_X0_11 dX0_mostAlike_30 rfl rfl ?_
    refine vv_iload F dX0_mostAlike_33 rfl ?_
    refine vv_iald 1 F dX0_mostAlike_35 rfl (vv_ixP (j := u) (by have hz := (nI_toInt (n := u) (by omega)); omega) (by omega)) ?_
    refine vv_aload_n F dX0_mostAlike_36 rfl rfl ?_
    refine vv_get 0 F fl_X0_11 dX0_mostAlike_37 rfl rfl ?_
    refine vv_iload_n F dX0_mostAlike_40 rfl rfl ?_
    refine vv_iald 1 F dX0_mostAlike_41 rfl (vv_ixP (j := v) (by have hz := (nI_toInt (n := v) (by omega)); omega) (by omega)) ?_
    refine vv_icmp_ne (tgt := 48) F dX0_mostAlike_42 (by decide) (fun h_2 => ?_) (fun h_2 => ?_)
    · refine vv_iinc (v := (nI (u + 1))) (lv' := [(4, .int (nI (u + 1))), (3, .int q), (0, .ref hG), (1, .int mo), (2, .int (nI v))]) 0 F dX0_mostAlike_48 rfl (nI_1 u) (by decide) rfl ?_
      refine vv_goto (tgt := 23) F dX0_mostAlike_51 (by decide) ?_
      refine vv_lv (lv' := [(4, .int (nI (u + 1))), (3, .int q), (0, .ref hG), (1, .int mo), (2, .int (nI v))]) [0, 1, 2, 3, 4] rfl ?_
      refine vv_lvE (lv' := [(4, .int (nI (u + 1))), (3, .int (if (an u) = (an v) then (q + 1) else q)), (0, .ref hG), (1, .int mo), (2, .int (nI v))]) (by first | (simp only [if_neg h_2]; done) | (simp [vv_b, h_2]; done)) ?_
      exact ih (u + 1) (if (an u) = (an v) then (q + 1) else q) (by omega) (by rw [itr_s] at kx; exact kx)
    · refine vv_iinc (v := (q + 1)) (lv' := [(3, .int (q + 1)), (4, .int (nI u)), (0, .ref hG), (1, .int mo), (2, .int (nI v))]) 1 F dX0_mostAlike_45 rfl rfl (by decide) rfl ?_
      refine vv_iinc (v := (nI (u + 1))) (lv' := [(4, .int (nI (u + 1))), (3, .int (q + 1)), (0, .ref hG), (1, .int mo), (2, .int (nI v))]) 1 F dX0_mostAlike_48 rfl (nI_1 u) (by decide) rfl ?_
      refine vv_goto (tgt := 23) F dX0_mostAlike_51 (by decide) ?_
      refine vv_lv (lv' := [(4, .int (nI (u + 1))), (3, .int (q + 1)), (0, .ref hG), (1, .int mo), (2, .int (nI v))]) [0, 1, 2, 3, 4] rfl ?_
      refine vv_lvE (lv' := [(4, .int (nI (u + 1))), (3, .int (if (an u) = (an v) then (q + 1) else q)), (0, .ref hG), (1, .int mo), (2, .int (nI v))]) (by first | (simp only [if_pos h_2]; done) | (simp [vv_b, h_2]; done)) ?_
      exact ih (u + 1) (if (an u) = (an v) then (q + 1) else q) (by omega) (by rw [itr_s] at kx; exact kx)
noncomputable def st_X0_mostAlike (an : Nat → Int32) (u : Nat) (s : Int32) : Int32 := (if s < (itr (st_X0_mostAlike_in an u) u 0 1) then (itr (st_X0_mostAlike_in an u) u 0 1) else s)
theorem L_X0_mostAlike {x : vv_X} (F : vv_F x cX0_mostAlike 5 RX0 2) (hG aG : Nat) (av : Int32) (an : Nat → Int32) (k : Nat) (hk : (av).toInt = (k : Int)) (hk6 : k ≤ 6) : ∀ (n : Nat) (u : Nat) (mo : Int32), u + n = k → vv_V x 5 66 [(2, .int (nI k)), (1, .int (itr (st_X0_mostAlike an) n u mo)), (0, .ref hG)] [] [(hG, .inr (0, [.ref aG, .int av])), (aG, .inl ((vv_k x).2.1.1, 6, .inl an))] → vv_V x 5 4 [(2, .int (nI u)), (1, .int mo), (0, .ref hG)] [] [(hG, .inr (0, [.ref aG, .int av])), (aG, .inl ((vv_k x).2.1.1, 6, .inl an))] := by
  intro n
  induction n with
  | zero =>
    intro u mo hu  kx
    refine vv_iload_n F dX0_mostAlike_4 rfl rfl ?_
    refine vv_aload_n F dX0_mostAlike_5 rfl rfl ?_
    refine vv_get 0 F fl_X0_39 dX0_mostAlike_6 rfl rfl ?_
    refine vv_icmp_ge (tgt := 66) F dX0_mostAlike_9 (by decide) (fun h_1 => ?_) (fun h_1 => absurd ((c_le hk (nI_toInt (n := u) (by omega))).mpr (by omega)) h_1)
    obtain rfl : u = k := by omega
    rw [itr_0] at kx
    exact vv_lv [0, 1, 2] rfl kx
  | succ n ih =>
    intro u mo hu  kx
    refine vv_iload_n F dX0_mostAlike_4 rfl rfl ?_
    refine vv_aload_n F dX0_mostAlike_5 rfl rfl ?_
    refine vv_get 0 F fl_X0_39 dX0_mostAlike_6 rfl rfl ?_
    refine vv_icmp_ge (tgt := 66) F dX0_mostAlike_9 (by decide) (fun h_1 => absurd ((c_le hk (nI_toInt (n := u) (by omega))).mp h_1) (by omega)) (fun h_1 => ?_)
    refine vv_iload_n F dX0_mostAlike_12 rfl rfl ?_
    refine vv_bipush (v := 6) F dX0_mostAlike_13 (by decide) ?_
    refine vv_icmp_ge (tgt := 66) F dX0_mostAlike_15 (by decide) (fun h_2 => absurd ((c_le (by decide : (6 : Int32).toInt = ((6 : Nat) : Int)) (nI_toInt (n := u) (by omega))).mp h_2) (by omega)) (fun h_2 => ?_)
    refine vv_iconst (v := 1) F dX0_mostAlike_18 (by decide) ?_
    refine vv_istore_n (lv' := [(3, .int 1), (2, .int (nI u)), (1, .int mo), (0, .ref hG)]) F dX0_mostAlike_19 rfl (by decide) rfl ?_
    refine vv_iconst (v := 0) F dX0_mostAlike_20 (by decide) ?_
    refine vv_istore (lv' := [(4, .int 0), (3, .int 1), (2, .int (nI u)), (1, .int mo), (0, .ref hG)]) F dX0_mostAlike_21 (by decide) rfl ?_
    refine vv_lv (lv' := [(4, .int 0), (3, .int 1), (0, .ref hG), (1, .int mo), (2, .int (nI u))]) [0, 1, 4, 3, 2] rfl ?_
    refine L_X0_mostAlike_in F hG aG av an mo u (by omega) u 0 1 (by omega) ?_
    refine vv_iload_n F dX0_mostAlike_54 rfl rfl ?_
    refine vv_iload_n F dX0_mostAlike_55 rfl rfl ?_
    refine vv_mmax F mm_X0_25 st_max in_Math co_max (by decide) (Nat.le_of_ble_eq_true rfl) dX0_mostAlike_56 ?_
    refine vv_istore_n (lv' := [(1, .int (if mo < (itr (st_X0_mostAlike_in an u) u 0 1) then (itr (st_X0_mostAlike_in an u) u 0 1) else mo)), (4, .int (nI u)), (3, .int (itr (st_X0_mostAlike_in an u) u 0 1)), (0, .ref hG), (2, .int (nI u))]) F dX0_mostAlike_59 rfl (by decide) rfl ?_
    refine vv_iinc (v := (nI (u + 1))) (lv' := [(2, .int (nI (u + 1))), (1, .int (if mo < (itr (st_X0_mostAlike_in an u) u 0 1) then (itr (st_X0_mostAlike_in an u) u 0 1) else mo)), (4, .int (nI u)), (3, .int (itr (st_X0_mostAlike_in an u) u 0 1)), (0, .ref hG)]) 4 F dX0_mostAlike_60 rfl (nI_1 u) (by decide) rfl ?_
    refine vv_goto (tgt := 4) F dX0_mostAlike_63 (by decide) ?_
    refine vv_lv (lv' := [(2, .int (nI (u + 1))), (1, .int (if mo < (itr (st_X0_mostAlike_in an u) u 0 1) then (itr (st_X0_mostAlike_in an u) u 0 1) else mo)), (0, .ref hG)]) [0, 1, 4] rfl ?_
    refine vv_lvE (lv' := [(2, .int (nI (u + 1))), (1, .int (if mo < (itr (st_X0_mostAlike_in an u) u 0 1) then (itr (st_X0_mostAlike_in an u) u 0 1) else mo)), (0, .ref hG)]) (by rfl) ?_
    exact ih (u + 1) (if mo < (itr (st_X0_mostAlike_in an u) u 0 1) then (itr (st_X0_mostAlike_in an u) u 0 1) else mo) (by omega) (by rw [itr_s] at kx; exact kx)
theorem c_X0_mostAlike (l : Launch) (K : vv_K) (hG aG : Nat) (av : Int32) (an : Nat → Int32) (k : Nat) (hk : (av).toInt = (k : Int)) (hk6 : k ≤ 6)  : vv_C l K 2 yX0_mostAlike cX0_mostAlike 5 (some .int) [.ref hG] [(hG, .inr (0, [.ref aG, .int av])), (aG, .inl (K.2.1.1, 6, .inl an))] (some (.int (itr (st_X0_mostAlike an) k 0 0))) [(hG, .inr (0, [.ref aG, .int av])), (aG, .inl (K.2.1.1, 6, .inl an))] := by
  refine vv_C.of (lv := [(0, .ref hG)]) (by decide +kernel) (Nat.le_of_ble_eq_true rfl) rfl ?_
  intro x hl hK F hR; subst hl; obtain rfl := hK
  refine vv_iconst (v := 0) F dX0_mostAlike_0 (by decide) ?_
  refine vv_istore_n (lv' := [(1, .int 0), (0, .ref hG)]) F dX0_mostAlike_1 rfl (by decide) rfl ?_
  refine vv_iconst (v := 0) F dX0_mostAlike_2 (by decide) ?_
  refine vv_istore_n (lv' := [(2, .int 0), (1, .int 0), (0, .ref hG)]) F dX0_mostAlike_3 rfl (by decide) rfl ?_
  refine vv_lv (lv' := [(2, .int 0), (1, .int 0), (0, .ref hG)]) [0, 1, 2] rfl ?_
  refine L_X0_mostAlike F hG aG av an k hk (by omega) k 0 0 (by omega) ?_
  refine vv_iload_n F dX0_mostAlike_66 rfl rfl ?_
  exact vv_iret F hR dX0_mostAlike_67 rfl rfl
