/-! numbers -/
theorem ti_add {a b : Int32} (h1 : -2147483648 ≤ a.toInt + b.toInt) (h2 : a.toInt + b.toInt < 2147483648) : (a + b).toInt = a.toInt + b.toInt := by
  rw [Int32.toInt_add]; exact Int.bmod_eq_of_le (by omega) (by omega)
theorem ti_sub {a b : Int32} (h1 : -2147483648 ≤ a.toInt - b.toInt) (h2 : a.toInt - b.toInt < 2147483648) : (a - b).toInt = a.toInt - b.toInt := by
  rw [Int32.toInt_sub]; exact Int.bmod_eq_of_le (by omega) (by omega)
theorem ti_mul {a b : Int32} (h1 : -2147483648 ≤ a.toInt * b.toInt) (h2 : a.toInt * b.toInt < 2147483648) : (a * b).toInt = a.toInt * b.toInt := by
  rw [Int32.toInt_mul]; exact Int.bmod_eq_of_le (by omega) (by omega)
theorem ti_cl {a : Int32} : a.toNatClampNeg = a.toInt.toNat := rfl
theorem ti_nI {a : Int32} (h : 0 ≤ a.toInt) : a = nI a.toInt.toNat := by
  have hb : a.toInt < 2147483648 := Int32.toInt_lt a
  apply Int32.toInt_inj.mp
  rw [nI_toInt (by omega)]; omega
theorem ix_4 {r c n : Int32} (h1 : ¬ r < 0) (h2 : ¬ n ≤ r) (h3 : ¬ c < 0) (h4 : c < 4) (hn : n.toInt ≤ 8) : vp_in (r * 4 + c) 32 ∧ (r * 4 + c).toNatClampNeg = 4 * r.toNatClampNeg + c.toNatClampNeg := by
  rw [Int32.lt_iff_toInt_lt] at h1 h3 h4
  rw [Int32.le_iff_toInt_le] at h2
  have e0 : (0 : Int32).toInt = 0 := rfl
  have e4 : (4 : Int32).toInt = 4 := rfl
  rw [e0] at h1 h3
  rw [e4] at h4
  have m1 : (r * 4).toInt = r.toInt * 4 := by rw [ti_mul (by rw [e4]; omega) (by rw [e4]; omega), e4]
  have m2 : (r * 4 + c).toInt = r.toInt * 4 + c.toInt := by rw [ti_add (by rw [m1]; omega) (by rw [m1]; omega), m1]
  refine ⟨vp_in_iff.mpr ⟨by omega, by omega⟩, ?_⟩
  rw [ti_cl, ti_cl, ti_cl, m2]; omega
theorem ix_p {n m : Int32} (c : Int32) (k : Nat) (hc : c.toInt = k) (hk : k < 4) (h0 : 0 ≤ n.toInt) (h : n < m) (hm : m.toInt ≤ 8) : vp_in (n * 4 + c) 32 ∧ (n * 4 + c).toNatClampNeg = 4 * n.toNatClampNeg + k := by
  have e0 : (0 : Int32).toInt = 0 := rfl
  have e4 : (4 : Int32).toInt = 4 := rfl
  have h1 : ¬ c < 0 := by rw [Int32.lt_iff_toInt_lt, e0]; omega
  have h2 : c < 4 := by rw [Int32.lt_iff_toInt_lt, e4]; omega
  have r := ix_4 (r := n) (by rw [Int32.lt_iff_toInt_lt, e0]; omega) (Int32.not_le.mpr h) h1 h2 hm
  exact ⟨r.1, by rw [r.2, ti_cl (a := c), hc]; omega⟩
theorem ix_p0 {n m : Int32} (h0 : 0 ≤ n.toInt) (h : n < m) (hm : m.toInt ≤ 8) : vp_in (n * 4) 32 ∧ (n * 4).toNatClampNeg = 4 * n.toNatClampNeg + 0 := by
  have := ix_p 0 0 rfl (by decide) h0 h hm
  have e : n * 4 + 0 = n * 4 := by simp
  rw [e] at this; exact this
abbrev p_X3_isFull (m n : Int32) : Prop := (¬ (n < m))
theorem c_X3_isFull (l : Launch) (K : vv_K) (h a : Nat) (m n : Int32)  : vv_C l K 1 yX3_isFull cX3_isFull 1 (some .boolean) [.ref h] [(h, .inr (2, [.ref a, .int m, .int n]))] (some (.int (vv_b (p_X3_isFull m n)))) [(h, .inr (2, [.ref a, .int m, .int n]))] := by
  refine vv_C.of (lv := [(0, .ref h)]) (by decide +kernel) (Nat.le_of_ble_eq_true rfl) rfl ?_
  intro x hl hK F hR; subst hl; obtain rfl := hK
  refine vv_aload_n F dX3_isFull_0 rfl rfl ?_
  refine vv_get 0 F fl_X3_23 dX3_isFull_1 rfl rfl ?_
  refine vv_aload_n F dX3_isFull_4 rfl rfl ?_
  refine vv_get 0 F fl_X3_19 dX3_isFull_5 rfl rfl ?_
  refine vv_icmp_lt (tgt := 15) F dX3_isFull_8 (by decide) (fun h_1 => ?_) (fun h_1 => ?_)
  · refine vv_iconst (v := 0) F dX3_isFull_15 (by decide) ?_
    exact vv_zret F hR dX3_isFull_16 rfl (vv_bf (fun z => z h_1)) rfl
  · refine vv_iconst (v := 1) F dX3_isFull_11 (by decide) ?_
    refine vv_goto (tgt := 16) F dX3_isFull_12 (by decide) ?_
    exact vv_zret F hR dX3_isFull_16 rfl (vv_bt h_1) rfl
theorem c_X3_wipe (l : Launch) (K : vv_K) (h a : Nat) (m n : Int32)  : vv_C l K 1 yX3_wipe cX3_wipe 1 none [.ref h] [(h, .inr (2, [.ref a, .int m, .int n]))] none [(h, .inr (2, [.ref a, .int m, .int 0]))] := by
  refine vv_C.of (lv := [(0, .ref h)]) (by decide +kernel) (Nat.le_of_ble_eq_true rfl) rfl ?_
  intro x hl hK F hR; subst hl; obtain rfl := hK
  refine vv_aload_n F dX3_wipe_0 rfl rfl ?_
  refine vv_iconst (v := 0) F dX3_wipe_1 (by decide) ?_
  refine vv_put 0 (ws' := [(h, .inr (2, [.ref a, .int m, .int 0]))]) F fl_X3_23 dX3_wipe_2 rfl rfl rfl (Nat.le_of_ble_eq_true rfl) rfl ?_
  exact vv_vret F hR dX3_wipe_5 rfl rfl
noncomputable def g_X3_dropLast_0_2 (n : Int32) : Int32 := (if n ≤ 0 then n else (n - 1))
theorem c_X3_dropLast (l : Launch) (K : vv_K) (h a : Nat) (m n : Int32)  : vv_C l K 1 yX3_dropLast cX3_dropLast 1 none [.ref h] [(h, .inr (2, [.ref a, .int m, .int n]))] none [(h, .inr (2, [.ref a, .int m, .int (g_X3_dropLast_0_2 n)]))] := by
  refine vv_C.of (lv := [(0, .ref h)]) (by decide +kernel) (Nat.le_of_ble_eq_true rfl) rfl ?_
  intro x hl hK F hR; subst hl; obtain rfl := hK
  refine vv_aload_n F dX3_dropLast_0 rfl rfl ?_
  refine vv_get 0 F fl_X3_23 dX3_dropLast_1 rfl rfl ?_
  refine vv_if_le (tgt := 17) F dX3_dropLast_4 (by decide) (fun h_1 => ?_) (fun h_1 => ?_)
  · exact vv_vret F hR dX3_dropLast_17 rfl (by simp only [g_X3_dropLast_0_2, if_pos h_1])
  · refine vv_aload_n F dX3_dropLast_7 rfl rfl ?_
    refine vv_dup F dX3_dropLast_8 rfl ?_
    refine vv_get 0 F fl_X3_23 dX3_dropLast_9 rfl rfl ?_
    refine vv_iconst (v := 1) F dX3_dropLast_12 (by decide) ?_
    refine vv_isub F dX3_dropLast_13 ?_
    refine vv_put 0 (ws' := [(h, .inr (2, [.ref a, .int m, .int (n - 1)]))]) F fl_X3_23 dX3_dropLast_14 rfl rfl rfl (Nat.le_of_ble_eq_true rfl) rfl ?_
    exact vv_vret F hR dX3_dropLast_17 rfl (by simp only [g_X3_dropLast_0_2, if_neg h_1])
noncomputable def f_X3_cell (n : Int32) (f : Nat → Int32) (r c : Int32) : Int32 := (if r < 0 then 0 else (if n ≤ r then 0 else (if c < 0 then 0 else (if c < 4 then (f (4 * r.toNatClampNeg + c.toNatClampNeg)) else 0))))
theorem c_X3_cell (l : Launch) (K : vv_K) (h a : Nat) (m n : Int32) (f : Nat → Int32) (r c : Int32) (hn8 : n.toInt ≤ 8) : vv_C l K 1 yX3_cell cX3_cell 3 (some .int) [.ref h, .int r, .int c] [(h, .inr (2, [.ref a, .int m, .int n])), (a, .inl (K.2.1.1, 32, .inl f))] (some (.int (f_X3_cell n f r c))) [(h, .inr (2, [.ref a, .int m, .int n])), (a, .inl (K.2.1.1, 32, .inl f))] := by
  refine vv_C.of (lv := [(0, .ref h), (1, .int r), (2, .int c)]) (by decide +kernel) (Nat.le_of_ble_eq_true rfl) rfl ?_
  intro x hl hK F hR; subst hl; obtain rfl := hK
  refine vv_iload_n F dX3_cell_0 rfl rfl ?_
  refine vv_if_lt (tgt := 21) F dX3_cell_1 (by decide) (fun h_1 => ?_) (fun h_1 => ?_)
  · refine vv_iconst (v := 0) F dX3_cell_21 (by decide) ?_
    exact vv_iret F hR dX3_cell_22 (congrArg (fun z => some (Value.int z)) ((if_pos h_1).trans rfl)) rfl
  · refine vv_iload_n F dX3_cell_4 rfl rfl ?_
    refine vv_aload_n F dX3_cell_5 rfl rfl ?_
    refine vv_get 0 F fl_X3_23 dX3_cell_6 rfl rfl ?_
    refine vv_icmp_ge (tgt := 21) F dX3_cell_9 (by decide) (fun h_2 => ?_) (fun h_2 => ?_)
    · refine vv_iconst (v := 0) F dX3_cell_21 (by decide) ?_
      exact vv_iret F hR dX3_cell_22 (congrArg (fun z => some (Value.int z)) ((if_neg h_1).trans ((if_pos h_2).trans rfl))) rfl
    · refine vv_iload_n F dX3_cell_12 rfl rfl ?_
      refine vv_if_lt (tgt := 21) F dX3_cell_13 (by decide) (fun h_3 => ?_) (fun h_3 => ?_)
      · refine vv_iconst (v := 0) F dX3_cell_21 (by decide) ?_
        exact vv_iret F hR dX3_cell_22 (congrArg (fun z => some (Value.int z)) ((if_neg h_1).trans ((if_neg h_2).trans ((if_pos h_3).trans rfl)))) rfl
      · refine vv_iload_n F dX3_cell_16 rfl rfl ?_
        refine vv_iconst (v := 4) F dX3_cell_17 (by decide) ?_
        refine vv_icmp_lt (tgt := 23) F dX3_cell_18 (by decide) (fun h_4 => ?_) (fun h_4 => ?_)
        · refine vv_aload_n F dX3_cell_23 rfl rfl ?_
          refine vv_get 0 F fl_X3_9 dX3_cell_24 rfl rfl ?_
          refine vv_iload_n F dX3_cell_27 rfl rfl ?_
          refine vv_iconst (v := 4) F dX3_cell_28 (by decide) ?_
          refine vv_imul F dX3_cell_29 ?_
          refine vv_iload_n F dX3_cell_30 rfl rfl ?_
          refine vv_iadd F dX3_cell_31 ?_
          refine vv_iald 1 F dX3_cell_32 rfl (ix_4 h_1 h_2 h_3 h_4 hn8) ?_
          exact vv_iret F hR dX3_cell_33 (congrArg (fun z => some (Value.int z)) ((if_neg h_1).trans ((if_neg h_2).trans ((if_neg h_3).trans ((if_pos h_4).trans rfl))))) rfl
        · refine vv_iconst (v := 0) F dX3_cell_21 (by decide) ?_
          exact vv_iret F hR dX3_cell_22 (congrArg (fun z => some (Value.int z)) ((if_neg h_1).trans ((if_neg h_2).trans ((if_neg h_3).trans ((if_neg h_4).trans rfl))))) rfl
noncomputable def g_X3_put_0_2 (m n : Int32) : Int32 := (if p_X3_isFull m n then n else (n + 1))
noncomputable def g_X3_put_1 (m n : Int32) (f : Nat → Int32) (b0 b1 b2 b3 : Int32) : Nat → Int32 := (if p_X3_isFull m n then f else (upd (upd (upd (upd f (4 * n.toNatClampNeg + 0) b0) (4 * n.toNatClampNeg + 1) b1) (4 * n.toNatClampNeg + 2) b2) (4 * n.toNatClampNeg + 3) b3))
theorem c_X3_put (l : Launch) (K : vv_K) (h a : Nat) (m n : Int32) (f : Nat → Int32) (b0 b1 b2 b3 : Int32) (hn0 : 0 ≤ n.toInt) (hm8 : m.toInt ≤ 8) : vv_C l K 2 yX3_put cX3_put 6 none [.ref h, .int b0, .int b1, .int b2, .int b3] [(h, .inr (2, [.ref a, .int m, .int n])), (a, .inl (K.2.1.1, 32, .inl f))] none [(h, .inr (2, [.ref a, .int m, .int (g_X3_put_0_2 m n)])), (a, .inl (K.2.1.1, 32, .inl (g_X3_put_1 m n f b0 b1 b2 b3)))] := by
  refine vv_C.of (lv := [(0, .ref h), (1, .int b0), (2, .int b1), (3, .int b2), (4, .int b3)]) (by decide +kernel) (Nat.le_of_ble_eq_true rfl) rfl ?_
  intro x hl hK F hR; subst hl; obtain rfl := hK
  refine vv_aload_n F dX3_put_0 rfl rfl ?_
  refine vv_callVp (As := []) (rest := []) [0] 0 F (c_X3_isFull (vv_l x) (vv_k x) h a m n) mv_X3_26 dX3_put_1 (by decide) rfl rfl (Nat.le_of_ble_eq_true rfl) rfl (by decide) rfl ?_
  refine vv_ifz_eq (tgt := 8) F dX3_put_4 (by decide) (fun h_1 => ?_) (fun h_1 => ?_)
  · refine vv_aload_n F dX3_put_8 rfl rfl ?_
    refine vv_get 0 F fl_X3_23 dX3_put_9 rfl rfl ?_
    refine vv_iconst (v := 4) F dX3_put_12 (by decide) ?_
    refine vv_imul F dX3_put_13 ?_
    refine vv_istore (lv' := [(5, .int (n * 4)), (0, .ref h), (1, .int b0), (2, .int b1), (3, .int b2), (4, .int b3)]) F dX3_put_14 (by decide) rfl ?_
    refine vv_aload_n F dX3_put_16 rfl rfl ?_
    refine vv_get 0 F fl_X3_9 dX3_put_17 rfl rfl ?_
    refine vv_iload F dX3_put_20 rfl ?_
    refine vv_iload_n F dX3_put_22 rfl rfl ?_
    refine vv_iast 1 (ws' := [(h, .inr (2, [.ref a, .int m, .int n])), (a, .inl ((vv_k x).2.1.1, 32, .inl (upd f (4 * n.toNatClampNeg + 0) b0)))]) F dX3_put_23 rfl (ix_p0 hn0 (Decidable.not_not.mp h_1) hm8) rfl ?_
    refine vv_aload_n F dX3_put_24 rfl rfl ?_
    refine vv_get 0 F fl_X3_9 dX3_put_25 rfl rfl ?_
    refine vv_iload F dX3_put_28 rfl ?_
    refine vv_iconst (v := 1) F dX3_put_30 (by decide) ?_
    refine vv_iadd F dX3_put_31 ?_
    refine vv_iload_n F dX3_put_32 rfl rfl ?_
    refine vv_iast 1 (ws' := [(h, .inr (2, [.ref a, .int m, .int n])), (a, .inl ((vv_k x).2.1.1, 32, .inl (upd (upd f (4 * n.toNatClampNeg + 0) b0) (4 * n.toNatClampNeg + 1) b1)))]) F dX3_put_33 rfl (ix_p 1 1 rfl (by decide) hn0 (Decidable.not_not.mp h_1) hm8) rfl ?_
    refine vv_aload_n F dX3_put_34 rfl rfl ?_
    refine vv_get 0 F fl_X3_9 dX3_put_35 rfl rfl ?_
    refine vv_iload F dX3_put_38 rfl ?_
    refine vv_iconst (v := 2) F dX3_put_40 (by decide) ?_
    refine vv_iadd F dX3_put_41 ?_
    refine vv_iload_n F dX3_put_42 rfl rfl ?_
    refine vv_iast 1 (ws' := [(h, .inr (2, [.ref a, .int m, .int n])), (a, .inl ((vv_k x).2.1.1, 32, .inl (upd (upd (upd f (4 * n.toNatClampNeg + 0) b0) (4 * n.toNatClampNeg + 1) b1) (4 * n.toNatClampNeg + 2) b2)))]) F dX3_put_43 rfl (ix_p 2 2 rfl (by decide) hn0 (Decidable.not_not.mp h_1) hm8) rfl ?_
    refine vv_aload_n F dX3_put_44 rfl rfl ?_
    refine vv_get 0 F fl_X3_9 dX3_put_45 rfl rfl ?_
    refine vv_iload F dX3_put_48 rfl ?_
    refine vv_iconst (v := 3) F dX3_put_50 (by decide) ?_
    refine vv_iadd F dX3_put_51 ?_
    refine vv_iload F dX3_put_52 rfl ?_
    refine vv_iast 1 (ws' := [(h, .inr (2, [.ref a, .int m, .int n])), (a, .inl ((vv_k x).2.1.1, 32, .inl (upd (upd (upd (upd f (4 * n.toNatClampNeg + 0) b0) (4 * n.toNatClampNeg + 1) b1) (4 * n.toNatClampNeg + 2) b2) (4 * n.toNatClampNeg + 3) b3)))]) F dX3_put_54 rfl (ix_p 3 3 rfl (by decide) hn0 (Decidable.not_not.mp h_1) hm8) rfl ?_
    refine vv_aload_n F dX3_put_55 rfl rfl ?_
    refine vv_dup F dX3_put_56 rfl ?_
    refine vv_get 0 F fl_X3_23 dX3_put_57 rfl rfl ?_
    refine vv_iconst (v := 1) F dX3_put_60 (by decide) ?_
    refine vv_iadd F dX3_put_61 ?_
    refine vv_put 0 (ws' := [(h, .inr (2, [.ref a, .int m, .int (n + 1)])), (a, .inl ((vv_k x).2.1.1, 32, .inl (upd (upd (upd (upd f (4 * n.toNatClampNeg + 0) b0) (4 * n.toNatClampNeg + 1) b1) (4 * n.toNatClampNeg + 2) b2) (4 * n.toNatClampNeg + 3) b3)))]) F fl_X3_23 dX3_put_62 rfl rfl rfl (Nat.le_of_ble_eq_true rfl) rfl ?_
    exact vv_vret F hR dX3_put_65 rfl (by simp only [g_X3_put_0_2, g_X3_put_1, if_neg h_1])
  · exact vv_vret F hR dX3_put_7 rfl (by simp only [g_X3_put_0_2, g_X3_put_1, if_pos h_1])
theorem c_X3_copyFrom (l : Launch) (K : vv_K) (h a : Nat) (m n : Int32) (f : Nat → Int32) (h2 a2 : Nat) (m2 n2 : Int32) (f2 : Nat → Int32)  : vv_C l K 2 yX3_copyFrom cX3_copyFrom 2 none [.ref h, .ref h2] [(h, .inr (2, [.ref a, .int m, .int n])), (a, .inl (K.2.1.1, 32, .inl f)), (h2, .inr (2, [.ref a2, .int m2, .int n2])), (a2, .inl (K.2.1.1, 32, .inl f2))] none [(h, .inr (2, [.ref a, .int m, .int n2])), (a, .inl (K.2.1.1, 32, .inl (va_cpy f2 f 0 0 32))), (h2, .inr (2, [.ref a2, .int m2, .int n2])), (a2, .inl (K.2.1.1, 32, .inl f2))] := by
  refine vv_C.of (lv := [(0, .ref h), (1, .ref h2)]) (by decide +kernel) (Nat.le_of_ble_eq_true rfl) rfl ?_
  intro x hl hK F hR; subst hl; obtain rfl := hK
  refine vv_aload_n F dX3_copyFrom_0 rfl rfl ?_
  refine vv_get 2 F fl_X3_9 dX3_copyFrom_1 rfl rfl ?_
  refine vv_iconst (v := 0) F dX3_copyFrom_4 (by decide) ?_
  refine vv_aload_n F dX3_copyFrom_5 rfl rfl ?_
  refine vv_get 0 F fl_X3_9 dX3_copyFrom_6 rfl rfl ?_
  refine vv_iconst (v := 0) F dX3_copyFrom_9 (by decide) ?_
  refine vv_bipush (v := 32) F dX3_copyFrom_10 (by decide) ?_
  refine vv_copyi (n := 32) 3 1 (ws' := [(h, .inr (2, [.ref a, .int m, .int n])), (a, .inl ((vv_k x).2.1.1, 32, .inl (va_cpy f2 f 0 0 32))), (h2, .inr (2, [.ref a2, .int m2, .int n2])), (a2, .inl ((vv_k x).2.1.1, 32, .inl f2))]) F mm_X3_30 nat_copy st_copy in_System (by decide) (Nat.le_of_ble_eq_true rfl) rfl rfl (by decide) (by decide) (by decide) (by decide) dX3_copyFrom_12 rfl ?_
  refine vv_aload_n F dX3_copyFrom_15 rfl rfl ?_
  refine vv_aload_n F dX3_copyFrom_16 rfl rfl ?_
  refine vv_get 2 F fl_X3_23 dX3_copyFrom_17 rfl rfl ?_
  refine vv_put 0 (ws' := [(h, .inr (2, [.ref a, .int m, .int n2])), (a, .inl ((vv_k x).2.1.1, 32, .inl (va_cpy f2 f 0 0 32))), (h2, .inr (2, [.ref a2, .int m2, .int n2])), (a2, .inl ((vv_k x).2.1.1, 32, .inl f2))]) F fl_X3_23 dX3_copyFrom_20 rfl rfl rfl (Nat.le_of_ble_eq_true rfl) rfl ?_
  exact vv_vret F hR dX3_copyFrom_23 rfl rfl
noncomputable def f_X2_figure (ln hb ha pu hl sm hr w : Int32) : Int32 := (if w = 0 then ln else (if w = 1 then hb else (if w = 2 then ha else (if w = 3 then pu else (if w = 4 then hl else (if w = 5 then sm else hr))))))
theorem c_X2_figure (l : Launch) (K : vv_K) (hP hS hC hN hM hU : Nat) (ln hb ha pu hl sm hr w : Int32)  : vv_C l K 1 yX2_figure cX2_figure 2 (some .int) [.ref hP, .int w] [(hP, .inr (1, [.int ln, .int hb, .int ha, .int pu, .int hl, .int sm, .int hr, .ref hS, .ref hC, .ref hN, .ref hM, .ref hU]))] (some (.int (f_X2_figure ln hb ha pu hl sm hr w))) [(hP, .inr (1, [.int ln, .int hb, .int ha, .int pu, .int hl, .int sm, .int hr, .ref hS, .ref hC, .ref hN, .ref hM, .ref hU]))] := by
  refine vv_C.of (lv := [(0, .ref hP), (1, .int w)]) (by decide +kernel) (Nat.le_of_ble_eq_true rfl) rfl ?_
  intro x hl hK F hR; subst hl; obtain rfl := hK
  refine vv_iload_n F dX2_figure_0 rfl rfl ?_
  by_cases h_1 : w = 0
  · refine vv_tabIn (tgt := 40) (off := 39) F dX2_figure_1 (by rw [h_1]; decide) (by rw [h_1]; decide) (by rw [h_1]; rfl) (by decide) ?_
    refine vv_aload_n F dX2_figure_40 rfl rfl ?_
    refine vv_get 0 F fl_X2_9 dX2_figure_41 rfl rfl ?_
    exact vv_iret F hR dX2_figure_44 (congrArg (fun z => some (Value.int z)) ((if_pos h_1).trans rfl)) rfl
  · by_cases h_2 : w = 1
    · refine vv_tabIn (tgt := 45) (off := 44) F dX2_figure_1 (by rw [h_2]; decide) (by rw [h_2]; decide) (by rw [h_2]; rfl) (by decide) ?_
      refine vv_aload_n F dX2_figure_45 rfl rfl ?_
      refine vv_get 0 F fl_X2_39 dX2_figure_46 rfl rfl ?_
      exact vv_iret F hR dX2_figure_49 (congrArg (fun z => some (Value.int z)) ((if_neg h_1).trans ((if_pos h_2).trans rfl))) rfl
    · by_cases h_3 : w = 2
      · refine vv_tabIn (tgt := 50) (off := 49) F dX2_figure_1 (by rw [h_3]; decide) (by rw [h_3]; decide) (by rw [h_3]; rfl) (by decide) ?_
        refine vv_aload_n F dX2_figure_50 rfl rfl ?_
        refine vv_get 0 F fl_X2_42 dX2_figure_51 rfl rfl ?_
        exact vv_iret F hR dX2_figure_54 (congrArg (fun z => some (Value.int z)) ((if_neg h_1).trans ((if_neg h_2).trans ((if_pos h_3).trans rfl)))) rfl
      · by_cases h_4 : w = 3
        · refine vv_tabIn (tgt := 55) (off := 54) F dX2_figure_1 (by rw [h_4]; decide) (by rw [h_4]; decide) (by rw [h_4]; rfl) (by decide) ?_
          refine vv_aload_n F dX2_figure_55 rfl rfl ?_
          refine vv_get 0 F fl_X2_15 dX2_figure_56 rfl rfl ?_
          exact vv_iret F hR dX2_figure_59 (congrArg (fun z => some (Value.int z)) ((if_neg h_1).trans ((if_neg h_2).trans ((if_neg h_3).trans ((if_pos h_4).trans rfl))))) rfl
        · by_cases h_5 : w = 4
          · refine vv_tabIn (tgt := 60) (off := 59) F dX2_figure_1 (by rw [h_5]; decide) (by rw [h_5]; decide) (by rw [h_5]; rfl) (by decide) ?_
            refine vv_aload_n F dX2_figure_60 rfl rfl ?_
            refine vv_get 0 F fl_X2_45 dX2_figure_61 rfl rfl ?_
            exact vv_iret F hR dX2_figure_64 (congrArg (fun z => some (Value.int z)) ((if_neg h_1).trans ((if_neg h_2).trans ((if_neg h_3).trans ((if_neg h_4).trans ((if_pos h_5).trans rfl)))))) rfl
          · by_cases h_6 : w = 5
            · refine vv_tabIn (tgt := 65) (off := 64) F dX2_figure_1 (by rw [h_6]; decide) (by rw [h_6]; decide) (by rw [h_6]; rfl) (by decide) ?_
              refine vv_aload_n F dX2_figure_65 rfl rfl ?_
              refine vv_get 0 F fl_X2_48 dX2_figure_66 rfl rfl ?_
              exact vv_iret F hR dX2_figure_69 (congrArg (fun z => some (Value.int z)) ((if_neg h_1).trans ((if_neg h_2).trans ((if_neg h_3).trans ((if_neg h_4).trans ((if_neg h_5).trans ((if_pos h_6).trans rfl))))))) rfl
            · refine vv_tabOut (tgt := 70) F dX2_figure_1 (by have h_1i : ¬ w.toInt = 0 := vv_ne h_1; have h_2i : ¬ w.toInt = 1 := vv_ne h_2; have h_3i : ¬ w.toInt = 2 := vv_ne h_3; have h_4i : ¬ w.toInt = 3 := vv_ne h_4; have h_5i : ¬ w.toInt = 4 := vv_ne h_5; have h_6i : ¬ w.toInt = 5 := vv_ne h_6; omega) (by decide) ?_
              refine vv_aload_n F dX2_figure_70 rfl rfl ?_
              refine vv_get 0 F fl_X2_51 dX2_figure_71 rfl rfl ?_
              exact vv_iret F hR dX2_figure_74 (congrArg (fun z => some (Value.int z)) ((if_neg h_1).trans ((if_neg h_2).trans ((if_neg h_3).trans ((if_neg h_4).trans ((if_neg h_5).trans ((if_neg h_6).trans rfl))))))) rfl
noncomputable def f_X2_houseKind (hb ha w : Int32) : Int32 := (if w = 0 then hb else ha)
theorem c_X2_houseKind (l : Launch) (K : vv_K) (hP hS hC hN hM hU : Nat) (ln hb ha pu hl sm hr w : Int32)  : vv_C l K 1 yX2_houseKind cX2_houseKind 2 (some .int) [.ref hP, .int w] [(hP, .inr (1, [.int ln, .int hb, .int ha, .int pu, .int hl, .int sm, .int hr, .ref hS, .ref hC, .ref hN, .ref hM, .ref hU]))] (some (.int (f_X2_houseKind hb ha w))) [(hP, .inr (1, [.int ln, .int hb, .int ha, .int pu, .int hl, .int sm, .int hr, .ref hS, .ref hC, .ref hN, .ref hM, .ref hU]))] := by
  refine vv_C.of (lv := [(0, .ref hP), (1, .int w)]) (by decide +kernel) (Nat.le_of_ble_eq_true rfl) rfl ?_
  intro x hl hK F hR; subst hl; obtain rfl := hK
  refine vv_iload_n F dX2_houseKind_0 rfl rfl ?_
  refine vv_if_ne (tgt := 11) F dX2_houseKind_1 (by decide) (fun h_1 => ?_) (fun h_1 => ?_)
  · refine vv_aload_n F dX2_houseKind_11 rfl rfl ?_
    refine vv_get 0 F fl_X2_42 dX2_houseKind_12 rfl rfl ?_
    exact vv_iret F hR dX2_houseKind_15 (congrArg (fun z => some (Value.int z)) ((if_neg h_1).trans rfl)) rfl
  · refine vv_aload_n F dX2_houseKind_4 rfl rfl ?_
    refine vv_get 0 F fl_X2_39 dX2_houseKind_5 rfl rfl ?_
    refine vv_goto (tgt := 15) F dX2_houseKind_8 (by decide) ?_
    exact vv_iret F hR dX2_houseKind_15 (congrArg (fun z => some (Value.int z)) ((if_pos h_1).trans rfl)) rfl
noncomputable def g_X2_setHouse_0_1 (hb w k : Int32) : Int32 := (if w = 0 then k else hb)
noncomputable def g_X2_setHouse_0_2 (ha w k : Int32) : Int32 := (if w = 0 then ha else k)
theorem c_X2_setHouse (l : Launch) (K : vv_K) (hP hS hC hN hM hU : Nat) (ln hb ha pu hl sm hr w k : Int32)  : vv_C l K 1 yX2_setHouse cX2_setHouse 3 none [.ref hP, .int w, .int k] [(hP, .inr (1, [.int ln, .int hb, .int ha, .int pu, .int hl, .int sm, .int hr, .ref hS, .ref hC, .ref hN, .ref hM, .ref hU]))] none [(hP, .inr (1, [.int ln, .int (g_X2_setHouse_0_1 hb w k), .int (g_X2_setHouse_0_2 ha w k), .int pu, .int hl, .int sm, .int hr, .ref hS, .ref hC, .ref hN, .ref hM, .ref hU]))] := by
  refine vv_C.of (lv := [(0, .ref hP), (1, .int w), (2, .int k)]) (by decide +kernel) (Nat.le_of_ble_eq_true rfl) rfl ?_
  intro x hl hK F hR; subst hl; obtain rfl := hK
  refine vv_iload_n F dX2_setHouse_0 rfl rfl ?_
  refine vv_if_ne (tgt := 12) F dX2_setHouse_1 (by decide) (fun h_1 => ?_) (fun h_1 => ?_)
  · refine vv_aload_n F dX2_setHouse_12 rfl rfl ?_
    refine vv_iload_n F dX2_setHouse_13 rfl rfl ?_
    refine vv_put 0 (ws' := [(hP, .inr (1, [.int ln, .int hb, .int k, .int pu, .int hl, .int sm, .int hr, .ref hS, .ref hC, .ref hN, .ref hM, .ref hU]))]) F fl_X2_42 dX2_setHouse_14 rfl rfl rfl (Nat.le_of_ble_eq_true rfl) rfl ?_
    exact vv_vret F hR dX2_setHouse_17 rfl (by simp only [g_X2_setHouse_0_1, g_X2_setHouse_0_2, if_neg h_1])
  · refine vv_aload_n F dX2_setHouse_4 rfl rfl ?_
    refine vv_iload_n F dX2_setHouse_5 rfl rfl ?_
    refine vv_put 0 (ws' := [(hP, .inr (1, [.int ln, .int k, .int ha, .int pu, .int hl, .int sm, .int hr, .ref hS, .ref hC, .ref hN, .ref hM, .ref hU]))]) F fl_X2_39 dX2_setHouse_6 rfl rfl rfl (Nat.le_of_ble_eq_true rfl) rfl ?_
    refine vv_goto (tgt := 17) F dX2_setHouse_9 (by decide) ?_
    exact vv_vret F hR dX2_setHouse_17 rfl (by simp only [g_X2_setHouse_0_1, g_X2_setHouse_0_2, if_pos h_1])
theorem c_X2_waitHours (l : Launch) (K : vv_K) (hP hS hC hN hM hU : Nat) (ln hb ha pu hl sm hr k : Int32)  : vv_C l K 1 yX2_waitHours cX2_waitHours 2 none [.ref hP, .int k] [(hP, .inr (1, [.int ln, .int hb, .int ha, .int pu, .int hl, .int sm, .int hr, .ref hS, .ref hC, .ref hN, .ref hM, .ref hU]))] none [(hP, .inr (1, [.int ln, .int hb, .int ha, .int pu, .int hl, .int sm, .int (if 9999 < (hr + k) then 9999 else (hr + k)), .ref hS, .ref hC, .ref hN, .ref hM, .ref hU]))] := by
  refine vv_C.of (lv := [(0, .ref hP), (1, .int k)]) (by decide +kernel) (Nat.le_of_ble_eq_true rfl) rfl ?_
  intro x hl hK F hR; subst hl; obtain rfl := hK
  refine vv_aload_n F dX2_waitHours_0 rfl rfl ?_
  refine vv_aload_n F dX2_waitHours_1 rfl rfl ?_
  refine vv_get 0 F fl_X2_51 dX2_waitHours_2 rfl rfl ?_
  refine vv_iload_n F dX2_waitHours_5 rfl rfl ?_
  refine vv_iadd F dX2_waitHours_6 ?_
  refine vv_sipush (v := 9999) F dX2_waitHours_7 (by decide) ?_
  refine vv_mmin F mm_X2_100 st_min in_Math co_min (by decide) (Nat.le_of_ble_eq_true rfl) dX2_waitHours_10 ?_
  refine vv_put 0 (ws' := [(hP, .inr (1, [.int ln, .int hb, .int ha, .int pu, .int hl, .int sm, .int (if 9999 < (hr + k) then 9999 else (hr + k)), .ref hS, .ref hC, .ref hN, .ref hM, .ref hU]))]) F fl_X2_51 dX2_waitHours_13 rfl rfl rfl (Nat.le_of_ble_eq_true rfl) rfl ?_
  exact vv_vret F hR dX2_waitHours_16 rfl rfl
noncomputable def f_X2_tollOn (hb ha s t : Int32) : Int32 := ((f_X1_charged hb s (t / 24)) + (f_X1_charged ha s (t / 24)))
theorem c_X2_tollOn (l : Launch) (K : vv_K) (hP hS hC hN hM hU : Nat) (ln hb ha pu hl sm hr s t : Int32)  : vv_C l K 3 yX2_tollOn cX2_tollOn 4 (some .int) [.ref hP, .int s, .int t] [(hP, .inr (1, [.int ln, .int hb, .int ha, .int pu, .int hl, .int sm, .int hr, .ref hS, .ref hC, .ref hN, .ref hM, .ref hU]))] (some (.int (f_X2_tollOn hb ha s t))) [(hP, .inr (1, [.int ln, .int hb, .int ha, .int pu, .int hl, .int sm, .int hr, .ref hS, .ref hC, .ref hN, .ref hM, .ref hU]))] := by
  refine vv_C.of (lv := [(0, .ref hP), (1, .int s), (2, .int t)]) (by decide +kernel) (Nat.le_of_ble_eq_true rfl) rfl ?_
  intro x hl hK F hR; subst hl; obtain rfl := hK
  refine vv_iload_n F dX2_tollOn_0 rfl rfl ?_
  refine vv_bipush (v := 24) F dX2_tollOn_1 (by decide) ?_
  refine vv_idiv F dX2_tollOn_3 (by decide) ?_
  refine vv_istore_n (lv' := [(3, .int (t / 24)), (0, .ref hP), (1, .int s), (2, .int t)]) F dX2_tollOn_4 rfl (by decide) rfl ?_
  refine vv_aload_n F dX2_tollOn_5 rfl rfl ?_
  refine vv_get 0 F fl_X2_39 dX2_tollOn_6 rfl rfl ?_
  refine vv_iload_n F dX2_tollOn_9 rfl rfl ?_
  refine vv_iload_n F dX2_tollOn_10 rfl rfl ?_
  refine vv_callSp (As := [.int hb, .int s, .int (t / 24)]) (rest := []) [] F (c_X1_charged (vv_l x) (vv_k x) hb s (t / 24)) ms_X2_94 dX2_tollOn_11 (by decide) rfl rfl (Nat.le_of_ble_eq_true rfl) rfl (by decide) ?_
  refine vv_aload_n F dX2_tollOn_14 rfl rfl ?_
  refine vv_get 0 F fl_X2_42 dX2_tollOn_15 rfl rfl ?_
  refine vv_iload_n F dX2_tollOn_18 rfl rfl ?_
  refine vv_iload_n F dX2_tollOn_19 rfl rfl ?_
  refine vv_callSp (As := [.int ha, .int s, .int (t / 24)]) (rest := [.int (f_X1_charged hb s (t / 24))]) [] F (c_X1_charged (vv_l x) (vv_k x) ha s (t / 24)) ms_X2_94 dX2_tollOn_20 (by decide) rfl rfl (Nat.le_of_ble_eq_true rfl) rfl (by decide) ?_
  refine vv_iadd F dX2_tollOn_23 ?_
  exact vv_iret F hR dX2_tollOn_24 rfl rfl
noncomputable def f_X2_costOfCut (hb ha hr k c1 c2 : Int32) : Int32 := ((f_X2_tollOn hb ha (f_X1_shown k c1 hr) hr) + (f_X2_tollOn hb ha (f_X1_shown k c2 hr) hr))
theorem c_X2_costOfCut (l : Launch) (K : vv_K) (hP hS hC hN hM hU : Nat) (ln hb ha pu hl sm hr k c1 c2 : Int32)  : vv_C l K 4 yX2_costOfCut cX2_costOfCut 4 (some .int) [.ref hP, .int k, .int c1, .int c2] [(hP, .inr (1, [.int ln, .int hb, .int ha, .int pu, .int hl, .int sm, .int hr, .ref hS, .ref hC, .ref hN, .ref hM, .ref hU]))] (some (.int (f_X2_costOfCut hb ha hr k c1 c2))) [(hP, .inr (1, [.int ln, .int hb, .int ha, .int pu, .int hl, .int sm, .int hr, .ref hS, .ref hC, .ref hN, .ref hM, .ref hU]))] := by
  refine vv_C.of (lv := [(0, .ref hP), (1, .int k), (2, .int c1), (3, .int c2)]) (by decide +kernel) (Nat.le_of_ble_eq_true rfl) rfl ?_
  intro x hl hK F hR; subst hl; obtain rfl := hK
  refine vv_aload_n F dX2_costOfCut_0 rfl rfl ?_
  refine vv_iload_n F dX2_costOfCut_1 rfl rfl ?_
  refine vv_iload_n F dX2_costOfCut_2 rfl rfl ?_
  refine vv_aload_n F dX2_costOfCut_3 rfl rfl ?_
  refine vv_get 0 F fl_X2_51 dX2_costOfCut_4 rfl rfl ?_
  refine vv_callSp (As := [.int k, .int c1, .int hr]) (rest := [.ref hP]) [] F (c_X1_shown (vv_l x) (vv_k x) k c1 hr) ms_X2_79 dX2_costOfCut_7 (by decide) rfl rfl (Nat.le_of_ble_eq_true rfl) rfl (by decide) ?_
  refine vv_aload_n F dX2_costOfCut_10 rfl rfl ?_
  refine vv_get 0 F fl_X2_51 dX2_costOfCut_11 rfl rfl ?_
  refine vv_callVp (As := [.int (f_X1_shown k c1 hr), .int hr]) (rest := []) [0] 0 F (c_X2_tollOn (vv_l x) (vv_k x) hP hS hC hN hM hU ln hb ha pu hl sm hr (f_X1_shown k c1 hr) hr) mv_X2_88 dX2_costOfCut_14 (by decide) rfl rfl (Nat.le_of_ble_eq_true rfl) rfl (by decide) rfl ?_
  refine vv_aload_n F dX2_costOfCut_17 rfl rfl ?_
  refine vv_iload_n F dX2_costOfCut_18 rfl rfl ?_
  refine vv_iload_n F dX2_costOfCut_19 rfl rfl ?_
  refine vv_aload_n F dX2_costOfCut_20 rfl rfl ?_
  refine vv_get 0 F fl_X2_51 dX2_costOfCut_21 rfl rfl ?_
  refine vv_callSp (As := [.int k, .int c2, .int hr]) (rest := [.ref hP, .int (f_X2_tollOn hb ha (f_X1_shown k c1 hr) hr)]) [] F (c_X1_shown (vv_l x) (vv_k x) k c2 hr) ms_X2_79 dX2_costOfCut_24 (by decide) rfl rfl (Nat.le_of_ble_eq_true rfl) rfl (by decide) ?_
  refine vv_aload_n F dX2_costOfCut_27 rfl rfl ?_
  refine vv_get 0 F fl_X2_51 dX2_costOfCut_28 rfl rfl ?_
  refine vv_callVp (As := [.int (f_X1_shown k c2 hr), .int hr]) (rest := [.int (f_X2_tollOn hb ha (f_X1_shown k c1 hr) hr)]) [0] 0 F (c_X2_tollOn (vv_l x) (vv_k x) hP hS hC hN hM hU ln hb ha pu hl sm hr (f_X1_shown k c2 hr) hr) mv_X2_88 dX2_costOfCut_31 (by decide) rfl rfl (Nat.le_of_ble_eq_true rfl) rfl (by decide) rfl ?_
  refine vv_iadd F dX2_costOfCut_34 ?_
  exact vv_iret F hR dX2_costOfCut_35 rfl rfl
theorem c_X2_has (l : Launch) (K : vv_K) (hP hS hC hN hM hU : Nat) (ln hb ha pu hl sm hr : Int32) (aS : Nat) (mS nS i : Int32)  : vv_C l K 2 yX2_has cX2_has 2 (some .boolean) [.ref hP, .int i] [(hP, .inr (1, [.int ln, .int hb, .int ha, .int pu, .int hl, .int sm, .int hr, .ref hS, .ref hC, .ref hN, .ref hM, .ref hU])), (hS, .inr (2, [.ref aS, .int mS, .int nS]))] (some (.int (vv_b (p_X7_within i 0 (nS - 1))))) [(hP, .inr (1, [.int ln, .int hb, .int ha, .int pu, .int hl, .int sm, .int hr, .ref hS, .ref hC, .ref hN, .ref hM, .ref hU])), (hS, .inr (2, [.ref aS, .int mS, .int nS]))] := by
  refine vv_C.of (lv := [(0, .ref hP), (1, .int i)]) (by decide +kernel) (Nat.le_of_ble_eq_true rfl) rfl ?_
  intro x hl hK F hR; subst hl; obtain rfl := hK
  refine vv_iload_n F dX2_has_0 rfl rfl ?_
  refine vv_iconst (v := 0) F dX2_has_1 (by decide) ?_
  refine vv_aload_n F dX2_has_2 rfl rfl ?_
  refine vv_get 0 F fl_X2_23 dX2_has_3 rfl rfl ?_
  refine vv_get 1 F fl_X2_61 dX2_has_6 rfl rfl ?_
  refine vv_iconst (v := 1) F dX2_has_9 (by decide) ?_
  refine vv_isub F dX2_has_10 ?_
  refine vv_callSp (As := [.int i, .int 0, .int (nS - 1)]) (rest := []) [] F (c_X7_within (vv_l x) (vv_k x) i 0 (nS - 1)) ms_X2_64 dX2_has_11 (by decide) rfl rfl (Nat.le_of_ble_eq_true rfl) rfl (by decide) ?_
  exact vv_zret F hR dX2_has_14 (vv_b_nar _) rfl rfl
theorem c_X2_kindOf (l : Launch) (K : vv_K) (hP hS hC hN hM hU : Nat) (ln hb ha pu hl sm hr : Int32) (aS : Nat) (mS nS : Int32) (fS : Nat → Int32) (i : Int32) (hn8 : nS.toInt ≤ 8) : vv_C l K 2 yX2_kindOf cX2_kindOf 2 (some .int) [.ref hP, .int i] [(hP, .inr (1, [.int ln, .int hb, .int ha, .int pu, .int hl, .int sm, .int hr, .ref hS, .ref hC, .ref hN, .ref hM, .ref hU])), (hS, .inr (2, [.ref aS, .int mS, .int nS])), (aS, .inl (K.2.1.1, 32, .inl fS))] (some (.int (f_X3_cell nS fS i 0))) [(hP, .inr (1, [.int ln, .int hb, .int ha, .int pu, .int hl, .int sm, .int hr, .ref hS, .ref hC, .ref hN, .ref hM, .ref hU])), (hS, .inr (2, [.ref aS, .int mS, .int nS])), (aS, .inl (K.2.1.1, 32, .inl fS))] := by
  refine vv_C.of (lv := [(0, .ref hP), (1, .int i)]) (by decide +kernel) (Nat.le_of_ble_eq_true rfl) rfl ?_
  intro x hl hK F hR; subst hl; obtain rfl := hK
  refine vv_aload_n F dX2_kindOf_0 rfl rfl ?_
  refine vv_get 0 F fl_X2_23 dX2_kindOf_1 rfl rfl ?_
  refine vv_iload_n F dX2_kindOf_4 rfl rfl ?_
  refine vv_iconst (v := 0) F dX2_kindOf_5 (by decide) ?_
  refine vv_callVp (As := [.int i, .int 0]) (rest := []) [1, 2] 1 F (c_X3_cell (vv_l x) (vv_k x) hS aS mS nS fS i 0 hn8) mv_X2_68 dX2_kindOf_6 (by decide) rfl rfl (Nat.le_of_ble_eq_true rfl) rfl (by decide) rfl ?_
  exact vv_iret F hR dX2_kindOf_9 rfl rfl
theorem c_X2_lengthOf (l : Launch) (K : vv_K) (hP hS hC hN hM hU : Nat) (ln hb ha pu hl sm hr : Int32) (aS : Nat) (mS nS : Int32) (fS : Nat → Int32) (i : Int32) (hn8 : nS.toInt ≤ 8) : vv_C l K 2 yX2_lengthOf cX2_lengthOf 2 (some .int) [.ref hP, .int i] [(hP, .inr (1, [.int ln, .int hb, .int ha, .int pu, .int hl, .int sm, .int hr, .ref hS, .ref hC, .ref hN, .ref hM, .ref hU])), (hS, .inr (2, [.ref aS, .int mS, .int nS])), (aS, .inl (K.2.1.1, 32, .inl fS))] (some (.int (f_X3_cell nS fS i 1))) [(hP, .inr (1, [.int ln, .int hb, .int ha, .int pu, .int hl, .int sm, .int hr, .ref hS, .ref hC, .ref hN, .ref hM, .ref hU])), (hS, .inr (2, [.ref aS, .int mS, .int nS])), (aS, .inl (K.2.1.1, 32, .inl fS))] := by
  refine vv_C.of (lv := [(0, .ref hP), (1, .int i)]) (by decide +kernel) (Nat.le_of_ble_eq_true rfl) rfl ?_
  intro x hl hK F hR; subst hl; obtain rfl := hK
  refine vv_aload_n F dX2_lengthOf_0 rfl rfl ?_
  refine vv_get 0 F fl_X2_23 dX2_lengthOf_1 rfl rfl ?_
  refine vv_iload_n F dX2_lengthOf_4 rfl rfl ?_
  refine vv_iconst (v := 1) F dX2_lengthOf_5 (by decide) ?_
  refine vv_callVp (As := [.int i, .int 1]) (rest := []) [1, 2] 1 F (c_X3_cell (vv_l x) (vv_k x) hS aS mS nS fS i 1 hn8) mv_X2_68 dX2_lengthOf_6 (by decide) rfl rfl (Nat.le_of_ble_eq_true rfl) rfl (by decide) rfl ?_
  exact vv_iret F hR dX2_lengthOf_9 rfl rfl
noncomputable def f_X2_shownIn (hr nS : Int32) (fS : Nat → Int32) (i t : Int32) : Int32 := (f_X1_shown (f_X3_cell nS fS i 0) (f_X3_cell nS fS i 1) (hr + t))
theorem c_X2_shownIn (l : Launch) (K : vv_K) (hP hS hC hN hM hU : Nat) (ln hb ha pu hl sm hr : Int32) (aS : Nat) (mS nS : Int32) (fS : Nat → Int32) (i t : Int32) (hn8 : nS.toInt ≤ 8) : vv_C l K 3 yX2_shownIn cX2_shownIn 3 (some .int) [.ref hP, .int i, .int t] [(hP, .inr (1, [.int ln, .int hb, .int ha, .int pu, .int hl, .int sm, .int hr, .ref hS, .ref hC, .ref hN, .ref hM, .ref hU])), (hS, .inr (2, [.ref aS, .int mS, .int nS])), (aS, .inl (K.2.1.1, 32, .inl fS))] (some (.int (f_X2_shownIn hr nS fS i t))) [(hP, .inr (1, [.int ln, .int hb, .int ha, .int pu, .int hl, .int sm, .int hr, .ref hS, .ref hC, .ref hN, .ref hM, .ref hU])), (hS, .inr (2, [.ref aS, .int mS, .int nS])), (aS, .inl (K.2.1.1, 32, .inl fS))] := by
  refine vv_C.of (lv := [(0, .ref hP), (1, .int i), (2, .int t)]) (by decide +kernel) (Nat.le_of_ble_eq_true rfl) rfl ?_
  intro x hl hK F hR; subst hl; obtain rfl := hK
  refine vv_aload_n F dX2_shownIn_0 rfl rfl ?_
  refine vv_iload_n F dX2_shownIn_1 rfl rfl ?_
  refine vv_callVp (As := [.int i]) (rest := []) [0, 1, 2] 0 F (c_X2_kindOf (vv_l x) (vv_k x) hP hS hC hN hM hU ln hb ha pu hl sm hr aS mS nS fS i hn8) mv_X2_72 dX2_shownIn_2 (by decide) rfl rfl (Nat.le_of_ble_eq_true rfl) rfl (by decide) rfl ?_
  refine vv_aload_n F dX2_shownIn_5 rfl rfl ?_
  refine vv_iload_n F dX2_shownIn_6 rfl rfl ?_
  refine vv_callVp (As := [.int i]) (rest := [.int (f_X3_cell nS fS i 0)]) [0, 1, 2] 0 F (c_X2_lengthOf (vv_l x) (vv_k x) hP hS hC hN hM hU ln hb ha pu hl sm hr aS mS nS fS i hn8) mv_X2_76 dX2_shownIn_7 (by decide) rfl rfl (Nat.le_of_ble_eq_true rfl) rfl (by decide) rfl ?_
  refine vv_aload_n F dX2_shownIn_10 rfl rfl ?_
  refine vv_get 0 F fl_X2_51 dX2_shownIn_11 rfl rfl ?_
  refine vv_iload_n F dX2_shownIn_14 rfl rfl ?_
  refine vv_iadd F dX2_shownIn_15 ?_
  refine vv_callSp (As := [.int (f_X3_cell nS fS i 0), .int (f_X3_cell nS fS i 1), .int (hr + t)]) (rest := []) [] F (c_X1_shown (vv_l x) (vv_k x) (f_X3_cell nS fS i 0) (f_X3_cell nS fS i 1) (hr + t)) ms_X2_79 dX2_shownIn_16 (by decide) rfl rfl (Nat.le_of_ble_eq_true rfl) rfl (by decide) ?_
  exact vv_iret F hR dX2_shownIn_19 rfl rfl
noncomputable def f_X2_costIn (hb ha hr nS : Int32) (fS : Nat → Int32) (i t : Int32) : Int32 := (f_X2_tollOn hb ha (f_X2_shownIn hr nS fS i t) (hr + t))
theorem c_X2_costIn (l : Launch) (K : vv_K) (hP hS hC hN hM hU : Nat) (ln hb ha pu hl sm hr : Int32) (aS : Nat) (mS nS : Int32) (fS : Nat → Int32) (i t : Int32) (hn8 : nS.toInt ≤ 8) : vv_C l K 4 yX2_costIn cX2_costIn 3 (some .int) [.ref hP, .int i, .int t] [(hP, .inr (1, [.int ln, .int hb, .int ha, .int pu, .int hl, .int sm, .int hr, .ref hS, .ref hC, .ref hN, .ref hM, .ref hU])), (hS, .inr (2, [.ref aS, .int mS, .int nS])), (aS, .inl (K.2.1.1, 32, .inl fS))] (some (.int (f_X2_costIn hb ha hr nS fS i t))) [(hP, .inr (1, [.int ln, .int hb, .int ha, .int pu, .int hl, .int sm, .int hr, .ref hS, .ref hC, .ref hN, .ref hM, .ref hU])), (hS, .inr (2, [.ref aS, .int mS, .int nS])), (aS, .inl (K.2.1.1, 32, .inl fS))] := by
  refine vv_C.of (lv := [(0, .ref hP), (1, .int i), (2, .int t)]) (by decide +kernel) (Nat.le_of_ble_eq_true rfl) rfl ?_
  intro x hl hK F hR; subst hl; obtain rfl := hK
  refine vv_aload_n F dX2_costIn_0 rfl rfl ?_
  refine vv_aload_n F dX2_costIn_1 rfl rfl ?_
  refine vv_iload_n F dX2_costIn_2 rfl rfl ?_
  refine vv_iload_n F dX2_costIn_3 rfl rfl ?_
  refine vv_callVp (As := [.int i, .int t]) (rest := [.ref hP]) [0, 1, 2] 0 F (c_X2_shownIn (vv_l x) (vv_k x) hP hS hC hN hM hU ln hb ha pu hl sm hr aS mS nS fS i t hn8) mv_X2_85 dX2_costIn_4 (by decide) rfl rfl (Nat.le_of_ble_eq_true rfl) rfl (by decide) rfl ?_
  refine vv_aload_n F dX2_costIn_7 rfl rfl ?_
  refine vv_get 0 F fl_X2_51 dX2_costIn_8 rfl rfl ?_
  refine vv_iload_n F dX2_costIn_11 rfl rfl ?_
  refine vv_iadd F dX2_costIn_12 ?_
  refine vv_callVp (As := [.int (f_X2_shownIn hr nS fS i t), .int (hr + t)]) (rest := []) [0] 0 F (c_X2_tollOn (vv_l x) (vv_k x) hP hS hC hN hM hU ln hb ha pu hl sm hr (f_X2_shownIn hr nS fS i t) (hr + t)) mv_X2_88 dX2_costIn_13 (by decide) rfl rfl (Nat.le_of_ble_eq_true rfl) rfl (by decide) rfl ?_
  exact vv_iret F hR dX2_costIn_16 rfl rfl
theorem c_X2_bringing (l : Launch) (K : vv_K) (hP hS hC hN hM hU : Nat) (ln hb ha pu hl sm hr : Int32) (aS : Nat) (mS nS : Int32) (fS : Nat → Int32) (i : Int32) (hn8 : nS.toInt ≤ 8) : vv_C l K 3 yX2_bringing cX2_bringing 2 (some .int) [.ref hP, .int i] [(hP, .inr (1, [.int ln, .int hb, .int ha, .int pu, .int hl, .int sm, .int hr, .ref hS, .ref hC, .ref hN, .ref hM, .ref hU])), (hS, .inr (2, [.ref aS, .int mS, .int nS])), (aS, .inl (K.2.1.1, 32, .inl fS))] (some (.int (f_X1_brought (f_X3_cell nS fS i 1) ln))) [(hP, .inr (1, [.int ln, .int hb, .int ha, .int pu, .int hl, .int sm, .int hr, .ref hS, .ref hC, .ref hN, .ref hM, .ref hU])), (hS, .inr (2, [.ref aS, .int mS, .int nS])), (aS, .inl (K.2.1.1, 32, .inl fS))] := by
  refine vv_C.of (lv := [(0, .ref hP), (1, .int i)]) (by decide +kernel) (Nat.le_of_ble_eq_true rfl) rfl ?_
  intro x hl hK F hR; subst hl; obtain rfl := hK
  refine vv_aload_n F dX2_bringing_0 rfl rfl ?_
  refine vv_iload_n F dX2_bringing_1 rfl rfl ?_
  refine vv_callVp (As := [.int i]) (rest := []) [0, 1, 2] 0 F (c_X2_lengthOf (vv_l x) (vv_k x) hP hS hC hN hM hU ln hb ha pu hl sm hr aS mS nS fS i hn8) mv_X2_76 dX2_bringing_2 (by decide) rfl rfl (Nat.le_of_ble_eq_true rfl) rfl (by decide) rfl ?_
  refine vv_aload_n F dX2_bringing_5 rfl rfl ?_
  refine vv_get 0 F fl_X2_9 dX2_bringing_6 rfl rfl ?_
  refine vv_callSp (As := [.int (f_X3_cell nS fS i 1), .int ln]) (rest := []) [] F (c_X1_brought (vv_l x) (vv_k x) (f_X3_cell nS fS i 1) ln) ms_X2_91 dX2_bringing_9 (by decide) rfl rfl (Nat.le_of_ble_eq_true rfl) rfl (by decide) ?_
  exact vv_iret F hR dX2_bringing_12 rfl rfl
abbrev p_X2_sendString (hb ha pu hr nS : Int32) (fS : Nat → Int32) (i : Int32) : Prop := ((f_X2_tollOn hb ha (f_X2_shownIn hr nS fS i 0) hr) ≤ pu)
noncomputable def g_X2_sendString_0_3 (hb ha pu hr nS : Int32) (fS : Nat → Int32) (i : Int32) : Int32 := (if (f_X2_tollOn hb ha (f_X2_shownIn hr nS fS i 0) hr) ≤ pu then (if (f_X1_charged ha (f_X2_shownIn hr nS fS i 0) (hr / 24)) ≤ 0 then (pu - (f_X2_tollOn hb ha (f_X2_shownIn hr nS fS i 0) hr)) else (pu - (f_X2_tollOn hb ha (f_X2_shownIn hr nS fS i 0) hr))) else pu)
noncomputable def g_X2_sendString_0_4 (ln hb ha pu hl hr nS : Int32) (fS : Nat → Int32) (i : Int32) : Int32 := (if (f_X2_tollOn hb ha (f_X2_shownIn hr nS fS i 0) hr) ≤ pu then (if (f_X1_charged ha (f_X2_shownIn hr nS fS i 0) (hr / 24)) ≤ 0 then (hl + (f_X1_brought (f_X3_cell nS fS i 1) ln)) else (hl + (f_X1_brought (f_X3_cell nS fS i 1) ln))) else hl)
noncomputable def g_X2_sendString_0_5 (hb ha pu sm hr nS : Int32) (fS : Nat → Int32) (i : Int32) : Int32 := (if (f_X2_tollOn hb ha (f_X2_shownIn hr nS fS i 0) hr) ≤ pu then (if (f_X1_charged ha (f_X2_shownIn hr nS fS i 0) (hr / 24)) ≤ 0 then sm else (sm + 1)) else sm)
noncomputable def g_X2_sendString_0_6 (hb ha pu hr nS : Int32) (fS : Nat → Int32) (i : Int32) : Int32 := (if (f_X2_tollOn hb ha (f_X2_shownIn hr nS fS i 0) hr) ≤ pu then (if (f_X1_charged ha (f_X2_shownIn hr nS fS i 0) (hr / 24)) ≤ 0 then (hr + 1) else (hr + 1)) else hr)
theorem c_X2_sendString (l : Launch) (K : vv_K) (hP hS hC hN hM hU : Nat) (ln hb ha pu hl sm hr : Int32) (aS : Nat) (mS nS : Int32) (fS : Nat → Int32) (i : Int32) (hn8 : nS.toInt ≤ 8) : vv_C l K 4 yX2_sendString cX2_sendString 4 (some .boolean) [.ref hP, .int i] [(hP, .inr (1, [.int ln, .int hb, .int ha, .int pu, .int hl, .int sm, .int hr, .ref hS, .ref hC, .ref hN, .ref hM, .ref hU])), (hS, .inr (2, [.ref aS, .int mS, .int nS])), (aS, .inl (K.2.1.1, 32, .inl fS))] (some (.int (vv_b (p_X2_sendString hb ha pu hr nS fS i)))) [(hP, .inr (1, [.int ln, .int hb, .int ha, .int (g_X2_sendString_0_3 hb ha pu hr nS fS i), .int (g_X2_sendString_0_4 ln hb ha pu hl hr nS fS i), .int (g_X2_sendString_0_5 hb ha pu sm hr nS fS i), .int (g_X2_sendString_0_6 hb ha pu hr nS fS i), .ref hS, .ref hC, .ref hN, .ref hM, .ref hU])), (hS, .inr (2, [.ref aS, .int mS, .int nS])), (aS, .inl (K.2.1.1, 32, .inl fS))] := by
  refine vv_C.of (lv := [(0, .ref hP), (1, .int i)]) (by decide +kernel) (Nat.le_of_ble_eq_true rfl) rfl ?_
  intro x hl hK F hR; subst hl; obtain rfl := hK
  refine vv_aload_n F dX2_sendString_0 rfl rfl ?_
  refine vv_iload_n F dX2_sendString_1 rfl rfl ?_
  refine vv_iconst (v := 0) F dX2_sendString_2 (by decide) ?_
  refine vv_callVp (As := [.int i, .int 0]) (rest := []) [0, 1, 2] 0 F (c_X2_shownIn (vv_l x) (vv_k x) hP hS hC hN hM hU ln hb ha pu hl sm hr aS mS nS fS i 0 hn8) mv_X2_85 dX2_sendString_3 (by decide) rfl rfl (Nat.le_of_ble_eq_true rfl) rfl (by decide) rfl ?_
  refine vv_istore_n (lv' := [(2, .int (f_X2_shownIn hr nS fS i 0)), (0, .ref hP), (1, .int i)]) F dX2_sendString_6 rfl (by decide) rfl ?_
  refine vv_aload_n F dX2_sendString_7 rfl rfl ?_
  refine vv_iload_n F dX2_sendString_8 rfl rfl ?_
  refine vv_aload_n F dX2_sendString_9 rfl rfl ?_
  refine vv_get 0 F fl_X2_51 dX2_sendString_10 rfl rfl ?_
  refine vv_callVp (As := [.int (f_X2_shownIn hr nS fS i 0), .int hr]) (rest := []) [0] 0 F (c_X2_tollOn (vv_l x) (vv_k x) hP hS hC hN hM hU ln hb ha pu hl sm hr (f_X2_shownIn hr nS fS i 0) hr) mv_X2_88 dX2_sendString_13 (by decide) rfl rfl (Nat.le_of_ble_eq_true rfl) rfl (by decide) rfl ?_
  refine vv_istore_n (lv' := [(3, .int (f_X2_tollOn hb ha (f_X2_shownIn hr nS fS i 0) hr)), (2, .int (f_X2_shownIn hr nS fS i 0)), (0, .ref hP), (1, .int i)]) F dX2_sendString_16 rfl (by decide) rfl ?_
  refine vv_iload_n F dX2_sendString_17 rfl rfl ?_
  refine vv_aload_n F dX2_sendString_18 rfl rfl ?_
  refine vv_get 0 F fl_X2_15 dX2_sendString_19 rfl rfl ?_
  refine vv_icmp_le (tgt := 27) F dX2_sendString_22 (by decide) (fun h_1 => ?_) (fun h_1 => ?_)
  · refine vv_aload_n F dX2_sendString_27 rfl rfl ?_
    refine vv_get 0 F fl_X2_42 dX2_sendString_28 rfl rfl ?_
    refine vv_iload_n F dX2_sendString_31 rfl rfl ?_
    refine vv_aload_n F dX2_sendString_32 rfl rfl ?_
    refine vv_get 0 F fl_X2_51 dX2_sendString_33 rfl rfl ?_
    refine vv_bipush (v := 24) F dX2_sendString_36 (by decide) ?_
    refine vv_idiv F dX2_sendString_38 (by decide) ?_
    refine vv_callSp (As := [.int ha, .int (f_X2_shownIn hr nS fS i 0), .int (hr / 24)]) (rest := []) [] F (c_X1_charged (vv_l x) (vv_k x) ha (f_X2_shownIn hr nS fS i 0) (hr / 24)) ms_X2_94 dX2_sendString_39 (by decide) rfl rfl (Nat.le_of_ble_eq_true rfl) rfl (by decide) ?_
    refine vv_if_le (tgt := 55) F dX2_sendString_42 (by decide) (fun h_2 => ?_) (fun h_2 => ?_)
    · refine vv_aload_n F dX2_sendString_55 rfl rfl ?_
      refine vv_dup F dX2_sendString_56 rfl ?_
      refine vv_get 0 F fl_X2_15 dX2_sendString_57 rfl rfl ?_
      refine vv_iload_n F dX2_sendString_60 rfl rfl ?_
      refine vv_isub F dX2_sendString_61 ?_
      refine vv_put 0 (ws' := [(hP, .inr (1, [.int ln, .int hb, .int ha, .int (pu - (f_X2_tollOn hb ha (f_X2_shownIn hr nS fS i 0) hr)), .int hl, .int sm, .int hr, .ref hS, .ref hC, .ref hN, .ref hM, .ref hU])), (hS, .inr (2, [.ref aS, .int mS, .int nS])), (aS, .inl ((vv_k x).2.1.1, 32, .inl fS))]) F fl_X2_15 dX2_sendString_62 rfl rfl rfl (Nat.le_of_ble_eq_true rfl) rfl ?_
      refine vv_aload_n F dX2_sendString_65 rfl rfl ?_
      refine vv_dup F dX2_sendString_66 rfl ?_
      refine vv_get 0 F fl_X2_45 dX2_sendString_67 rfl rfl ?_
      refine vv_aload_n F dX2_sendString_70 rfl rfl ?_
      refine vv_iload_n F dX2_sendString_71 rfl rfl ?_
      refine vv_callVp (As := [.int i]) (rest := [.int hl, .ref hP]) [0, 1, 2] 0 F (c_X2_bringing (vv_l x) (vv_k x) hP hS hC hN hM hU ln hb ha (pu - (f_X2_tollOn hb ha (f_X2_shownIn hr nS fS i 0) hr)) hl sm hr aS mS nS fS i hn8) mv_X2_97 dX2_sendString_72 (by decide) rfl rfl (Nat.le_of_ble_eq_true rfl) rfl (by decide) rfl ?_
      refine vv_iadd F dX2_sendString_75 ?_
      refine vv_put 0 (ws' := [(hP, .inr (1, [.int ln, .int hb, .int ha, .int (pu - (f_X2_tollOn hb ha (f_X2_shownIn hr nS fS i 0) hr)), .int (hl + (f_X1_brought (f_X3_cell nS fS i 1) ln)), .int sm, .int hr, .ref hS, .ref hC, .ref hN, .ref hM, .ref hU])), (hS, .inr (2, [.ref aS, .int mS, .int nS])), (aS, .inl ((vv_k x).2.1.1, 32, .inl fS))]) F fl_X2_45 dX2_sendString_76 rfl rfl rfl (Nat.le_of_ble_eq_true rfl) rfl ?_
      refine vv_aload_n F dX2_sendString_79 rfl rfl ?_
      refine vv_dup F dX2_sendString_80 rfl ?_
      refine vv_get 0 F fl_X2_51 dX2_sendString_81 rfl rfl ?_
      refine vv_iconst (v := 1) F dX2_sendString_84 (by decide) ?_
      refine vv_iadd F dX2_sendString_85 ?_
      refine vv_put 0 (ws' := [(hP, .inr (1, [.int ln, .int hb, .int ha, .int (pu - (f_X2_tollOn hb ha (f_X2_shownIn hr nS fS i 0) hr)), .int (hl + (f_X1_brought (f_X3_cell nS fS i 1) ln)), .int sm, .int (hr + 1), .ref hS, .ref hC, .ref hN, .ref hM, .ref hU])), (hS, .inr (2, [.ref aS, .int mS, .int nS])), (aS, .inl ((vv_k x).2.1.1, 32, .inl fS))]) F fl_X2_51 dX2_sendString_86 rfl rfl rfl (Nat.le_of_ble_eq_true rfl) rfl ?_
      refine vv_iconst (v := 1) F dX2_sendString_89 (by decide) ?_
      exact vv_zret F hR dX2_sendString_90 rfl (vv_bt h_1) (by simp only [g_X2_sendString_0_3, g_X2_sendString_0_4, g_X2_sendString_0_5, g_X2_sendString_0_6, if_pos h_1, if_pos h_2])
    · refine vv_aload_n F dX2_sendString_45 rfl rfl ?_
      refine vv_dup F dX2_sendString_46 rfl ?_
      refine vv_get 0 F fl_X2_48 dX2_sendString_47 rfl rfl ?_
      refine vv_iconst (v := 1) F dX2_sendString_50 (by decide) ?_
      refine vv_iadd F dX2_sendString_51 ?_
      refine vv_put 0 (ws' := [(hP, .inr (1, [.int ln, .int hb, .int ha, .int pu, .int hl, .int (sm + 1), .int hr, .ref hS, .ref hC, .ref hN, .ref hM, .ref hU])), (hS, .inr (2, [.ref aS, .int mS, .int nS])), (aS, .inl ((vv_k x).2.1.1, 32, .inl fS))]) F fl_X2_48 dX2_sendString_52 rfl rfl rfl (Nat.le_of_ble_eq_true rfl) rfl ?_
      refine vv_aload_n F dX2_sendString_55 rfl rfl ?_
      refine vv_dup F dX2_sendString_56 rfl ?_
      refine vv_get 0 F fl_X2_15 dX2_sendString_57 rfl rfl ?_
      refine vv_iload_n F dX2_sendString_60 rfl rfl ?_
      refine vv_isub F dX2_sendString_61 ?_
      refine vv_put 0 (ws' := [(hP, .inr (1, [.int ln, .int hb, .int ha, .int (pu - (f_X2_tollOn hb ha (f_X2_shownIn hr nS fS i 0) hr)), .int hl, .int (sm + 1), .int hr, .ref hS, .ref hC, .ref hN, .ref hM, .ref hU])), (hS, .inr (2, [.ref aS, .int mS, .int nS])), (aS, .inl ((vv_k x).2.1.1, 32, .inl fS))]) F fl_X2_15 dX2_sendString_62 rfl rfl rfl (Nat.le_of_ble_eq_true rfl) rfl ?_
      refine vv_aload_n F dX2_sendString_65 rfl rfl ?_
      refine vv_dup F dX2_sendString_66 rfl ?_
      refine vv_get 0 F fl_X2_45 dX2_sendString_67 rfl rfl ?_
      refine vv_aload_n F dX2_sendString_70 rfl rfl ?_
      refine vv_iload_n F dX2_sendString_71 rfl rfl ?_
      refine vv_callVp (As := [.int i]) (rest := [.int hl, .ref hP]) [0, 1, 2] 0 F (c_X2_bringing (vv_l x) (vv_k x) hP hS hC hN hM hU ln hb ha (pu - (f_X2_tollOn hb ha (f_X2_shownIn hr nS fS i 0) hr)) hl (sm + 1) hr aS mS nS fS i hn8) mv_X2_97 dX2_sendString_72 (by decide) rfl rfl (Nat.le_of_ble_eq_true rfl) rfl (by decide) rfl ?_
      refine vv_iadd F dX2_sendString_75 ?_
      refine vv_put 0 (ws' := [(hP, .inr (1, [.int ln, .int hb, .int ha, .int (pu - (f_X2_tollOn hb ha (f_X2_shownIn hr nS fS i 0) hr)), .int (hl + (f_X1_brought (f_X3_cell nS fS i 1) ln)), .int (sm + 1), .int hr, .ref hS, .ref hC, .ref hN, .ref hM, .ref hU])), (hS, .inr (2, [.ref aS, .int mS, .int nS])), (aS, .inl ((vv_k x).2.1.1, 32, .inl fS))]) F fl_X2_45 dX2_sendString_76 rfl rfl rfl (Nat.le_of_ble_eq_true rfl) rfl ?_
      refine vv_aload_n F dX2_sendString_79 rfl rfl ?_
      refine vv_dup F dX2_sendString_80 rfl ?_
      refine vv_get 0 F fl_X2_51 dX2_sendString_81 rfl rfl ?_
      refine vv_iconst (v := 1) F dX2_sendString_84 (by decide) ?_
      refine vv_iadd F dX2_sendString_85 ?_
      refine vv_put 0 (ws' := [(hP, .inr (1, [.int ln, .int hb, .int ha, .int (pu - (f_X2_tollOn hb ha (f_X2_shownIn hr nS fS i 0) hr)), .int (hl + (f_X1_brought (f_X3_cell nS fS i 1) ln)), .int (sm + 1), .int (hr + 1), .ref hS, .ref hC, .ref hN, .ref hM, .ref hU])), (hS, .inr (2, [.ref aS, .int mS, .int nS])), (aS, .inl ((vv_k x).2.1.1, 32, .inl fS))]) F fl_X2_51 dX2_sendString_86 rfl rfl rfl (Nat.le_of_ble_eq_true rfl) rfl ?_
      refine vv_iconst (v := 1) F dX2_sendString_89 (by decide) ?_
      exact vv_zret F hR dX2_sendString_90 rfl (vv_bt h_1) (by simp only [g_X2_sendString_0_3, g_X2_sendString_0_4, g_X2_sendString_0_5, g_X2_sendString_0_6, if_pos h_1, if_neg h_2])
  · refine vv_iconst (v := 0) F dX2_sendString_25 (by decide) ?_
    exact vv_zret F hR dX2_sendString_26 rfl (vv_bf h_1) (by simp only [g_X2_sendString_0_3, g_X2_sendString_0_4, g_X2_sendString_0_5, g_X2_sendString_0_6, if_neg h_1])
theorem c_X2_start (l : Launch) (K : vv_K) (hP hS hC hN hM hU : Nat) (ln hb ha pu hl sm hr : Int32) (aS : Nat) (mS nS : Int32) (aC : Nat) (mC nC : Int32) (aN : Nat) (mN nN : Int32) (aM : Nat) (mM nM : Int32) (aU : Nat) (mU nU z1 z2 : Int32)  : vv_C l K 2 yX2_start cX2_start 3 none [.ref hP, .int z1, .int z2] [(hP, .inr (1, [.int ln, .int hb, .int ha, .int pu, .int hl, .int sm, .int hr, .ref hS, .ref hC, .ref hN, .ref hM, .ref hU])), (hS, .inr (2, [.ref aS, .int mS, .int nS])), (hC, .inr (2, [.ref aC, .int mC, .int nC])), (hN, .inr (2, [.ref aN, .int mN, .int nN])), (hM, .inr (2, [.ref aM, .int mM, .int nM])), (hU, .inr (2, [.ref aU, .int mU, .int nU]))] none [(hP, .inr (1, [.int z1, .int 0, .int 0, .int z2, .int 0, .int 0, .int 0, .ref hS, .ref hC, .ref hN, .ref hM, .ref hU])), (hS, .inr (2, [.ref aS, .int mS, .int 0])), (hC, .inr (2, [.ref aC, .int mC, .int 0])), (hN, .inr (2, [.ref aN, .int mN, .int 0])), (hM, .inr (2, [.ref aM, .int mM, .int 0])), (hU, .inr (2, [.ref aU, .int mU, .int 0]))] := by
  refine vv_C.of (lv := [(0, .ref hP), (1, .int z1), (2, .int z2)]) (by decide +kernel) (Nat.le_of_ble_eq_true rfl) rfl ?_
  intro x hl hK F hR; subst hl; obtain rfl := hK
  refine vv_aload_n F dX2_start_0 rfl rfl ?_
  refine vv_iload_n F dX2_start_1 rfl rfl ?_
  refine vv_put 0 (ws' := [(hP, .inr (1, [.int z1, .int hb, .int ha, .int pu, .int hl, .int sm, .int hr, .ref hS, .ref hC, .ref hN, .ref hM, .ref hU])), (hS, .inr (2, [.ref aS, .int mS, .int nS])), (hC, .inr (2, [.ref aC, .int mC, .int nC])), (hN, .inr (2, [.ref aN, .int mN, .int nN])), (hM, .inr (2, [.ref aM, .int mM, .int nM])), (hU, .inr (2, [.ref aU, .int mU, .int nU]))]) F fl_X2_9 dX2_start_2 rfl rfl rfl (Nat.le_of_ble_eq_true rfl) rfl ?_
  refine vv_aload_n F dX2_start_5 rfl rfl ?_
  refine vv_iload_n F dX2_start_6 rfl rfl ?_
  refine vv_put 0 (ws' := [(hP, .inr (1, [.int z1, .int hb, .int ha, .int z2, .int hl, .int sm, .int hr, .ref hS, .ref hC, .ref hN, .ref hM, .ref hU])), (hS, .inr (2, [.ref aS, .int mS, .int nS])), (hC, .inr (2, [.ref aC, .int mC, .int nC])), (hN, .inr (2, [.ref aN, .int mN, .int nN])), (hM, .inr (2, [.ref aM, .int mM, .int nM])), (hU, .inr (2, [.ref aU, .int mU, .int nU]))]) F fl_X2_15 dX2_start_7 rfl rfl rfl (Nat.le_of_ble_eq_true rfl) rfl ?_
  refine vv_aload_n F dX2_start_10 rfl rfl ?_
  refine vv_iconst (v := 0) F dX2_start_11 (by decide) ?_
  refine vv_put 0 (ws' := [(hP, .inr (1, [.int z1, .int 0, .int ha, .int z2, .int hl, .int sm, .int hr, .ref hS, .ref hC, .ref hN, .ref hM, .ref hU])), (hS, .inr (2, [.ref aS, .int mS, .int nS])), (hC, .inr (2, [.ref aC, .int mC, .int nC])), (hN, .inr (2, [.ref aN, .int mN, .int nN])), (hM, .inr (2, [.ref aM, .int mM, .int nM])), (hU, .inr (2, [.ref aU, .int mU, .int nU]))]) F fl_X2_39 dX2_start_12 rfl rfl rfl (Nat.le_of_ble_eq_true rfl) rfl ?_
  refine vv_aload_n F dX2_start_15 rfl rfl ?_
  refine vv_iconst (v := 0) F dX2_start_16 (by decide) ?_
  refine vv_put 0 (ws' := [(hP, .inr (1, [.int z1, .int 0, .int 0, .int z2, .int hl, .int sm, .int hr, .ref hS, .ref hC, .ref hN, .ref hM, .ref hU])), (hS, .inr (2, [.ref aS, .int mS, .int nS])), (hC, .inr (2, [.ref aC, .int mC, .int nC])), (hN, .inr (2, [.ref aN, .int mN, .int nN])), (hM, .inr (2, [.ref aM, .int mM, .int nM])), (hU, .inr (2, [.ref aU, .int mU, .int nU]))]) F fl_X2_42 dX2_start_17 rfl rfl rfl (Nat.le_of_ble_eq_true rfl) rfl ?_
  refine vv_aload_n F dX2_start_20 rfl rfl ?_
  refine vv_iconst (v := 0) F dX2_start_21 (by decide) ?_
  refine vv_put 0 (ws' := [(hP, .inr (1, [.int z1, .int 0, .int 0, .int z2, .int 0, .int sm, .int hr, .ref hS, .ref hC, .ref hN, .ref hM, .ref hU])), (hS, .inr (2, [.ref aS, .int mS, .int nS])), (hC, .inr (2, [.ref aC, .int mC, .int nC])), (hN, .inr (2, [.ref aN, .int mN, .int nN])), (hM, .inr (2, [.ref aM, .int mM, .int nM])), (hU, .inr (2, [.ref aU, .int mU, .int nU]))]) F fl_X2_45 dX2_start_22 rfl rfl rfl (Nat.le_of_ble_eq_true rfl) rfl ?_
  refine vv_aload_n F dX2_start_25 rfl rfl ?_
  refine vv_iconst (v := 0) F dX2_start_26 (by decide) ?_
  refine vv_put 0 (ws' := [(hP, .inr (1, [.int z1, .int 0, .int 0, .int z2, .int 0, .int 0, .int hr, .ref hS, .ref hC, .ref hN, .ref hM, .ref hU])), (hS, .inr (2, [.ref aS, .int mS, .int nS])), (hC, .inr (2, [.ref aC, .int mC, .int nC])), (hN, .inr (2, [.ref aN, .int mN, .int nN])), (hM, .inr (2, [.ref aM, .int mM, .int nM])), (hU, .inr (2, [.ref aU, .int mU, .int nU]))]) F fl_X2_48 dX2_start_27 rfl rfl rfl (Nat.le_of_ble_eq_true rfl) rfl ?_
  refine vv_aload_n F dX2_start_30 rfl rfl ?_
  refine vv_iconst (v := 0) F dX2_start_31 (by decide) ?_
  refine vv_put 0 (ws' := [(hP, .inr (1, [.int z1, .int 0, .int 0, .int z2, .int 0, .int 0, .int 0, .ref hS, .ref hC, .ref hN, .ref hM, .ref hU])), (hS, .inr (2, [.ref aS, .int mS, .int nS])), (hC, .inr (2, [.ref aC, .int mC, .int nC])), (hN, .inr (2, [.ref aN, .int mN, .int nN])), (hM, .inr (2, [.ref aM, .int mM, .int nM])), (hU, .inr (2, [.ref aU, .int mU, .int nU]))]) F fl_X2_51 dX2_start_32 rfl rfl rfl (Nat.le_of_ble_eq_true rfl) rfl ?_
  refine vv_aload_n F dX2_start_35 rfl rfl ?_
  refine vv_get 0 F fl_X2_23 dX2_start_36 rfl rfl ?_
  refine vv_callV (As := []) (rest := []) [1] 1 (ws' := [(hP, .inr (1, [.int z1, .int 0, .int 0, .int z2, .int 0, .int 0, .int 0, .ref hS, .ref hC, .ref hN, .ref hM, .ref hU])), (hS, .inr (2, [.ref aS, .int mS, .int 0])), (hC, .inr (2, [.ref aC, .int mC, .int nC])), (hN, .inr (2, [.ref aN, .int mN, .int nN])), (hM, .inr (2, [.ref aM, .int mM, .int nM])), (hU, .inr (2, [.ref aU, .int mU, .int nU]))]) F (c_X3_wipe (vv_l x) (vv_k x) hS aS mS nS) mv_X2_54 dX2_start_39 (by decide) rfl rfl (Nat.le_of_ble_eq_true rfl) rfl (by decide) (Eq.trans (b := [hS]) rfl rfl) rfl rfl ?_
  refine vv_aload_n F dX2_start_42 rfl rfl ?_
  refine vv_get 0 F fl_X2_27 dX2_start_43 rfl rfl ?_
  refine vv_callV (As := []) (rest := []) [2] 2 (ws' := [(hP, .inr (1, [.int z1, .int 0, .int 0, .int z2, .int 0, .int 0, .int 0, .ref hS, .ref hC, .ref hN, .ref hM, .ref hU])), (hS, .inr (2, [.ref aS, .int mS, .int 0])), (hC, .inr (2, [.ref aC, .int mC, .int 0])), (hN, .inr (2, [.ref aN, .int mN, .int nN])), (hM, .inr (2, [.ref aM, .int mM, .int nM])), (hU, .inr (2, [.ref aU, .int mU, .int nU]))]) F (c_X3_wipe (vv_l x) (vv_k x) hC aC mC nC) mv_X2_54 dX2_start_46 (by decide) rfl rfl (Nat.le_of_ble_eq_true rfl) rfl (by decide) (Eq.trans (b := [hC]) rfl rfl) rfl rfl ?_
  refine vv_aload_n F dX2_start_49 rfl rfl ?_
  refine vv_get 0 F fl_X2_30 dX2_start_50 rfl rfl ?_
  refine vv_callV (As := []) (rest := []) [3] 3 (ws' := [(hP, .inr (1, [.int z1, .int 0, .int 0, .int z2, .int 0, .int 0, .int 0, .ref hS, .ref hC, .ref hN, .ref hM, .ref hU])), (hS, .inr (2, [.ref aS, .int mS, .int 0])), (hC, .inr (2, [.ref aC, .int mC, .int 0])), (hN, .inr (2, [.ref aN, .int mN, .int 0])), (hM, .inr (2, [.ref aM, .int mM, .int nM])), (hU, .inr (2, [.ref aU, .int mU, .int nU]))]) F (c_X3_wipe (vv_l x) (vv_k x) hN aN mN nN) mv_X2_54 dX2_start_53 (by decide) rfl rfl (Nat.le_of_ble_eq_true rfl) rfl (by decide) (Eq.trans (b := [hN]) rfl rfl) rfl rfl ?_
  refine vv_aload_n F dX2_start_56 rfl rfl ?_
  refine vv_get 0 F fl_X2_33 dX2_start_57 rfl rfl ?_
  refine vv_callV (As := []) (rest := []) [4] 4 (ws' := [(hP, .inr (1, [.int z1, .int 0, .int 0, .int z2, .int 0, .int 0, .int 0, .ref hS, .ref hC, .ref hN, .ref hM, .ref hU])), (hS, .inr (2, [.ref aS, .int mS, .int 0])), (hC, .inr (2, [.ref aC, .int mC, .int 0])), (hN, .inr (2, [.ref aN, .int mN, .int 0])), (hM, .inr (2, [.ref aM, .int mM, .int 0])), (hU, .inr (2, [.ref aU, .int mU, .int nU]))]) F (c_X3_wipe (vv_l x) (vv_k x) hM aM mM nM) mv_X2_54 dX2_start_60 (by decide) rfl rfl (Nat.le_of_ble_eq_true rfl) rfl (by decide) (Eq.trans (b := [hM]) rfl rfl) rfl rfl ?_
  refine vv_aload_n F dX2_start_63 rfl rfl ?_
  refine vv_get 0 F fl_X2_36 dX2_start_64 rfl rfl ?_
  refine vv_callV (As := []) (rest := []) [5] 5 (ws' := [(hP, .inr (1, [.int z1, .int 0, .int 0, .int z2, .int 0, .int 0, .int 0, .ref hS, .ref hC, .ref hN, .ref hM, .ref hU])), (hS, .inr (2, [.ref aS, .int mS, .int 0])), (hC, .inr (2, [.ref aC, .int mC, .int 0])), (hN, .inr (2, [.ref aN, .int mN, .int 0])), (hM, .inr (2, [.ref aM, .int mM, .int 0])), (hU, .inr (2, [.ref aU, .int mU, .int 0]))]) F (c_X3_wipe (vv_l x) (vv_k x) hU aU mU nU) mv_X2_54 dX2_start_67 (by decide) rfl rfl (Nat.le_of_ble_eq_true rfl) rfl (by decide) (Eq.trans (b := [hU]) rfl rfl) rfl rfl ?_
  exact vv_vret F hR dX2_start_70 rfl rfl
abbrev p_X2_stepBack (nU : Int32) : Prop := (0 ≤ (nU - 1))
noncomputable def g_X2_stepBack_0_3 (pu nU : Int32) (fU : Nat → Int32) : Int32 := (if 0 ≤ (nU - 1) then (f_X3_cell nU fU (nU - 1) 0) else pu)
noncomputable def g_X2_stepBack_0_4 (hl nU : Int32) (fU : Nat → Int32) : Int32 := (if 0 ≤ (nU - 1) then (f_X3_cell nU fU (nU - 1) 1) else hl)
noncomputable def g_X2_stepBack_0_5 (sm nU : Int32) (fU : Nat → Int32) : Int32 := (if 0 ≤ (nU - 1) then (f_X3_cell nU fU (nU - 1) 2) else sm)
noncomputable def g_X2_stepBack_0_6 (hr nU : Int32) (fU : Nat → Int32) : Int32 := (if 0 ≤ (nU - 1) then (f_X3_cell nU fU (nU - 1) 3) else hr)
noncomputable def g_X2_stepBack_1_2 (nU : Int32) : Int32 := (if 0 ≤ (nU - 1) then (g_X3_dropLast_0_2 nU) else nU)
theorem c_X2_stepBack (l : Launch) (K : vv_K) (hP hS hC hN hM hU : Nat) (ln hb ha pu hl sm hr : Int32) (aU : Nat) (mU nU : Int32) (fU : Nat → Int32) (hn8 : nU.toInt ≤ 8) : vv_C l K 2 yX2_stepBack cX2_stepBack 2 (some .boolean) [.ref hP] [(hP, .inr (1, [.int ln, .int hb, .int ha, .int pu, .int hl, .int sm, .int hr, .ref hS, .ref hC, .ref hN, .ref hM, .ref hU])), (hU, .inr (2, [.ref aU, .int mU, .int nU])), (aU, .inl (K.2.1.1, 32, .inl fU))] (some (.int (vv_b (p_X2_stepBack nU)))) [(hP, .inr (1, [.int ln, .int hb, .int ha, .int (g_X2_stepBack_0_3 pu nU fU), .int (g_X2_stepBack_0_4 hl nU fU), .int (g_X2_stepBack_0_5 sm nU fU), .int (g_X2_stepBack_0_6 hr nU fU), .ref hS, .ref hC, .ref hN, .ref hM, .ref hU])), (hU, .inr (2, [.ref aU, .int mU, .int (g_X2_stepBack_1_2 nU)])), (aU, .inl (K.2.1.1, 32, .inl fU))] := by
  refine vv_C.of (lv := [(0, .ref hP)]) (by decide +kernel) (Nat.le_of_ble_eq_true rfl) rfl ?_
  intro x hl hK F hR; subst hl; obtain rfl := hK
  refine vv_aload_n F dX2_stepBack_0 rfl rfl ?_
  refine vv_get 0 F fl_X2_36 dX2_stepBack_1 rfl rfl ?_
  refine vv_get 1 F fl_X2_61 dX2_stepBack_4 rfl rfl ?_
  refine vv_iconst (v := 1) F dX2_stepBack_7 (by decide) ?_
  refine vv_isub F dX2_stepBack_8 ?_
  refine vv_istore_n (lv' := [(1, .int (nU - 1)), (0, .ref hP)]) F dX2_stepBack_9 rfl (by decide) rfl ?_
  refine vv_iload_n F dX2_stepBack_10 rfl rfl ?_
  refine vv_if_ge (tgt := 16) F dX2_stepBack_11 (by decide) (fun h_1 => ?_) (fun h_1 => ?_)
  · refine vv_aload_n F dX2_stepBack_16 rfl rfl ?_
    refine vv_aload_n F dX2_stepBack_17 rfl rfl ?_
    refine vv_get 0 F fl_X2_36 dX2_stepBack_18 rfl rfl ?_
    refine vv_iload_n F dX2_stepBack_21 rfl rfl ?_
    refine vv_iconst (v := 0) F dX2_stepBack_22 (by decide) ?_
    refine vv_callVp (As := [.int (nU - 1), .int 0]) (rest := [.ref hP]) [1, 2] 1 F (c_X3_cell (vv_l x) (vv_k x) hU aU mU nU fU (nU - 1) 0 hn8) mv_X2_68 dX2_stepBack_23 (by decide) rfl rfl (Nat.le_of_ble_eq_true rfl) rfl (by decide) rfl ?_
    refine vv_put 0 (ws' := [(hP, .inr (1, [.int ln, .int hb, .int ha, .int (f_X3_cell nU fU (nU - 1) 0), .int hl, .int sm, .int hr, .ref hS, .ref hC, .ref hN, .ref hM, .ref hU])), (hU, .inr (2, [.ref aU, .int mU, .int nU])), (aU, .inl ((vv_k x).2.1.1, 32, .inl fU))]) F fl_X2_15 dX2_stepBack_26 rfl rfl rfl (Nat.le_of_ble_eq_true rfl) rfl ?_
    refine vv_aload_n F dX2_stepBack_29 rfl rfl ?_
    refine vv_aload_n F dX2_stepBack_30 rfl rfl ?_
    refine vv_get 0 F fl_X2_36 dX2_stepBack_31 rfl rfl ?_
    refine vv_iload_n F dX2_stepBack_34 rfl rfl ?_
    refine vv_iconst (v := 1) F dX2_stepBack_35 (by decide) ?_
    refine vv_callVp (As := [.int (nU - 1), .int 1]) (rest := [.ref hP]) [1, 2] 1 F (c_X3_cell (vv_l x) (vv_k x) hU aU mU nU fU (nU - 1) 1 hn8) mv_X2_68 dX2_stepBack_36 (by decide) rfl rfl (Nat.le_of_ble_eq_true rfl) rfl (by decide) rfl ?_
    refine vv_put 0 (ws' := [(hP, .inr (1, [.int ln, .int hb, .int ha, .int (f_X3_cell nU fU (nU - 1) 0), .int (f_X3_cell nU fU (nU - 1) 1), .int sm, .int hr, .ref hS, .ref hC, .ref hN, .ref hM, .ref hU])), (hU, .inr (2, [.ref aU, .int mU, .int nU])), (aU, .inl ((vv_k x).2.1.1, 32, .inl fU))]) F fl_X2_45 dX2_stepBack_39 rfl rfl rfl (Nat.le_of_ble_eq_true rfl) rfl ?_
    refine vv_aload_n F dX2_stepBack_42 rfl rfl ?_
    refine vv_aload_n F dX2_stepBack_43 rfl rfl ?_
    refine vv_get 0 F fl_X2_36 dX2_stepBack_44 rfl rfl ?_
    refine vv_iload_n F dX2_stepBack_47 rfl rfl ?_
    refine vv_iconst (v := 2) F dX2_stepBack_48 (by decide) ?_
    refine vv_callVp (As := [.int (nU - 1), .int 2]) (rest := [.ref hP]) [1, 2] 1 F (c_X3_cell (vv_l x) (vv_k x) hU aU mU nU fU (nU - 1) 2 hn8) mv_X2_68 dX2_stepBack_49 (by decide) rfl rfl (Nat.le_of_ble_eq_true rfl) rfl (by decide) rfl ?_
    refine vv_put 0 (ws' := [(hP, .inr (1, [.int ln, .int hb, .int ha, .int (f_X3_cell nU fU (nU - 1) 0), .int (f_X3_cell nU fU (nU - 1) 1), .int (f_X3_cell nU fU (nU - 1) 2), .int hr, .ref hS, .ref hC, .ref hN, .ref hM, .ref hU])), (hU, .inr (2, [.ref aU, .int mU, .int nU])), (aU, .inl ((vv_k x).2.1.1, 32, .inl fU))]) F fl_X2_48 dX2_stepBack_52 rfl rfl rfl (Nat.le_of_ble_eq_true rfl) rfl ?_
    refine vv_aload_n F dX2_stepBack_55 rfl rfl ?_
    refine vv_aload_n F dX2_stepBack_56 rfl rfl ?_
    refine vv_get 0 F fl_X2_36 dX2_stepBack_57 rfl rfl ?_
    refine vv_iload_n F dX2_stepBack_60 rfl rfl ?_
    refine vv_iconst (v := 3) F dX2_stepBack_61 (by decide) ?_
    refine vv_callVp (As := [.int (nU - 1), .int 3]) (rest := [.ref hP]) [1, 2] 1 F (c_X3_cell (vv_l x) (vv_k x) hU aU mU nU fU (nU - 1) 3 hn8) mv_X2_68 dX2_stepBack_62 (by decide) rfl rfl (Nat.le_of_ble_eq_true rfl) rfl (by decide) rfl ?_
    refine vv_put 0 (ws' := [(hP, .inr (1, [.int ln, .int hb, .int ha, .int (f_X3_cell nU fU (nU - 1) 0), .int (f_X3_cell nU fU (nU - 1) 1), .int (f_X3_cell nU fU (nU - 1) 2), .int (f_X3_cell nU fU (nU - 1) 3), .ref hS, .ref hC, .ref hN, .ref hM, .ref hU])), (hU, .inr (2, [.ref aU, .int mU, .int nU])), (aU, .inl ((vv_k x).2.1.1, 32, .inl fU))]) F fl_X2_51 dX2_stepBack_65 rfl rfl rfl (Nat.le_of_ble_eq_true rfl) rfl ?_
    refine vv_aload_n F dX2_stepBack_68 rfl rfl ?_
    refine vv_get 0 F fl_X2_36 dX2_stepBack_69 rfl rfl ?_
    refine vv_callV (As := []) (rest := []) [1] 1 (ws' := [(hP, .inr (1, [.int ln, .int hb, .int ha, .int (f_X3_cell nU fU (nU - 1) 0), .int (f_X3_cell nU fU (nU - 1) 1), .int (f_X3_cell nU fU (nU - 1) 2), .int (f_X3_cell nU fU (nU - 1) 3), .ref hS, .ref hC, .ref hN, .ref hM, .ref hU])), (hU, .inr (2, [.ref aU, .int mU, .int (g_X3_dropLast_0_2 nU)])), (aU, .inl ((vv_k x).2.1.1, 32, .inl fU))]) F (c_X3_dropLast (vv_l x) (vv_k x) hU aU mU nU) mv_X2_116 dX2_stepBack_72 (by decide) rfl rfl (Nat.le_of_ble_eq_true rfl) rfl (by decide) (Eq.trans (b := [hU]) rfl rfl) rfl rfl ?_
    refine vv_iconst (v := 1) F dX2_stepBack_75 (by decide) ?_
    exact vv_zret F hR dX2_stepBack_76 rfl (vv_bt h_1) (by simp only [g_X2_stepBack_0_3, g_X2_stepBack_0_4, g_X2_stepBack_0_5, g_X2_stepBack_0_6, g_X2_stepBack_1_2, if_pos h_1])
  · refine vv_iconst (v := 0) F dX2_stepBack_14 (by decide) ?_
    exact vv_zret F hR dX2_stepBack_15 rfl (vv_bf h_1) (by simp only [g_X2_stepBack_0_3, g_X2_stepBack_0_4, g_X2_stepBack_0_5, g_X2_stepBack_0_6, g_X2_stepBack_1_2, if_neg h_1])
theorem c_X2_copyFrom (l : Launch) (K : vv_K) (hP hS hC hN hM hU : Nat) (ln hb ha pu hl sm hr : Int32) (aS : Nat) (mS nS : Int32) (fS : Nat → Int32) (aC : Nat) (mC nC : Int32) (fC : Nat → Int32) (aN : Nat) (mN nN : Int32) (fN : Nat → Int32) (aM : Nat) (mM nM : Int32) (fM : Nat → Int32) (aU : Nat) (mU nU : Int32) (fU : Nat → Int32) (o_h o_hS o_hC o_hN o_hM o_hU : Nat) (o_ln o_hb o_ha o_pu o_hl o_sm o_hr : Int32) (o_aS : Nat) (o_mS o_nS : Int32) (o_fS : Nat → Int32) (o_aC : Nat) (o_mC o_nC : Int32) (o_fC : Nat → Int32) (o_aN : Nat) (o_mN o_nN : Int32) (o_fN : Nat → Int32) (o_aM : Nat) (o_mM o_nM : Int32) (o_fM : Nat → Int32) (o_aU : Nat) (o_mU o_nU : Int32) (o_fU : Nat → Int32)  : vv_C l K 3 yX2_copyFrom cX2_copyFrom 2 none [.ref hP, .ref o_h] [(hP, .inr (1, [.int ln, .int hb, .int ha, .int pu, .int hl, .int sm, .int hr, .ref hS, .ref hC, .ref hN, .ref hM, .ref hU])), (hS, .inr (2, [.ref aS, .int mS, .int nS])), (aS, .inl (K.2.1.1, 32, .inl fS)), (hC, .inr (2, [.ref aC, .int mC, .int nC])), (aC, .inl (K.2.1.1, 32, .inl fC)), (hN, .inr (2, [.ref aN, .int mN, .int nN])), (aN, .inl (K.2.1.1, 32, .inl fN)), (hM, .inr (2, [.ref aM, .int mM, .int nM])), (aM, .inl (K.2.1.1, 32, .inl fM)), (hU, .inr (2, [.ref aU, .int mU, .int nU])), (aU, .inl (K.2.1.1, 32, .inl fU)), (o_h, .inr (1, [.int o_ln, .int o_hb, .int o_ha, .int o_pu, .int o_hl, .int o_sm, .int o_hr, .ref o_hS, .ref o_hC, .ref o_hN, .ref o_hM, .ref o_hU])), (o_hS, .inr (2, [.ref o_aS, .int o_mS, .int o_nS])), (o_aS, .inl (K.2.1.1, 32, .inl o_fS)), (o_hC, .inr (2, [.ref o_aC, .int o_mC, .int o_nC])), (o_aC, .inl (K.2.1.1, 32, .inl o_fC)), (o_hN, .inr (2, [.ref o_aN, .int o_mN, .int o_nN])), (o_aN, .inl (K.2.1.1, 32, .inl o_fN)), (o_hM, .inr (2, [.ref o_aM, .int o_mM, .int o_nM])), (o_aM, .inl (K.2.1.1, 32, .inl o_fM)), (o_hU, .inr (2, [.ref o_aU, .int o_mU, .int o_nU])), (o_aU, .inl (K.2.1.1, 32, .inl o_fU))] none [(hP, .inr (1, [.int o_ln, .int o_hb, .int o_ha, .int o_pu, .int o_hl, .int o_sm, .int o_hr, .ref hS, .ref hC, .ref hN, .ref hM, .ref hU])), (hS, .inr (2, [.ref aS, .int mS, .int o_nS])), (aS, .inl (K.2.1.1, 32, .inl (va_cpy o_fS fS 0 0 32))), (hC, .inr (2, [.ref aC, .int mC, .int o_nC])), (aC, .inl (K.2.1.1, 32, .inl (va_cpy o_fC fC 0 0 32))), (hN, .inr (2, [.ref aN, .int mN, .int o_nN])), (aN, .inl (K.2.1.1, 32, .inl (va_cpy o_fN fN 0 0 32))), (hM, .inr (2, [.ref aM, .int mM, .int o_nM])), (aM, .inl (K.2.1.1, 32, .inl (va_cpy o_fM fM 0 0 32))), (hU, .inr (2, [.ref aU, .int mU, .int o_nU])), (aU, .inl (K.2.1.1, 32, .inl (va_cpy o_fU fU 0 0 32))), (o_h, .inr (1, [.int o_ln, .int o_hb, .int o_ha, .int o_pu, .int o_hl, .int o_sm, .int o_hr, .ref o_hS, .ref o_hC, .ref o_hN, .ref o_hM, .ref o_hU])), (o_hS, .inr (2, [.ref o_aS, .int o_mS, .int o_nS])), (o_aS, .inl (K.2.1.1, 32, .inl o_fS)), (o_hC, .inr (2, [.ref o_aC, .int o_mC, .int o_nC])), (o_aC, .inl (K.2.1.1, 32, .inl o_fC)), (o_hN, .inr (2, [.ref o_aN, .int o_mN, .int o_nN])), (o_aN, .inl (K.2.1.1, 32, .inl o_fN)), (o_hM, .inr (2, [.ref o_aM, .int o_mM, .int o_nM])), (o_aM, .inl (K.2.1.1, 32, .inl o_fM)), (o_hU, .inr (2, [.ref o_aU, .int o_mU, .int o_nU])), (o_aU, .inl (K.2.1.1, 32, .inl o_fU))] := by
  refine vv_C.of (lv := [(0, .ref hP), (1, .ref o_h)]) (by decide +kernel) (Nat.le_of_ble_eq_true rfl) rfl ?_
  intro x hl hK F hR; subst hl; obtain rfl := hK
  refine vv_aload_n F dX2_copyFrom_0 rfl rfl ?_
  refine vv_aload_n F dX2_copyFrom_1 rfl rfl ?_
  refine vv_get 11 F fl_X2_9 dX2_copyFrom_2 rfl rfl ?_
  refine vv_put 0 (ws' := [(hP, .inr (1, [.int o_ln, .int hb, .int ha, .int pu, .int hl, .int sm, .int hr, .ref hS, .ref hC, .ref hN, .ref hM, .ref hU])), (hS, .inr (2, [.ref aS, .int mS, .int nS])), (aS, .inl ((vv_k x).2.1.1, 32, .inl fS)), (hC, .inr (2, [.ref aC, .int mC, .int nC])), (aC, .inl ((vv_k x).2.1.1, 32, .inl fC)), (hN, .inr (2, [.ref aN, .int mN, .int nN])), (aN, .inl ((vv_k x).2.1.1, 32, .inl fN)), (hM, .inr (2, [.ref aM, .int mM, .int nM])), (aM, .inl ((vv_k x).2.1.1, 32, .inl fM)), (hU, .inr (2, [.ref aU, .int mU, .int nU])), (aU, .inl ((vv_k x).2.1.1, 32, .inl fU)), (o_h, .inr (1, [.int o_ln, .int o_hb, .int o_ha, .int o_pu, .int o_hl, .int o_sm, .int o_hr, .ref o_hS, .ref o_hC, .ref o_hN, .ref o_hM, .ref o_hU])), (o_hS, .inr (2, [.ref o_aS, .int o_mS, .int o_nS])), (o_aS, .inl ((vv_k x).2.1.1, 32, .inl o_fS)), (o_hC, .inr (2, [.ref o_aC, .int o_mC, .int o_nC])), (o_aC, .inl ((vv_k x).2.1.1, 32, .inl o_fC)), (o_hN, .inr (2, [.ref o_aN, .int o_mN, .int o_nN])), (o_aN, .inl ((vv_k x).2.1.1, 32, .inl o_fN)), (o_hM, .inr (2, [.ref o_aM, .int o_mM, .int o_nM])), (o_aM, .inl ((vv_k x).2.1.1, 32, .inl o_fM)), (o_hU, .inr (2, [.ref o_aU, .int o_mU, .int o_nU])), (o_aU, .inl ((vv_k x).2.1.1, 32, .inl o_fU))]) F fl_X2_9 dX2_copyFrom_5 rfl rfl rfl (Nat.le_of_ble_eq_true rfl) rfl ?_
  refine vv_aload_n F dX2_copyFrom_8 rfl rfl ?_
  refine vv_aload_n F dX2_copyFrom_9 rfl rfl ?_
  refine vv_get 11 F fl_X2_39 dX2_copyFrom_10 rfl rfl ?_
  refine vv_put 0 (ws' := [(hP, .inr (1, [.int o_ln, .int o_hb, .int ha, .int pu, .int hl, .int sm, .int hr, .ref hS, .ref hC, .ref hN, .ref hM, .ref hU])), (hS, .inr (2, [.ref aS, .int mS, .int nS])), (aS, .inl ((vv_k x).2.1.1, 32, .inl fS)), (hC, .inr (2, [.ref aC, .int mC, .int nC])), (aC, .inl ((vv_k x).2.1.1, 32, .inl fC)), (hN, .inr (2, [.ref aN, .int mN, .int nN])), (aN, .inl ((vv_k x).2.1.1, 32, .inl fN)), (hM, .inr (2, [.ref aM, .int mM, .int nM])), (aM, .inl ((vv_k x).2.1.1, 32, .inl fM)), (hU, .inr (2, [.ref aU, .int mU, .int nU])), (aU, .inl ((vv_k x).2.1.1, 32, .inl fU)), (o_h, .inr (1, [.int o_ln, .int o_hb, .int o_ha, .int o_pu, .int o_hl, .int o_sm, .int o_hr, .ref o_hS, .ref o_hC, .ref o_hN, .ref o_hM, .ref o_hU])), (o_hS, .inr (2, [.ref o_aS, .int o_mS, .int o_nS])), (o_aS, .inl ((vv_k x).2.1.1, 32, .inl o_fS)), (o_hC, .inr (2, [.ref o_aC, .int o_mC, .int o_nC])), (o_aC, .inl ((vv_k x).2.1.1, 32, .inl o_fC)), (o_hN, .inr (2, [.ref o_aN, .int o_mN, .int o_nN])), (o_aN, .inl ((vv_k x).2.1.1, 32, .inl o_fN)), (o_hM, .inr (2, [.ref o_aM, .int o_mM, .int o_nM])), (o_aM, .inl ((vv_k x).2.1.1, 32, .inl o_fM)), (o_hU, .inr (2, [.ref o_aU, .int o_mU, .int o_nU])), (o_aU, .inl ((vv_k x).2.1.1, 32, .inl o_fU))]) F fl_X2_39 dX2_copyFrom_13 rfl rfl rfl (Nat.le_of_ble_eq_true rfl) rfl ?_
  refine vv_aload_n F dX2_copyFrom_16 rfl rfl ?_
  refine vv_aload_n F dX2_copyFrom_17 rfl rfl ?_
  refine vv_get 11 F fl_X2_42 dX2_copyFrom_18 rfl rfl ?_
  refine vv_put 0 (ws' := [(hP, .inr (1, [.int o_ln, .int o_hb, .int o_ha, .int pu, .int hl, .int sm, .int hr, .ref hS, .ref hC, .ref hN, .ref hM, .ref hU])), (hS, .inr (2, [.ref aS, .int mS, .int nS])), (aS, .inl ((vv_k x).2.1.1, 32, .inl fS)), (hC, .inr (2, [.ref aC, .int mC, .int nC])), (aC, .inl ((vv_k x).2.1.1, 32, .inl fC)), (hN, .inr (2, [.ref aN, .int mN, .int nN])), (aN, .inl ((vv_k x).2.1.1, 32, .inl fN)), (hM, .inr (2, [.ref aM, .int mM, .int nM])), (aM, .inl ((vv_k x).2.1.1, 32, .inl fM)), (hU, .inr (2, [.ref aU, .int mU, .int nU])), (aU, .inl ((vv_k x).2.1.1, 32, .inl fU)), (o_h, .inr (1, [.int o_ln, .int o_hb, .int o_ha, .int o_pu, .int o_hl, .int o_sm, .int o_hr, .ref o_hS, .ref o_hC, .ref o_hN, .ref o_hM, .ref o_hU])), (o_hS, .inr (2, [.ref o_aS, .int o_mS, .int o_nS])), (o_aS, .inl ((vv_k x).2.1.1, 32, .inl o_fS)), (o_hC, .inr (2, [.ref o_aC, .int o_mC, .int o_nC])), (o_aC, .inl ((vv_k x).2.1.1, 32, .inl o_fC)), (o_hN, .inr (2, [.ref o_aN, .int o_mN, .int o_nN])), (o_aN, .inl ((vv_k x).2.1.1, 32, .inl o_fN)), (o_hM, .inr (2, [.ref o_aM, .int o_mM, .int o_nM])), (o_aM, .inl ((vv_k x).2.1.1, 32, .inl o_fM)), (o_hU, .inr (2, [.ref o_aU, .int o_mU, .int o_nU])), (o_aU, .inl ((vv_k x).2.1.1, 32, .inl o_fU))]) F fl_X2_42 dX2_copyFrom_21 rfl rfl rfl (Nat.le_of_ble_eq_true rfl) rfl ?_
  refine vv_aload_n F dX2_copyFrom_24 rfl rfl ?_
  refine vv_aload_n F dX2_copyFrom_25 rfl rfl ?_
  refine vv_get 11 F fl_X2_15 dX2_copyFrom_26 rfl rfl ?_
  refine vv_put 0 (ws' := [(hP, .inr (1, [.int o_ln, .int o_hb, .int o_ha, .int o_pu, .int hl, .int sm, .int hr, .ref hS, .ref hC, .ref hN, .ref hM, .ref hU])), (hS, .inr (2, [.ref aS, .int mS, .int nS])), (aS, .inl ((vv_k x).2.1.1, 32, .inl fS)), (hC, .inr (2, [.ref aC, .int mC, .int nC])), (aC, .inl ((vv_k x).2.1.1, 32, .inl fC)), (hN, .inr (2, [.ref aN, .int mN, .int nN])), (aN, .inl ((vv_k x).2.1.1, 32, .inl fN)), (hM, .inr (2, [.ref aM, .int mM, .int nM])), (aM, .inl ((vv_k x).2.1.1, 32, .inl fM)), (hU, .inr (2, [.ref aU, .int mU, .int nU])), (aU, .inl ((vv_k x).2.1.1, 32, .inl fU)), (o_h, .inr (1, [.int o_ln, .int o_hb, .int o_ha, .int o_pu, .int o_hl, .int o_sm, .int o_hr, .ref o_hS, .ref o_hC, .ref o_hN, .ref o_hM, .ref o_hU])), (o_hS, .inr (2, [.ref o_aS, .int o_mS, .int o_nS])), (o_aS, .inl ((vv_k x).2.1.1, 32, .inl o_fS)), (o_hC, .inr (2, [.ref o_aC, .int o_mC, .int o_nC])), (o_aC, .inl ((vv_k x).2.1.1, 32, .inl o_fC)), (o_hN, .inr (2, [.ref o_aN, .int o_mN, .int o_nN])), (o_aN, .inl ((vv_k x).2.1.1, 32, .inl o_fN)), (o_hM, .inr (2, [.ref o_aM, .int o_mM, .int o_nM])), (o_aM, .inl ((vv_k x).2.1.1, 32, .inl o_fM)), (o_hU, .inr (2, [.ref o_aU, .int o_mU, .int o_nU])), (o_aU, .inl ((vv_k x).2.1.1, 32, .inl o_fU))]) F fl_X2_15 dX2_copyFrom_29 rfl rfl rfl (Nat.le_of_ble_eq_true rfl) rfl ?_
  refine vv_aload_n F dX2_copyFrom_32 rfl rfl ?_
  refine vv_aload_n F dX2_copyFrom_33 rfl rfl ?_
  refine vv_get 11 F fl_X2_45 dX2_copyFrom_34 rfl rfl ?_
  refine vv_put 0 (ws' := [(hP, .inr (1, [.int o_ln, .int o_hb, .int o_ha, .int o_pu, .int o_hl, .int sm, .int hr, .ref hS, .ref hC, .ref hN, .ref hM, .ref hU])), (hS, .inr (2, [.ref aS, .int mS, .int nS])), (aS, .inl ((vv_k x).2.1.1, 32, .inl fS)), (hC, .inr (2, [.ref aC, .int mC, .int nC])), (aC, .inl ((vv_k x).2.1.1, 32, .inl fC)), (hN, .inr (2, [.ref aN, .int mN, .int nN])), (aN, .inl ((vv_k x).2.1.1, 32, .inl fN)), (hM, .inr (2, [.ref aM, .int mM, .int nM])), (aM, .inl ((vv_k x).2.1.1, 32, .inl fM)), (hU, .inr (2, [.ref aU, .int mU, .int nU])), (aU, .inl ((vv_k x).2.1.1, 32, .inl fU)), (o_h, .inr (1, [.int o_ln, .int o_hb, .int o_ha, .int o_pu, .int o_hl, .int o_sm, .int o_hr, .ref o_hS, .ref o_hC, .ref o_hN, .ref o_hM, .ref o_hU])), (o_hS, .inr (2, [.ref o_aS, .int o_mS, .int o_nS])), (o_aS, .inl ((vv_k x).2.1.1, 32, .inl o_fS)), (o_hC, .inr (2, [.ref o_aC, .int o_mC, .int o_nC])), (o_aC, .inl ((vv_k x).2.1.1, 32, .inl o_fC)), (o_hN, .inr (2, [.ref o_aN, .int o_mN, .int o_nN])), (o_aN, .inl ((vv_k x).2.1.1, 32, .inl o_fN)), (o_hM, .inr (2, [.ref o_aM, .int o_mM, .int o_nM])), (o_aM, .inl ((vv_k x).2.1.1, 32, .inl o_fM)), (o_hU, .inr (2, [.ref o_aU, .int o_mU, .int o_nU])), (o_aU, .inl ((vv_k x).2.1.1, 32, .inl o_fU))]) F fl_X2_45 dX2_copyFrom_37 rfl rfl rfl (Nat.le_of_ble_eq_true rfl) rfl ?_
  refine vv_aload_n F dX2_copyFrom_40 rfl rfl ?_
  refine vv_aload_n F dX2_copyFrom_41 rfl rfl ?_
  refine vv_get 11 F fl_X2_48 dX2_copyFrom_42 rfl rfl ?_
  refine vv_put 0 (ws' := [(hP, .inr (1, [.int o_ln, .int o_hb, .int o_ha, .int o_pu, .int o_hl, .int o_sm, .int hr, .ref hS, .ref hC, .ref hN, .ref hM, .ref hU])), (hS, .inr (2, [.ref aS, .int mS, .int nS])), (aS, .inl ((vv_k x).2.1.1, 32, .inl fS)), (hC, .inr (2, [.ref aC, .int mC, .int nC])), (aC, .inl ((vv_k x).2.1.1, 32, .inl fC)), (hN, .inr (2, [.ref aN, .int mN, .int nN])), (aN, .inl ((vv_k x).2.1.1, 32, .inl fN)), (hM, .inr (2, [.ref aM, .int mM, .int nM])), (aM, .inl ((vv_k x).2.1.1, 32, .inl fM)), (hU, .inr (2, [.ref aU, .int mU, .int nU])), (aU, .inl ((vv_k x).2.1.1, 32, .inl fU)), (o_h, .inr (1, [.int o_ln, .int o_hb, .int o_ha, .int o_pu, .int o_hl, .int o_sm, .int o_hr, .ref o_hS, .ref o_hC, .ref o_hN, .ref o_hM, .ref o_hU])), (o_hS, .inr (2, [.ref o_aS, .int o_mS, .int o_nS])), (o_aS, .inl ((vv_k x).2.1.1, 32, .inl o_fS)), (o_hC, .inr (2, [.ref o_aC, .int o_mC, .int o_nC])), (o_aC, .inl ((vv_k x).2.1.1, 32, .inl o_fC)), (o_hN, .inr (2, [.ref o_aN, .int o_mN, .int o_nN])), (o_aN, .inl ((vv_k x).2.1.1, 32, .inl o_fN)), (o_hM, .inr (2, [.ref o_aM, .int o_mM, .int o_nM])), (o_aM, .inl ((vv_k x).2.1.1, 32, .inl o_fM)), (o_hU, .inr (2, [.ref o_aU, .int o_mU, .int o_nU])), (o_aU, .inl ((vv_k x).2.1.1, 32, .inl o_fU))]) F fl_X2_48 dX2_copyFrom_45 rfl rfl rfl (Nat.le_of_ble_eq_true rfl) rfl ?_
  refine vv_aload_n F dX2_copyFrom_48 rfl rfl ?_
  refine vv_aload_n F dX2_copyFrom_49 rfl rfl ?_
  refine vv_get 11 F fl_X2_51 dX2_copyFrom_50 rfl rfl ?_
  refine vv_put 0 (ws' := [(hP, .inr (1, [.int o_ln, .int o_hb, .int o_ha, .int o_pu, .int o_hl, .int o_sm, .int o_hr, .ref hS, .ref hC, .ref hN, .ref hM, .ref hU])), (hS, .inr (2, [.ref aS, .int mS, .int nS])), (aS, .inl ((vv_k x).2.1.1, 32, .inl fS)), (hC, .inr (2, [.ref aC, .int mC, .int nC])), (aC, .inl ((vv_k x).2.1.1, 32, .inl fC)), (hN, .inr (2, [.ref aN, .int mN, .int nN])), (aN, .inl ((vv_k x).2.1.1, 32, .inl fN)), (hM, .inr (2, [.ref aM, .int mM, .int nM])), (aM, .inl ((vv_k x).2.1.1, 32, .inl fM)), (hU, .inr (2, [.ref aU, .int mU, .int nU])), (aU, .inl ((vv_k x).2.1.1, 32, .inl fU)), (o_h, .inr (1, [.int o_ln, .int o_hb, .int o_ha, .int o_pu, .int o_hl, .int o_sm, .int o_hr, .ref o_hS, .ref o_hC, .ref o_hN, .ref o_hM, .ref o_hU])), (o_hS, .inr (2, [.ref o_aS, .int o_mS, .int o_nS])), (o_aS, .inl ((vv_k x).2.1.1, 32, .inl o_fS)), (o_hC, .inr (2, [.ref o_aC, .int o_mC, .int o_nC])), (o_aC, .inl ((vv_k x).2.1.1, 32, .inl o_fC)), (o_hN, .inr (2, [.ref o_aN, .int o_mN, .int o_nN])), (o_aN, .inl ((vv_k x).2.1.1, 32, .inl o_fN)), (o_hM, .inr (2, [.ref o_aM, .int o_mM, .int o_nM])), (o_aM, .inl ((vv_k x).2.1.1, 32, .inl o_fM)), (o_hU, .inr (2, [.ref o_aU, .int o_mU, .int o_nU])), (o_aU, .inl ((vv_k x).2.1.1, 32, .inl o_fU))]) F fl_X2_51 dX2_copyFrom_53 rfl rfl rfl (Nat.le_of_ble_eq_true rfl) rfl ?_
  refine vv_aload_n F dX2_copyFrom_56 rfl rfl ?_
  refine vv_get 0 F fl_X2_23 dX2_copyFrom_57 rfl rfl ?_
  refine vv_aload_n F dX2_copyFrom_60 rfl rfl ?_
  refine vv_get 11 F fl_X2_23 dX2_copyFrom_61 rfl rfl ?_
  refine vv_callV (As := [.ref o_hS]) (rest := []) [1, 2, 12, 13] 1 (ws' := [(hP, .inr (1, [.int o_ln, .int o_hb, .int o_ha, .int o_pu, .int o_hl, .int o_sm, .int o_hr, .ref hS, .ref hC, .ref hN, .ref hM, .ref hU])), (hS, .inr (2, [.ref aS, .int mS, .int o_nS])), (aS, .inl ((vv_k x).2.1.1, 32, .inl (va_cpy o_fS fS 0 0 32))), (hC, .inr (2, [.ref aC, .int mC, .int nC])), (aC, .inl ((vv_k x).2.1.1, 32, .inl fC)), (hN, .inr (2, [.ref aN, .int mN, .int nN])), (aN, .inl ((vv_k x).2.1.1, 32, .inl fN)), (hM, .inr (2, [.ref aM, .int mM, .int nM])), (aM, .inl ((vv_k x).2.1.1, 32, .inl fM)), (hU, .inr (2, [.ref aU, .int mU, .int nU])), (aU, .inl ((vv_k x).2.1.1, 32, .inl fU)), (o_h, .inr (1, [.int o_ln, .int o_hb, .int o_ha, .int o_pu, .int o_hl, .int o_sm, .int o_hr, .ref o_hS, .ref o_hC, .ref o_hN, .ref o_hM, .ref o_hU])), (o_hS, .inr (2, [.ref o_aS, .int o_mS, .int o_nS])), (o_aS, .inl ((vv_k x).2.1.1, 32, .inl o_fS)), (o_hC, .inr (2, [.ref o_aC, .int o_mC, .int o_nC])), (o_aC, .inl ((vv_k x).2.1.1, 32, .inl o_fC)), (o_hN, .inr (2, [.ref o_aN, .int o_mN, .int o_nN])), (o_aN, .inl ((vv_k x).2.1.1, 32, .inl o_fN)), (o_hM, .inr (2, [.ref o_aM, .int o_mM, .int o_nM])), (o_aM, .inl ((vv_k x).2.1.1, 32, .inl o_fM)), (o_hU, .inr (2, [.ref o_aU, .int o_mU, .int o_nU])), (o_aU, .inl ((vv_k x).2.1.1, 32, .inl o_fU))]) F (c_X3_copyFrom (vv_l x) (vv_k x) hS aS mS nS fS o_hS o_aS o_mS o_nS o_fS) mv_X2_57 dX2_copyFrom_64 (by decide) rfl rfl (Nat.le_of_ble_eq_true rfl) rfl (by decide) (Eq.trans (b := [hS, aS, o_hS, o_aS]) rfl rfl) rfl rfl ?_
  refine vv_aload_n F dX2_copyFrom_67 rfl rfl ?_
  refine vv_get 0 F fl_X2_27 dX2_copyFrom_68 rfl rfl ?_
  refine vv_aload_n F dX2_copyFrom_71 rfl rfl ?_
  refine vv_get 11 F fl_X2_27 dX2_copyFrom_72 rfl rfl ?_
  refine vv_callV (As := [.ref o_hC]) (rest := []) [3, 4, 14, 15] 3 (ws' := [(hP, .inr (1, [.int o_ln, .int o_hb, .int o_ha, .int o_pu, .int o_hl, .int o_sm, .int o_hr, .ref hS, .ref hC, .ref hN, .ref hM, .ref hU])), (hS, .inr (2, [.ref aS, .int mS, .int o_nS])), (aS, .inl ((vv_k x).2.1.1, 32, .inl (va_cpy o_fS fS 0 0 32))), (hC, .inr (2, [.ref aC, .int mC, .int o_nC])), (aC, .inl ((vv_k x).2.1.1, 32, .inl (va_cpy o_fC fC 0 0 32))), (hN, .inr (2, [.ref aN, .int mN, .int nN])), (aN, .inl ((vv_k x).2.1.1, 32, .inl fN)), (hM, .inr (2, [.ref aM, .int mM, .int nM])), (aM, .inl ((vv_k x).2.1.1, 32, .inl fM)), (hU, .inr (2, [.ref aU, .int mU, .int nU])), (aU, .inl ((vv_k x).2.1.1, 32, .inl fU)), (o_h, .inr (1, [.int o_ln, .int o_hb, .int o_ha, .int o_pu, .int o_hl, .int o_sm, .int o_hr, .ref o_hS, .ref o_hC, .ref o_hN, .ref o_hM, .ref o_hU])), (o_hS, .inr (2, [.ref o_aS, .int o_mS, .int o_nS])), (o_aS, .inl ((vv_k x).2.1.1, 32, .inl o_fS)), (o_hC, .inr (2, [.ref o_aC, .int o_mC, .int o_nC])), (o_aC, .inl ((vv_k x).2.1.1, 32, .inl o_fC)), (o_hN, .inr (2, [.ref o_aN, .int o_mN, .int o_nN])), (o_aN, .inl ((vv_k x).2.1.1, 32, .inl o_fN)), (o_hM, .inr (2, [.ref o_aM, .int o_mM, .int o_nM])), (o_aM, .inl ((vv_k x).2.1.1, 32, .inl o_fM)), (o_hU, .inr (2, [.ref o_aU, .int o_mU, .int o_nU])), (o_aU, .inl ((vv_k x).2.1.1, 32, .inl o_fU))]) F (c_X3_copyFrom (vv_l x) (vv_k x) hC aC mC nC fC o_hC o_aC o_mC o_nC o_fC) mv_X2_57 dX2_copyFrom_75 (by decide) rfl rfl (Nat.le_of_ble_eq_true rfl) rfl (by decide) (Eq.trans (b := [hC, aC, o_hC, o_aC]) rfl rfl) rfl rfl ?_
  refine vv_aload_n F dX2_copyFrom_78 rfl rfl ?_
  refine vv_get 0 F fl_X2_30 dX2_copyFrom_79 rfl rfl ?_
  refine vv_aload_n F dX2_copyFrom_82 rfl rfl ?_
  refine vv_get 11 F fl_X2_30 dX2_copyFrom_83 rfl rfl ?_
  refine vv_callV (As := [.ref o_hN]) (rest := []) [5, 6, 16, 17] 5 (ws' := [(hP, .inr (1, [.int o_ln, .int o_hb, .int o_ha, .int o_pu, .int o_hl, .int o_sm, .int o_hr, .ref hS, .ref hC, .ref hN, .ref hM, .ref hU])), (hS, .inr (2, [.ref aS, .int mS, .int o_nS])), (aS, .inl ((vv_k x).2.1.1, 32, .inl (va_cpy o_fS fS 0 0 32))), (hC, .inr (2, [.ref aC, .int mC, .int o_nC])), (aC, .inl ((vv_k x).2.1.1, 32, .inl (va_cpy o_fC fC 0 0 32))), (hN, .inr (2, [.ref aN, .int mN, .int o_nN])), (aN, .inl ((vv_k x).2.1.1, 32, .inl (va_cpy o_fN fN 0 0 32))), (hM, .inr (2, [.ref aM, .int mM, .int nM])), (aM, .inl ((vv_k x).2.1.1, 32, .inl fM)), (hU, .inr (2, [.ref aU, .int mU, .int nU])), (aU, .inl ((vv_k x).2.1.1, 32, .inl fU)), (o_h, .inr (1, [.int o_ln, .int o_hb, .int o_ha, .int o_pu, .int o_hl, .int o_sm, .int o_hr, .ref o_hS, .ref o_hC, .ref o_hN, .ref o_hM, .ref o_hU])), (o_hS, .inr (2, [.ref o_aS, .int o_mS, .int o_nS])), (o_aS, .inl ((vv_k x).2.1.1, 32, .inl o_fS)), (o_hC, .inr (2, [.ref o_aC, .int o_mC, .int o_nC])), (o_aC, .inl ((vv_k x).2.1.1, 32, .inl o_fC)), (o_hN, .inr (2, [.ref o_aN, .int o_mN, .int o_nN])), (o_aN, .inl ((vv_k x).2.1.1, 32, .inl o_fN)), (o_hM, .inr (2, [.ref o_aM, .int o_mM, .int o_nM])), (o_aM, .inl ((vv_k x).2.1.1, 32, .inl o_fM)), (o_hU, .inr (2, [.ref o_aU, .int o_mU, .int o_nU])), (o_aU, .inl ((vv_k x).2.1.1, 32, .inl o_fU))]) F (c_X3_copyFrom (vv_l x) (vv_k x) hN aN mN nN fN o_hN o_aN o_mN o_nN o_fN) mv_X2_57 dX2_copyFrom_86 (by decide) rfl rfl (Nat.le_of_ble_eq_true rfl) rfl (by decide) (Eq.trans (b := [hN, aN, o_hN, o_aN]) rfl rfl) rfl rfl ?_
  refine vv_aload_n F dX2_copyFrom_89 rfl rfl ?_
  refine vv_get 0 F fl_X2_33 dX2_copyFrom_90 rfl rfl ?_
  refine vv_aload_n F dX2_copyFrom_93 rfl rfl ?_
  refine vv_get 11 F fl_X2_33 dX2_copyFrom_94 rfl rfl ?_
  refine vv_callV (As := [.ref o_hM]) (rest := []) [7, 8, 18, 19] 7 (ws' := [(hP, .inr (1, [.int o_ln, .int o_hb, .int o_ha, .int o_pu, .int o_hl, .int o_sm, .int o_hr, .ref hS, .ref hC, .ref hN, .ref hM, .ref hU])), (hS, .inr (2, [.ref aS, .int mS, .int o_nS])), (aS, .inl ((vv_k x).2.1.1, 32, .inl (va_cpy o_fS fS 0 0 32))), (hC, .inr (2, [.ref aC, .int mC, .int o_nC])), (aC, .inl ((vv_k x).2.1.1, 32, .inl (va_cpy o_fC fC 0 0 32))), (hN, .inr (2, [.ref aN, .int mN, .int o_nN])), (aN, .inl ((vv_k x).2.1.1, 32, .inl (va_cpy o_fN fN 0 0 32))), (hM, .inr (2, [.ref aM, .int mM, .int o_nM])), (aM, .inl ((vv_k x).2.1.1, 32, .inl (va_cpy o_fM fM 0 0 32))), (hU, .inr (2, [.ref aU, .int mU, .int nU])), (aU, .inl ((vv_k x).2.1.1, 32, .inl fU)), (o_h, .inr (1, [.int o_ln, .int o_hb, .int o_ha, .int o_pu, .int o_hl, .int o_sm, .int o_hr, .ref o_hS, .ref o_hC, .ref o_hN, .ref o_hM, .ref o_hU])), (o_hS, .inr (2, [.ref o_aS, .int o_mS, .int o_nS])), (o_aS, .inl ((vv_k x).2.1.1, 32, .inl o_fS)), (o_hC, .inr (2, [.ref o_aC, .int o_mC, .int o_nC])), (o_aC, .inl ((vv_k x).2.1.1, 32, .inl o_fC)), (o_hN, .inr (2, [.ref o_aN, .int o_mN, .int o_nN])), (o_aN, .inl ((vv_k x).2.1.1, 32, .inl o_fN)), (o_hM, .inr (2, [.ref o_aM, .int o_mM, .int o_nM])), (o_aM, .inl ((vv_k x).2.1.1, 32, .inl o_fM)), (o_hU, .inr (2, [.ref o_aU, .int o_mU, .int o_nU])), (o_aU, .inl ((vv_k x).2.1.1, 32, .inl o_fU))]) F (c_X3_copyFrom (vv_l x) (vv_k x) hM aM mM nM fM o_hM o_aM o_mM o_nM o_fM) mv_X2_57 dX2_copyFrom_97 (by decide) rfl rfl (Nat.le_of_ble_eq_true rfl) rfl (by decide) (Eq.trans (b := [hM, aM, o_hM, o_aM]) rfl rfl) rfl rfl ?_
  refine vv_aload_n F dX2_copyFrom_100 rfl rfl ?_
  refine vv_get 0 F fl_X2_36 dX2_copyFrom_101 rfl rfl ?_
  refine vv_aload_n F dX2_copyFrom_104 rfl rfl ?_
  refine vv_get 11 F fl_X2_36 dX2_copyFrom_105 rfl rfl ?_
  refine vv_callV (As := [.ref o_hU]) (rest := []) [9, 10, 20, 21] 9 (ws' := [(hP, .inr (1, [.int o_ln, .int o_hb, .int o_ha, .int o_pu, .int o_hl, .int o_sm, .int o_hr, .ref hS, .ref hC, .ref hN, .ref hM, .ref hU])), (hS, .inr (2, [.ref aS, .int mS, .int o_nS])), (aS, .inl ((vv_k x).2.1.1, 32, .inl (va_cpy o_fS fS 0 0 32))), (hC, .inr (2, [.ref aC, .int mC, .int o_nC])), (aC, .inl ((vv_k x).2.1.1, 32, .inl (va_cpy o_fC fC 0 0 32))), (hN, .inr (2, [.ref aN, .int mN, .int o_nN])), (aN, .inl ((vv_k x).2.1.1, 32, .inl (va_cpy o_fN fN 0 0 32))), (hM, .inr (2, [.ref aM, .int mM, .int o_nM])), (aM, .inl ((vv_k x).2.1.1, 32, .inl (va_cpy o_fM fM 0 0 32))), (hU, .inr (2, [.ref aU, .int mU, .int o_nU])), (aU, .inl ((vv_k x).2.1.1, 32, .inl (va_cpy o_fU fU 0 0 32))), (o_h, .inr (1, [.int o_ln, .int o_hb, .int o_ha, .int o_pu, .int o_hl, .int o_sm, .int o_hr, .ref o_hS, .ref o_hC, .ref o_hN, .ref o_hM, .ref o_hU])), (o_hS, .inr (2, [.ref o_aS, .int o_mS, .int o_nS])), (o_aS, .inl ((vv_k x).2.1.1, 32, .inl o_fS)), (o_hC, .inr (2, [.ref o_aC, .int o_mC, .int o_nC])), (o_aC, .inl ((vv_k x).2.1.1, 32, .inl o_fC)), (o_hN, .inr (2, [.ref o_aN, .int o_mN, .int o_nN])), (o_aN, .inl ((vv_k x).2.1.1, 32, .inl o_fN)), (o_hM, .inr (2, [.ref o_aM, .int o_mM, .int o_nM])), (o_aM, .inl ((vv_k x).2.1.1, 32, .inl o_fM)), (o_hU, .inr (2, [.ref o_aU, .int o_mU, .int o_nU])), (o_aU, .inl ((vv_k x).2.1.1, 32, .inl o_fU))]) F (c_X3_copyFrom (vv_l x) (vv_k x) hU aU mU nU fU o_hU o_aU o_mU o_nU o_fU) mv_X2_57 dX2_copyFrom_108 (by decide) rfl rfl (Nat.le_of_ble_eq_true rfl) rfl (by decide) (Eq.trans (b := [hU, aU, o_hU, o_aU]) rfl rfl) rfl rfl ?_
  exact vv_vret F hR dX2_copyFrom_111 rfl rfl
