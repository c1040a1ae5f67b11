theorem mn_nn {a : Int32} {t s : Nat} (ha : a.toInt = (t : Int)) (hs : s < 1000) (ht : t < 1000) : (if a < (nI s + 1) then a else (nI s + 1)) = nI (if t < s + 1 then t else s + 1) := by
  have h1 : (nI s + 1).toInt = ((s + 1 : Nat) : Int) := by rw [nI_1]; exact nI_toInt (by omega)
  by_cases h : t < s + 1
  · rw [if_pos h, if_pos ((c_lt ha h1).mpr h)]; exact nn_eq ha (by omega)
  · rw [if_neg h, if_neg (mt (c_lt ha h1).mp h)]; exact nI_1 s
def mn1 (s t : Nat) : Nat := if t < s + 1 then t else s + 1
theorem mn1_le {s t : Nat} (h : s ≤ t) : s ≤ mn1 s t ∧ mn1 s t ≤ t := by unfold mn1; split <;> omega
noncomputable def f_X5_tokenAt (tl : Int32) (by_ : Nat → Int32) (at_ : Int32) (k : Nat) : Int32 := (if at_ < 0 then 0 else (if tl ≤ at_ then 0 else (if at_ < 150 then (if (by_ k) < 97 then (if (by_ k) < 48 then (if (by_ k) = 59 then 3 else (if (by_ k) = 32 then 4 else 5)) else (if 57 < (by_ k) then (if (by_ k) = 59 then 3 else (if (by_ k) = 32 then 4 else 5)) else 2)) else (if 122 < (by_ k) then (if (by_ k) < 48 then (if (by_ k) = 59 then 3 else (if (by_ k) = 32 then 4 else 5)) else (if 57 < (by_ k) then (if (by_ k) = 59 then 3 else (if (by_ k) = 32 then 4 else 5)) else 2)) else 1)) else 0)))
theorem c_X5_tokenAt (l : Launch) (K : vv_K) (hE aE : Nat) (tl ts tn tk tm : Int32) (by_ : Nat → Int32) (at_ : Int32) (k tt : Nat) (hk : (at_).toInt = (k : Int)) (ht : (tl).toInt = (tt : Int)) (htt : tt ≤ 150)  : vv_C l K 1 yX5_tokenAt cX5_tokenAt 3 (some .int) [.ref hE, .int at_] [(hE, .inr (4, [.ref aE, .int tl, .int ts, .int tn, .int tk, .int tm])), (aE, .inl (K.2.1.2.1, 150, .inl by_))] (some (.int (f_X5_tokenAt tl by_ at_ k))) [(hE, .inr (4, [.ref aE, .int tl, .int ts, .int tn, .int tk, .int tm])), (aE, .inl (K.2.1.2.1, 150, .inl by_))] := by
  refine vv_C.of (lv := [(0, .ref hE), (1, .int at_)]) (by decide +kernel) (Nat.le_of_ble_eq_true rfl) rfl ?_
  intro x hl hK F hR; subst hl; obtain rfl := hK
  refine vv_iload_n F dX5_tokenAt_0 rfl rfl ?_
  refine vv_if_lt (tgt := 19) F dX5_tokenAt_1 (by decide) (fun h_1 => ?_) (fun h_1 => ?_)
  · refine vv_iconst (v := 0) F dX5_tokenAt_19 (by decide) ?_
    exact vv_iret F hR dX5_tokenAt_20 (congrArg (fun z => some (Value.int z)) ((if_pos h_1).trans rfl)) rfl
  · refine vv_iload_n F dX5_tokenAt_4 rfl rfl ?_
    refine vv_aload_n F dX5_tokenAt_5 rfl rfl ?_
    refine vv_get 0 F fl_X5_15 dX5_tokenAt_6 rfl rfl ?_
    refine vv_icmp_ge (tgt := 19) F dX5_tokenAt_9 (by decide) (fun h_2 => ?_) (fun h_2 => ?_)
    · refine vv_iconst (v := 0) F dX5_tokenAt_19 (by decide) ?_
      exact vv_iret F hR dX5_tokenAt_20 (congrArg (fun z => some (Value.int z)) ((if_neg h_1).trans ((if_pos h_2).trans rfl))) rfl
    · refine vv_iload_n F dX5_tokenAt_12 rfl rfl ?_
      refine vv_sipush (v := 150) F dX5_tokenAt_13 (by decide) ?_
      refine vv_icmp_lt (tgt := 21) F dX5_tokenAt_16 (by decide) (fun h_3 => ?_) (fun h_3 => ?_)
      · have hlt := mt (c_le ht hk).mpr h_2
        refine vv_aload_n F dX5_tokenAt_21 rfl rfl ?_
        refine vv_get 0 F fl_X5_11 dX5_tokenAt_22 rfl rfl ?_
        refine vv_iload_n F dX5_tokenAt_25 rfl rfl ?_
        refine vv_bald 1 F dX5_tokenAt_26 rfl (vv_ixP (j := k) (by have hz := hk; omega) (by omega)) ?_
        refine vv_istore_n (lv' := [(2, .int (by_ k)), (0, .ref hE), (1, .int at_)]) F dX5_tokenAt_27 rfl (by decide) rfl ?_
        refine vv_iload_n F dX5_tokenAt_28 rfl rfl ?_
        refine vv_bipush (v := 97) F dX5_tokenAt_29 (by decide) ?_
        refine vv_icmp_lt (tgt := 42) F dX5_tokenAt_31 (by decide) (fun h_4 => ?_) (fun h_4 => ?_)
        · refine vv_iload_n F dX5_tokenAt_42 rfl rfl ?_
          refine vv_bipush (v := 48) F dX5_tokenAt_43 (by decide) ?_
          refine vv_icmp_lt (tgt := 56) F dX5_tokenAt_45 (by decide) (fun h_5 => ?_) (fun h_5 => ?_)
          · refine vv_iload_n F dX5_tokenAt_56 rfl rfl ?_
            refine vv_bipush (v := 59) F dX5_tokenAt_57 (by decide) ?_
            refine vv_icmp_ne (tgt := 66) F dX5_tokenAt_59 (by decide) (fun h_6 => ?_) (fun h_6 => ?_)
            · refine vv_iload_n F dX5_tokenAt_66 rfl rfl ?_
              refine vv_bipush (v := 32) F dX5_tokenAt_67 (by decide) ?_
              refine vv_icmp_ne (tgt := 76) F dX5_tokenAt_69 (by decide) (fun h_7 => ?_) (fun h_7 => ?_)
              · refine vv_iconst (v := 5) F dX5_tokenAt_76 (by decide) ?_
                exact vv_iret F hR dX5_tokenAt_77 (congrArg (fun z => some (Value.int z)) ((if_neg h_1).trans ((if_neg h_2).trans ((if_pos h_3).trans ((if_pos h_4).trans ((if_pos h_5).trans ((if_neg h_6).trans ((if_neg h_7).trans rfl)))))))) rfl
              · refine vv_iconst (v := 4) F dX5_tokenAt_72 (by decide) ?_
                refine vv_goto (tgt := 77) F dX5_tokenAt_73 (by decide) ?_
                exact vv_iret F hR dX5_tokenAt_77 (congrArg (fun z => some (Value.int z)) ((if_neg h_1).trans ((if_neg h_2).trans ((if_pos h_3).trans ((if_pos h_4).trans ((if_pos h_5).trans ((if_neg h_6).trans ((if_pos h_7).trans rfl)))))))) rfl
            · refine vv_iconst (v := 3) F dX5_tokenAt_62 (by decide) ?_
              refine vv_goto (tgt := 77) F dX5_tokenAt_63 (by decide) ?_
              exact vv_iret F hR dX5_tokenAt_77 (congrArg (fun z => some (Value.int z)) ((if_neg h_1).trans ((if_neg h_2).trans ((if_pos h_3).trans ((if_pos h_4).trans ((if_pos h_5).trans ((if_pos h_6).trans rfl))))))) rfl
          · refine vv_iload_n F dX5_tokenAt_48 rfl rfl ?_
            refine vv_bipush (v := 57) F dX5_tokenAt_49 (by decide) ?_
            refine vv_icmp_gt (tgt := 56) F dX5_tokenAt_51 (by decide) (fun h_8 => ?_) (fun h_8 => ?_)
            · refine vv_iload_n F dX5_tokenAt_56 rfl rfl ?_
              refine vv_bipush (v := 59) F dX5_tokenAt_57 (by decide) ?_
              refine vv_icmp_ne (tgt := 66) F dX5_tokenAt_59 (by decide) (fun h_9 => ?_) (fun h_9 => ?_)
              · refine vv_iload_n F dX5_tokenAt_66 rfl rfl ?_
                refine vv_bipush (v := 32) F dX5_tokenAt_67 (by decide) ?_
                refine vv_icmp_ne (tgt := 76) F dX5_tokenAt_69 (by decide) (fun h_10 => ?_) (fun h_10 => ?_)
                · refine vv_iconst (v := 5) F dX5_tokenAt_76 (by decide) ?_
                  exact vv_iret F hR dX5_tokenAt_77 (congrArg (fun z => some (Value.int z)) ((if_neg h_1).trans ((if_neg h_2).trans ((if_pos h_3).trans ((if_pos h_4).trans ((if_neg h_5).trans ((if_pos h_8).trans ((if_neg h_9).trans ((if_neg h_10).trans rfl))))))))) rfl
                · refine vv_iconst (v := 4) F dX5_tokenAt_72 (by decide) ?_
                  refine vv_goto (tgt := 77) F dX5_tokenAt_73 (by decide) ?_
                  exact vv_iret F hR dX5_tokenAt_77 (congrArg (fun z => some (Value.int z)) ((if_neg h_1).trans ((if_neg h_2).trans ((if_pos h_3).trans ((if_pos h_4).trans ((if_neg h_5).trans ((if_pos h_8).trans ((if_neg h_9).trans ((if_pos h_10).trans rfl))))))))) rfl
              · refine vv_iconst (v := 3) F dX5_tokenAt_62 (by decide) ?_
                refine vv_goto (tgt := 77) F dX5_tokenAt_63 (by decide) ?_
                exact vv_iret F hR dX5_tokenAt_77 (congrArg (fun z => some (Value.int z)) ((if_neg h_1).trans ((if_neg h_2).trans ((if_pos h_3).trans ((if_pos h_4).trans ((if_neg h_5).trans ((if_pos h_8).trans ((if_pos h_9).trans rfl)))))))) rfl
            · refine vv_iconst (v := 2) F dX5_tokenAt_54 (by decide) ?_
              exact vv_iret F hR dX5_tokenAt_55 (congrArg (fun z => some (Value.int z)) ((if_neg h_1).trans ((if_neg h_2).trans ((if_pos h_3).trans ((if_pos h_4).trans ((if_neg h_5).trans ((if_neg h_8).trans rfl))))))) rfl
        · refine vv_iload_n F dX5_tokenAt_34 rfl rfl ?_
          refine vv_bipush (v := 122) F dX5_tokenAt_35 (by decide) ?_
          refine vv_icmp_gt (tgt := 42) F dX5_tokenAt_37 (by decide) (fun h_11 => ?_) (fun h_11 => ?_)
          · refine vv_iload_n F dX5_tokenAt_42 rfl rfl ?_
            refine vv_bipush (v := 48) F dX5_tokenAt_43 (by decide) ?_
            refine vv_icmp_lt (tgt := 56) F dX5_tokenAt_45 (by decide) (fun h_12 => ?_) (fun h_12 => ?_)
            · refine vv_iload_n F dX5_tokenAt_56 rfl rfl ?_
              refine vv_bipush (v := 59) F dX5_tokenAt_57 (by decide) ?_
              refine vv_icmp_ne (tgt := 66) F dX5_tokenAt_59 (by decide) (fun h_13 => ?_) (fun h_13 => ?_)
              · refine vv_iload_n F dX5_tokenAt_66 rfl rfl ?_
                refine vv_bipush (v := 32) F dX5_tokenAt_67 (by decide) ?_
                refine vv_icmp_ne (tgt := 76) F dX5_tokenAt_69 (by decide) (fun h_14 => ?_) (fun h_14 => ?_)
                · refine vv_iconst (v := 5) F dX5_tokenAt_76 (by decide) ?_
                  exact vv_iret F hR dX5_tokenAt_77 (congrArg (fun z => some (Value.int z)) ((if_neg h_1).trans ((if_neg h_2).trans ((if_pos h_3).trans ((if_neg h_4).trans ((if_pos h_11).trans ((if_pos h_12).trans ((if_neg h_13).trans ((if_neg h_14).trans rfl))))))))) rfl
                · refine vv_iconst (v := 4) F dX5_tokenAt_72 (by decide) ?_
                  refine vv_goto (tgt := 77) F dX5_tokenAt_73 (by decide) ?_
                  exact vv_iret F hR dX5_tokenAt_77 (congrArg (fun z => some (Value.int z)) ((if_neg h_1).trans ((if_neg h_2).trans ((if_pos h_3).trans ((if_neg h_4).trans ((if_pos h_11).trans ((if_pos h_12).trans ((if_neg h_13).trans ((if_pos h_14).trans rfl))))))))) rfl
              · refine vv_iconst (v := 3) F dX5_tokenAt_62 (by decide) ?_
                refine vv_goto (tgt := 77) F dX5_tokenAt_63 (by decide) ?_
                exact vv_iret F hR dX5_tokenAt_77 (congrArg (fun z => some (Value.int z)) ((if_neg h_1).trans ((if_neg h_2).trans ((if_pos h_3).trans ((if_neg h_4).trans ((if_pos h_11).trans ((if_pos h_12).trans ((if_pos h_13).trans rfl)))))))) rfl
            · refine vv_iload_n F dX5_tokenAt_48 rfl rfl ?_
              refine vv_bipush (v := 57) F dX5_tokenAt_49 (by decide) ?_
              refine vv_icmp_gt (tgt := 56) F dX5_tokenAt_51 (by decide) (fun h_15 => ?_) (fun h_15 => ?_)
              · refine vv_iload_n F dX5_tokenAt_56 rfl rfl ?_
                refine vv_bipush (v := 59) F dX5_tokenAt_57 (by decide) ?_
                refine vv_icmp_ne (tgt := 66) F dX5_tokenAt_59 (by decide) (fun h_16 => ?_) (fun h_16 => ?_)
                · refine vv_iload_n F dX5_tokenAt_66 rfl rfl ?_
                  refine vv_bipush (v := 32) F dX5_tokenAt_67 (by decide) ?_
                  refine vv_icmp_ne (tgt := 76) F dX5_tokenAt_69 (by decide) (fun h_17 => ?_) (fun h_17 => ?_)
                  · refine vv_iconst (v := 5) F dX5_tokenAt_76 (by decide) ?_
                    exact vv_iret F hR dX5_tokenAt_77 (congrArg (fun z => some (Value.int z)) ((if_neg h_1).trans ((if_neg h_2).trans ((if_pos h_3).trans ((if_neg h_4).trans ((if_pos h_11).trans ((if_neg h_12).trans ((if_pos h_15).trans ((if_neg h_16).trans ((if_neg h_17).trans rfl)))))))))) rfl
                  · refine vv_iconst (v := 4) F dX5_tokenAt_72 (by decide) ?_
                    refine vv_goto (tgt := 77) F dX5_tokenAt_73 (by decide) ?_
                    exact vv_iret F hR dX5_tokenAt_77 (congrArg (fun z => some (Value.int z)) ((if_neg h_1).trans ((if_neg h_2).trans ((if_pos h_3).trans ((if_neg h_4).trans ((if_pos h_11).trans ((if_neg h_12).trans ((if_pos h_15).trans ((if_neg h_16).trans ((if_pos h_17).trans rfl)))))))))) rfl
                · refine vv_iconst (v := 3) F dX5_tokenAt_62 (by decide) ?_
                  refine vv_goto (tgt := 77) F dX5_tokenAt_63 (by decide) ?_
                  exact vv_iret F hR dX5_tokenAt_77 (congrArg (fun z => some (Value.int z)) ((if_neg h_1).trans ((if_neg h_2).trans ((if_pos h_3).trans ((if_neg h_4).trans ((if_pos h_11).trans ((if_neg h_12).trans ((if_pos h_15).trans ((if_pos h_16).trans rfl))))))))) rfl
              · refine vv_iconst (v := 2) F dX5_tokenAt_54 (by decide) ?_
                exact vv_iret F hR dX5_tokenAt_55 (congrArg (fun z => some (Value.int z)) ((if_neg h_1).trans ((if_neg h_2).trans ((if_pos h_3).trans ((if_neg h_4).trans ((if_pos h_11).trans ((if_neg h_12).trans ((if_neg h_15).trans rfl)))))))) rfl
          · refine vv_iconst (v := 1) F dX5_tokenAt_40 (by decide) ?_
            exact vv_iret F hR dX5_tokenAt_41 (congrArg (fun z => some (Value.int z)) ((if_neg h_1).trans ((if_neg h_2).trans ((if_pos h_3).trans ((if_neg h_4).trans ((if_neg h_11).trans rfl)))))) rfl
      · refine vv_iconst (v := 0) F dX5_tokenAt_19 (by decide) ?_
        exact vv_iret F hR dX5_tokenAt_20 (congrArg (fun z => some (Value.int z)) ((if_neg h_1).trans ((if_neg h_2).trans ((if_neg h_3).trans rfl)))) rfl
noncomputable def tQ (tl : Int32) (by_ : Nat → Int32) (c : Int32) (q : Nat) : Bool := decide ((¬ tl ≤ (nI q)) ∧ (f_X5_tokenAt tl by_ (nI q) q) = c)
theorem tQ_lt {tl c : Int32} {by_ : Nat → Int32} {t q : Nat} (ht : tl.toInt = (t : Int)) (hq : q < 2147483648) (h : tQ tl by_ c q = true) : q < t := by
  have h1 := (of_decide_eq_true h).1
  rcases Nat.lt_or_ge q t with z | z
  · exact z
  · exact absurd ((c_le ht (nI_toInt hq)).mpr z) h1
noncomputable def tsk (tl : Int32) (by_ : Nat → Int32) (t : Nat) (c : Int32) (p : Nat) : Nat := skp (tQ tl by_ c) t p
theorem tsk_le {tl c : Int32} {by_ : Nat → Int32} {t p : Nat} (ht : tl.toInt = (t : Int)) (htt : t ≤ 150) (hp : p ≤ t) : p ≤ tsk tl by_ t c p ∧ tsk tl by_ t c p ≤ t := by
  have h : p ≤ tsk tl by_ t c p ∧ (tsk tl by_ t c p ≤ t ∨ tsk tl by_ t c p = p) := skp_le2 (fun q h1 h2 => tQ_lt ht h1 h2) t p (by omega)
  omega
noncomputable def adS (tl : Int32) (by_ : Nat → Int32) (t p : Nat) : Nat := tsk tl by_ t 4 p
noncomputable def adT (tl : Int32) (by_ : Nat → Int32) (t p : Nat) : Int32 := (f_X5_tokenAt tl by_ (nI (adS tl by_ t p)) (adS tl by_ t p))
noncomputable def adN (tl : Int32) (by_ : Nat → Int32) (t p : Nat) : Nat := if adT tl by_ t p = 1 then tsk tl by_ t (adT tl by_ t p) (mn1 (adS tl by_ t p) t) else if adT tl by_ t p = 2 then tsk tl by_ t (adT tl by_ t p) (mn1 (adS tl by_ t p) t) else mn1 (adS tl by_ t p) t
theorem adS_le {tl : Int32} {by_ : Nat → Int32} {t p : Nat} (ht : tl.toInt = (t : Int)) (htt : t ≤ 150) (hp : p ≤ t) : p ≤ adS tl by_ t p ∧ adS tl by_ t p ≤ t := tsk_le ht htt hp
theorem adN_le {tl : Int32} {by_ : Nat → Int32} {t p : Nat} (ht : tl.toInt = (t : Int)) (htt : t ≤ 150) (hp : p ≤ t) : adS tl by_ t p ≤ adN tl by_ t p ∧ adN tl by_ t p ≤ t := by
  have h := adS_le (by_ := by_) ht htt hp
  have h2 := mn1_le h.2
  have h3 := tsk_le (by_ := by_) (c := adT tl by_ t p) ht htt h2.2
  unfold adN; split
  · omega
  · split <;> omega
theorem L_X5_adv1 {x : vv_X} (F : vv_F x cX5_advance 2 RX5 3) (hE aE : Nat) (tl ts tk tm : Int32) (by_ : Nat → Int32) (tt : Nat) (ht : (tl).toInt = (tt : Int)) (htt : tt ≤ 150) : ∀ (n : Nat) (p : Nat), tt ≤ p + n → p ≤ tt → vv_V x 2 36 [(0, .ref hE)] [] [(hE, .inr (4, [.ref aE, .int tl, .int ts, .int (nI (skp (tQ tl by_ 4) n p)), .int tk, .int tm])), (aE, .inl ((vv_k x).2.1.2.1, 150, .inl by_))] → vv_V x 2 0 [(0, .ref hE)] [] [(hE, .inr (4, [.ref aE, .int tl, .int ts, .int (nI p), .int tk, .int tm])), (aE, .inl ((vv_k x).2.1.2.1, 150, .inl by_))] := by
  intro n
  induction n with
  | zero =>
    intro p hpn hp  kx
    refine vv_aload_n F dX5_advance_0 rfl rfl ?_
    refine vv_get 0 F fl_X5_23 dX5_advance_1 rfl rfl ?_
    refine vv_aload_n F dX5_advance_4 rfl rfl ?_
    refine vv_get 0 F fl_X5_15 dX5_advance_5 rfl rfl ?_
    refine vv_icmp_ge (tgt := 36) F dX5_advance_8 (by decide) (fun h_1 => ?_) (fun h_1 => absurd ((c_le ht (nI_toInt (n := p) (by omega))).mpr (by omega)) h_1)
    rw [skp_0] at kx
    exact vv_lv [0] rfl kx
  | succ n ih =>
    intro p hpn hp  kx
    refine vv_aload_n F dX5_advance_0 rfl rfl ?_
    refine vv_get 0 F fl_X5_23 dX5_advance_1 rfl rfl ?_
    refine vv_aload_n F dX5_advance_4 rfl rfl ?_
    refine vv_get 0 F fl_X5_15 dX5_advance_5 rfl rfl ?_
    refine vv_icmp_ge (tgt := 36) F dX5_advance_8 (by decide) (fun h_1 => ?_) (fun h_1 => ?_)
    · rw [skp_f (fun z => (of_decide_eq_true z).1 h_1)] at kx
      exact vv_lv [0] rfl kx
    · refine vv_aload_n F dX5_advance_11 rfl rfl ?_
      refine vv_aload_n F dX5_advance_12 rfl rfl ?_
      refine vv_get 0 F fl_X5_23 dX5_advance_13 rfl rfl ?_
      refine vv_callVp (As := [.int (nI p)]) (rest := []) [0, 1] 0 F (c_X5_tokenAt (vv_l x) (vv_k x) hE aE tl ts (nI p) tk tm by_ (nI p) p tt (nI_toInt (n := p) (by omega)) ht (by omega)) mv_X5_126 dX5_advance_16 (by decide) rfl rfl (Nat.le_of_ble_eq_true rfl) rfl (by decide) rfl ?_
      refine vv_iconst (v := 4) F dX5_advance_19 (by decide) ?_
      refine vv_icmp_ne (tgt := 36) F dX5_advance_20 (by decide) (fun h_2 => ?_) (fun h_2 => ?_)
      · rw [skp_f (fun z => h_2 (of_decide_eq_true z).2)] at kx
        exact vv_lv [0] rfl kx
      · refine vv_aload_n F dX5_advance_23 rfl rfl ?_
        refine vv_dup F dX5_advance_24 rfl ?_
        refine vv_get 0 F fl_X5_23 dX5_advance_25 rfl rfl ?_
        refine vv_iconst (v := 1) F dX5_advance_28 (by decide) ?_
        refine vv_iadd F dX5_advance_29 ?_
        refine vv_put 0 (ws' := [(hE, .inr (4, [.ref aE, .int tl, .int ts, .int ((nI p) + 1), .int tk, .int tm])), (aE, .inl ((vv_k x).2.1.2.1, 150, .inl by_))]) F fl_X5_23 dX5_advance_30 rfl rfl rfl (Nat.le_of_ble_eq_true rfl) rfl ?_
        refine vv_goto (tgt := 0) F dX5_advance_33 (by decide) ?_
        have hlt := mt (c_le ht (nI_toInt (n := p) (by omega))).mpr h_1
        refine vv_lv [0] rfl ?_
        refine vv_ws (by rw [nI_1]) ?_
        exact ih (p + 1) (by omega) (by omega) (by rw [skp_t (decide_eq_true ⟨h_1, h_2⟩)] at kx; exact kx)
theorem L_X5_adv2 {x : vv_X} (F : vv_F x cX5_advance 2 RX5 3) (hE aE : Nat) (tl ts tk tm : Int32) (by_ : Nat → Int32) (tt : Nat) (ht : (tl).toInt = (tt : Int)) (htt : tt ≤ 150) : ∀ (n : Nat) (p : Nat), tt ≤ p + n → p ≤ tt → vv_V x 2 138 [(0, .ref hE), (1, .int 1)] [] [(hE, .inr (4, [.ref aE, .int tl, .int ts, .int (nI (skp (tQ tl by_ tk) n p)), .int tk, .int tm])), (aE, .inl ((vv_k x).2.1.2.1, 150, .inl by_))] → vv_V x 2 99 [(0, .ref hE), (1, .int 1)] [] [(hE, .inr (4, [.ref aE, .int tl, .int ts, .int (nI p), .int tk, .int tm])), (aE, .inl ((vv_k x).2.1.2.1, 150, .inl by_))] := by
  intro n
  induction n with
  | zero =>
    intro p hpn hp  kx
    refine vv_aload_n F dX5_advance_99 rfl rfl ?_
    refine vv_get 0 F fl_X5_23 dX5_advance_100 rfl rfl ?_
    refine vv_aload_n F dX5_advance_103 rfl rfl ?_
    refine vv_get 0 F fl_X5_15 dX5_advance_104 rfl rfl ?_
    refine vv_icmp_ge (tgt := 138) F dX5_advance_107 (by decide) (fun h_1 => ?_) (fun h_1 => absurd ((c_le ht (nI_toInt (n := p) (by omega))).mpr (by omega)) h_1)
    rw [skp_0] at kx
    exact vv_lv [0, 1] rfl kx
  | succ n ih =>
    intro p hpn hp  kx
    refine vv_aload_n F dX5_advance_99 rfl rfl ?_
    refine vv_get 0 F fl_X5_23 dX5_advance_100 rfl rfl ?_
    refine vv_aload_n F dX5_advance_103 rfl rfl ?_
    refine vv_get 0 F fl_X5_15 dX5_advance_104 rfl rfl ?_
    refine vv_icmp_ge (tgt := 138) F dX5_advance_107 (by decide) (fun h_1 => ?_) (fun h_1 => ?_)
    · rw [skp_f (fun z => (of_decide_eq_true z).1 h_1)] at kx
      exact vv_lv [0, 1] rfl kx
    · refine vv_aload_n F dX5_advance_110 rfl rfl ?_
      refine vv_aload_n F dX5_advance_111 rfl rfl ?_
      refine vv_get 0 F fl_X5_23 dX5_advance_112 rfl rfl ?_
      refine vv_callVp (As := [.int (nI p)]) (rest := []) [0, 1] 0 F (c_X5_tokenAt (vv_l x) (vv_k x) hE aE tl ts (nI p) tk tm by_ (nI p) p tt (nI_toInt (n := p) (by omega)) ht (by omega)) mv_X5_126 dX5_advance_115 (by decide) rfl rfl (Nat.le_of_ble_eq_true rfl) rfl (by decide) rfl ?_
      refine vv_aload_n F dX5_advance_118 rfl rfl ?_
      refine vv_get 0 F fl_X5_36 dX5_advance_119 rfl rfl ?_
      refine vv_icmp_ne (tgt := 138) F dX5_advance_122 (by decide) (fun h_2 => ?_) (fun h_2 => ?_)
      · rw [skp_f (fun z => h_2 (of_decide_eq_true z).2)] at kx
        exact vv_lv [0, 1] rfl kx
      · refine vv_aload_n F dX5_advance_125 rfl rfl ?_
        refine vv_dup F dX5_advance_126 rfl ?_
        refine vv_get 0 F fl_X5_23 dX5_advance_127 rfl rfl ?_
        refine vv_iconst (v := 1) F dX5_advance_130 (by decide) ?_
        refine vv_iadd F dX5_advance_131 ?_
        refine vv_put 0 (ws' := [(hE, .inr (4, [.ref aE, .int tl, .int ts, .int ((nI p) + 1), .int tk, .int tm])), (aE, .inl ((vv_k x).2.1.2.1, 150, .inl by_))]) F fl_X5_23 dX5_advance_132 rfl rfl rfl (Nat.le_of_ble_eq_true rfl) rfl ?_
        refine vv_goto (tgt := 95) F dX5_advance_135 (by decide) ?_
        refine vv_iload_n F dX5_advance_95 rfl rfl ?_
        refine vv_if_eq (tgt := 138) F dX5_advance_96 (by decide) (fun h_3 => absurd h_3 (by decide)) (fun h_3 => ?_)
        have hlt := mt (c_le ht (nI_toInt (n := p) (by omega))).mpr h_1
        refine vv_lv [0, 1] rfl ?_
        refine vv_ws (by rw [nI_1]) ?_
        exact ih (p + 1) (by omega) (by omega) (by rw [skp_t (decide_eq_true ⟨h_1, h_2⟩)] at kx; exact kx)
noncomputable def st_X5_takeFigures (by_ : Nat → Int32) (s : Nat) (u : Nat) (s : Int32) : Int32 := (((10 * s) + (by_ u)) - 48)
theorem L_X5_takeFigures {x : vv_X} (F : vv_F x cX5_takeFigures 2 RX5 2) (hE aE : Nat) (tl ts tn tk : Int32) (by_ : Nat → Int32) (s : Nat) (nx : Nat) (hnx : (tn).toInt = (nx : Int)) (hnx2 : nx ≤ 150) : ∀ (n : Nat) (u : Nat) (nq : Int32), u + n = nx → vv_V x 2 71 [(1, .int (nI nx)), (0, .ref hE)] [] [(hE, .inr (4, [.ref aE, .int tl, .int ts, .int tn, .int tk, .int (itr (st_X5_takeFigures by_ s) n u nq)])), (aE, .inl ((vv_k x).2.1.2.1, 150, .inl by_))] → vv_V x 2 29 [(1, .int (nI u)), (0, .ref hE)] [] [(hE, .inr (4, [.ref aE, .int tl, .int ts, .int tn, .int tk, .int nq])), (aE, .inl ((vv_k x).2.1.2.1, 150, .inl by_))] := by
  intro n
  induction n with
  | zero =>
    intro u nq hu  kx
    refine vv_iload_n F dX5_takeFigures_29 rfl rfl ?_
    refine vv_aload_n F dX5_takeFigures_30 rfl rfl ?_
    refine vv_get 0 F fl_X5_23 dX5_takeFigures_31 rfl rfl ?_
    refine vv_icmp_ge (tgt := 71) F dX5_takeFigures_34 (by decide) (fun h_1 => ?_) (fun h_1 => absurd ((c_le hnx (nI_toInt (n := u) (by omega))).mpr (by omega)) h_1)
    obtain rfl : u = nx := by omega
    rw [itr_0] at kx
    exact vv_lv [0, 1] rfl kx
  | succ n ih =>
    intro u nq hu  kx
    refine vv_iload_n F dX5_takeFigures_29 rfl rfl ?_
    refine vv_aload_n F dX5_takeFigures_30 rfl rfl ?_
    refine vv_get 0 F fl_X5_23 dX5_takeFigures_31 rfl rfl ?_
    refine vv_icmp_ge (tgt := 71) F dX5_takeFigures_34 (by decide) (fun h_1 => absurd ((c_le hnx (nI_toInt (n := u) (by omega))).mp h_1) (by omega)) (fun h_1 => ?_)
    refine vv_iload_n F dX5_takeFigures_37 rfl rfl ?_
    refine vv_sipush (v := 150) F dX5_takeFigures_38 (by decide) ?_
    refine vv_icmp_ge (tgt := 71) F dX5_takeFigures_41 (by decide) (fun h_2 => absurd ((c_le (by decide : (150 : Int32).toInt = ((150 : Nat) : Int)) (nI_toInt (n := u) (by omega))).mp h_2) (by omega)) (fun h_2 => ?_)
    refine vv_aload_n F dX5_takeFigures_44 rfl rfl ?_
    refine vv_bipush (v := 10) F dX5_takeFigures_45 (by decide) ?_
    refine vv_aload_n F dX5_takeFigures_47 rfl rfl ?_
    refine vv_get 0 F fl_X5_56 dX5_takeFigures_48 rfl rfl ?_
    refine vv_imul F dX5_takeFigures_51 ?_
    refine vv_aload_n F dX5_takeFigures_52 rfl rfl ?_
    refine vv_get 0 F fl_X5_11 dX5_takeFigures_53 rfl rfl ?_
    refine vv_iload_n F dX5_takeFigures_56 rfl rfl ?_
    refine vv_bald 1 F dX5_takeFigures_57 rfl (vv_ixP (j := u) (by have hz := (nI_toInt (n := u) (by omega)); omega) (by omega)) ?_
    refine vv_iadd F dX5_takeFigures_58 ?_
    refine vv_bipush (v := 48) F dX5_takeFigures_59 (by decide) ?_
    refine vv_isub F dX5_takeFigures_61 ?_
    refine vv_put 0 (ws' := [(hE, .inr (4, [.ref aE, .int tl, .int ts, .int tn, .int tk, .int (((10 * nq) + (by_ u)) - 48)])), (aE, .inl ((vv_k x).2.1.2.1, 150, .inl by_))]) F fl_X5_56 dX5_takeFigures_62 rfl rfl rfl (Nat.le_of_ble_eq_true rfl) rfl ?_
    refine vv_iinc (v := (nI (u + 1))) (lv' := [(1, .int (nI (u + 1))), (0, .ref hE)]) 0 F dX5_takeFigures_65 rfl (nI_1 u) (by decide) rfl ?_
    refine vv_goto (tgt := 29) F dX5_takeFigures_68 (by decide) ?_
    refine vv_lv [0, 1] rfl ?_
    exact ih (u + 1) (((10 * nq) + (by_ u)) - 48) (by omega) (by rw [itr_s] at kx; exact kx)
noncomputable def g_X5_takeFigures_0_4 (ts tn tk : Int32) : Int32 := (if (tn - ts) ≤ 2 then tk else 5)
noncomputable def g_X5_takeFigures_0_5 (ts tn : Int32) (by_ : Nat → Int32) (nx s : Nat) : Int32 := (if (tn - ts) ≤ 2 then (itr (st_X5_takeFigures by_ s) (nx - s) s 0) else 0)
theorem c_X5_takeFigures (l : Launch) (K : vv_K) (hE aE : Nat) (tl ts tn tk tm : Int32) (by_ : Nat → Int32) (nx s : Nat) (hnx : (tn).toInt = (nx : Int)) (hs : (ts).toInt = (s : Int)) (hsn : s ≤ nx) (hnx2 : nx ≤ 150)  : vv_C l K 2 yX5_takeFigures cX5_takeFigures 2 none [.ref hE] [(hE, .inr (4, [.ref aE, .int tl, .int ts, .int tn, .int tk, .int tm])), (aE, .inl (K.2.1.2.1, 150, .inl by_))] none [(hE, .inr (4, [.ref aE, .int tl, .int ts, .int tn, .int (g_X5_takeFigures_0_4 ts tn tk), .int (g_X5_takeFigures_0_5 ts tn by_ nx s)])), (aE, .inl (K.2.1.2.1, 150, .inl by_))] := by
  refine vv_C.of (lv := [(0, .ref hE)]) (by decide +kernel) (Nat.le_of_ble_eq_true rfl) rfl ?_
  intro x hl hK F hR; subst hl; obtain rfl := hK
  refine vv_aload_n F dX5_takeFigures_0 rfl rfl ?_
  refine vv_iconst (v := 0) F dX5_takeFigures_1 (by decide) ?_
  refine vv_put 0 (ws' := [(hE, .inr (4, [.ref aE, .int tl, .int ts, .int tn, .int tk, .int 0])), (aE, .inl ((vv_k x).2.1.2.1, 150, .inl by_))]) F fl_X5_56 dX5_takeFigures_2 rfl rfl rfl (Nat.le_of_ble_eq_true rfl) rfl ?_
  refine vv_aload_n F dX5_takeFigures_5 rfl rfl ?_
  refine vv_get 0 F fl_X5_23 dX5_takeFigures_6 rfl rfl ?_
  refine vv_aload_n F dX5_takeFigures_9 rfl rfl ?_
  refine vv_get 0 F fl_X5_30 dX5_takeFigures_10 rfl rfl ?_
  refine vv_isub F dX5_takeFigures_13 ?_
  refine vv_iconst (v := 2) F dX5_takeFigures_14 (by decide) ?_
  refine vv_icmp_le (tgt := 24) F dX5_takeFigures_15 (by decide) (fun h_1 => ?_) (fun h_1 => ?_)
  · refine vv_aload_n F dX5_takeFigures_24 rfl rfl ?_
    refine vv_get 0 F fl_X5_30 dX5_takeFigures_25 rfl rfl ?_
    refine vv_istore_n (lv' := [(1, .int ts), (0, .ref hE)]) F dX5_takeFigures_28 rfl (by decide) rfl ?_
    refine vv_lvE (lv' := [(1, .int (nI s)), (0, .ref hE)]) (by rw [nn_eq hs (by omega)]) ?_
    refine vv_lv (lv' := [(1, .int (nI s)), (0, .ref hE)]) [0, 1] rfl ?_
    refine L_X5_takeFigures F hE aE tl ts tn tk by_ s nx hnx (by omega) (nx - s) s 0 (by omega) ?_
    exact vv_vret F hR dX5_takeFigures_71 rfl (by simp only [g_X5_takeFigures_0_4, g_X5_takeFigures_0_5, if_pos h_1])
  · refine vv_aload_n F dX5_takeFigures_18 rfl rfl ?_
    refine vv_iconst (v := 5) F dX5_takeFigures_19 (by decide) ?_
    refine vv_put 0 (ws' := [(hE, .inr (4, [.ref aE, .int tl, .int ts, .int tn, .int 5, .int 0])), (aE, .inl ((vv_k x).2.1.2.1, 150, .inl by_))]) F fl_X5_36 dX5_takeFigures_20 rfl rfl rfl (Nat.le_of_ble_eq_true rfl) rfl ?_
    exact vv_vret F hR dX5_takeFigures_23 rfl (by simp only [g_X5_takeFigures_0_4, g_X5_takeFigures_0_5, if_neg h_1])
noncomputable def g_X5_advance_0_4 (tl : Int32) (by_ : Nat → Int32) (p tt : Nat) : Int32 := (if (adT tl by_ tt p) = 1 then (if (adT tl by_ tt p) = 2 then (g_X5_takeFigures_0_4 (nI (adS tl by_ tt p)) (nI (adN tl by_ tt p)) (adT tl by_ tt p)) else (adT tl by_ tt p)) else (if (adT tl by_ tt p) = 2 then (g_X5_takeFigures_0_4 (nI (adS tl by_ tt p)) (nI (adN tl by_ tt p)) (adT tl by_ tt p)) else (adT tl by_ tt p)))
noncomputable def g_X5_advance_0_5 (tl tm : Int32) (by_ : Nat → Int32) (p tt : Nat) : Int32 := (if (adT tl by_ tt p) = 1 then (if (adT tl by_ tt p) = 2 then (g_X5_takeFigures_0_5 (nI (adS tl by_ tt p)) (nI (adN tl by_ tt p)) by_ (adN tl by_ tt p) (adS tl by_ tt p)) else tm) else (if (adT tl by_ tt p) = 2 then (g_X5_takeFigures_0_5 (nI (adS tl by_ tt p)) (nI (adN tl by_ tt p)) by_ (adN tl by_ tt p) (adS tl by_ tt p)) else tm))
theorem c_X5_advance (l : Launch) (K : vv_K) (hE aE : Nat) (tl ts tn tk tm : Int32) (by_ : Nat → Int32) (p tt : Nat) (hp : (tn).toInt = (p : Int)) (ht : (tl).toInt = (tt : Int)) (hpt : p ≤ tt) (htt : tt ≤ 150)  : vv_C l K 3 yX5_advance cX5_advance 2 none [.ref hE] [(hE, .inr (4, [.ref aE, .int tl, .int ts, .int tn, .int tk, .int tm])), (aE, .inl (K.2.1.2.1, 150, .inl by_))] none [(hE, .inr (4, [.ref aE, .int tl, .int (nI (adS tl by_ tt p)), .int (nI (adN tl by_ tt p)), .int (g_X5_advance_0_4 tl by_ p tt), .int (g_X5_advance_0_5 tl tm by_ p tt)])), (aE, .inl (K.2.1.2.1, 150, .inl by_))] := by
  refine vv_C.of (lv := [(0, .ref hE)]) (by decide +kernel) (Nat.le_of_ble_eq_true rfl) rfl ?_
  intro x hl hK F hR; subst hl; obtain rfl := hK
  refine vv_ws (ws' := [(hE, .inr (4, [.ref aE, .int tl, .int ts, .int (nI p), .int tk, .int tm])), (aE, .inl ((vv_k x).2.1.2.1, 150, .inl by_))]) (by rw [nn_eq hp (by omega)]) ?_
  refine L_X5_adv1 F hE aE tl ts tk tm by_ tt ht htt tt p (by omega) (by omega) ?_
  refine vv_ws (ws' := [(hE, .inr (4, [.ref aE, .int tl, .int ts, .int (nI (adS tl by_ tt p)), .int tk, .int tm])), (aE, .inl ((vv_k x).2.1.2.1, 150, .inl by_))]) rfl ?_
  have hS := adS_le (by_ := by_) (p := p) ht htt hpt
  have hM := mn1_le hS.2
  refine vv_aload_n F dX5_advance_36 rfl rfl ?_
  refine vv_aload_n F dX5_advance_37 rfl rfl ?_
  refine vv_get 0 F fl_X5_23 dX5_advance_38 rfl rfl ?_
  refine vv_put 0 (ws' := [(hE, .inr (4, [.ref aE, .int tl, .int (nI (adS tl by_ tt p)), .int (nI (adS tl by_ tt p)), .int tk, .int tm])), (aE, .inl ((vv_k x).2.1.2.1, 150, .inl by_))]) F fl_X5_30 dX5_advance_41 rfl rfl rfl (Nat.le_of_ble_eq_true rfl) rfl ?_
  refine vv_aload_n F dX5_advance_44 rfl rfl ?_
  refine vv_aload_n F dX5_advance_45 rfl rfl ?_
  refine vv_aload_n F dX5_advance_46 rfl rfl ?_
  refine vv_get 0 F fl_X5_30 dX5_advance_47 rfl rfl ?_
  refine vv_callVp (As := [.int (nI (adS tl by_ tt p))]) (rest := [.ref hE]) [0, 1] 0 F (c_X5_tokenAt (vv_l x) (vv_k x) hE aE tl (nI (adS tl by_ tt p)) (nI (adS tl by_ tt p)) tk tm by_ (nI (adS tl by_ tt p)) (adS tl by_ tt p) tt (nI_toInt (n := (adS tl by_ tt p)) (by omega)) ht (by omega)) mv_X5_126 dX5_advance_50 (by decide) rfl rfl (Nat.le_of_ble_eq_true rfl) rfl (by decide) rfl ?_
  refine vv_topi (adT tl by_ tt p) rfl ?_
  refine vv_put 0 (ws' := [(hE, .inr (4, [.ref aE, .int tl, .int (nI (adS tl by_ tt p)), .int (nI (adS tl by_ tt p)), .int (adT tl by_ tt p), .int tm])), (aE, .inl ((vv_k x).2.1.2.1, 150, .inl by_))]) F fl_X5_36 dX5_advance_53 rfl rfl rfl (Nat.le_of_ble_eq_true rfl) rfl ?_
  refine vv_aload_n F dX5_advance_56 rfl rfl ?_
  refine vv_get 0 F fl_X5_36 dX5_advance_57 rfl rfl ?_
  refine vv_iconst (v := 1) F dX5_advance_60 (by decide) ?_
  refine vv_icmp_eq (tgt := 72) F dX5_advance_61 (by decide) (fun h_1 => ?_) (fun h_1 => ?_)
  · refine vv_iconst (v := 1) F dX5_advance_72 (by decide) ?_
    refine vv_goto (tgt := 77) F dX5_advance_73 (by decide) ?_
    refine vv_istore_n (lv' := [(1, .int 1), (0, .ref hE)]) F dX5_advance_77 rfl (by decide) rfl ?_
    refine vv_aload_n F dX5_advance_78 rfl rfl ?_
    refine vv_aload_n F dX5_advance_79 rfl rfl ?_
    refine vv_get 0 F fl_X5_23 dX5_advance_80 rfl rfl ?_
    refine vv_iconst (v := 1) F dX5_advance_83 (by decide) ?_
    refine vv_iadd F dX5_advance_84 ?_
    refine vv_aload_n F dX5_advance_85 rfl rfl ?_
    refine vv_get 0 F fl_X5_15 dX5_advance_86 rfl rfl ?_
    refine vv_mmin F mm_X5_130 st_min in_Math co_min (by decide) (Nat.le_of_ble_eq_true rfl) dX5_advance_89 ?_
    refine vv_topi (nI (mn1 (adS tl by_ tt p) tt)) (mn_nn ht (by omega) (by omega)) ?_
    refine vv_put 0 (ws' := [(hE, .inr (4, [.ref aE, .int tl, .int (nI (adS tl by_ tt p)), .int (nI (mn1 (adS tl by_ tt p) tt)), .int (adT tl by_ tt p), .int tm])), (aE, .inl ((vv_k x).2.1.2.1, 150, .inl by_))]) F fl_X5_23 dX5_advance_92 rfl rfl rfl (Nat.le_of_ble_eq_true rfl) rfl ?_
    refine vv_iload_n F dX5_advance_95 rfl rfl ?_
    refine vv_if_eq (tgt := 138) F dX5_advance_96 (by decide) (fun h_2 => absurd h_2 (by decide)) (fun h_2 => ?_)
    refine vv_lv (lv' := [(0, .ref hE), (1, .int 1)]) [1, 0] rfl ?_
    refine L_X5_adv2 F hE aE tl (nI (adS tl by_ tt p)) (adT tl by_ tt p) tm by_ tt ht htt tt (mn1 (adS tl by_ tt p) tt) (by omega) (by omega) ?_
    refine vv_ws (ws' := [(hE, .inr (4, [.ref aE, .int tl, .int (nI (adS tl by_ tt p)), .int (nI (adN tl by_ tt p)), .int (adT tl by_ tt p), .int tm])), (aE, .inl ((vv_k x).2.1.2.1, 150, .inl by_))]) (by rw [adN, if_pos h_1]; rfl) ?_
    have hN := adN_le (by_ := by_) (p := p) ht htt hpt
    refine vv_aload_n F dX5_advance_138 rfl rfl ?_
    refine vv_get 0 F fl_X5_36 dX5_advance_139 rfl rfl ?_
    refine vv_iconst (v := 2) F dX5_advance_142 (by decide) ?_
    refine vv_icmp_ne (tgt := 150) F dX5_advance_143 (by decide) (fun h_3 => ?_) (fun h_3 => ?_)
    · exact vv_vret F hR dX5_advance_150 rfl (by simp only [g_X5_advance_0_4, g_X5_advance_0_5, adN, if_pos h_1, if_neg h_3])
    · refine vv_aload_n F dX5_advance_146 rfl rfl ?_
      refine vv_callV (As := []) (rest := []) [0, 1] 0 (ws' := [(hE, .inr (4, [.ref aE, .int tl, .int (nI (adS tl by_ tt p)), .int (nI (adN tl by_ tt p)), .int (g_X5_takeFigures_0_4 (nI (adS tl by_ tt p)) (nI (adN tl by_ tt p)) (adT tl by_ tt p)), .int (g_X5_takeFigures_0_5 (nI (adS tl by_ tt p)) (nI (adN tl by_ tt p)) by_ (adN tl by_ tt p) (adS tl by_ tt p))])), (aE, .inl ((vv_k x).2.1.2.1, 150, .inl by_))]) F (c_X5_takeFigures (vv_l x) (vv_k x) hE aE tl (nI (adS tl by_ tt p)) (nI (adN tl by_ tt p)) (adT tl by_ tt p) tm by_ (adN tl by_ tt p) (adS tl by_ tt p) (nI_toInt (n := (adN tl by_ tt p)) (by omega)) (nI_toInt (n := (adS tl by_ tt p)) (by omega)) (by omega) (by omega)) mv_X5_136 dX5_advance_147 (by decide) rfl rfl (Nat.le_of_ble_eq_true rfl) rfl (by decide) (Eq.trans (b := [hE, aE]) rfl rfl) rfl rfl ?_
      exact vv_vret F hR dX5_advance_150 rfl (by simp only [g_X5_advance_0_4, g_X5_advance_0_5, adN, if_pos h_1, if_pos h_3])
  · refine vv_aload_n F dX5_advance_64 rfl rfl ?_
    refine vv_get 0 F fl_X5_36 dX5_advance_65 rfl rfl ?_
    refine vv_iconst (v := 2) F dX5_advance_68 (by decide) ?_
    refine vv_icmp_ne (tgt := 76) F dX5_advance_69 (by decide) (fun h_4 => ?_) (fun h_4 => ?_)
    · refine vv_iconst (v := 0) F dX5_advance_76 (by decide) ?_
      refine vv_istore_n (lv' := [(1, .int 0), (0, .ref hE)]) F dX5_advance_77 rfl (by decide) rfl ?_
      refine vv_aload_n F dX5_advance_78 rfl rfl ?_
      refine vv_aload_n F dX5_advance_79 rfl rfl ?_
      refine vv_get 0 F fl_X5_23 dX5_advance_80 rfl rfl ?_
      refine vv_iconst (v := 1) F dX5_advance_83 (by decide) ?_
      refine vv_iadd F dX5_advance_84 ?_
      refine vv_aload_n F dX5_advance_85 rfl rfl ?_
      refine vv_get 0 F fl_X5_15 dX5_advance_86 rfl rfl ?_
      refine vv_mmin F mm_X5_130 st_min in_Math co_min (by decide) (Nat.le_of_ble_eq_true rfl) dX5_advance_89 ?_
      refine vv_topi (nI (mn1 (adS tl by_ tt p) tt)) (mn_nn ht (by omega) (by omega)) ?_
      refine vv_put 0 (ws' := [(hE, .inr (4, [.ref aE, .int tl, .int (nI (adS tl by_ tt p)), .int (nI (mn1 (adS tl by_ tt p) tt)), .int (adT tl by_ tt p), .int tm])), (aE, .inl ((vv_k x).2.1.2.1, 150, .inl by_))]) F fl_X5_23 dX5_advance_92 rfl rfl rfl (Nat.le_of_ble_eq_true rfl) rfl ?_
      refine vv_iload_n F dX5_advance_95 rfl rfl ?_
      refine vv_if_eq (tgt := 138) F dX5_advance_96 (by decide) (fun h_5 => ?_) (fun h_5 => absurd h_5 (by decide))
      refine vv_aload_n F dX5_advance_138 rfl rfl ?_
      refine vv_get 0 F fl_X5_36 dX5_advance_139 rfl rfl ?_
      refine vv_iconst (v := 2) F dX5_advance_142 (by decide) ?_
      refine vv_icmp_ne (tgt := 150) F dX5_advance_143 (by decide) (fun h_6 => ?_) (fun h_6 => ?_)
      · exact vv_vret F hR dX5_advance_150 rfl (by simp only [g_X5_advance_0_4, g_X5_advance_0_5, adN, if_neg h_1, if_neg h_4])
      · exact absurd h_6 h_4
    · refine vv_iconst (v := 1) F dX5_advance_72 (by decide) ?_
      refine vv_goto (tgt := 77) F dX5_advance_73 (by decide) ?_
      refine vv_istore_n (lv' := [(1, .int 1), (0, .ref hE)]) F dX5_advance_77 rfl (by decide) rfl ?_
      refine vv_aload_n F dX5_advance_78 rfl rfl ?_
      refine vv_aload_n F dX5_advance_79 rfl rfl ?_
      refine vv_get 0 F fl_X5_23 dX5_advance_80 rfl rfl ?_
      refine vv_iconst (v := 1) F dX5_advance_83 (by decide) ?_
      refine vv_iadd F dX5_advance_84 ?_
      refine vv_aload_n F dX5_advance_85 rfl rfl ?_
      refine vv_get 0 F fl_X5_15 dX5_advance_86 rfl rfl ?_
      refine vv_mmin F mm_X5_130 st_min in_Math co_min (by decide) (Nat.le_of_ble_eq_true rfl) dX5_advance_89 ?_
      refine vv_topi (nI (mn1 (adS tl by_ tt p) tt)) (mn_nn ht (by omega) (by omega)) ?_
      refine vv_put 0 (ws' := [(hE, .inr (4, [.ref aE, .int tl, .int (nI (adS tl by_ tt p)), .int (nI (mn1 (adS tl by_ tt p) tt)), .int (adT tl by_ tt p), .int tm])), (aE, .inl ((vv_k x).2.1.2.1, 150, .inl by_))]) F fl_X5_23 dX5_advance_92 rfl rfl rfl (Nat.le_of_ble_eq_true rfl) rfl ?_
      refine vv_iload_n F dX5_advance_95 rfl rfl ?_
      refine vv_if_eq (tgt := 138) F dX5_advance_96 (by decide) (fun h_7 => absurd h_7 (by decide)) (fun h_7 => ?_)
      refine vv_lv (lv' := [(0, .ref hE), (1, .int 1)]) [1, 0] rfl ?_
      refine L_X5_adv2 F hE aE tl (nI (adS tl by_ tt p)) (adT tl by_ tt p) tm by_ tt ht htt tt (mn1 (adS tl by_ tt p) tt) (by omega) (by omega) ?_
      refine vv_ws (ws' := [(hE, .inr (4, [.ref aE, .int tl, .int (nI (adS tl by_ tt p)), .int (nI (adN tl by_ tt p)), .int (adT tl by_ tt p), .int tm])), (aE, .inl ((vv_k x).2.1.2.1, 150, .inl by_))]) (by rw [adN, if_neg h_1, if_pos h_4]; rfl) ?_
      have hN := adN_le (by_ := by_) (p := p) ht htt hpt
      refine vv_aload_n F dX5_advance_138 rfl rfl ?_
      refine vv_get 0 F fl_X5_36 dX5_advance_139 rfl rfl ?_
      refine vv_iconst (v := 2) F dX5_advance_142 (by decide) ?_
      refine vv_icmp_ne (tgt := 150) F dX5_advance_143 (by decide) (fun h_8 => ?_) (fun h_8 => ?_)
      · exact absurd h_4 h_8
      · refine vv_aload_n F dX5_advance_146 rfl rfl ?_
        refine vv_callV (As := []) (rest := []) [0, 1] 0 (ws' := [(hE, .inr (4, [.ref aE, .int tl, .int (nI (adS tl by_ tt p)), .int (nI (adN tl by_ tt p)), .int (g_X5_takeFigures_0_4 (nI (adS tl by_ tt p)) (nI (adN tl by_ tt p)) (adT tl by_ tt p)), .int (g_X5_takeFigures_0_5 (nI (adS tl by_ tt p)) (nI (adN tl by_ tt p)) by_ (adN tl by_ tt p) (adS tl by_ tt p))])), (aE, .inl ((vv_k x).2.1.2.1, 150, .inl by_))]) F (c_X5_takeFigures (vv_l x) (vv_k x) hE aE tl (nI (adS tl by_ tt p)) (nI (adN tl by_ tt p)) (adT tl by_ tt p) tm by_ (adN tl by_ tt p) (adS tl by_ tt p) (nI_toInt (n := (adN tl by_ tt p)) (by omega)) (nI_toInt (n := (adS tl by_ tt p)) (by omega)) (by omega) (by omega)) mv_X5_136 dX5_advance_147 (by decide) rfl rfl (Nat.le_of_ble_eq_true rfl) rfl (by decide) (Eq.trans (b := [hE, aE]) rfl rfl) rfl rfl ?_
        exact vv_vret F hR dX5_advance_150 rfl (by simp only [g_X5_advance_0_4, g_X5_advance_0_5, adN, if_neg h_1, if_pos h_4])
noncomputable def st_X5_isWord (by_ : Nat → Int32) (wi s0 : Nat) (u : Nat) (s : Bool) : Bool := (s && decide ((by_ (s0 + u)) = (chr wi u)))
theorem L_X5_isWord {x : vv_X} (F : vv_F x cX5_isWord 3 RX5 5) (hE aE : Nat) (tl ts tn tk tm : Int32) (by_ : Nat → Int32) (wi : Nat) (s0 : Nat) (hs : (ts).toInt = (s0 : Int))  (hwi : wi < 6) (hfit : s0 + (vv_sl.getD wi 0) ≤ 150) {r : Option Value} {wc' : va_W} (hR : vv_R x (some .boolean) r wc') : ∀ (n : Nat) (u : Nat), u + n = (vv_sl.getD wi 0) → wc' = [(hE, .inr (4, [.ref aE, .int tl, .int ts, .int tn, .int tk, .int tm])), (aE, .inl ((vv_k x).2.1.2.1, 150, .inl by_))] → r = some (.int (vv_b ((itr (st_X5_isWord by_ wi s0) n u true) = true))) → vv_V x 3 38 [(2, .int (nI u)), (0, .ref hE), (1, .ref ((vv_k x).2.2.1 wi))] [] [(hE, .inr (4, [.ref aE, .int tl, .int ts, .int tn, .int tk, .int tm])), (aE, .inl ((vv_k x).2.1.2.1, 150, .inl by_))] := by
  intro n
  induction n with
  | zero =>
    intro u hu hwc hres
    have hsl := sl_ok wi hwi
    refine vv_iload_n F dX5_isWord_38 rfl rfl ?_
    refine vv_aload_n F dX5_isWord_39 rfl rfl ?_
    refine vv_callVK (As := []) (rest := [.int (nI u)]) hwi F (c_Jlength (vv_l x) (vv_k x) wi hwi) mk_X5_117 dX5_isWord_40 (by decide) rfl rfl (Nat.le_of_ble_eq_true rfl) ?_
    refine vv_icmp_ge (tgt := 73) F dX5_isWord_43 (by decide) (fun h_1 => ?_) (fun h_1 => absurd ((c_le (nI_toInt (n := (vv_sl.getD wi 0)) (by omega)) (nI_toInt (n := u) (by omega))).mpr (by omega)) h_1)
    refine vv_iconst (v := 1) F dX5_isWord_73 (by decide) ?_
    exact vv_zret F hR dX5_isWord_74 rfl (by rw [hres, itr_0]; rfl) hwc
  | succ n ih =>
    intro u hu hwc hres
    have hsl := sl_ok wi hwi
    refine vv_iload_n F dX5_isWord_38 rfl rfl ?_
    refine vv_aload_n F dX5_isWord_39 rfl rfl ?_
    refine vv_callVK (As := []) (rest := [.int (nI u)]) hwi F (c_Jlength (vv_l x) (vv_k x) wi hwi) mk_X5_117 dX5_isWord_40 (by decide) rfl rfl (Nat.le_of_ble_eq_true rfl) ?_
    refine vv_icmp_ge (tgt := 73) F dX5_isWord_43 (by decide) (fun h_1 => absurd ((c_le (nI_toInt (n := (vv_sl.getD wi 0)) (by omega)) (nI_toInt (n := u) (by omega))).mp h_1) (by omega)) (fun h_1 => ?_)
    refine vv_aload_n F dX5_isWord_46 rfl rfl ?_
    refine vv_get 0 F fl_X5_11 dX5_isWord_47 rfl rfl ?_
    refine vv_aload_n F dX5_isWord_50 rfl rfl ?_
    refine vv_get 0 F fl_X5_30 dX5_isWord_51 rfl rfl ?_
    refine vv_iload_n F dX5_isWord_54 rfl rfl ?_
    refine vv_iadd F dX5_isWord_55 ?_
    refine vv_bald 1 F dX5_isWord_56 rfl (vv_ixP (j := (s0 + u)) (by have hz := (nn_add hs (nI_toInt (n := u) (by omega)) (by omega)); omega) (by omega)) ?_
    refine vv_aload_n F dX5_isWord_57 rfl rfl ?_
    refine vv_iload_n F dX5_isWord_58 rfl rfl ?_
    refine vv_callVK (As := [.int (nI u)]) (rest := [.int (by_ (s0 + u))]) hwi F (c_JcharAt (vv_l x) (vv_k x) wi u (nI u) hwi (nI_toInt (n := u) (by omega)) (by omega)) mk_X5_122 dX5_isWord_59 (by decide) rfl rfl (Nat.le_of_ble_eq_true rfl) ?_
    refine vv_icmp_eq (tgt := 67) F dX5_isWord_62 (by decide) (fun h_2 => ?_) (fun h_2 => ?_)
    · refine vv_iinc (v := (nI (u + 1))) (lv' := [(2, .int (nI (u + 1))), (0, .ref hE), (1, .ref ((vv_k x).2.2.1 wi))]) 0 F dX5_isWord_67 rfl (nI_1 u) (by decide) rfl ?_
      refine vv_goto (tgt := 38) F dX5_isWord_70 (by decide) ?_
      refine vv_lv [0, 1, 2] rfl ?_
      exact ih (u + 1) (by omega) hwc (by rw [hres, itr_s, show (st_X5_isWord by_ wi s0) u true = true from (by simp [st_X5_isWord, h_2])])
    · refine vv_iconst (v := 0) F dX5_isWord_65 (by decide) ?_
      exact vv_zret F hR dX5_isWord_66 rfl (by rw [hres, itr_s, show (st_X5_isWord by_ wi s0) u true = false from (by simp [st_X5_isWord, h_2]), itr_abs (fun _ => rfl)]; rfl) hwc
abbrev p_X5_isWord (ts tn tk : Int32) (by_ : Nat → Int32) (wi s0 : Nat) : Prop := ((tk = 1) ∧ (((tn - ts) = (nI (vv_sl.getD wi 0))) ∧ ((tn ≤ 150) ∧ ((itr (st_X5_isWord by_ wi s0) (vv_sl.getD wi 0) 0 true) = true))))
theorem c_X5_isWord (l : Launch) (K : vv_K) (hE aE : Nat) (tl ts tn tk tm : Int32) (by_ : Nat → Int32) (wi : Nat) (nx s0 : Nat) (hnx : (tn).toInt = (nx : Int)) (hs : (ts).toInt = (s0 : Int)) (hsn : s0 ≤ nx) (hnx2 : nx ≤ 150) (hwi : wi < 6) : vv_C l K 5 yX5_isWord cX5_isWord 3 (some .boolean) [.ref hE, .ref (K.2.2.1 wi)] [(hE, .inr (4, [.ref aE, .int tl, .int ts, .int tn, .int tk, .int tm])), (aE, .inl (K.2.1.2.1, 150, .inl by_))] (some (.int (vv_b (p_X5_isWord ts tn tk by_ wi s0)))) [(hE, .inr (4, [.ref aE, .int tl, .int ts, .int tn, .int tk, .int tm])), (aE, .inl (K.2.1.2.1, 150, .inl by_))] := by
  refine vv_C.of (lv := [(0, .ref hE), (1, .ref (K.2.2.1 wi))]) (by decide +kernel) (Nat.le_of_ble_eq_true rfl) rfl ?_
  intro x hl hK F hR; subst hl; obtain rfl := hK
  have hsl := sl_ok wi hwi
  refine vv_aload_n F dX5_isWord_0 rfl rfl ?_
  refine vv_get 0 F fl_X5_36 dX5_isWord_1 rfl rfl ?_
  refine vv_iconst (v := 1) F dX5_isWord_4 (by decide) ?_
  refine vv_icmp_ne (tgt := 34) F dX5_isWord_5 (by decide) (fun h_1 => ?_) (fun h_1 => ?_)
  · refine vv_iconst (v := 0) F dX5_isWord_34 (by decide) ?_
    exact vv_zret F hR dX5_isWord_35 rfl (vv_bf (fun z => h_1 z.1)) rfl
  · refine vv_aload_n F dX5_isWord_8 rfl rfl ?_
    refine vv_get 0 F fl_X5_23 dX5_isWord_9 rfl rfl ?_
    refine vv_aload_n F dX5_isWord_12 rfl rfl ?_
    refine vv_get 0 F fl_X5_30 dX5_isWord_13 rfl rfl ?_
    refine vv_isub F dX5_isWord_16 ?_
    refine vv_aload_n F dX5_isWord_17 rfl rfl ?_
    refine vv_callVK (As := []) (rest := [.int (tn - ts)]) hwi F (c_Jlength (vv_l x) (vv_k x) wi hwi) mk_X5_117 dX5_isWord_18 (by decide) rfl rfl (Nat.le_of_ble_eq_true rfl) ?_
    refine vv_icmp_ne (tgt := 34) F dX5_isWord_21 (by decide) (fun h_2 => ?_) (fun h_2 => ?_)
    · refine vv_iconst (v := 0) F dX5_isWord_34 (by decide) ?_
      exact vv_zret F hR dX5_isWord_35 rfl (vv_bf (fun z => (fun z => h_2 z.1) z.2)) rfl
    · have hlen : nx - s0 = (vv_sl.getD wi 0) := (c_eq (nn_sub hnx hs (by omega)) (nI_toInt (n := (vv_sl.getD wi 0)) (by omega))).mp h_2
      refine vv_aload_n F dX5_isWord_24 rfl rfl ?_
      refine vv_get 0 F fl_X5_23 dX5_isWord_25 rfl rfl ?_
      refine vv_sipush (v := 150) F dX5_isWord_28 (by decide) ?_
      refine vv_icmp_le (tgt := 36) F dX5_isWord_31 (by decide) (fun h_3 => ?_) (fun h_3 => ?_)
      · refine vv_iconst (v := 0) F dX5_isWord_36 (by decide) ?_
        refine vv_istore_n (lv' := [(2, .int 0), (0, .ref hE), (1, .ref ((vv_k x).2.2.1 wi))]) F dX5_isWord_37 rfl (by decide) rfl ?_
        refine vv_lv (lv' := [(2, .int 0), (0, .ref hE), (1, .ref ((vv_k x).2.2.1 wi))]) [0, 1, 2] rfl ?_
        exact L_X5_isWord F hE aE tl ts tn tk tm by_ wi s0 hs hwi (by omega) hR (vv_sl.getD wi 0) 0 (by omega) rfl (vv_b_eq.mpr ⟨fun z => z.2.2.2, fun z => ⟨h_1, h_2, h_3, z⟩⟩)
      · refine vv_iconst (v := 0) F dX5_isWord_34 (by decide) ?_
        exact vv_zret F hR dX5_isWord_35 rfl (vv_bf (fun z => (fun z => (fun z => h_3 z.1) z.2) z.2)) rfl
abbrev p_X5_takeNumber (tl tm : Int32) (by_ : Nat → Int32) (lo hi : Int32) (p tt : Nat) : Prop := (((g_X5_advance_0_4 tl by_ p tt) = 2) ∧ (p_X7_within (g_X5_advance_0_5 tl tm by_ p tt) lo hi))
theorem c_X5_takeNumber (l : Launch) (K : vv_K) (hE aE : Nat) (tl ts tn tk tm : Int32) (by_ : Nat → Int32) (lo hi : Int32) (p tt : Nat) (hp : (tn).toInt = (p : Int)) (ht : (tl).toInt = (tt : Int)) (hpt : p ≤ tt) (htt : tt ≤ 150)  : vv_C l K 4 yX5_takeNumber cX5_takeNumber 3 (some .boolean) [.ref hE, .int lo, .int hi] [(hE, .inr (4, [.ref aE, .int tl, .int ts, .int tn, .int tk, .int tm])), (aE, .inl (K.2.1.2.1, 150, .inl by_))] (some (.int (vv_b (p_X5_takeNumber tl tm by_ lo hi p tt)))) [(hE, .inr (4, [.ref aE, .int tl, .int (nI (adS tl by_ tt p)), .int (nI (adN tl by_ tt p)), .int (g_X5_advance_0_4 tl by_ p tt), .int (g_X5_advance_0_5 tl tm by_ p tt)])), (aE, .inl (K.2.1.2.1, 150, .inl by_))] := by
  refine vv_C.of (lv := [(0, .ref hE), (1, .int lo), (2, .int hi)]) (by decide +kernel) (Nat.le_of_ble_eq_true rfl) rfl ?_
  intro x hl hK F hR; subst hl; obtain rfl := hK
  refine vv_aload_n F dX5_takeNumber_0 rfl rfl ?_
  refine vv_callV (As := []) (rest := []) [0, 1] 0 (ws' := [(hE, .inr (4, [.ref aE, .int tl, .int (nI (adS tl by_ tt p)), .int (nI (adN tl by_ tt p)), .int (g_X5_advance_0_4 tl by_ p tt), .int (g_X5_advance_0_5 tl tm by_ p tt)])), (aE, .inl ((vv_k x).2.1.2.1, 150, .inl by_))]) F (c_X5_advance (vv_l x) (vv_k x) hE aE tl ts tn tk tm by_ p tt hp ht (by omega) (by omega)) mv_X5_33 dX5_takeNumber_1 (by decide) rfl rfl (Nat.le_of_ble_eq_true rfl) rfl (by decide) (Eq.trans (b := [hE, aE]) rfl rfl) rfl rfl ?_
  have h_1s := adS_le (by_ := by_) (p := p) ht htt (by omega)
  have h_2n := adN_le (by_ := by_) (p := p) ht htt (by omega)
  refine vv_aload_n F dX5_takeNumber_4 rfl rfl ?_
  refine vv_get 0 F fl_X5_36 dX5_takeNumber_5 rfl rfl ?_
  refine vv_iconst (v := 2) F dX5_takeNumber_8 (by decide) ?_
  refine vv_icmp_ne (tgt := 28) F dX5_takeNumber_9 (by decide) (fun h_3 => ?_) (fun h_3 => ?_)
  · refine vv_iconst (v := 0) F dX5_takeNumber_28 (by decide) ?_
    exact vv_zret F hR dX5_takeNumber_29 rfl (vv_bf (fun z => h_3 z.1)) rfl
  · refine vv_aload_n F dX5_takeNumber_12 rfl rfl ?_
    refine vv_get 0 F fl_X5_56 dX5_takeNumber_13 rfl rfl ?_
    refine vv_iload_n F dX5_takeNumber_16 rfl rfl ?_
    refine vv_iload_n F dX5_takeNumber_17 rfl rfl ?_
    refine vv_callSp (As := [.int (g_X5_advance_0_5 tl tm by_ p tt), .int lo, .int hi]) (rest := []) [] F (c_X7_within (vv_l x) (vv_k x) (g_X5_advance_0_5 tl tm by_ p tt) lo hi) ms_X5_19 dX5_takeNumber_18 (by decide) rfl rfl (Nat.le_of_ble_eq_true rfl) rfl (by decide) ?_
    refine vv_ifz_eq (tgt := 28) F dX5_takeNumber_21 (by decide) (fun h_4 => ?_) (fun h_4 => ?_)
    · refine vv_iconst (v := 0) F dX5_takeNumber_28 (by decide) ?_
      exact vv_zret F hR dX5_takeNumber_29 rfl (vv_bf (fun z => h_4 z.2)) rfl
    · refine vv_iconst (v := 1) F dX5_takeNumber_24 (by decide) ?_
      refine vv_goto (tgt := 29) F dX5_takeNumber_25 (by decide) ?_
      exact vv_zret F hR dX5_takeNumber_29 rfl (vv_bt ⟨h_3, h_4⟩) rfl
abbrev p_X5_stops (tl : Int32) (by_ : Nat → Int32) (p tt : Nat) : Prop := ((g_X5_advance_0_4 tl by_ p tt) = 3)
theorem c_X5_stops (l : Launch) (K : vv_K) (hE aE : Nat) (tl ts tn tk tm : Int32) (by_ : Nat → Int32) (p tt : Nat) (hp : (tn).toInt = (p : Int)) (ht : (tl).toInt = (tt : Int)) (hpt : p ≤ tt) (htt : tt ≤ 150)  : vv_C l K 4 yX5_stops cX5_stops 1 (some .boolean) [.ref hE] [(hE, .inr (4, [.ref aE, .int tl, .int ts, .int tn, .int tk, .int tm])), (aE, .inl (K.2.1.2.1, 150, .inl by_))] (some (.int (vv_b (p_X5_stops tl by_ p tt)))) [(hE, .inr (4, [.ref aE, .int tl, .int (nI (adS tl by_ tt p)), .int (nI (adN tl by_ tt p)), .int (g_X5_advance_0_4 tl by_ p tt), .int (g_X5_advance_0_5 tl tm by_ p tt)])), (aE, .inl (K.2.1.2.1, 150, .inl by_))] := by
  refine vv_C.of (lv := [(0, .ref hE)]) (by decide +kernel) (Nat.le_of_ble_eq_true rfl) rfl ?_
  intro x hl hK F hR; subst hl; obtain rfl := hK
  refine vv_aload_n F dX5_stops_0 rfl rfl ?_
  refine vv_callV (As := []) (rest := []) [0, 1] 0 (ws' := [(hE, .inr (4, [.ref aE, .int tl, .int (nI (adS tl by_ tt p)), .int (nI (adN tl by_ tt p)), .int (g_X5_advance_0_4 tl by_ p tt), .int (g_X5_advance_0_5 tl tm by_ p tt)])), (aE, .inl ((vv_k x).2.1.2.1, 150, .inl by_))]) F (c_X5_advance (vv_l x) (vv_k x) hE aE tl ts tn tk tm by_ p tt hp ht (by omega) (by omega)) mv_X5_33 dX5_stops_1 (by decide) rfl rfl (Nat.le_of_ble_eq_true rfl) rfl (by decide) (Eq.trans (b := [hE, aE]) rfl rfl) rfl rfl ?_
  have h_1s := adS_le (by_ := by_) (p := p) ht htt (by omega)
  have h_2n := adN_le (by_ := by_) (p := p) ht htt (by omega)
  refine vv_aload_n F dX5_stops_4 rfl rfl ?_
  refine vv_get 0 F fl_X5_36 dX5_stops_5 rfl rfl ?_
  refine vv_iconst (v := 3) F dX5_stops_8 (by decide) ?_
  refine vv_icmp_ne (tgt := 16) F dX5_stops_9 (by decide) (fun h_3 => ?_) (fun h_3 => ?_)
  · refine vv_iconst (v := 0) F dX5_stops_16 (by decide) ?_
    exact vv_zret F hR dX5_stops_17 rfl (vv_bf h_3) rfl
  · refine vv_iconst (v := 1) F dX5_stops_12 (by decide) ?_
    refine vv_goto (tgt := 17) F dX5_stops_13 (by decide) ?_
    exact vv_zret F hR dX5_stops_17 rfl (vv_bt h_3) rfl
abbrev p_X5_readHouse (tl tm : Int32) (by_ : Nat → Int32) (p tt : Nat) : Prop := ((p_X5_takeNumber tl tm by_ 0 1 p tt) ∧ (p_X5_takeNumber tl (g_X5_advance_0_5 tl tm by_ p tt) by_ 0 5 (adN tl by_ tt p) tt))
noncomputable def g_X5_readHouse_0_2 (tl tm : Int32) (by_ : Nat → Int32) (p tt : Nat) : Int32 := (if p_X5_takeNumber tl tm by_ 0 1 p tt then (if p_X5_takeNumber tl (g_X5_advance_0_5 tl tm by_ p tt) by_ 0 5 (adN tl by_ tt p) tt then (nI (adS tl by_ tt (adN tl by_ tt p))) else (nI (adS tl by_ tt (adN tl by_ tt p)))) else (nI (adS tl by_ tt p)))
noncomputable def g_X5_readHouse_0_3 (tl tm : Int32) (by_ : Nat → Int32) (p tt : Nat) : Int32 := (if p_X5_takeNumber tl tm by_ 0 1 p tt then (if p_X5_takeNumber tl (g_X5_advance_0_5 tl tm by_ p tt) by_ 0 5 (adN tl by_ tt p) tt then (nI (adN tl by_ tt (adN tl by_ tt p))) else (nI (adN tl by_ tt (adN tl by_ tt p)))) else (nI (adN tl by_ tt p)))
noncomputable def g_X5_readHouse_0_4 (tl tm : Int32) (by_ : Nat → Int32) (p tt : Nat) : Int32 := (if p_X5_takeNumber tl tm by_ 0 1 p tt then (if p_X5_takeNumber tl (g_X5_advance_0_5 tl tm by_ p tt) by_ 0 5 (adN tl by_ tt p) tt then (g_X5_advance_0_4 tl by_ (adN tl by_ tt p) tt) else (g_X5_advance_0_4 tl by_ (adN tl by_ tt p) tt)) else (g_X5_advance_0_4 tl by_ p tt))
noncomputable def g_X5_readHouse_0_5 (tl tm : Int32) (by_ : Nat → Int32) (p tt : Nat) : Int32 := (if p_X5_takeNumber tl tm by_ 0 1 p tt then (if p_X5_takeNumber tl (g_X5_advance_0_5 tl tm by_ p tt) by_ 0 5 (adN tl by_ tt p) tt then (g_X5_advance_0_5 tl (g_X5_advance_0_5 tl tm by_ p tt) by_ (adN tl by_ tt p) tt) else (g_X5_advance_0_5 tl (g_X5_advance_0_5 tl tm by_ p tt) by_ (adN tl by_ tt p) tt)) else (g_X5_advance_0_5 tl tm by_ p tt))
noncomputable def g_X5_readHouse_2_1 (tl tm : Int32) (by_ : Nat → Int32) (hb : Int32) (p tt : Nat) : Int32 := (if p_X5_takeNumber tl tm by_ 0 1 p tt then (if p_X5_takeNumber tl (g_X5_advance_0_5 tl tm by_ p tt) by_ 0 5 (adN tl by_ tt p) tt then (g_X2_setHouse_0_1 hb (g_X5_advance_0_5 tl tm by_ p tt) (g_X5_advance_0_5 tl (g_X5_advance_0_5 tl tm by_ p tt) by_ (adN tl by_ tt p) tt)) else hb) else hb)
noncomputable def g_X5_readHouse_2_2 (tl tm : Int32) (by_ : Nat → Int32) (ha : Int32) (p tt : Nat) : Int32 := (if p_X5_takeNumber tl tm by_ 0 1 p tt then (if p_X5_takeNumber tl (g_X5_advance_0_5 tl tm by_ p tt) by_ 0 5 (adN tl by_ tt p) tt then (g_X2_setHouse_0_2 ha (g_X5_advance_0_5 tl tm by_ p tt) (g_X5_advance_0_5 tl (g_X5_advance_0_5 tl tm by_ p tt) by_ (adN tl by_ tt p) tt)) else ha) else ha)
theorem c_X5_readHouse (l : Launch) (K : vv_K) (hE aE : Nat) (tl ts tn tk tm : Int32) (by_ : Nat → Int32) (hP hS hC hN hM hU : Nat) (ln hb ha pu hl sm hr : Int32) (p tt : Nat) (hp : (tn).toInt = (p : Int)) (ht : (tl).toInt = (tt : Int)) (hpt : p ≤ tt) (htt : tt ≤ 150)  : vv_C l K 5 yX5_readHouse cX5_readHouse 3 (some .boolean) [.ref hE, .ref hP] [(hE, .inr (4, [.ref aE, .int tl, .int ts, .int tn, .int tk, .int tm])), (aE, .inl (K.2.1.2.1, 150, .inl by_)), (hP, .inr (1, [.int ln, .int hb, .int ha, .int pu, .int hl, .int sm, .int hr, .ref hS, .ref hC, .ref hN, .ref hM, .ref hU]))] (some (.int (vv_b (p_X5_readHouse tl tm by_ p tt)))) [(hE, .inr (4, [.ref aE, .int tl, .int (g_X5_readHouse_0_2 tl tm by_ p tt), .int (g_X5_readHouse_0_3 tl tm by_ p tt), .int (g_X5_readHouse_0_4 tl tm by_ p tt), .int (g_X5_readHouse_0_5 tl tm by_ p tt)])), (aE, .inl (K.2.1.2.1, 150, .inl by_)), (hP, .inr (1, [.int ln, .int (g_X5_readHouse_2_1 tl tm by_ hb p tt), .int (g_X5_readHouse_2_2 tl tm by_ ha p tt), .int pu, .int hl, .int sm, .int hr, .ref hS, .ref hC, .ref hN, .ref hM, .ref hU]))] := by
  refine vv_C.of (lv := [(0, .ref hE), (1, .ref hP)]) (by decide +kernel) (Nat.le_of_ble_eq_true rfl) rfl ?_
  intro x hl hK F hR; subst hl; obtain rfl := hK
  refine vv_aload_n F dX5_readHouse_0 rfl rfl ?_
  refine vv_iconst (v := 0) F dX5_readHouse_1 (by decide) ?_
  refine vv_iconst (v := 1) F dX5_readHouse_2 (by decide) ?_
  refine vv_callV (As := [.int 0, .int 1]) (rest := []) [0, 1] 0 (ws' := [(hE, .inr (4, [.ref aE, .int tl, .int (nI (adS tl by_ tt p)), .int (nI (adN tl by_ tt p)), .int (g_X5_advance_0_4 tl by_ p tt), .int (g_X5_advance_0_5 tl tm by_ p tt)])), (aE, .inl ((vv_k x).2.1.2.1, 150, .inl by_)), (hP, .inr (1, [.int ln, .int hb, .int ha, .int pu, .int hl, .int sm, .int hr, .ref hS, .ref hC, .ref hN, .ref hM, .ref hU]))]) F (c_X5_takeNumber (vv_l x) (vv_k x) hE aE tl ts tn tk tm by_ 0 1 p tt hp ht (by omega) (by omega)) mv_X5_52 dX5_readHouse_3 (by decide) rfl rfl (Nat.le_of_ble_eq_true rfl) rfl (by decide) (Eq.trans (b := [hE, aE]) rfl rfl) rfl rfl ?_
  have h_1s := adS_le (by_ := by_) (p := p) ht htt (by omega)
  have h_2n := adN_le (by_ := by_) (p := p) ht htt (by omega)
  refine vv_ifz_ne (tgt := 11) F dX5_readHouse_6 (by decide) (fun h_3 => ?_) (fun h_3 => ?_)
  · refine vv_aload_n F dX5_readHouse_11 rfl rfl ?_
    refine vv_get 0 F fl_X5_56 dX5_readHouse_12 rfl rfl ?_
    refine vv_istore_n (lv' := [(2, .int (g_X5_advance_0_5 tl tm by_ p tt)), (0, .ref hE), (1, .ref hP)]) F dX5_readHouse_15 rfl (by decide) rfl ?_
    refine vv_aload_n F dX5_readHouse_16 rfl rfl ?_
    refine vv_iconst (v := 0) F dX5_readHouse_17 (by decide) ?_
    refine vv_iconst (v := 5) F dX5_readHouse_18 (by decide) ?_
    refine vv_callV (As := [.int 0, .int 5]) (rest := []) [0, 1] 0 (ws' := [(hE, .inr (4, [.ref aE, .int tl, .int (nI (adS tl by_ tt (adN tl by_ tt p))), .int (nI (adN tl by_ tt (adN tl by_ tt p))), .int (g_X5_advance_0_4 tl by_ (adN tl by_ tt p) tt), .int (g_X5_advance_0_5 tl (g_X5_advance_0_5 tl tm by_ p tt) by_ (adN tl by_ tt p) tt)])), (aE, .inl ((vv_k x).2.1.2.1, 150, .inl by_)), (hP, .inr (1, [.int ln, .int hb, .int ha, .int pu, .int hl, .int sm, .int hr, .ref hS, .ref hC, .ref hN, .ref hM, .ref hU]))]) F (c_X5_takeNumber (vv_l x) (vv_k x) hE aE tl (nI (adS tl by_ tt p)) (nI (adN tl by_ tt p)) (g_X5_advance_0_4 tl by_ p tt) (g_X5_advance_0_5 tl tm by_ p tt) by_ 0 5 (adN tl by_ tt p) tt (nI_toInt (n := (adN tl by_ tt p)) (by omega)) ht (by omega) (by omega)) mv_X5_52 dX5_readHouse_19 (by decide) rfl rfl (Nat.le_of_ble_eq_true rfl) rfl (by decide) (Eq.trans (b := [hE, aE]) rfl rfl) rfl rfl ?_
    have h_4s := adS_le (by_ := by_) (p := (adN tl by_ tt p)) ht htt (by omega)
    have h_5n := adN_le (by_ := by_) (p := (adN tl by_ tt p)) ht htt (by omega)
    refine vv_ifz_ne (tgt := 27) F dX5_readHouse_22 (by decide) (fun h_6 => ?_) (fun h_6 => ?_)
    · refine vv_aload_n F dX5_readHouse_27 rfl rfl ?_
      refine vv_iload_n F dX5_readHouse_28 rfl rfl ?_
      refine vv_aload_n F dX5_readHouse_29 rfl rfl ?_
      refine vv_get 0 F fl_X5_56 dX5_readHouse_30 rfl rfl ?_
      refine vv_callV (As := [.int (g_X5_advance_0_5 tl tm by_ p tt), .int (g_X5_advance_0_5 tl (g_X5_advance_0_5 tl tm by_ p tt) by_ (adN tl by_ tt p) tt)]) (rest := []) [2] 2 (ws' := [(hE, .inr (4, [.ref aE, .int tl, .int (nI (adS tl by_ tt (adN tl by_ tt p))), .int (nI (adN tl by_ tt (adN tl by_ tt p))), .int (g_X5_advance_0_4 tl by_ (adN tl by_ tt p) tt), .int (g_X5_advance_0_5 tl (g_X5_advance_0_5 tl tm by_ p tt) by_ (adN tl by_ tt p) tt)])), (aE, .inl ((vv_k x).2.1.2.1, 150, .inl by_)), (hP, .inr (1, [.int ln, .int (g_X2_setHouse_0_1 hb (g_X5_advance_0_5 tl tm by_ p tt) (g_X5_advance_0_5 tl (g_X5_advance_0_5 tl tm by_ p tt) by_ (adN tl by_ tt p) tt)), .int (g_X2_setHouse_0_2 ha (g_X5_advance_0_5 tl tm by_ p tt) (g_X5_advance_0_5 tl (g_X5_advance_0_5 tl tm by_ p tt) by_ (adN tl by_ tt p) tt)), .int pu, .int hl, .int sm, .int hr, .ref hS, .ref hC, .ref hN, .ref hM, .ref hU]))]) F (c_X2_setHouse (vv_l x) (vv_k x) hP hS hC hN hM hU ln hb ha pu hl sm hr (g_X5_advance_0_5 tl tm by_ p tt) (g_X5_advance_0_5 tl (g_X5_advance_0_5 tl tm by_ p tt) by_ (adN tl by_ tt p) tt)) mv_X5_104 dX5_readHouse_33 (by decide) rfl rfl (Nat.le_of_ble_eq_true rfl) rfl (by decide) (Eq.trans (b := [hP]) rfl rfl) rfl rfl ?_
      refine vv_iconst (v := 1) F dX5_readHouse_36 (by decide) ?_
      exact vv_zret F hR dX5_readHouse_37 rfl (vv_bt ⟨h_3, h_6⟩) (by simp only [g_X5_readHouse_0_2, g_X5_readHouse_0_3, g_X5_readHouse_0_4, g_X5_readHouse_0_5, g_X5_readHouse_2_1, g_X5_readHouse_2_2, if_pos h_3, if_pos h_6])
    · refine vv_iconst (v := 0) F dX5_readHouse_25 (by decide) ?_
      exact vv_zret F hR dX5_readHouse_26 rfl (vv_bf (fun z => h_6 z.2)) (by simp only [g_X5_readHouse_0_2, g_X5_readHouse_0_3, g_X5_readHouse_0_4, g_X5_readHouse_0_5, g_X5_readHouse_2_1, g_X5_readHouse_2_2, if_pos h_3, if_neg h_6])
  · refine vv_iconst (v := 0) F dX5_readHouse_9 (by decide) ?_
    exact vv_zret F hR dX5_readHouse_10 rfl (vv_bf (fun z => h_3 z.1)) (by simp only [g_X5_readHouse_0_2, g_X5_readHouse_0_3, g_X5_readHouse_0_4, g_X5_readHouse_0_5, g_X5_readHouse_2_1, g_X5_readHouse_2_2, if_neg h_3])
abbrev p_X5_readPurse (tl tm : Int32) (by_ : Nat → Int32) (p tt : Nat) : Prop := (p_X5_takeNumber tl tm by_ 0 99 p tt)
noncomputable def g_X5_readPurse_2_3 (tl tm : Int32) (by_ : Nat → Int32) (pu : Int32) (p tt : Nat) : Int32 := (if p_X5_takeNumber tl tm by_ 0 99 p tt then (100 * (g_X5_advance_0_5 tl tm by_ p tt)) else pu)
theorem c_X5_readPurse (l : Launch) (K : vv_K) (hE aE : Nat) (tl ts tn tk tm : Int32) (by_ : Nat → Int32) (hP hS hC hN hM hU : Nat) (ln hb ha pu hl sm hr : Int32) (p tt : Nat) (hp : (tn).toInt = (p : Int)) (ht : (tl).toInt = (tt : Int)) (hpt : p ≤ tt) (htt : tt ≤ 150)  : vv_C l K 5 yX5_readPurse cX5_readPurse 2 (some .boolean) [.ref hE, .ref hP] [(hE, .inr (4, [.ref aE, .int tl, .int ts, .int tn, .int tk, .int tm])), (aE, .inl (K.2.1.2.1, 150, .inl by_)), (hP, .inr (1, [.int ln, .int hb, .int ha, .int pu, .int hl, .int sm, .int hr, .ref hS, .ref hC, .ref hN, .ref hM, .ref hU]))] (some (.int (vv_b (p_X5_readPurse tl tm by_ p tt)))) [(hE, .inr (4, [.ref aE, .int tl, .int (nI (adS tl by_ tt p)), .int (nI (adN tl by_ tt p)), .int (g_X5_advance_0_4 tl by_ p tt), .int (g_X5_advance_0_5 tl tm by_ p tt)])), (aE, .inl (K.2.1.2.1, 150, .inl by_)), (hP, .inr (1, [.int ln, .int hb, .int ha, .int (g_X5_readPurse_2_3 tl tm by_ pu p tt), .int hl, .int sm, .int hr, .ref hS, .ref hC, .ref hN, .ref hM, .ref hU]))] := by
  refine vv_C.of (lv := [(0, .ref hE), (1, .ref hP)]) (by decide +kernel) (Nat.le_of_ble_eq_true rfl) rfl ?_
  intro x hl hK F hR; subst hl; obtain rfl := hK
  refine vv_aload_n F dX5_readPurse_0 rfl rfl ?_
  refine vv_iconst (v := 0) F dX5_readPurse_1 (by decide) ?_
  refine vv_bipush (v := 99) F dX5_readPurse_2 (by decide) ?_
  refine vv_callV (As := [.int 0, .int 99]) (rest := []) [0, 1] 0 (ws' := [(hE, .inr (4, [.ref aE, .int tl, .int (nI (adS tl by_ tt p)), .int (nI (adN tl by_ tt p)), .int (g_X5_advance_0_4 tl by_ p tt), .int (g_X5_advance_0_5 tl tm by_ p tt)])), (aE, .inl ((vv_k x).2.1.2.1, 150, .inl by_)), (hP, .inr (1, [.int ln, .int hb, .int ha, .int pu, .int hl, .int sm, .int hr, .ref hS, .ref hC, .ref hN, .ref hM, .ref hU]))]) F (c_X5_takeNumber (vv_l x) (vv_k x) hE aE tl ts tn tk tm by_ 0 99 p tt hp ht (by omega) (by omega)) mv_X5_52 dX5_readPurse_4 (by decide) rfl rfl (Nat.le_of_ble_eq_true rfl) rfl (by decide) (Eq.trans (b := [hE, aE]) rfl rfl) rfl rfl ?_
  have h_1s := adS_le (by_ := by_) (p := p) ht htt (by omega)
  have h_2n := adN_le (by_ := by_) (p := p) ht htt (by omega)
  refine vv_ifz_ne (tgt := 12) F dX5_readPurse_7 (by decide) (fun h_3 => ?_) (fun h_3 => ?_)
  · refine vv_aload_n F dX5_readPurse_12 rfl rfl ?_
    refine vv_bipush (v := 100) F dX5_readPurse_13 (by decide) ?_
    refine vv_aload_n F dX5_readPurse_15 rfl rfl ?_
    refine vv_get 0 F fl_X5_56 dX5_readPurse_16 rfl rfl ?_
    refine vv_imul F dX5_readPurse_19 ?_
    refine vv_put 2 (ws' := [(hE, .inr (4, [.ref aE, .int tl, .int (nI (adS tl by_ tt p)), .int (nI (adN tl by_ tt p)), .int (g_X5_advance_0_4 tl by_ p tt), .int (g_X5_advance_0_5 tl tm by_ p tt)])), (aE, .inl ((vv_k x).2.1.2.1, 150, .inl by_)), (hP, .inr (1, [.int ln, .int hb, .int ha, .int (100 * (g_X5_advance_0_5 tl tm by_ p tt)), .int hl, .int sm, .int hr, .ref hS, .ref hC, .ref hN, .ref hM, .ref hU]))]) F fl_X5_111 dX5_readPurse_20 rfl rfl rfl (Nat.le_of_ble_eq_true rfl) rfl ?_
    refine vv_iconst (v := 1) F dX5_readPurse_23 (by decide) ?_
    exact vv_zret F hR dX5_readPurse_24 rfl (vv_bt h_3) (by simp only [g_X5_readPurse_2_3, if_pos h_3])
  · refine vv_iconst (v := 0) F dX5_readPurse_10 (by decide) ?_
    exact vv_zret F hR dX5_readPurse_11 rfl (vv_bf h_3) (by simp only [g_X5_readPurse_2_3, if_neg h_3])
abbrev p_X5_readWait (tl tm : Int32) (by_ : Nat → Int32) (p tt : Nat) : Prop := (p_X5_takeNumber tl tm by_ 1 99 p tt)
noncomputable def g_X5_readWait_2_6 (tl tm : Int32) (by_ : Nat → Int32) (hr : Int32) (p tt : Nat) : Int32 := (if p_X5_takeNumber tl tm by_ 1 99 p tt then (if 9999 < (hr + (g_X5_advance_0_5 tl tm by_ p tt)) then 9999 else (hr + (g_X5_advance_0_5 tl tm by_ p tt))) else hr)
theorem c_X5_readWait (l : Launch) (K : vv_K) (hE aE : Nat) (tl ts tn tk tm : Int32) (by_ : Nat → Int32) (hP hS hC hN hM hU : Nat) (ln hb ha pu hl sm hr : Int32) (p tt : Nat) (hp : (tn).toInt = (p : Int)) (ht : (tl).toInt = (tt : Int)) (hpt : p ≤ tt) (htt : tt ≤ 150)  : vv_C l K 5 yX5_readWait cX5_readWait 2 (some .boolean) [.ref hE, .ref hP] [(hE, .inr (4, [.ref aE, .int tl, .int ts, .int tn, .int tk, .int tm])), (aE, .inl (K.2.1.2.1, 150, .inl by_)), (hP, .inr (1, [.int ln, .int hb, .int ha, .int pu, .int hl, .int sm, .int hr, .ref hS, .ref hC, .ref hN, .ref hM, .ref hU]))] (some (.int (vv_b (p_X5_readWait tl tm by_ p tt)))) [(hE, .inr (4, [.ref aE, .int tl, .int (nI (adS tl by_ tt p)), .int (nI (adN tl by_ tt p)), .int (g_X5_advance_0_4 tl by_ p tt), .int (g_X5_advance_0_5 tl tm by_ p tt)])), (aE, .inl (K.2.1.2.1, 150, .inl by_)), (hP, .inr (1, [.int ln, .int hb, .int ha, .int pu, .int hl, .int sm, .int (g_X5_readWait_2_6 tl tm by_ hr p tt), .ref hS, .ref hC, .ref hN, .ref hM, .ref hU]))] := by
  refine vv_C.of (lv := [(0, .ref hE), (1, .ref hP)]) (by decide +kernel) (Nat.le_of_ble_eq_true rfl) rfl ?_
  intro x hl hK F hR; subst hl; obtain rfl := hK
  refine vv_aload_n F dX5_readWait_0 rfl rfl ?_
  refine vv_iconst (v := 1) F dX5_readWait_1 (by decide) ?_
  refine vv_bipush (v := 99) F dX5_readWait_2 (by decide) ?_
  refine vv_callV (As := [.int 1, .int 99]) (rest := []) [0, 1] 0 (ws' := [(hE, .inr (4, [.ref aE, .int tl, .int (nI (adS tl by_ tt p)), .int (nI (adN tl by_ tt p)), .int (g_X5_advance_0_4 tl by_ p tt), .int (g_X5_advance_0_5 tl tm by_ p tt)])), (aE, .inl ((vv_k x).2.1.2.1, 150, .inl by_)), (hP, .inr (1, [.int ln, .int hb, .int ha, .int pu, .int hl, .int sm, .int hr, .ref hS, .ref hC, .ref hN, .ref hM, .ref hU]))]) F (c_X5_takeNumber (vv_l x) (vv_k x) hE aE tl ts tn tk tm by_ 1 99 p tt hp ht (by omega) (by omega)) mv_X5_52 dX5_readWait_4 (by decide) rfl rfl (Nat.le_of_ble_eq_true rfl) rfl (by decide) (Eq.trans (b := [hE, aE]) rfl rfl) rfl rfl ?_
  have h_1s := adS_le (by_ := by_) (p := p) ht htt (by omega)
  have h_2n := adN_le (by_ := by_) (p := p) ht htt (by omega)
  refine vv_ifz_ne (tgt := 12) F dX5_readWait_7 (by decide) (fun h_3 => ?_) (fun h_3 => ?_)
  · refine vv_aload_n F dX5_readWait_12 rfl rfl ?_
    refine vv_aload_n F dX5_readWait_13 rfl rfl ?_
    refine vv_get 0 F fl_X5_56 dX5_readWait_14 rfl rfl ?_
    refine vv_callV (As := [.int (g_X5_advance_0_5 tl tm by_ p tt)]) (rest := []) [2] 2 (ws' := [(hE, .inr (4, [.ref aE, .int tl, .int (nI (adS tl by_ tt p)), .int (nI (adN tl by_ tt p)), .int (g_X5_advance_0_4 tl by_ p tt), .int (g_X5_advance_0_5 tl tm by_ p tt)])), (aE, .inl ((vv_k x).2.1.2.1, 150, .inl by_)), (hP, .inr (1, [.int ln, .int hb, .int ha, .int pu, .int hl, .int sm, .int (if 9999 < (hr + (g_X5_advance_0_5 tl tm by_ p tt)) then 9999 else (hr + (g_X5_advance_0_5 tl tm by_ p tt))), .ref hS, .ref hC, .ref hN, .ref hM, .ref hU]))]) F (c_X2_waitHours (vv_l x) (vv_k x) hP hS hC hN hM hU ln hb ha pu hl sm hr (g_X5_advance_0_5 tl tm by_ p tt)) mv_X5_113 dX5_readWait_17 (by decide) rfl rfl (Nat.le_of_ble_eq_true rfl) rfl (by decide) (Eq.trans (b := [hP]) rfl rfl) rfl rfl ?_
    refine vv_iconst (v := 1) F dX5_readWait_20 (by decide) ?_
    exact vv_zret F hR dX5_readWait_21 rfl (vv_bt h_3) (by simp only [g_X5_readWait_2_6, if_pos h_3])
  · refine vv_iconst (v := 0) F dX5_readWait_10 (by decide) ?_
    exact vv_zret F hR dX5_readWait_11 rfl (vv_bf h_3) (by simp only [g_X5_readWait_2_6, if_neg h_3])
abbrev p_X5_readString (tl tm : Int32) (by_ : Nat → Int32) (p tt : Nat) : Prop := ((p_X5_takeNumber tl tm by_ 0 5 p tt) ∧ (p_X5_takeNumber tl (g_X5_advance_0_5 tl tm by_ p tt) by_ 1 60 (adN tl by_ tt p) tt))
noncomputable def g_X5_readString_0_2 (tl tm : Int32) (by_ : Nat → Int32) (p tt : Nat) : Int32 := (if p_X5_takeNumber tl tm by_ 0 5 p tt then (if p_X5_takeNumber tl (g_X5_advance_0_5 tl tm by_ p tt) by_ 1 60 (adN tl by_ tt p) tt then (nI (adS tl by_ tt (adN tl by_ tt p))) else (nI (adS tl by_ tt (adN tl by_ tt p)))) else (nI (adS tl by_ tt p)))
noncomputable def g_X5_readString_0_3 (tl tm : Int32) (by_ : Nat → Int32) (p tt : Nat) : Int32 := (if p_X5_takeNumber tl tm by_ 0 5 p tt then (if p_X5_takeNumber tl (g_X5_advance_0_5 tl tm by_ p tt) by_ 1 60 (adN tl by_ tt p) tt then (nI (adN tl by_ tt (adN tl by_ tt p))) else (nI (adN tl by_ tt (adN tl by_ tt p)))) else (nI (adN tl by_ tt p)))
noncomputable def g_X5_readString_0_4 (tl tm : Int32) (by_ : Nat → Int32) (p tt : Nat) : Int32 := (if p_X5_takeNumber tl tm by_ 0 5 p tt then (if p_X5_takeNumber tl (g_X5_advance_0_5 tl tm by_ p tt) by_ 1 60 (adN tl by_ tt p) tt then (g_X5_advance_0_4 tl by_ (adN tl by_ tt p) tt) else (g_X5_advance_0_4 tl by_ (adN tl by_ tt p) tt)) else (g_X5_advance_0_4 tl by_ p tt))
noncomputable def g_X5_readString_0_5 (tl tm : Int32) (by_ : Nat → Int32) (p tt : Nat) : Int32 := (if p_X5_takeNumber tl tm by_ 0 5 p tt then (if p_X5_takeNumber tl (g_X5_advance_0_5 tl tm by_ p tt) by_ 1 60 (adN tl by_ tt p) tt then (g_X5_advance_0_5 tl (g_X5_advance_0_5 tl tm by_ p tt) by_ (adN tl by_ tt p) tt) else (g_X5_advance_0_5 tl (g_X5_advance_0_5 tl tm by_ p tt) by_ (adN tl by_ tt p) tt)) else (g_X5_advance_0_5 tl tm by_ p tt))
noncomputable def g_X5_readString_3_2 (tl tm : Int32) (by_ : Nat → Int32) (mS nS : Int32) (p tt : Nat) : Int32 := (if p_X5_takeNumber tl tm by_ 0 5 p tt then (if p_X5_takeNumber tl (g_X5_advance_0_5 tl tm by_ p tt) by_ 1 60 (adN tl by_ tt p) tt then (g_X3_put_0_2 mS nS) else nS) else nS)
noncomputable def g_X5_readString_4 (tl tm : Int32) (by_ : Nat → Int32) (mS nS : Int32) (fS : Nat → Int32) (p tt : Nat) : Nat → Int32 := (if p_X5_takeNumber tl tm by_ 0 5 p tt then (if p_X5_takeNumber tl (g_X5_advance_0_5 tl tm by_ p tt) by_ 1 60 (adN tl by_ tt p) tt then (g_X3_put_1 mS nS fS (g_X5_advance_0_5 tl tm by_ p tt) (g_X5_advance_0_5 tl (g_X5_advance_0_5 tl tm by_ p tt) by_ (adN tl by_ tt p) tt) 0 0) else fS) else fS)
theorem c_X5_readString (l : Launch) (K : vv_K) (hE aE : Nat) (tl ts tn tk tm : Int32) (by_ : Nat → Int32) (hP hS hC hN hM hU : Nat) (ln hb ha pu hl sm hr : Int32) (aS : Nat) (mS nS : Int32) (fS : Nat → Int32) (p tt cs : Nat) (hp : (tn).toInt = (p : Int)) (ht : (tl).toInt = (tt : Int)) (hcs : (nS).toInt = (cs : Int)) (hpt : p ≤ tt) (htt : tt ≤ 150) (hcs5 : cs ≤ 5) (hmS : mS.toInt = 5) : vv_C l K 5 yX5_readString cX5_readString 3 (some .boolean) [.ref hE, .ref hP] [(hE, .inr (4, [.ref aE, .int tl, .int ts, .int tn, .int tk, .int tm])), (aE, .inl (K.2.1.2.1, 150, .inl by_)), (hP, .inr (1, [.int ln, .int hb, .int ha, .int pu, .int hl, .int sm, .int hr, .ref hS, .ref hC, .ref hN, .ref hM, .ref hU])), (hS, .inr (2, [.ref aS, .int mS, .int nS])), (aS, .inl (K.2.1.1, 32, .inl fS))] (some (.int (vv_b (p_X5_readString tl tm by_ p tt)))) [(hE, .inr (4, [.ref aE, .int tl, .int (g_X5_readString_0_2 tl tm by_ p tt), .int (g_X5_readString_0_3 tl tm by_ p tt), .int (g_X5_readString_0_4 tl tm by_ p tt), .int (g_X5_readString_0_5 tl tm by_ p tt)])), (aE, .inl (K.2.1.2.1, 150, .inl by_)), (hP, .inr (1, [.int ln, .int hb, .int ha, .int pu, .int hl, .int sm, .int hr, .ref hS, .ref hC, .ref hN, .ref hM, .ref hU])), (hS, .inr (2, [.ref aS, .int mS, .int (g_X5_readString_3_2 tl tm by_ mS nS p tt)])), (aS, .inl (K.2.1.1, 32, .inl (g_X5_readString_4 tl tm by_ mS nS fS p tt)))] := by
  refine vv_C.of (lv := [(0, .ref hE), (1, .ref hP)]) (by decide +kernel) (Nat.le_of_ble_eq_true rfl) rfl ?_
  intro x hl hK F hR; subst hl; obtain rfl := hK
  refine vv_aload_n F dX5_readString_0 rfl rfl ?_
  refine vv_iconst (v := 0) F dX5_readString_1 (by decide) ?_
  refine vv_iconst (v := 5) F dX5_readString_2 (by decide) ?_
  refine vv_callV (As := [.int 0, .int 5]) (rest := []) [0, 1] 0 (ws' := [(hE, .inr (4, [.ref aE, .int tl, .int (nI (adS tl by_ tt p)), .int (nI (adN tl by_ tt p)), .int (g_X5_advance_0_4 tl by_ p tt), .int (g_X5_advance_0_5 tl tm by_ p tt)])), (aE, .inl ((vv_k x).2.1.2.1, 150, .inl by_)), (hP, .inr (1, [.int ln, .int hb, .int ha, .int pu, .int hl, .int sm, .int hr, .ref hS, .ref hC, .ref hN, .ref hM, .ref hU])), (hS, .inr (2, [.ref aS, .int mS, .int nS])), (aS, .inl ((vv_k x).2.1.1, 32, .inl fS))]) F (c_X5_takeNumber (vv_l x) (vv_k x) hE aE tl ts tn tk tm by_ 0 5 p tt hp ht (by omega) (by omega)) mv_X5_52 dX5_readString_3 (by decide) rfl rfl (Nat.le_of_ble_eq_true rfl) rfl (by decide) (Eq.trans (b := [hE, aE]) rfl rfl) rfl rfl ?_
  have h_1s := adS_le (by_ := by_) (p := p) ht htt (by omega)
  have h_2n := adN_le (by_ := by_) (p := p) ht htt (by omega)
  refine vv_ifz_ne (tgt := 11) F dX5_readString_6 (by decide) (fun h_3 => ?_) (fun h_3 => ?_)
  · refine vv_aload_n F dX5_readString_11 rfl rfl ?_
    refine vv_get 0 F fl_X5_56 dX5_readString_12 rfl rfl ?_
    refine vv_istore_n (lv' := [(2, .int (g_X5_advance_0_5 tl tm by_ p tt)), (0, .ref hE), (1, .ref hP)]) F dX5_readString_15 rfl (by decide) rfl ?_
    refine vv_aload_n F dX5_readString_16 rfl rfl ?_
    refine vv_iconst (v := 1) F dX5_readString_17 (by decide) ?_
    refine vv_bipush (v := 60) F dX5_readString_18 (by decide) ?_
    refine vv_callV (As := [.int 1, .int 60]) (rest := []) [0, 1] 0 (ws' := [(hE, .inr (4, [.ref aE, .int tl, .int (nI (adS tl by_ tt (adN tl by_ tt p))), .int (nI (adN tl by_ tt (adN tl by_ tt p))), .int (g_X5_advance_0_4 tl by_ (adN tl by_ tt p) tt), .int (g_X5_advance_0_5 tl (g_X5_advance_0_5 tl tm by_ p tt) by_ (adN tl by_ tt p) tt)])), (aE, .inl ((vv_k x).2.1.2.1, 150, .inl by_)), (hP, .inr (1, [.int ln, .int hb, .int ha, .int pu, .int hl, .int sm, .int hr, .ref hS, .ref hC, .ref hN, .ref hM, .ref hU])), (hS, .inr (2, [.ref aS, .int mS, .int nS])), (aS, .inl ((vv_k x).2.1.1, 32, .inl fS))]) F (c_X5_takeNumber (vv_l x) (vv_k x) hE aE tl (nI (adS tl by_ tt p)) (nI (adN tl by_ tt p)) (g_X5_advance_0_4 tl by_ p tt) (g_X5_advance_0_5 tl tm by_ p tt) by_ 1 60 (adN tl by_ tt p) tt (nI_toInt (n := (adN tl by_ tt p)) (by omega)) ht (by omega) (by omega)) mv_X5_52 dX5_readString_20 (by decide) rfl rfl (Nat.le_of_ble_eq_true rfl) rfl (by decide) (Eq.trans (b := [hE, aE]) rfl rfl) rfl rfl ?_
    have h_4s := adS_le (by_ := by_) (p := (adN tl by_ tt p)) ht htt (by omega)
    have h_5n := adN_le (by_ := by_) (p := (adN tl by_ tt p)) ht htt (by omega)
    refine vv_ifz_ne (tgt := 28) F dX5_readString_23 (by decide) (fun h_6 => ?_) (fun h_6 => ?_)
    · refine vv_aload_n F dX5_readString_28 rfl rfl ?_
      refine vv_get 2 F fl_X5_71 dX5_readString_29 rfl rfl ?_
      refine vv_iload_n F dX5_readString_32 rfl rfl ?_
      refine vv_aload_n F dX5_readString_33 rfl rfl ?_
      refine vv_get 0 F fl_X5_56 dX5_readString_34 rfl rfl ?_
      refine vv_iconst (v := 0) F dX5_readString_37 (by decide) ?_
      refine vv_iconst (v := 0) F dX5_readString_38 (by decide) ?_
      refine vv_callV (As := [.int (g_X5_advance_0_5 tl tm by_ p tt), .int (g_X5_advance_0_5 tl (g_X5_advance_0_5 tl tm by_ p tt) by_ (adN tl by_ tt p) tt), .int 0, .int 0]) (rest := []) [3, 4] 3 (ws' := [(hE, .inr (4, [.ref aE, .int tl, .int (nI (adS tl by_ tt (adN tl by_ tt p))), .int (nI (adN tl by_ tt (adN tl by_ tt p))), .int (g_X5_advance_0_4 tl by_ (adN tl by_ tt p) tt), .int (g_X5_advance_0_5 tl (g_X5_advance_0_5 tl tm by_ p tt) by_ (adN tl by_ tt p) tt)])), (aE, .inl ((vv_k x).2.1.2.1, 150, .inl by_)), (hP, .inr (1, [.int ln, .int hb, .int ha, .int pu, .int hl, .int sm, .int hr, .ref hS, .ref hC, .ref hN, .ref hM, .ref hU])), (hS, .inr (2, [.ref aS, .int mS, .int (g_X3_put_0_2 mS nS)])), (aS, .inl ((vv_k x).2.1.1, 32, .inl (g_X3_put_1 mS nS fS (g_X5_advance_0_5 tl tm by_ p tt) (g_X5_advance_0_5 tl (g_X5_advance_0_5 tl tm by_ p tt) by_ (adN tl by_ tt p) tt) 0 0)))]) F (c_X3_put (vv_l x) (vv_k x) hS aS mS nS fS (g_X5_advance_0_5 tl tm by_ p tt) (g_X5_advance_0_5 tl (g_X5_advance_0_5 tl tm by_ p tt) by_ (adN tl by_ tt p) tt) 0 0 (by omega) (by omega)) mv_X5_107 dX5_readString_39 (by decide) rfl rfl (Nat.le_of_ble_eq_true rfl) rfl (by decide) (Eq.trans (b := [hS, aS]) rfl rfl) rfl rfl ?_
      refine vv_iconst (v := 1) F dX5_readString_42 (by decide) ?_
      exact vv_zret F hR dX5_readString_43 rfl (vv_bt ⟨h_3, h_6⟩) (by simp only [g_X5_readString_0_2, g_X5_readString_0_3, g_X5_readString_0_4, g_X5_readString_0_5, g_X5_readString_3_2, g_X5_readString_4, if_pos h_3, if_pos h_6])
    · refine vv_iconst (v := 0) F dX5_readString_26 (by decide) ?_
      exact vv_zret F hR dX5_readString_27 rfl (vv_bf (fun z => h_6 z.2)) (by simp only [g_X5_readString_0_2, g_X5_readString_0_3, g_X5_readString_0_4, g_X5_readString_0_5, g_X5_readString_3_2, g_X5_readString_4, if_pos h_3, if_neg h_6])
  · refine vv_iconst (v := 0) F dX5_readString_9 (by decide) ?_
    exact vv_zret F hR dX5_readString_10 rfl (vv_bf (fun z => h_3 z.1)) (by simp only [g_X5_readString_0_2, g_X5_readString_0_3, g_X5_readString_0_4, g_X5_readString_0_5, g_X5_readString_3_2, g_X5_readString_4, if_neg h_3])
