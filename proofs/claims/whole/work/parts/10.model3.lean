/-- n turns from u on; kept shut, so that no walk unrolls it: itr_0, itr_s open it -/
def itr0 {σ : Type} (f : Nat → σ → σ) : Nat → Nat → σ → σ
  | 0, _, s => s
  | n + 1, u, s => itr0 f n (u + 1) (f u s)
theorem itr_ex : ∃ g : (σ : Type) → (Nat → σ → σ) → Nat → Nat → σ → σ, (∀ (σ : Type) (f : Nat → σ → σ) (u : Nat) (s : σ), g σ f 0 u s = s) ∧ ∀ (σ : Type) (f : Nat → σ → σ) (n u : Nat) (s : σ), g σ f (n + 1) u s = g σ f n (u + 1) (f u s) := ⟨fun _ f => itr0 f, fun _ _ _ _ => rfl, fun _ _ _ _ _ => rfl⟩
noncomputable def itr {σ : Type} (f : Nat → σ → σ) (n u : Nat) (s : σ) : σ := Classical.choose itr_ex σ f n u s
theorem itr_0 {σ : Type} {f : Nat → σ → σ} {u : Nat} {s : σ} : itr f 0 u s = s := (Classical.choose_spec itr_ex).1 σ f u s
theorem itr_s {σ : Type} {f : Nat → σ → σ} {n u : Nat} {s : σ} : itr f (n + 1) u s = itr f n (u + 1) (f u s) := (Classical.choose_spec itr_ex).2 σ f n u s
section VVU
variable {x : vv_X} {nL pc : Nat} {lv lv' : List (Nat × Value)} {st : List Value} {ws : va_W}
theorem vv_lvE (h : lv = lv') (k : vv_V x nL pc lv' st ws) : vv_V x nL pc lv st ws := h ▸ k
end VVU
noncomputable def st_X8_cheapest (wf : Nat → Int32) (ii : Nat) (u : Nat) (s : Int32 × Int32) : Int32 × Int32 := ((if s.2 ≤ (f_X8_costIn wf ((wf 17) + (nI u)) 0 ii) then s.1 else (nI u)), (if s.2 ≤ (f_X8_costIn wf ((wf 17) + (nI u)) 0 ii) then s.2 else (f_X8_costIn wf ((wf 17) + (nI u)) 0 ii)))
theorem L_X8_cheapest {x : vv_X} (F : vv_F x cX8_cheapest 7 RX8 5) (qm qw qk qt : Nat) (txd : Int32) (abv blw : Int64) (qs : Nat) (atp stp nbr : Int32) (qi qp qh qb : Nat) (bmy : Int32) (qa q6 : Nat) (hsh : Int64) (wf ss : Nat → Int32) (i wh : Int32) (ii : Nat) (hi : (i).toInt = (ii : Int)) (hii : ii < 5) : ∀ (n : Nat) (u : Nat) (be : Int32) (le : Int32), u + n = 48 → vv_V x 7 95 [(5, .int (nI 48)), (3, .int ((itr (st_X8_cheapest wf ii) n u (be, le)).1)), (4, .int ((itr (st_X8_cheapest wf ii) n u (be, le)).2)), (0, .ref qm), (1, .int i), (2, .int wh)] [] [(qm, .inr (7, [.ref qw, .ref qk, .ref qt, .int txd, .long abv, .long blw, .ref qs, .int atp, .int stp, .int nbr, .ref qi, .ref qp, .ref qh, .ref qb, .int bmy, .ref qa, .ref q6, .long hsh])), (qw, .inl ((vv_k x).2.1.1, 456, .inl wf)), (qs, .inl ((vv_k x).2.1.1, 3, .inl ss))] → vv_V x 7 34 [(5, .int (nI u)), (3, .int be), (4, .int le), (0, .ref qm), (1, .int i), (2, .int wh)] [] [(qm, .inr (7, [.ref qw, .ref qk, .ref qt, .int txd, .long abv, .long blw, .ref qs, .int atp, .int stp, .int nbr, .ref qi, .ref qp, .ref qh, .ref qb, .int bmy, .ref qa, .ref q6, .long hsh])), (qw, .inl ((vv_k x).2.1.1, 456, .inl wf)), (qs, .inl ((vv_k x).2.1.1, 3, .inl ss))] := by
  intro n
  induction n with
  | zero =>
    intro u be le hu  kx
    refine vv_iload F dX8_cheapest_34 rfl ?_
    refine vv_bipush (v := 48) F dX8_cheapest_36 (by decide) ?_
    refine vv_icmp_ge (tgt := 95) F dX8_cheapest_38 (by decide) (fun h_1 => ?_) (fun h_1 => absurd ((c_le (by decide : (48 : Int32).toInt = ((48 : Nat) : Int)) (nI_toInt (n := u) (by omega))).mpr (by omega)) h_1)
    obtain rfl : u = 48 := by omega
    rw [itr_0] at kx
    exact vv_lv [0, 1, 2, 3, 4, 5] rfl kx
  | succ n ih =>
    intro u be le hu  kx
    refine vv_iload F dX8_cheapest_34 rfl ?_
    refine vv_bipush (v := 48) F dX8_cheapest_36 (by decide) ?_
    refine vv_icmp_ge (tgt := 95) F dX8_cheapest_38 (by decide) (fun h_1 => absurd ((c_le (by decide : (48 : Int32).toInt = ((48 : Nat) : Int)) (nI_toInt (n := u) (by omega))).mp h_1) (by omega)) (fun h_1 => ?_)
    refine vv_aload_n F dX8_cheapest_41 rfl rfl ?_
    refine vv_iconst (v := 0) F dX8_cheapest_42 (by decide) ?_
    refine vv_iload_n F dX8_cheapest_43 rfl rfl ?_
    refine vv_aload_n F dX8_cheapest_44 rfl rfl ?_
    refine vv_get 0 F fl_X8_7 dX8_cheapest_45 rfl rfl ?_
    refine vv_bipush (v := 17) F dX8_cheapest_48 (by decide) ?_
    refine vv_iald 1 F dX8_cheapest_50 rfl (vv_ixP (j := 17) (by decide) (by decide)) ?_
    refine vv_iload F dX8_cheapest_51 rfl ?_
    refine vv_iadd F dX8_cheapest_53 ?_
    refine vv_callVp (As := [.int 0, .int i, .int ((wf 17) + (nI u))]) (rest := []) [0, 1] 0 F (c_X8_costIn (vv_l x) (vv_k x) qm qw qk qt txd abv blw qs atp stp nbr qi qp qh qb bmy qa q6 hsh wf 0 i ((wf 17) + (nI u)) 0 ii (by decide : (0 : Int32).toInt = ((0 : Nat) : Int)) hi (by omega) (by omega)) mv_X8_191 dX8_cheapest_54 (by decide) rfl rfl (Nat.le_of_ble_eq_true rfl) rfl (by decide) rfl ?_
    refine vv_istore (lv' := [(6, .int (f_X8_costIn wf ((wf 17) + (nI u)) 0 ii)), (5, .int (nI u)), (3, .int be), (4, .int le), (0, .ref qm), (1, .int i), (2, .int wh)]) F dX8_cheapest_57 (by decide) rfl ?_
    refine vv_iload F dX8_cheapest_59 rfl ?_
    refine vv_iload F dX8_cheapest_61 rfl ?_
    refine vv_icmp_ge (tgt := 71) F dX8_cheapest_63 (by decide) (fun h_2 => ?_) (fun h_2 => ?_)
    · refine vv_iload_n F dX8_cheapest_71 rfl rfl ?_
      refine vv_istore_n (lv' := [(3, .int be), (6, .int (f_X8_costIn wf ((wf 17) + (nI u)) 0 ii)), (5, .int (nI u)), (4, .int le), (0, .ref qm), (1, .int i), (2, .int wh)]) F dX8_cheapest_72 rfl (by decide) rfl ?_
      refine vv_iload F dX8_cheapest_73 rfl ?_
      refine vv_iload F dX8_cheapest_75 rfl ?_
      refine vv_icmp_ge (tgt := 85) F dX8_cheapest_77 (by decide) (fun h_3 => ?_) (fun h_3 => ?_)
      · refine vv_iload F dX8_cheapest_85 rfl ?_
        refine vv_istore (lv' := [(4, .int le), (3, .int be), (6, .int (f_X8_costIn wf ((wf 17) + (nI u)) 0 ii)), (5, .int (nI u)), (0, .ref qm), (1, .int i), (2, .int wh)]) F dX8_cheapest_87 (by decide) rfl ?_
        refine vv_iinc (v := (nI (u + 1))) (lv' := [(5, .int (nI (u + 1))), (4, .int le), (3, .int be), (6, .int (f_X8_costIn wf ((wf 17) + (nI u)) 0 ii)), (0, .ref qm), (1, .int i), (2, .int wh)]) 3 F dX8_cheapest_89 rfl (nI_1 u) (by decide) rfl ?_
        refine vv_goto (tgt := 34) F dX8_cheapest_92 (by decide) ?_
        refine vv_lv (lv' := [(5, .int (nI (u + 1))), (3, .int be), (4, .int le), (0, .ref qm), (1, .int i), (2, .int wh)]) [0, 2, 1, 4, 5, 6] rfl ?_
        refine vv_lvE (lv' := [(5, .int (nI (u + 1))), (3, .int (if le ≤ (f_X8_costIn wf ((wf 17) + (nI u)) 0 ii) then be else (nI u))), (4, .int (if le ≤ (f_X8_costIn wf ((wf 17) + (nI u)) 0 ii) then le else (f_X8_costIn wf ((wf 17) + (nI u)) 0 ii))), (0, .ref qm), (1, .int i), (2, .int wh)]) (by first | (simp only [if_pos h_2]; done) | (simp [vv_b, h_2]; done)) ?_
        exact ih (u + 1) (if le ≤ (f_X8_costIn wf ((wf 17) + (nI u)) 0 ii) then be else (nI u)) (if le ≤ (f_X8_costIn wf ((wf 17) + (nI u)) 0 ii) then le else (f_X8_costIn wf ((wf 17) + (nI u)) 0 ii)) (by omega) (by rw [itr_s] at kx; exact kx)
      · exact absurd h_2 h_3
    · refine vv_iload F dX8_cheapest_66 rfl ?_
      refine vv_goto (tgt := 72) F dX8_cheapest_68 (by decide) ?_
      refine vv_istore_n (lv' := [(3, .int (nI u)), (6, .int (f_X8_costIn wf ((wf 17) + (nI u)) 0 ii)), (5, .int (nI u)), (4, .int le), (0, .ref qm), (1, .int i), (2, .int wh)]) F dX8_cheapest_72 rfl (by decide) rfl ?_
      refine vv_iload F dX8_cheapest_73 rfl ?_
      refine vv_iload F dX8_cheapest_75 rfl ?_
      refine vv_icmp_ge (tgt := 85) F dX8_cheapest_77 (by decide) (fun h_4 => ?_) (fun h_4 => ?_)
      · exact absurd h_4 h_2
      · refine vv_iload F dX8_cheapest_80 rfl ?_
        refine vv_goto (tgt := 87) F dX8_cheapest_82 (by decide) ?_
        refine vv_istore (lv' := [(4, .int (f_X8_costIn wf ((wf 17) + (nI u)) 0 ii)), (3, .int (nI u)), (6, .int (f_X8_costIn wf ((wf 17) + (nI u)) 0 ii)), (5, .int (nI u)), (0, .ref qm), (1, .int i), (2, .int wh)]) F dX8_cheapest_87 (by decide) rfl ?_
        refine vv_iinc (v := (nI (u + 1))) (lv' := [(5, .int (nI (u + 1))), (4, .int (f_X8_costIn wf ((wf 17) + (nI u)) 0 ii)), (3, .int (nI u)), (6, .int (f_X8_costIn wf ((wf 17) + (nI u)) 0 ii)), (0, .ref qm), (1, .int i), (2, .int wh)]) 3 F dX8_cheapest_89 rfl (nI_1 u) (by decide) rfl ?_
        refine vv_goto (tgt := 34) F dX8_cheapest_92 (by decide) ?_
        refine vv_lv (lv' := [(5, .int (nI (u + 1))), (3, .int (nI u)), (4, .int (f_X8_costIn wf ((wf 17) + (nI u)) 0 ii)), (0, .ref qm), (1, .int i), (2, .int wh)]) [0, 2, 1, 4, 5, 6] rfl ?_
        refine vv_lvE (lv' := [(5, .int (nI (u + 1))), (3, .int (if le ≤ (f_X8_costIn wf ((wf 17) + (nI u)) 0 ii) then be else (nI u))), (4, .int (if le ≤ (f_X8_costIn wf ((wf 17) + (nI u)) 0 ii) then le else (f_X8_costIn wf ((wf 17) + (nI u)) 0 ii))), (0, .ref qm), (1, .int i), (2, .int wh)]) (by first | (simp only [if_neg h_2]; done) | (simp [vv_b, h_2]; done)) ?_
        exact ih (u + 1) (if le ≤ (f_X8_costIn wf ((wf 17) + (nI u)) 0 ii) then be else (nI u)) (if le ≤ (f_X8_costIn wf ((wf 17) + (nI u)) 0 ii) then le else (f_X8_costIn wf ((wf 17) + (nI u)) 0 ii)) (by omega) (by rw [itr_s] at kx; exact kx)
noncomputable def f_X8_cheapest (wf : Nat → Int32) (i wh : Int32) : Int32 := (if p_X8_in i.toInt64 0 (((wf 0) - 1).toInt64) then (if p_X8_in wh.toInt64 0 1 then (if wh = 0 then (itr (st_X8_cheapest wf i.toNatClampNeg) 48 0 (0, 1000000)).1 else (itr (st_X8_cheapest wf i.toNatClampNeg) 48 0 (0, 1000000)).2) else (-2)) else (-2))
noncomputable def g_X8_cheapest_2 (wf ss : Nat → Int32) (i wh : Int32) : Nat → Int32 := (if p_X8_in i.toInt64 0 (((wf 0) - 1).toInt64) then (if p_X8_in wh.toInt64 0 1 then (if wh = 0 then ss else ss) else (upd ss 0 ((ss 0) + 1))) else (upd ss 0 ((ss 0) + 1)))
theorem c_X8_cheapest (l : Launch) (K : vv_K) (qm qw qk qt : Nat) (txd : Int32) (abv blw : Int64) (qs : Nat) (atp stp nbr : Int32) (qi qp qh qb : Nat) (bmy : Int32) (qa q6 : Nat) (hsh : Int64) (wf ss : Nat → Int32) (i wh : Int32) (cN : Nat) (hcN : ((wf 0)).toInt = (cN : Int)) (hcN5 : cN ≤ 5)  : vv_C l K 5 yX8_cheapest cX8_cheapest 7 (some .int) [.ref qm, .int i, .int wh] [(qm, .inr (7, [.ref qw, .ref qk, .ref qt, .int txd, .long abv, .long blw, .ref qs, .int atp, .int stp, .int nbr, .ref qi, .ref qp, .ref qh, .ref qb, .int bmy, .ref qa, .ref q6, .long hsh])), (qw, .inl (K.2.1.1, 456, .inl wf)), (qs, .inl (K.2.1.1, 3, .inl ss))] (some (.int (f_X8_cheapest wf i wh))) [(qm, .inr (7, [.ref qw, .ref qk, .ref qt, .int txd, .long abv, .long blw, .ref qs, .int atp, .int stp, .int nbr, .ref qi, .ref qp, .ref qh, .ref qb, .int bmy, .ref qa, .ref q6, .long hsh])), (qw, .inl (K.2.1.1, 456, .inl wf)), (qs, .inl (K.2.1.1, 3, .inl (g_X8_cheapest_2 wf ss i wh)))] := by
  refine vv_C.of (lv := [(0, .ref qm), (1, .int i), (2, .int wh)]) (by decide +kernel) (Nat.le_of_ble_eq_true rfl) rfl ?_
  intro x hl hK F hR; subst hl; obtain rfl := hK
  refine vv_aload_n F dX8_cheapest_0 rfl rfl ?_
  refine vv_iload_n F dX8_cheapest_1 rfl rfl ?_
  refine vv_callVp (As := [.int i]) (rest := []) [0, 1] 0 F (c_X8_isString (vv_l x) (vv_k x) qm qw qk qt txd abv blw qs atp stp nbr qi qp qh qb bmy qa q6 hsh wf i) mv_X8_197 dX8_cheapest_2 (by decide) rfl rfl (Nat.le_of_ble_eq_true rfl) rfl (by decide) rfl ?_
  refine vv_ifz_eq (tgt := 18) F dX8_cheapest_5 (by decide) (fun h_1 => ?_) (fun h_1 => ?_)
  · refine vv_aload_n F dX8_cheapest_18 rfl rfl ?_
    refine vv_bipush (v := (-2)) F dX8_cheapest_19 (by decide) ?_
    refine vv_callV (As := [.int (-2)]) (rest := []) [0, 2] 0 (ws' := [(qm, .inr (7, [.ref qw, .ref qk, .ref qt, .int txd, .long abv, .long blw, .ref qs, .int atp, .int stp, .int nbr, .ref qi, .ref qp, .ref qh, .ref qb, .int bmy, .ref qa, .ref q6, .long hsh])), (qw, .inl ((vv_k x).2.1.1, 456, .inl wf)), (qs, .inl ((vv_k x).2.1.1, 3, .inl (upd ss 0 ((ss 0) + 1))))]) F (c_X8_bad (vv_l x) (vv_k x) qm qw qk qt txd abv blw qs atp stp nbr qi qp qh qb bmy qa q6 hsh ss (-2)) mv_X8_78 dX8_cheapest_21 (by decide) rfl rfl (Nat.le_of_ble_eq_true rfl) rfl (by decide) (Eq.trans (b := [qm, qs]) rfl rfl) rfl rfl ?_
    exact vv_iret F hR dX8_cheapest_24 (congrArg (fun z => some (Value.int z)) ((if_neg h_1).trans rfl)) (by simp only [g_X8_cheapest_2, if_neg h_1])
  · have h_1r := in_rngS hcN h_1
    have h_1c := nn_cl (a := i) (by omega)
    refine vv_iload_n F dX8_cheapest_8 rfl rfl ?_
    refine vv_i2l F dX8_cheapest_9 ?_
    refine vv_lconst (v := 0) F dX8_cheapest_10 (by decide) ?_
    refine vv_lconst (v := 1) F dX8_cheapest_11 (by decide) ?_
    refine vv_callSp (As := [.long wh.toInt64, .long 0, .long 1]) (rest := []) [] F (c_X8_in (vv_l x) (vv_k x) wh.toInt64 0 1) ms_X8_56 dX8_cheapest_12 (by decide) rfl rfl (Nat.le_of_ble_eq_true rfl) rfl (by decide) ?_
    refine vv_ifz_ne (tgt := 25) F dX8_cheapest_15 (by decide) (fun h_2 => ?_) (fun h_2 => ?_)
    · have h_2r := in_rng (a := 0) (b := 1) (by decide) (by decide) h_2
      have h_2c := nn_cl (a := wh) (by omega)
      refine vv_iconst (v := 0) F dX8_cheapest_25 (by decide) ?_
      refine vv_istore_n (lv' := [(3, .int 0), (0, .ref qm), (1, .int i), (2, .int wh)]) F dX8_cheapest_26 rfl (by decide) rfl ?_
      refine vv_ldc F cw_X8_212 dX8_cheapest_27 ?_
      refine vv_istore (lv' := [(4, .int 1000000), (3, .int 0), (0, .ref qm), (1, .int i), (2, .int wh)]) F dX8_cheapest_29 (by decide) rfl ?_
      refine vv_iconst (v := 0) F dX8_cheapest_31 (by decide) ?_
      refine vv_istore (lv' := [(5, .int 0), (4, .int 1000000), (3, .int 0), (0, .ref qm), (1, .int i), (2, .int wh)]) F dX8_cheapest_32 (by decide) rfl ?_
      refine vv_lv (lv' := [(5, .int 0), (3, .int 0), (4, .int 1000000), (0, .ref qm), (1, .int i), (2, .int wh)]) [0, 2, 1, 3, 4, 5] rfl ?_
      refine L_X8_cheapest F qm qw qk qt txd abv blw qs atp stp nbr qi qp qh qb bmy qa q6 hsh wf ss i wh i.toNatClampNeg h_1c (by omega) 48 0 0 1000000 (by omega) ?_
      refine vv_iload_n F dX8_cheapest_95 rfl rfl ?_
      refine vv_if_ne (tgt := 103) F dX8_cheapest_96 (by decide) (fun h_3 => ?_) (fun h_3 => ?_)
      · refine vv_iload F dX8_cheapest_103 rfl ?_
        exact vv_iret F hR dX8_cheapest_105 (congrArg (fun z => some (Value.int z)) ((if_pos h_1).trans ((if_pos h_2).trans ((if_neg h_3).trans rfl)))) (by simp only [g_X8_cheapest_2, if_pos h_1, if_pos h_2, if_neg h_3])
      · refine vv_iload_n F dX8_cheapest_99 rfl rfl ?_
        refine vv_goto (tgt := 105) F dX8_cheapest_100 (by decide) ?_
        exact vv_iret F hR dX8_cheapest_105 (congrArg (fun z => some (Value.int z)) ((if_pos h_1).trans ((if_pos h_2).trans ((if_pos h_3).trans rfl)))) (by simp only [g_X8_cheapest_2, if_pos h_1, if_pos h_2, if_pos h_3])
    · refine vv_aload_n F dX8_cheapest_18 rfl rfl ?_
      refine vv_bipush (v := (-2)) F dX8_cheapest_19 (by decide) ?_
      refine vv_callV (As := [.int (-2)]) (rest := []) [0, 2] 0 (ws' := [(qm, .inr (7, [.ref qw, .ref qk, .ref qt, .int txd, .long abv, .long blw, .ref qs, .int atp, .int stp, .int nbr, .ref qi, .ref qp, .ref qh, .ref qb, .int bmy, .ref qa, .ref q6, .long hsh])), (qw, .inl ((vv_k x).2.1.1, 456, .inl wf)), (qs, .inl ((vv_k x).2.1.1, 3, .inl (upd ss 0 ((ss 0) + 1))))]) F (c_X8_bad (vv_l x) (vv_k x) qm qw qk qt txd abv blw qs atp stp nbr qi qp qh qb bmy qa q6 hsh ss (-2)) mv_X8_78 dX8_cheapest_21 (by decide) rfl rfl (Nat.le_of_ble_eq_true rfl) rfl (by decide) (Eq.trans (b := [qm, qs]) rfl rfl) rfl rfl ?_
      exact vv_iret F hR dX8_cheapest_24 (congrArg (fun z => some (Value.int z)) ((if_pos h_1).trans ((if_neg h_2).trans rfl))) (by simp only [g_X8_cheapest_2, if_pos h_1, if_neg h_2])
noncomputable def st_X8_cuts (wf : Nat → Int32) (kd lg : Int32) (u : Nat) (s : Int32 × Int32) : Int32 × Int32 := ((if s.2 ≤ ((f_X8_costOf wf kd (nI u)) + (f_X8_costOf wf kd (lg - (nI u)))) then s.1 else (nI u)), (if s.2 ≤ ((f_X8_costOf wf kd (nI u)) + (f_X8_costOf wf kd (lg - (nI u)))) then s.2 else ((f_X8_costOf wf kd (nI u)) + (f_X8_costOf wf kd (lg - (nI u))))))
theorem L_X8_cuts {x : vv_X} (F : vv_F x cX8_cuts 8 RX8 5) (qm qw qk qt : Nat) (txd : Int32) (abv blw : Int64) (qs : Nat) (atp stp nbr : Int32) (qi qp qh qb : Nat) (bmy : Int32) (qa q6 : Nat) (hsh : Int64) (wf ss : Nat → Int32) (kd lg wh : Int32) (gg : Nat) (hgg : (lg).toInt = (gg : Int)) (hg60 : gg ≤ 60) : ∀ (n : Nat) (u : Nat) (be : Int32) (le : Int32), u + n = gg → vv_V x 8 116 [(6, .int (nI gg)), (4, .int ((itr (st_X8_cuts wf kd lg) n u (be, le)).1)), (5, .int ((itr (st_X8_cuts wf kd lg) n u (be, le)).2)), (0, .ref qm), (1, .int kd), (2, .int lg), (3, .int wh)] [] [(qm, .inr (7, [.ref qw, .ref qk, .ref qt, .int txd, .long abv, .long blw, .ref qs, .int atp, .int stp, .int nbr, .ref qi, .ref qp, .ref qh, .ref qb, .int bmy, .ref qa, .ref q6, .long hsh])), (qw, .inl ((vv_k x).2.1.1, 456, .inl wf)), (qs, .inl ((vv_k x).2.1.1, 3, .inl ss))] → vv_V x 8 53 [(6, .int (nI u)), (4, .int be), (5, .int le), (0, .ref qm), (1, .int kd), (2, .int lg), (3, .int wh)] [] [(qm, .inr (7, [.ref qw, .ref qk, .ref qt, .int txd, .long abv, .long blw, .ref qs, .int atp, .int stp, .int nbr, .ref qi, .ref qp, .ref qh, .ref qb, .int bmy, .ref qa, .ref q6, .long hsh])), (qw, .inl ((vv_k x).2.1.1, 456, .inl wf)), (qs, .inl ((vv_k x).2.1.1, 3, .inl ss))] := by
  intro n
  induction n with
  | zero =>
    intro u be le hu  kx
    refine vv_iload F dX8_cuts_53 rfl ?_
    refine vv_iload_n F dX8_cuts_55 rfl rfl ?_
    refine vv_icmp_ge (tgt := 116) F dX8_cuts_56 (by decide) (fun h_1 => ?_) (fun h_1 => absurd ((c_le hgg (nI_toInt (n := u) (by omega))).mpr (by omega)) h_1)
    obtain rfl : u = gg := by omega
    rw [itr_0] at kx
    exact vv_lv [0, 1, 2, 3, 4, 5, 6] rfl kx
  | succ n ih =>
    intro u be le hu  kx
    refine vv_iload F dX8_cuts_53 rfl ?_
    refine vv_iload_n F dX8_cuts_55 rfl rfl ?_
    refine vv_icmp_ge (tgt := 116) F dX8_cuts_56 (by decide) (fun h_1 => absurd ((c_le hgg (nI_toInt (n := u) (by omega))).mp h_1) (by omega)) (fun h_1 => ?_)
    refine vv_aload_n F dX8_cuts_59 rfl rfl ?_
    refine vv_iload_n F dX8_cuts_60 rfl rfl ?_
    refine vv_iload F dX8_cuts_61 rfl ?_
    refine vv_callVp (As := [.int kd, .int (nI u)]) (rest := []) [0, 1] 0 F (c_X8_costOf (vv_l x) (vv_k x) qm qw qk qt txd abv blw qs atp stp nbr qi qp qh qb bmy qa q6 hsh wf kd (nI u)) mv_X8_213 dX8_cuts_63 (by decide) rfl rfl (Nat.le_of_ble_eq_true rfl) rfl (by decide) rfl ?_
    refine vv_aload_n F dX8_cuts_66 rfl rfl ?_
    refine vv_iload_n F dX8_cuts_67 rfl rfl ?_
    refine vv_iload_n F dX8_cuts_68 rfl rfl ?_
    refine vv_iload F dX8_cuts_69 rfl ?_
    refine vv_isub F dX8_cuts_71 ?_
    refine vv_callVp (As := [.int kd, .int (lg - (nI u))]) (rest := [.int (f_X8_costOf wf kd (nI u))]) [0, 1] 0 F (c_X8_costOf (vv_l x) (vv_k x) qm qw qk qt txd abv blw qs atp stp nbr qi qp qh qb bmy qa q6 hsh wf kd (lg - (nI u))) mv_X8_213 dX8_cuts_72 (by decide) rfl rfl (Nat.le_of_ble_eq_true rfl) rfl (by decide) rfl ?_
    refine vv_iadd F dX8_cuts_75 ?_
    refine vv_istore (lv' := [(7, .int ((f_X8_costOf wf kd (nI u)) + (f_X8_costOf wf kd (lg - (nI u))))), (6, .int (nI u)), (4, .int be), (5, .int le), (0, .ref qm), (1, .int kd), (2, .int lg), (3, .int wh)]) F dX8_cuts_76 (by decide) rfl ?_
    refine vv_iload F dX8_cuts_78 rfl ?_
    refine vv_iload F dX8_cuts_80 rfl ?_
    refine vv_icmp_ge (tgt := 90) F dX8_cuts_82 (by decide) (fun h_2 => ?_) (fun h_2 => ?_)
    · refine vv_iload F dX8_cuts_90 rfl ?_
      refine vv_istore (lv' := [(4, .int be), (7, .int ((f_X8_costOf wf kd (nI u)) + (f_X8_costOf wf kd (lg - (nI u))))), (6, .int (nI u)), (5, .int le), (0, .ref qm), (1, .int kd), (2, .int lg), (3, .int wh)]) F dX8_cuts_92 (by decide) rfl ?_
      refine vv_iload F dX8_cuts_94 rfl ?_
      refine vv_iload F dX8_cuts_96 rfl ?_
      refine vv_icmp_ge (tgt := 106) F dX8_cuts_98 (by decide) (fun h_3 => ?_) (fun h_3 => ?_)
      · refine vv_iload F dX8_cuts_106 rfl ?_
        refine vv_istore (lv' := [(5, .int le), (4, .int be), (7, .int ((f_X8_costOf wf kd (nI u)) + (f_X8_costOf wf kd (lg - (nI u))))), (6, .int (nI u)), (0, .ref qm), (1, .int kd), (2, .int lg), (3, .int wh)]) F dX8_cuts_108 (by decide) rfl ?_
        refine vv_iinc (v := (nI (u + 1))) (lv' := [(6, .int (nI (u + 1))), (5, .int le), (4, .int be), (7, .int ((f_X8_costOf wf kd (nI u)) + (f_X8_costOf wf kd (lg - (nI u))))), (0, .ref qm), (1, .int kd), (2, .int lg), (3, .int wh)]) 3 F dX8_cuts_110 rfl (nI_1 u) (by decide) rfl ?_
        refine vv_goto (tgt := 53) F dX8_cuts_113 (by decide) ?_
        refine vv_lv (lv' := [(6, .int (nI (u + 1))), (4, .int be), (5, .int le), (0, .ref qm), (1, .int kd), (2, .int lg), (3, .int wh)]) [0, 2, 1, 4, 5, 6, 7] rfl ?_
        refine vv_lvE (lv' := [(6, .int (nI (u + 1))), (4, .int (if le ≤ ((f_X8_costOf wf kd (nI u)) + (f_X8_costOf wf kd (lg - (nI u)))) then be else (nI u))), (5, .int (if le ≤ ((f_X8_costOf wf kd (nI u)) + (f_X8_costOf wf kd (lg - (nI u)))) then le else ((f_X8_costOf wf kd (nI u)) + (f_X8_costOf wf kd (lg - (nI u)))))), (0, .ref qm), (1, .int kd), (2, .int lg), (3, .int wh)]) (by first | (simp only [if_pos h_2]; done) | (simp [vv_b, h_2]; done)) ?_
        exact ih (u + 1) (if le ≤ ((f_X8_costOf wf kd (nI u)) + (f_X8_costOf wf kd (lg - (nI u)))) then be else (nI u)) (if le ≤ ((f_X8_costOf wf kd (nI u)) + (f_X8_costOf wf kd (lg - (nI u)))) then le else ((f_X8_costOf wf kd (nI u)) + (f_X8_costOf wf kd (lg - (nI u))))) (by omega) (by rw [itr_s] at kx; exact kx)
      · exact absurd h_2 h_3
    · refine vv_iload F dX8_cuts_85 rfl ?_
      refine vv_goto (tgt := 92) F dX8_cuts_87 (by decide) ?_
      refine vv_istore (lv' := [(4, .int (nI u)), (7, .int ((f_X8_costOf wf kd (nI u)) + (f_X8_costOf wf kd (lg - (nI u))))), (6, .int (nI u)), (5, .int le), (0, .ref qm), (1, .int kd), (2, .int lg), (3, .int wh)]) F dX8_cuts_92 (by decide) rfl ?_
      refine vv_iload F dX8_cuts_94 rfl ?_
      refine vv_iload F dX8_cuts_96 rfl ?_
      refine vv_icmp_ge (tgt := 106) F dX8_cuts_98 (by decide) (fun h_4 => ?_) (fun h_4 => ?_)
      · exact absurd h_4 h_2
      · refine vv_iload F dX8_cuts_101 rfl ?_
        refine vv_goto (tgt := 108) F dX8_cuts_103 (by decide) ?_
        refine vv_istore (lv' := [(5, .int ((f_X8_costOf wf kd (nI u)) + (f_X8_costOf wf kd (lg - (nI u))))), (4, .int (nI u)), (7, .int ((f_X8_costOf wf kd (nI u)) + (f_X8_costOf wf kd (lg - (nI u))))), (6, .int (nI u)), (0, .ref qm), (1, .int kd), (2, .int lg), (3, .int wh)]) F dX8_cuts_108 (by decide) rfl ?_
        refine vv_iinc (v := (nI (u + 1))) (lv' := [(6, .int (nI (u + 1))), (5, .int ((f_X8_costOf wf kd (nI u)) + (f_X8_costOf wf kd (lg - (nI u))))), (4, .int (nI u)), (7, .int ((f_X8_costOf wf kd (nI u)) + (f_X8_costOf wf kd (lg - (nI u))))), (0, .ref qm), (1, .int kd), (2, .int lg), (3, .int wh)]) 3 F dX8_cuts_110 rfl (nI_1 u) (by decide) rfl ?_
        refine vv_goto (tgt := 53) F dX8_cuts_113 (by decide) ?_
        refine vv_lv (lv' := [(6, .int (nI (u + 1))), (4, .int (nI u)), (5, .int ((f_X8_costOf wf kd (nI u)) + (f_X8_costOf wf kd (lg - (nI u))))), (0, .ref qm), (1, .int kd), (2, .int lg), (3, .int wh)]) [0, 2, 1, 4, 5, 6, 7] rfl ?_
        refine vv_lvE (lv' := [(6, .int (nI (u + 1))), (4, .int (if le ≤ ((f_X8_costOf wf kd (nI u)) + (f_X8_costOf wf kd (lg - (nI u)))) then be else (nI u))), (5, .int (if le ≤ ((f_X8_costOf wf kd (nI u)) + (f_X8_costOf wf kd (lg - (nI u)))) then le else ((f_X8_costOf wf kd (nI u)) + (f_X8_costOf wf kd (lg - (nI u)))))), (0, .ref qm), (1, .int kd), (2, .int lg), (3, .int wh)]) (by first | (simp only [if_neg h_2]; done) | (simp [vv_b, h_2]; done)) ?_
        exact ih (u + 1) (if le ≤ ((f_X8_costOf wf kd (nI u)) + (f_X8_costOf wf kd (lg - (nI u)))) then be else (nI u)) (if le ≤ ((f_X8_costOf wf kd (nI u)) + (f_X8_costOf wf kd (lg - (nI u)))) then le else ((f_X8_costOf wf kd (nI u)) + (f_X8_costOf wf kd (lg - (nI u))))) (by omega) (by rw [itr_s] at kx; exact kx)
noncomputable def f_X8_cuts (wf : Nat → Int32) (kd lg wh : Int32) : Int32 := (if p_X8_in kd.toInt64 0 5 then (if p_X8_in lg.toInt64 2 60 then (if p_X8_in wh.toInt64 0 1 then (if wh = 0 then (itr (st_X8_cuts wf kd lg) (lg.toNatClampNeg - 1) 1 (0, 1000000)).2 else (itr (st_X8_cuts wf kd lg) (lg.toNatClampNeg - 1) 1 (0, 1000000)).1) else (-2)) else (-2)) else (-2))
noncomputable def g_X8_cuts_2 (ss : Nat → Int32) (kd lg wh : Int32) : Nat → Int32 := (if p_X8_in kd.toInt64 0 5 then (if p_X8_in lg.toInt64 2 60 then (if p_X8_in wh.toInt64 0 1 then (if wh = 0 then ss else ss) else (upd ss 0 ((ss 0) + 1))) else (upd ss 0 ((ss 0) + 1))) else (upd ss 0 ((ss 0) + 1)))
theorem c_X8_cuts (l : Launch) (K : vv_K) (qm qw qk qt : Nat) (txd : Int32) (abv blw : Int64) (qs : Nat) (atp stp nbr : Int32) (qi qp qh qb : Nat) (bmy : Int32) (qa q6 : Nat) (hsh : Int64) (wf ss : Nat → Int32) (kd lg wh : Int32)  : vv_C l K 5 yX8_cuts cX8_cuts 8 (some .int) [.ref qm, .int kd, .int lg, .int wh] [(qm, .inr (7, [.ref qw, .ref qk, .ref qt, .int txd, .long abv, .long blw, .ref qs, .int atp, .int stp, .int nbr, .ref qi, .ref qp, .ref qh, .ref qb, .int bmy, .ref qa, .ref q6, .long hsh])), (qw, .inl (K.2.1.1, 456, .inl wf)), (qs, .inl (K.2.1.1, 3, .inl ss))] (some (.int (f_X8_cuts wf kd lg wh))) [(qm, .inr (7, [.ref qw, .ref qk, .ref qt, .int txd, .long abv, .long blw, .ref qs, .int atp, .int stp, .int nbr, .ref qi, .ref qp, .ref qh, .ref qb, .int bmy, .ref qa, .ref q6, .long hsh])), (qw, .inl (K.2.1.1, 456, .inl wf)), (qs, .inl (K.2.1.1, 3, .inl (g_X8_cuts_2 ss kd lg wh)))] := by
  refine vv_C.of (lv := [(0, .ref qm), (1, .int kd), (2, .int lg), (3, .int wh)]) (by decide +kernel) (Nat.le_of_ble_eq_true rfl) rfl ?_
  intro x hl hK F hR; subst hl; obtain rfl := hK
  refine vv_iload_n F dX8_cuts_0 rfl rfl ?_
  refine vv_i2l F dX8_cuts_1 ?_
  refine vv_lconst (v := 0) F dX8_cuts_2 (by decide) ?_
  refine vv_ldc2 F cl_X8_85 dX8_cuts_3 ?_
  refine vv_callSp (As := [.long kd.toInt64, .long 0, .long 5]) (rest := []) [] F (c_X8_in (vv_l x) (vv_k x) kd.toInt64 0 5) ms_X8_56 dX8_cuts_6 (by decide) rfl rfl (Nat.le_of_ble_eq_true rfl) rfl (by decide) ?_
  refine vv_ifz_eq (tgt := 36) F dX8_cuts_9 (by decide) (fun h_1 => ?_) (fun h_1 => ?_)
  · refine vv_aload_n F dX8_cuts_36 rfl rfl ?_
    refine vv_bipush (v := (-2)) F dX8_cuts_37 (by decide) ?_
    refine vv_callV (As := [.int (-2)]) (rest := []) [0, 2] 0 (ws' := [(qm, .inr (7, [.ref qw, .ref qk, .ref qt, .int txd, .long abv, .long blw, .ref qs, .int atp, .int stp, .int nbr, .ref qi, .ref qp, .ref qh, .ref qb, .int bmy, .ref qa, .ref q6, .long hsh])), (qw, .inl ((vv_k x).2.1.1, 456, .inl wf)), (qs, .inl ((vv_k x).2.1.1, 3, .inl (upd ss 0 ((ss 0) + 1))))]) F (c_X8_bad (vv_l x) (vv_k x) qm qw qk qt txd abv blw qs atp stp nbr qi qp qh qb bmy qa q6 hsh ss (-2)) mv_X8_78 dX8_cuts_39 (by decide) rfl rfl (Nat.le_of_ble_eq_true rfl) rfl (by decide) (Eq.trans (b := [qm, qs]) rfl rfl) rfl rfl ?_
    exact vv_iret F hR dX8_cuts_42 (congrArg (fun z => some (Value.int z)) ((if_neg h_1).trans rfl)) (by simp only [g_X8_cuts_2, if_neg h_1])
  · have h_1r := in_rng (a := 0) (b := 5) (by decide) (by decide) h_1
    have h_1c := nn_cl (a := kd) (by omega)
    refine vv_iload_n F dX8_cuts_12 rfl rfl ?_
    refine vv_i2l F dX8_cuts_13 ?_
    refine vv_ldc2 F cl_X8_131 dX8_cuts_14 ?_
    refine vv_ldc2 F cl_X8_74 dX8_cuts_17 ?_
    refine vv_callSp (As := [.long lg.toInt64, .long 2, .long 60]) (rest := []) [] F (c_X8_in (vv_l x) (vv_k x) lg.toInt64 2 60) ms_X8_56 dX8_cuts_20 (by decide) rfl rfl (Nat.le_of_ble_eq_true rfl) rfl (by decide) ?_
    refine vv_ifz_eq (tgt := 36) F dX8_cuts_23 (by decide) (fun h_2 => ?_) (fun h_2 => ?_)
    · refine vv_aload_n F dX8_cuts_36 rfl rfl ?_
      refine vv_bipush (v := (-2)) F dX8_cuts_37 (by decide) ?_
      refine vv_callV (As := [.int (-2)]) (rest := []) [0, 2] 0 (ws' := [(qm, .inr (7, [.ref qw, .ref qk, .ref qt, .int txd, .long abv, .long blw, .ref qs, .int atp, .int stp, .int nbr, .ref qi, .ref qp, .ref qh, .ref qb, .int bmy, .ref qa, .ref q6, .long hsh])), (qw, .inl ((vv_k x).2.1.1, 456, .inl wf)), (qs, .inl ((vv_k x).2.1.1, 3, .inl (upd ss 0 ((ss 0) + 1))))]) F (c_X8_bad (vv_l x) (vv_k x) qm qw qk qt txd abv blw qs atp stp nbr qi qp qh qb bmy qa q6 hsh ss (-2)) mv_X8_78 dX8_cuts_39 (by decide) rfl rfl (Nat.le_of_ble_eq_true rfl) rfl (by decide) (Eq.trans (b := [qm, qs]) rfl rfl) rfl rfl ?_
      exact vv_iret F hR dX8_cuts_42 (congrArg (fun z => some (Value.int z)) ((if_pos h_1).trans ((if_neg h_2).trans rfl))) (by simp only [g_X8_cuts_2, if_pos h_1, if_neg h_2])
    · have h_2r := in_rng (a := 2) (b := 60) (by decide) (by decide) h_2
      have h_2c := nn_cl (a := lg) (by omega)
      refine vv_iload_n F dX8_cuts_26 rfl rfl ?_
      refine vv_i2l F dX8_cuts_27 ?_
      refine vv_lconst (v := 0) F dX8_cuts_28 (by decide) ?_
      refine vv_lconst (v := 1) F dX8_cuts_29 (by decide) ?_
      refine vv_callSp (As := [.long wh.toInt64, .long 0, .long 1]) (rest := []) [] F (c_X8_in (vv_l x) (vv_k x) wh.toInt64 0 1) ms_X8_56 dX8_cuts_30 (by decide) rfl rfl (Nat.le_of_ble_eq_true rfl) rfl (by decide) ?_
      refine vv_ifz_ne (tgt := 43) F dX8_cuts_33 (by decide) (fun h_3 => ?_) (fun h_3 => ?_)
      · have h_3r := in_rng (a := 0) (b := 1) (by decide) (by decide) h_3
        have h_3c := nn_cl (a := wh) (by omega)
        refine vv_iconst (v := 0) F dX8_cuts_43 (by decide) ?_
        refine vv_istore (lv' := [(4, .int 0), (0, .ref qm), (1, .int kd), (2, .int lg), (3, .int wh)]) F dX8_cuts_44 (by decide) rfl ?_
        refine vv_ldc F cw_X8_212 dX8_cuts_46 ?_
        refine vv_istore (lv' := [(5, .int 1000000), (4, .int 0), (0, .ref qm), (1, .int kd), (2, .int lg), (3, .int wh)]) F dX8_cuts_48 (by decide) rfl ?_
        refine vv_iconst (v := 1) F dX8_cuts_50 (by decide) ?_
        refine vv_istore (lv' := [(6, .int 1), (5, .int 1000000), (4, .int 0), (0, .ref qm), (1, .int kd), (2, .int lg), (3, .int wh)]) F dX8_cuts_51 (by decide) rfl ?_
        refine vv_lv (lv' := [(6, .int 1), (4, .int 0), (5, .int 1000000), (0, .ref qm), (1, .int kd), (2, .int lg), (3, .int wh)]) [0, 2, 1, 3, 4, 5, 6] rfl ?_
        refine L_X8_cuts F qm qw qk qt txd abv blw qs atp stp nbr qi qp qh qb bmy qa q6 hsh wf ss kd lg wh lg.toNatClampNeg h_2c (by omega) (lg.toNatClampNeg - 1) 1 0 1000000 (by omega) ?_
        refine vv_iload_n F dX8_cuts_116 rfl rfl ?_
        refine vv_if_ne (tgt := 125) F dX8_cuts_117 (by decide) (fun h_4 => ?_) (fun h_4 => ?_)
        · refine vv_iload F dX8_cuts_125 rfl ?_
          exact vv_iret F hR dX8_cuts_127 (congrArg (fun z => some (Value.int z)) ((if_pos h_1).trans ((if_pos h_2).trans ((if_pos h_3).trans ((if_neg h_4).trans rfl))))) (by simp only [g_X8_cuts_2, if_pos h_1, if_pos h_2, if_pos h_3, if_neg h_4])
        · refine vv_iload F dX8_cuts_120 rfl ?_
          refine vv_goto (tgt := 127) F dX8_cuts_122 (by decide) ?_
          exact vv_iret F hR dX8_cuts_127 (congrArg (fun z => some (Value.int z)) ((if_pos h_1).trans ((if_pos h_2).trans ((if_pos h_3).trans ((if_pos h_4).trans rfl))))) (by simp only [g_X8_cuts_2, if_pos h_1, if_pos h_2, if_pos h_3, if_pos h_4])
      · refine vv_aload_n F dX8_cuts_36 rfl rfl ?_
        refine vv_bipush (v := (-2)) F dX8_cuts_37 (by decide) ?_
        refine vv_callV (As := [.int (-2)]) (rest := []) [0, 2] 0 (ws' := [(qm, .inr (7, [.ref qw, .ref qk, .ref qt, .int txd, .long abv, .long blw, .ref qs, .int atp, .int stp, .int nbr, .ref qi, .ref qp, .ref qh, .ref qb, .int bmy, .ref qa, .ref q6, .long hsh])), (qw, .inl ((vv_k x).2.1.1, 456, .inl wf)), (qs, .inl ((vv_k x).2.1.1, 3, .inl (upd ss 0 ((ss 0) + 1))))]) F (c_X8_bad (vv_l x) (vv_k x) qm qw qk qt txd abv blw qs atp stp nbr qi qp qh qb bmy qa q6 hsh ss (-2)) mv_X8_78 dX8_cuts_39 (by decide) rfl rfl (Nat.le_of_ble_eq_true rfl) rfl (by decide) (Eq.trans (b := [qm, qs]) rfl rfl) rfl rfl ?_
        exact vv_iret F hR dX8_cuts_42 (congrArg (fun z => some (Value.int z)) ((if_pos h_1).trans ((if_pos h_2).trans ((if_neg h_3).trans rfl)))) (by simp only [g_X8_cuts_2, if_pos h_1, if_pos h_2, if_neg h_3])
noncomputable def st_X8_fits (wf : Nat → Int32) (ln : Int32) (u : Nat) (s : Bool) : Bool := (s && decide ((f_X8_bringsBy (wf (19 + 2 * u)) ln) = (wf (20 + 2 * u))))
theorem L_X8_fits {x : vv_X} (F : vv_F x cX8_fits 4 RX8 2) (qm qw qk qt : Nat) (txd : Int32) (abv blw : Int64) (qs : Nat) (atp stp nbr : Int32) (qi qp qh qb : Nat) (bmy : Int32) (qa q6 : Nat) (hsh : Int64) (wf : Nat → Int32) (ln : Int32) (cC : Nat) (hcC : ((wf 18)).toInt = (cC : Int)) (hcC6 : cC ≤ 6) : ∀ (n : Nat) (u : Nat) (b : Bool), u + n = cC → vv_V x 4 62 [(3, .int (nI cC)), (2, .int (vv_b ((itr (st_X8_fits wf ln) n u b) = true))), (0, .ref qm), (1, .int ln)] [] [(qm, .inr (7, [.ref qw, .ref qk, .ref qt, .int txd, .long abv, .long blw, .ref qs, .int atp, .int stp, .int nbr, .ref qi, .ref qp, .ref qh, .ref qb, .int bmy, .ref qa, .ref q6, .long hsh])), (qw, .inl ((vv_k x).2.1.1, 456, .inl wf))] → vv_V x 4 4 [(3, .int (nI u)), (2, .int (vv_b (b = true))), (0, .ref qm), (1, .int ln)] [] [(qm, .inr (7, [.ref qw, .ref qk, .ref qt, .int txd, .long abv, .long blw, .ref qs, .int atp, .int stp, .int nbr, .ref qi, .ref qp, .ref qh, .ref qb, .int bmy, .ref qa, .ref q6, .long hsh])), (qw, .inl ((vv_k x).2.1.1, 456, .inl wf))] := by
  intro n
  induction n with
  | zero =>
    intro u b hu  kx
    refine vv_iload_n F dX8_fits_4 rfl rfl ?_
    refine vv_aload_n F dX8_fits_5 rfl rfl ?_
    refine vv_get 0 F fl_X8_7 dX8_fits_6 rfl rfl ?_
    refine vv_bipush (v := 18) F dX8_fits_9 (by decide) ?_
    refine vv_iald 1 F dX8_fits_11 rfl (vv_ixP (j := 18) (by decide) (by decide)) ?_
    refine vv_icmp_ge (tgt := 62) F dX8_fits_12 (by decide) (fun h_1 => ?_) (fun h_1 => absurd ((c_le hcC (nI_toInt (n := u) (by omega))).mpr (by omega)) h_1)
    obtain rfl : u = cC := by omega
    rw [itr_0] at kx
    exact vv_lv [0, 1, 2, 3] rfl kx
  | succ n ih =>
    intro u b hu  kx
    refine vv_iload_n F dX8_fits_4 rfl rfl ?_
    refine vv_aload_n F dX8_fits_5 rfl rfl ?_
    refine vv_get 0 F fl_X8_7 dX8_fits_6 rfl rfl ?_
    refine vv_bipush (v := 18) F dX8_fits_9 (by decide) ?_
    refine vv_iald 1 F dX8_fits_11 rfl (vv_ixP (j := 18) (by decide) (by decide)) ?_
    refine vv_icmp_ge (tgt := 62) F dX8_fits_12 (by decide) (fun h_1 => absurd ((c_le hcC (nI_toInt (n := u) (by omega))).mp h_1) (by omega)) (fun h_1 => ?_)
    refine vv_iload_n F dX8_fits_15 rfl rfl ?_
    refine vv_ifz_eq (tgt := 54) F dX8_fits_16 (by decide) (fun h_2 => ?_) (fun h_2 => ?_)
    · refine vv_iconst (v := 0) F dX8_fits_54 (by decide) ?_
      refine vv_istore_n (lv' := [(2, .int 0), (3, .int (nI u)), (0, .ref qm), (1, .int ln)]) F dX8_fits_55 rfl (by decide) rfl ?_
      refine vv_iinc (v := (nI (u + 1))) (lv' := [(3, .int (nI (u + 1))), (2, .int 0), (0, .ref qm), (1, .int ln)]) 1 F dX8_fits_56 rfl (nI_1 u) (by decide) rfl ?_
      refine vv_goto (tgt := 4) F dX8_fits_59 (by decide) ?_
      refine vv_lv (lv' := [(3, .int (nI (u + 1))), (2, .int 0), (0, .ref qm), (1, .int ln)]) [0, 1, 2, 3] rfl ?_
      refine vv_lvE (lv' := [(3, .int (nI (u + 1))), (2, .int (vv_b ((b && decide ((f_X8_bringsBy (wf (19 + 2 * u)) ln) = (wf (20 + 2 * u)))) = true))), (0, .ref qm), (1, .int ln)]) (by first | (simp only [if_neg h_2]; done) | (simp [vv_b, h_2]; done)) ?_
      exact ih (u + 1) (b && decide ((f_X8_bringsBy (wf (19 + 2 * u)) ln) = (wf (20 + 2 * u)))) (by omega) (by rw [itr_s] at kx; exact kx)
    · refine vv_aload_n F dX8_fits_19 rfl rfl ?_
      refine vv_get 0 F fl_X8_7 dX8_fits_20 rfl rfl ?_
      refine vv_bipush (v := 19) F dX8_fits_23 (by decide) ?_
      refine vv_iconst (v := 2) F dX8_fits_25 (by decide) ?_
      refine vv_iload_n F dX8_fits_26 rfl rfl ?_
      refine vv_imul F dX8_fits_27 ?_
      refine vv_iadd F dX8_fits_28 ?_
      refine vv_iald 1 F dX8_fits_29 rfl (vv_ixP (j := (19 + 2 * u)) (by have hz := (nn_add (by decide : (19 : Int32).toInt = ((19 : Nat) : Int)) (nn_mul (by decide : (2 : Int32).toInt = ((2 : Nat) : Int)) (nI_toInt (n := u) (by omega)) (by omega)) (by omega)); omega) (by omega)) ?_
      refine vv_iload_n F dX8_fits_30 rfl rfl ?_
      refine vv_callSp (As := [.int (wf (19 + 2 * u)), .int ln]) (rest := []) [] F (c_X8_bringsBy (vv_l x) (vv_k x) (wf (19 + 2 * u)) ln) ms_X8_188 dX8_fits_31 (by decide) rfl rfl (Nat.le_of_ble_eq_true rfl) rfl (by decide) ?_
      refine vv_aload_n F dX8_fits_34 rfl rfl ?_
      refine vv_get 0 F fl_X8_7 dX8_fits_35 rfl rfl ?_
      refine vv_bipush (v := 19) F dX8_fits_38 (by decide) ?_
      refine vv_iconst (v := 2) F dX8_fits_40 (by decide) ?_
      refine vv_iload_n F dX8_fits_41 rfl rfl ?_
      refine vv_imul F dX8_fits_42 ?_
      refine vv_iadd F dX8_fits_43 ?_
      refine vv_iconst (v := 1) F dX8_fits_44 (by decide) ?_
      refine vv_iadd F dX8_fits_45 ?_
      refine vv_iald 1 F dX8_fits_46 rfl (vv_ixP (j := (20 + 2 * u)) (by have hz := (nn_add (nn_add (by decide : (19 : Int32).toInt = ((19 : Nat) : Int)) (nn_mul (by decide : (2 : Int32).toInt = ((2 : Nat) : Int)) (nI_toInt (n := u) (by omega)) (by omega)) (by omega)) (by decide : (1 : Int32).toInt = ((1 : Nat) : Int)) (by omega)); omega) (by omega)) ?_
      refine vv_icmp_ne (tgt := 54) F dX8_fits_47 (by decide) (fun h_3 => ?_) (fun h_3 => ?_)
      · refine vv_iconst (v := 0) F dX8_fits_54 (by decide) ?_
        refine vv_istore_n (lv' := [(2, .int 0), (3, .int (nI u)), (0, .ref qm), (1, .int ln)]) F dX8_fits_55 rfl (by decide) rfl ?_
        refine vv_iinc (v := (nI (u + 1))) (lv' := [(3, .int (nI (u + 1))), (2, .int 0), (0, .ref qm), (1, .int ln)]) 1 F dX8_fits_56 rfl (nI_1 u) (by decide) rfl ?_
        refine vv_goto (tgt := 4) F dX8_fits_59 (by decide) ?_
        refine vv_lv (lv' := [(3, .int (nI (u + 1))), (2, .int 0), (0, .ref qm), (1, .int ln)]) [0, 1, 2, 3] rfl ?_
        refine vv_lvE (lv' := [(3, .int (nI (u + 1))), (2, .int (vv_b ((b && decide ((f_X8_bringsBy (wf (19 + 2 * u)) ln) = (wf (20 + 2 * u)))) = true))), (0, .ref qm), (1, .int ln)]) (by first | (simp only [if_pos h_2, if_neg h_3]; done) | (simp [vv_b, h_2, h_3]; done)) ?_
        exact ih (u + 1) (b && decide ((f_X8_bringsBy (wf (19 + 2 * u)) ln) = (wf (20 + 2 * u)))) (by omega) (by rw [itr_s] at kx; exact kx)
      · refine vv_iconst (v := 1) F dX8_fits_50 (by decide) ?_
        refine vv_goto (tgt := 55) F dX8_fits_51 (by decide) ?_
        refine vv_istore_n (lv' := [(2, .int 1), (3, .int (nI u)), (0, .ref qm), (1, .int ln)]) F dX8_fits_55 rfl (by decide) rfl ?_
        refine vv_iinc (v := (nI (u + 1))) (lv' := [(3, .int (nI (u + 1))), (2, .int 1), (0, .ref qm), (1, .int ln)]) 1 F dX8_fits_56 rfl (nI_1 u) (by decide) rfl ?_
        refine vv_goto (tgt := 4) F dX8_fits_59 (by decide) ?_
        refine vv_lv (lv' := [(3, .int (nI (u + 1))), (2, .int 1), (0, .ref qm), (1, .int ln)]) [0, 1, 2, 3] rfl ?_
        refine vv_lvE (lv' := [(3, .int (nI (u + 1))), (2, .int (vv_b ((b && decide ((f_X8_bringsBy (wf (19 + 2 * u)) ln) = (wf (20 + 2 * u)))) = true))), (0, .ref qm), (1, .int ln)]) (by first | (simp only [if_pos h_2, if_pos h_3]; done) | (simp [vv_b, h_2, h_3]; done)) ?_
        exact ih (u + 1) (b && decide ((f_X8_bringsBy (wf (19 + 2 * u)) ln) = (wf (20 + 2 * u)))) (by omega) (by rw [itr_s] at kx; exact kx)
theorem c_X8_fits (l : Launch) (K : vv_K) (qm qw qk qt : Nat) (txd : Int32) (abv blw : Int64) (qs : Nat) (atp stp nbr : Int32) (qi qp qh qb : Nat) (bmy : Int32) (qa q6 : Nat) (hsh : Int64) (wf : Nat → Int32) (ln : Int32) (cC : Nat) (hcC : ((wf 18)).toInt = (cC : Int)) (hcC6 : cC ≤ 6)  : vv_C l K 2 yX8_fits cX8_fits 4 (some .boolean) [.ref qm, .int ln] [(qm, .inr (7, [.ref qw, .ref qk, .ref qt, .int txd, .long abv, .long blw, .ref qs, .int atp, .int stp, .int nbr, .ref qi, .ref qp, .ref qh, .ref qb, .int bmy, .ref qa, .ref q6, .long hsh])), (qw, .inl (K.2.1.1, 456, .inl wf))] (some (.int (vv_b ((itr (st_X8_fits wf ln) cC 0 true) = true)))) [(qm, .inr (7, [.ref qw, .ref qk, .ref qt, .int txd, .long abv, .long blw, .ref qs, .int atp, .int stp, .int nbr, .ref qi, .ref qp, .ref qh, .ref qb, .int bmy, .ref qa, .ref q6, .long hsh])), (qw, .inl (K.2.1.1, 456, .inl wf))] := by
  refine vv_C.of (lv := [(0, .ref qm), (1, .int ln)]) (by decide +kernel) (Nat.le_of_ble_eq_true rfl) rfl ?_
  intro x hl hK F hR; subst hl; obtain rfl := hK
  refine vv_iconst (v := 1) F dX8_fits_0 (by decide) ?_
  refine vv_istore_n (lv' := [(2, .int 1), (0, .ref qm), (1, .int ln)]) F dX8_fits_1 rfl (by decide) rfl ?_
  refine vv_iconst (v := 0) F dX8_fits_2 (by decide) ?_
  refine vv_istore_n (lv' := [(3, .int 0), (2, .int 1), (0, .ref qm), (1, .int ln)]) F dX8_fits_3 rfl (by decide) rfl ?_
  refine vv_lv (lv' := [(3, .int 0), (2, .int (vv_b (true = true))), (0, .ref qm), (1, .int ln)]) [0, 1, 2, 3] rfl ?_
  refine L_X8_fits F qm qw qk qt txd abv blw qs atp stp nbr qi qp qh qb bmy qa q6 hsh wf ln cC hcC (by omega) cC 0 true (by omega) ?_
  refine vv_iload_n F dX8_fits_62 rfl rfl ?_
  exact vv_zret F hR dX8_fits_63 (vv_b_nar _) rfl rfl
noncomputable def st_X8_lines (wf : Nat → Int32) (cC : Nat) (u : Nat) (s : Int32 × Int32 × Int32) : Int32 × Int32 × Int32 := ((if (itr (st_X8_fits wf (nI u)) cC 0 true) = true then (s.1 + 1) else s.1), (if (itr (st_X8_fits wf (nI u)) cC 0 true) = true then (if s.1 = 0 then (nI u) else s.2.1) else s.2.1), (if (itr (st_X8_fits wf (nI u)) cC 0 true) = true then (nI u) else s.2.2))
theorem L_X8_lines {x : vv_X} (F : vv_F x cX8_lines 6 RX8 3) (qm qw qk qt : Nat) (txd : Int32) (abv blw : Int64) (qs : Nat) (atp stp nbr : Int32) (qi qp qh qb : Nat) (bmy : Int32) (qa q6 : Nat) (hsh : Int64) (wf ss : Nat → Int32) (wh : Int32) (cC : Nat) (hcC : ((wf 18)).toInt = (cC : Int)) (hcC6 : cC ≤ 6) : ∀ (n : Nat) (u : Nat) (k : Int32) (fi : Int32) (la : Int32), u + n = 61 → vv_V x 6 69 [(5, .int (nI 61)), (2, .int ((itr (st_X8_lines wf cC) n u (k, fi, la)).1)), (3, .int ((itr (st_X8_lines wf cC) n u (k, fi, la)).2.1)), (4, .int ((itr (st_X8_lines wf cC) n u (k, fi, la)).2.2)), (0, .ref qm), (1, .int wh)] [] [(qm, .inr (7, [.ref qw, .ref qk, .ref qt, .int txd, .long abv, .long blw, .ref qs, .int atp, .int stp, .int nbr, .ref qi, .ref qp, .ref qh, .ref qb, .int bmy, .ref qa, .ref q6, .long hsh])), (qw, .inl ((vv_k x).2.1.1, 456, .inl wf)), (qs, .inl ((vv_k x).2.1.1, 3, .inl ss))] → vv_V x 6 29 [(5, .int (nI u)), (2, .int k), (3, .int fi), (4, .int la), (0, .ref qm), (1, .int wh)] [] [(qm, .inr (7, [.ref qw, .ref qk, .ref qt, .int txd, .long abv, .long blw, .ref qs, .int atp, .int stp, .int nbr, .ref qi, .ref qp, .ref qh, .ref qb, .int bmy, .ref qa, .ref q6, .long hsh])), (qw, .inl ((vv_k x).2.1.1, 456, .inl wf)), (qs, .inl ((vv_k x).2.1.1, 3, .inl ss))] := by
  intro n
  induction n with
  | zero =>
    intro u k fi la hu  kx
    refine vv_iload F dX8_lines_29 rfl ?_
    refine vv_bipush (v := 60) F dX8_lines_31 (by decide) ?_
    refine vv_icmp_gt (tgt := 69) F dX8_lines_33 (by decide) (fun h_1 => ?_) (fun h_1 => absurd ((c_lt (by decide : (60 : Int32).toInt = ((60 : Nat) : Int)) (nI_toInt (n := u) (by omega))).mpr (by omega)) h_1)
    obtain rfl : u = 61 := by omega
    rw [itr_0] at kx
    exact vv_lv [0, 1, 2, 3, 4, 5] rfl kx
  | succ n ih =>
    intro u k fi la hu  kx
    refine vv_iload F dX8_lines_29 rfl ?_
    refine vv_bipush (v := 60) F dX8_lines_31 (by decide) ?_
    refine vv_icmp_gt (tgt := 69) F dX8_lines_33 (by decide) (fun h_1 => absurd ((c_lt (by decide : (60 : Int32).toInt = ((60 : Nat) : Int)) (nI_toInt (n := u) (by omega))).mp h_1) (by omega)) (fun h_1 => ?_)
    refine vv_aload_n F dX8_lines_36 rfl rfl ?_
    refine vv_iload F dX8_lines_37 rfl ?_
    refine vv_callVp (As := [.int (nI u)]) (rest := []) [0, 1] 0 F (c_X8_fits (vv_l x) (vv_k x) qm qw qk qt txd abv blw qs atp stp nbr qi qp qh qb bmy qa q6 hsh wf (nI u) cC hcC (by omega)) mv_X8_225 dX8_lines_39 (by decide) rfl rfl (Nat.le_of_ble_eq_true rfl) rfl (by decide) rfl ?_
    refine vv_ifz_eq (tgt := 63) F dX8_lines_42 (by decide) (fun h_2 => ?_) (fun h_2 => ?_)
    · refine vv_iinc (v := (nI (u + 1))) (lv' := [(5, .int (nI (u + 1))), (2, .int k), (3, .int fi), (4, .int la), (0, .ref qm), (1, .int wh)]) 0 F dX8_lines_63 rfl (nI_1 u) (by decide) rfl ?_
      refine vv_goto (tgt := 29) F dX8_lines_66 (by decide) ?_
      refine vv_lv (lv' := [(5, .int (nI (u + 1))), (2, .int k), (3, .int fi), (4, .int la), (0, .ref qm), (1, .int wh)]) [0, 1, 2, 3, 4, 5] rfl ?_
      refine vv_lvE (lv' := [(5, .int (nI (u + 1))), (2, .int (if (itr (st_X8_fits wf (nI u)) cC 0 true) = true then (k + 1) else k)), (3, .int (if (itr (st_X8_fits wf (nI u)) cC 0 true) = true then (if k = 0 then (nI u) else fi) else fi)), (4, .int (if (itr (st_X8_fits wf (nI u)) cC 0 true) = true then (nI u) else la)), (0, .ref qm), (1, .int wh)]) (by first | (simp only [if_neg h_2]; done) | (simp [vv_b, h_2]; done)) ?_
      exact ih (u + 1) (if (itr (st_X8_fits wf (nI u)) cC 0 true) = true then (k + 1) else k) (if (itr (st_X8_fits wf (nI u)) cC 0 true) = true then (if k = 0 then (nI u) else fi) else fi) (if (itr (st_X8_fits wf (nI u)) cC 0 true) = true then (nI u) else la) (by omega) (by rw [itr_s] at kx; exact kx)
    · refine vv_iload_n F dX8_lines_45 rfl rfl ?_
      refine vv_if_ne (tgt := 54) F dX8_lines_46 (by decide) (fun h_3 => ?_) (fun h_3 => ?_)
      · refine vv_iload_n F dX8_lines_54 rfl rfl ?_
        refine vv_istore_n (lv' := [(3, .int fi), (5, .int (nI u)), (2, .int k), (4, .int la), (0, .ref qm), (1, .int wh)]) F dX8_lines_55 rfl (by decide) rfl ?_
        refine vv_iload F dX8_lines_56 rfl ?_
        refine vv_istore (lv' := [(4, .int (nI u)), (3, .int fi), (5, .int (nI u)), (2, .int k), (0, .ref qm), (1, .int wh)]) F dX8_lines_58 (by decide) rfl ?_
        refine vv_iinc (v := (k + 1)) (lv' := [(2, .int (k + 1)), (4, .int (nI u)), (3, .int fi), (5, .int (nI u)), (0, .ref qm), (1, .int wh)]) 3 F dX8_lines_60 rfl rfl (by decide) rfl ?_
        refine vv_iinc (v := (nI (u + 1))) (lv' := [(5, .int (nI (u + 1))), (2, .int (k + 1)), (4, .int (nI u)), (3, .int fi), (0, .ref qm), (1, .int wh)]) 3 F dX8_lines_63 rfl (nI_1 u) (by decide) rfl ?_
        refine vv_goto (tgt := 29) F dX8_lines_66 (by decide) ?_
        refine vv_lv (lv' := [(5, .int (nI (u + 1))), (2, .int (k + 1)), (3, .int fi), (4, .int (nI u)), (0, .ref qm), (1, .int wh)]) [0, 1, 3, 2, 4, 5] rfl ?_
        refine vv_lvE (lv' := [(5, .int (nI (u + 1))), (2, .int (if (itr (st_X8_fits wf (nI u)) cC 0 true) = true then (k + 1) else k)), (3, .int (if (itr (st_X8_fits wf (nI u)) cC 0 true) = true then (if k = 0 then (nI u) else fi) else fi)), (4, .int (if (itr (st_X8_fits wf (nI u)) cC 0 true) = true then (nI u) else la)), (0, .ref qm), (1, .int wh)]) (by first | (simp only [if_pos h_2, if_neg h_3]; done) | (simp [vv_b, h_2, h_3]; done)) ?_
        exact ih (u + 1) (if (itr (st_X8_fits wf (nI u)) cC 0 true) = true then (k + 1) else k) (if (itr (st_X8_fits wf (nI u)) cC 0 true) = true then (if k = 0 then (nI u) else fi) else fi) (if (itr (st_X8_fits wf (nI u)) cC 0 true) = true then (nI u) else la) (by omega) (by rw [itr_s] at kx; exact kx)
      · refine vv_iload F dX8_lines_49 rfl ?_
        refine vv_goto (tgt := 55) F dX8_lines_51 (by decide) ?_
        refine vv_istore_n (lv' := [(3, .int (nI u)), (5, .int (nI u)), (2, .int k), (4, .int la), (0, .ref qm), (1, .int wh)]) F dX8_lines_55 rfl (by decide) rfl ?_
        refine vv_iload F dX8_lines_56 rfl ?_
        refine vv_istore (lv' := [(4, .int (nI u)), (3, .int (nI u)), (5, .int (nI u)), (2, .int k), (0, .ref qm), (1, .int wh)]) F dX8_lines_58 (by decide) rfl ?_
        refine vv_iinc (v := (k + 1)) (lv' := [(2, .int (k + 1)), (4, .int (nI u)), (3, .int (nI u)), (5, .int (nI u)), (0, .ref qm), (1, .int wh)]) 3 F dX8_lines_60 rfl rfl (by decide) rfl ?_
        refine vv_iinc (v := (nI (u + 1))) (lv' := [(5, .int (nI (u + 1))), (2, .int (k + 1)), (4, .int (nI u)), (3, .int (nI u)), (0, .ref qm), (1, .int wh)]) 3 F dX8_lines_63 rfl (nI_1 u) (by decide) rfl ?_
        refine vv_goto (tgt := 29) F dX8_lines_66 (by decide) ?_
        refine vv_lv (lv' := [(5, .int (nI (u + 1))), (2, .int (k + 1)), (3, .int (nI u)), (4, .int (nI u)), (0, .ref qm), (1, .int wh)]) [0, 1, 3, 2, 4, 5] rfl ?_
        refine vv_lvE (lv' := [(5, .int (nI (u + 1))), (2, .int (if (itr (st_X8_fits wf (nI u)) cC 0 true) = true then (k + 1) else k)), (3, .int (if (itr (st_X8_fits wf (nI u)) cC 0 true) = true then (if k = 0 then (nI u) else fi) else fi)), (4, .int (if (itr (st_X8_fits wf (nI u)) cC 0 true) = true then (nI u) else la)), (0, .ref qm), (1, .int wh)]) (by first | (simp only [if_pos h_2, if_pos h_3]; done) | (simp [vv_b, h_2, h_3]; done)) ?_
        exact ih (u + 1) (if (itr (st_X8_fits wf (nI u)) cC 0 true) = true then (k + 1) else k) (if (itr (st_X8_fits wf (nI u)) cC 0 true) = true then (if k = 0 then (nI u) else fi) else fi) (if (itr (st_X8_fits wf (nI u)) cC 0 true) = true then (nI u) else la) (by omega) (by rw [itr_s] at kx; exact kx)
noncomputable def f_X8_lines (wf : Nat → Int32) (wh : Int32) (cC : Nat) : Int32 := (if p_X8_in wh.toInt64 0 2 then (if wh = 0 then (itr (st_X8_lines wf cC) 60 1 (0, (-1), (-1))).1 else (if wh = 1 then (itr (st_X8_lines wf cC) 60 1 (0, (-1), (-1))).2.1 else (itr (st_X8_lines wf cC) 60 1 (0, (-1), (-1))).2.2)) else (-2))
noncomputable def g_X8_lines_2 (ss : Nat → Int32) (wh : Int32) : Nat → Int32 := (if p_X8_in wh.toInt64 0 2 then (if wh = 0 then ss else (if wh = 1 then ss else ss)) else (upd ss 0 ((ss 0) + 1)))
theorem c_X8_lines (l : Launch) (K : vv_K) (qm qw qk qt : Nat) (txd : Int32) (abv blw : Int64) (qs : Nat) (atp stp nbr : Int32) (qi qp qh qb : Nat) (bmy : Int32) (qa q6 : Nat) (hsh : Int64) (wf ss : Nat → Int32) (wh : Int32) (cC : Nat) (hcC : ((wf 18)).toInt = (cC : Int)) (hcC6 : cC ≤ 6)  : vv_C l K 3 yX8_lines cX8_lines 6 (some .int) [.ref qm, .int wh] [(qm, .inr (7, [.ref qw, .ref qk, .ref qt, .int txd, .long abv, .long blw, .ref qs, .int atp, .int stp, .int nbr, .ref qi, .ref qp, .ref qh, .ref qb, .int bmy, .ref qa, .ref q6, .long hsh])), (qw, .inl (K.2.1.1, 456, .inl wf)), (qs, .inl (K.2.1.1, 3, .inl ss))] (some (.int (f_X8_lines wf wh cC))) [(qm, .inr (7, [.ref qw, .ref qk, .ref qt, .int txd, .long abv, .long blw, .ref qs, .int atp, .int stp, .int nbr, .ref qi, .ref qp, .ref qh, .ref qb, .int bmy, .ref qa, .ref q6, .long hsh])), (qw, .inl (K.2.1.1, 456, .inl wf)), (qs, .inl (K.2.1.1, 3, .inl (g_X8_lines_2 ss wh)))] := by
  refine vv_C.of (lv := [(0, .ref qm), (1, .int wh)]) (by decide +kernel) (Nat.le_of_ble_eq_true rfl) rfl ?_
  intro x hl hK F hR; subst hl; obtain rfl := hK
  refine vv_iload_n F dX8_lines_0 rfl rfl ?_
  refine vv_i2l F dX8_lines_1 ?_
  refine vv_lconst (v := 0) F dX8_lines_2 (by decide) ?_
  refine vv_ldc2 F cl_X8_131 dX8_lines_3 ?_
  refine vv_callSp (As := [.long wh.toInt64, .long 0, .long 2]) (rest := []) [] F (c_X8_in (vv_l x) (vv_k x) wh.toInt64 0 2) ms_X8_56 dX8_lines_6 (by decide) rfl rfl (Nat.le_of_ble_eq_true rfl) rfl (by decide) ?_
  refine vv_ifz_ne (tgt := 19) F dX8_lines_9 (by decide) (fun h_1 => ?_) (fun h_1 => ?_)
  · have h_1r := in_rng (a := 0) (b := 2) (by decide) (by decide) h_1
    have h_1c := nn_cl (a := wh) (by omega)
    refine vv_iconst (v := 0) F dX8_lines_19 (by decide) ?_
    refine vv_istore_n (lv' := [(2, .int 0), (0, .ref qm), (1, .int wh)]) F dX8_lines_20 rfl (by decide) rfl ?_
    refine vv_iconst (v := (-1)) F dX8_lines_21 (by decide) ?_
    refine vv_istore_n (lv' := [(3, .int (-1)), (2, .int 0), (0, .ref qm), (1, .int wh)]) F dX8_lines_22 rfl (by decide) rfl ?_
    refine vv_iconst (v := (-1)) F dX8_lines_23 (by decide) ?_
    refine vv_istore (lv' := [(4, .int (-1)), (3, .int (-1)), (2, .int 0), (0, .ref qm), (1, .int wh)]) F dX8_lines_24 (by decide) rfl ?_
    refine vv_iconst (v := 1) F dX8_lines_26 (by decide) ?_
    refine vv_istore (lv' := [(5, .int 1), (4, .int (-1)), (3, .int (-1)), (2, .int 0), (0, .ref qm), (1, .int wh)]) F dX8_lines_27 (by decide) rfl ?_
    refine vv_lv (lv' := [(5, .int 1), (2, .int 0), (3, .int (-1)), (4, .int (-1)), (0, .ref qm), (1, .int wh)]) [0, 3, 2, 1, 4, 5] rfl ?_
    refine L_X8_lines F qm qw qk qt txd abv blw qs atp stp nbr qi qp qh qb bmy qa q6 hsh wf ss wh cC hcC (by omega) 60 1 0 (-1) (-1) (by omega) ?_
    refine vv_iload_n F dX8_lines_69 rfl rfl ?_
    refine vv_if_ne (tgt := 77) F dX8_lines_70 (by decide) (fun h_2 => ?_) (fun h_2 => ?_)
    · refine vv_iload_n F dX8_lines_77 rfl rfl ?_
      refine vv_iconst (v := 1) F dX8_lines_78 (by decide) ?_
      refine vv_icmp_ne (tgt := 86) F dX8_lines_79 (by decide) (fun h_3 => ?_) (fun h_3 => ?_)
      · refine vv_iload F dX8_lines_86 rfl ?_
        exact vv_iret F hR dX8_lines_88 (congrArg (fun z => some (Value.int z)) ((if_pos h_1).trans ((if_neg h_2).trans ((if_neg h_3).trans rfl)))) (by simp only [g_X8_lines_2, if_pos h_1, if_neg h_2, if_neg h_3])
      · refine vv_iload_n F dX8_lines_82 rfl rfl ?_
        refine vv_goto (tgt := 88) F dX8_lines_83 (by decide) ?_
        exact vv_iret F hR dX8_lines_88 (congrArg (fun z => some (Value.int z)) ((if_pos h_1).trans ((if_neg h_2).trans ((if_pos h_3).trans rfl)))) (by simp only [g_X8_lines_2, if_pos h_1, if_neg h_2, if_pos h_3])
    · refine vv_iload_n F dX8_lines_73 rfl rfl ?_
      refine vv_goto (tgt := 88) F dX8_lines_74 (by decide) ?_
      exact vv_iret F hR dX8_lines_88 (congrArg (fun z => some (Value.int z)) ((if_pos h_1).trans ((if_pos h_2).trans rfl))) (by simp only [g_X8_lines_2, if_pos h_1, if_pos h_2])
  · refine vv_aload_n F dX8_lines_12 rfl rfl ?_
    refine vv_bipush (v := (-2)) F dX8_lines_13 (by decide) ?_
    refine vv_callV (As := [.int (-2)]) (rest := []) [0, 2] 0 (ws' := [(qm, .inr (7, [.ref qw, .ref qk, .ref qt, .int txd, .long abv, .long blw, .ref qs, .int atp, .int stp, .int nbr, .ref qi, .ref qp, .ref qh, .ref qb, .int bmy, .ref qa, .ref q6, .long hsh])), (qw, .inl ((vv_k x).2.1.1, 456, .inl wf)), (qs, .inl ((vv_k x).2.1.1, 3, .inl (upd ss 0 ((ss 0) + 1))))]) F (c_X8_bad (vv_l x) (vv_k x) qm qw qk qt txd abv blw qs atp stp nbr qi qp qh qb bmy qa q6 hsh ss (-2)) mv_X8_78 dX8_lines_15 (by decide) rfl rfl (Nat.le_of_ble_eq_true rfl) rfl (by decide) (Eq.trans (b := [qm, qs]) rfl rfl) rfl rfl ?_
    exact vv_iret F hR dX8_lines_18 (congrArg (fun z => some (Value.int z)) ((if_neg h_1).trans rfl)) (by simp only [g_X8_lines_2, if_neg h_1])
