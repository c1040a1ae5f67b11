abbrev RS : Type := Int32 × Int32 × Int32 × (Nat → Int32)
abbrev RS.ap (s : RS) : Int32 := s.1
abbrev RS.sp (s : RS) : Int32 := s.2.1
abbrev RS.nb (s : RS) : Int32 := s.2.2.1
abbrev RS.wf (s : RS) : Nat → Int32 := s.2.2.2
def ROk (tt u : Nat) (s : RS) : Prop := s.ap.toInt = (s.ap.toNatClampNeg : Int) ∧ s.ap.toNatClampNeg ≤ tt ∧ s.sp.toInt = (s.ap.toNatClampNeg : Int) ∧ u ≤ s.ap.toNatClampNeg ∧ (s.wf 342).toInt = ((s.wf 342).toNatClampNeg : Int) ∧ (s.wf 342).toNatClampNeg ≤ 5
theorem end_lt {td : Int32} {tx : Nat → Int32} {t q : Nat} (ht : td.toInt = (t : Int)) (hq : q < 2147483648) (h : f_X8_byteAt td tx (nI q) q = 59) : q < t := by
  rcases Nat.lt_or_ge q t with z | z
  · exact z
  · rw [by_end ht z hq] at h; exact absurd h (by decide)
noncomputable def rsS (txd : Int32) (tx : Nat → Int32) (fi : Int32) (tt : Nat) (s : RS) : RS := (g_X8_readsItem_0_7 txd s.wf tx fi s.ap.toNatClampNeg tt, g_X8_readsItem_0_8 txd s.wf tx fi s.ap.toNatClampNeg tt, g_X8_readsItem_0_9 txd s.nb s.wf tx fi s.ap.toNatClampNeg tt, g_X8_readsItem_1 txd s.wf tx fi s.ap.toNatClampNeg tt ((s.wf 342).toNatClampNeg))
noncomputable abbrev rsQ (txd : Int32) (tx : Nat → Int32) (fi : Int32) (tt : Nat) (s : RS) : Bool := (q_X8_readsItem txd s.wf tx fi s.ap.toNatClampNeg tt)
noncomputable def rbS (txd : Int32) (tx : Nat → Int32) (tt : Nat) (s : RS) : RS := (nI (blk txd tx tt s.ap.toNatClampNeg), nI (blk txd tx tt s.ap.toNatClampNeg), s.nb, s.wf)
noncomputable def rdF (txd : Int32) (tx : Nat → Int32) (tt : Nat) : Nat → Nat → RS → Int32 × RS
  | 0, u, s => (nI u, (s.ap, s.sp, s.nb, va_cpy s.wf s.wf 342 0 114))
  | n + 1, u, s => if s.sp < txd then (if nI u = 0 then (if rsQ txd tx 1 tt s = true then rdF txd tx tt n (u + 1) (rbS txd tx tt (rsS txd tx 1 tt s)) else ((-10) - (rsS txd tx 1 tt s).sp, rsS txd tx 1 tt s)) else (if rsQ txd tx 0 tt s = true then rdF txd tx tt n (u + 1) (rbS txd tx tt (rsS txd tx 0 tt s)) else ((-10) - (rsS txd tx 0 tt s).sp, rsS txd tx 0 tt s))) else (if nI u = 0 then (if rsQ txd tx 1 tt s = true then rdF txd tx tt n (u + 1) (rbS txd tx tt (rsS txd tx 1 tt s)) else ((-10) - (rsS txd tx 1 tt s).sp, rsS txd tx 1 tt s)) else (nI u, (s.ap, s.sp, s.nb, va_cpy s.wf s.wf 342 0 114)))
theorem rs_ap {txd fi : Int32} {tx : Nat → Int32} {tt : Nat} {s : RS} (ht : txd.toInt = (tt : Int)) (htt : tt ≤ 150) (hp : s.ap.toNatClampNeg ≤ tt) (ha : s.ap.toInt = (s.ap.toNatClampNeg : Int)) : rsQ txd tx fi tt s = true → ∃ c, (rsS txd tx fi tt s).ap = nI (c + 1) ∧ s.ap.toNatClampNeg ≤ c ∧ c < tt := by
  show (q_X8_readsItem txd s.wf tx fi s.ap.toNatClampNeg tt) = true → ∃ c, g_X8_readsItem_0_7 txd s.wf tx fi s.ap.toNatClampNeg tt = nI (c + 1) ∧ s.ap.toNatClampNeg ≤ c ∧ c < tt
  generalize s.ap.toNatClampNeg = p at hp
  generalize s.wf = wf
  have b0 := blk_le (tx := tx) (p := p) ht htt (by omega)
  have w0 := wlk_le (tx := tx) (p := blk txd tx tt p) ht htt (by omega)
  generalize hw : wlk txd tx tt (blk txd tx tt p) = w at w0
  have b1 := blk_le (tx := tx) (p := w) ht htt (by omega)
  have n1 := nuP_le (tx := tx) (p := w) ht htt (by omega)
  have b2 := blk_le (tx := tx) (p := nuP txd tx tt w) ht htt (by omega)
  have n2 := nuP_le (tx := tx) (p := nuP txd tx tt w) ht htt (by omega)
  have hwp : p ≤ w := by omega
  have hwt : w ≤ tt := by omega
  have key : ∀ q : Nat, p ≤ q → q ≤ 150 → p_X8_takesEnd txd tx q tt → ∃ c, nI (blk txd tx tt q) + 1 = nI (c + 1) ∧ p ≤ c ∧ c < tt := by
    intro q h1 h2 h3
    have b3 := blk_le (tx := tx) (p := q) ht htt (by omega)
    have h4 := end_lt (q := blk txd tx tt q) ht (by omega) h3
    exact ⟨blk txd tx tt q, nI_1 _, by omega, h4⟩
  have hh : p_X8_readsHouse txd tx w tt → (g_X8_readsHouse_0_7 txd tx w tt).toNatClampNeg = nuP txd tx tt (nuP txd tx tt w) := fun h => by
    rw [g_X8_readsHouse_0_7, if_pos h.1, if_pos h.2, nI_cl (by omega)]
  have hs : p_X8_readsString txd wf tx w tt → (g_X8_readsString_0_7 txd (nI w) wf tx w tt).toNatClampNeg = nuP txd tx tt (nuP txd tx tt w) := fun h => by
    rw [g_X8_readsString_0_7, if_neg h.1, if_pos h.2.1, if_pos h.2.2, nI_cl (by omega)]
  unfold q_X8_readsItem g_X8_readsItem_0_7
  simp only [hw]
  repeat' split
  all_goals (intro hq)
  all_goals first | with_reducible exact Bool.noConfusion hq | exact key _ (by omega) (by omega) (by assumption) | (refine key _ ?_ ?_ (by assumption) <;> first | (rw [hh (by assumption)]; omega) | (rw [hs (by assumption)]; omega))
theorem rs_cw {txd fi : Int32} {tx : Nat → Int32} {tt : Nat} {s : RS} (h1 : (s.wf 342).toInt = ((s.wf 342).toNatClampNeg : Int)) (h2 : (s.wf 342).toNatClampNeg ≤ 5) : 0 ≤ ((rsS txd tx fi tt s).wf 342).toInt ∧ ((rsS txd tx fi tt s).wf 342).toInt ≤ 5 := by
  show 0 ≤ ((g_X8_readsItem_1 txd s.wf tx fi s.ap.toNatClampNeg tt ((s.wf 342).toNatClampNeg)) 342).toInt ∧ ((g_X8_readsItem_1 txd s.wf tx fi s.ap.toNatClampNeg tt ((s.wf 342).toNatClampNeg)) 342).toInt ≤ 5
  generalize s.ap.toNatClampNeg = p
  generalize s.wf = wf at h1 h2
  have h0 : 0 ≤ (wf 342).toInt ∧ (wf 342).toInt ≤ 5 := by omega
  generalize hcw : (wf 342).toNatClampNeg = cW at h1 h2
  have H1 : ∀ q, 0 ≤ (g_X8_readsProvince_1 txd wf tx q tt 342).toInt ∧ (g_X8_readsProvince_1 txd wf tx q tt 342).toInt ≤ 5 := fun q => by
    unfold g_X8_readsProvince_1; split
    · rw [pk_un (by omega)]; exact h0
    · exact h0
  have H2 : ∀ q, 0 ≤ (g_X8_readsHouse_1 txd wf tx q tt 342).toInt ∧ (g_X8_readsHouse_1 txd wf tx q tt 342).toInt ≤ 5 := fun q => by
    unfold g_X8_readsHouse_1
    repeat' split
    all_goals first | with_reducible exact h0 | (rw [pk_un (by omega)]; exact h0)
  have H3 : ∀ q, 0 ≤ (g_X8_readsString_1 txd wf tx q tt cW 342).toInt ∧ (g_X8_readsString_1 txd wf tx q tt cW 342).toInt ≤ 5 := fun q => by
    unfold g_X8_readsString_1
    split
    · exact h0
    · rename_i hne
      have hne5 : ¬ cW = 5 := mt (c_eq h1 (by decide : (5 : Int32).toInt = ((5 : Nat) : Int))).mpr hne
      have hn := nn_add h1 (by decide : (1 : Int32).toInt = ((1 : Nat) : Int)) (by omega)
      repeat' split
      all_goals first | with_reducible exact h0 | (rw [pk_us]; omega)
  have H4 : ∀ q, 0 ≤ (g_X8_readsPurse_1 txd wf tx q tt 342).toInt ∧ (g_X8_readsPurse_1 txd wf tx q tt 342).toInt ≤ 5 := fun q => by
    unfold g_X8_readsPurse_1; split
    · rw [pk_un (by omega)]; exact h0
    · exact h0
  have H5 : ∀ q, 0 ≤ (g_X8_readsSend_1 txd wf tx q tt 342).toInt ∧ (g_X8_readsSend_1 txd wf tx q tt 342).toInt ≤ 5 := fun q => by
    unfold g_X8_readsSend_1 g_X8_isSent_1
    repeat' split
    all_goals first | with_reducible exact h0 | (rw [pk_un (by omega), pk_un (by omega), pk_un (by omega), pk_un (by omega)]; exact h0)
  have H6 : ∀ q, 0 ≤ (g_X8_readsWait_1 txd wf tx q tt 342).toInt ∧ (g_X8_readsWait_1 txd wf tx q tt 342).toInt ≤ 5 := fun q => by
    unfold g_X8_readsWait_1
    repeat' split
    all_goals first | with_reducible exact h0 | (rw [pk_un (by omega)]; exact h0)
  unfold g_X8_readsItem_1
  repeat' split
  all_goals first | with_reducible exact h0 | with_reducible exact H1 _ | with_reducible exact H2 _ | with_reducible exact H3 _ | with_reducible exact H4 _ | with_reducible exact H5 _ | with_reducible exact H6 _
theorem rb_ok {txd fi : Int32} {tx : Nat → Int32} {tt u : Nat} {s : RS} (ht : txd.toInt = (tt : Int)) (htt : tt ≤ 150) (hok : ROk tt u s) (h : rsQ txd tx fi tt s = true) : (rsS txd tx fi tt s).ap.toInt = ((rsS txd tx fi tt s).ap.toNatClampNeg : Int) ∧ (rsS txd tx fi tt s).ap.toNatClampNeg ≤ tt ∧ ROk tt (u + 1) (rbS txd tx tt (rsS txd tx fi tt s)) := by
  obtain ⟨ha, hat, hsp, hu, h1, h2⟩ := hok
  obtain ⟨c, e, e1, e2⟩ := rs_ap ht htt hat ha h
  have hw := rs_cw (txd := txd) (fi := fi) (tx := tx) (tt := tt) h1 h2
  have hc : (rsS txd tx fi tt s).ap.toNatClampNeg = c + 1 := by rw [e]; exact nI_cl (by omega)
  have hb := blk_le (tx := tx) (p := c + 1) ht htt (by omega)
  have hcl := nI_cl (n := blk txd tx tt (c + 1)) (by omega)
  refine ⟨by rw [hc, e]; exact nI_toInt (by omega), by omega, ?_⟩
  refine ⟨?_, ?_, ?_, ?_, nn_cl hw.1, ?_⟩
  · show (nI (blk txd tx tt (rsS txd tx fi tt s).ap.toNatClampNeg)).toInt = ((nI (blk txd tx tt (rsS txd tx fi tt s).ap.toNatClampNeg)).toNatClampNeg : Int)
    rw [hc, hcl]; exact nI_toInt (by omega)
  · show (nI (blk txd tx tt (rsS txd tx fi tt s).ap.toNatClampNeg)).toNatClampNeg ≤ tt
    rw [hc, hcl]; omega
  · show (nI (blk txd tx tt (rsS txd tx fi tt s).ap.toNatClampNeg)).toInt = ((nI (blk txd tx tt (rsS txd tx fi tt s).ap.toNatClampNeg)).toNatClampNeg : Int)
    rw [hc, hcl]; exact nI_toInt (by omega)
  · show u + 1 ≤ (nI (blk txd tx tt (rsS txd tx fi tt s).ap.toNatClampNeg)).toNatClampNeg
    rw [hc, hcl]; omega
  · have hn := nn_cl hw.1
    show ((rsS txd tx fi tt s).wf 342).toNatClampNeg ≤ 5
    omega
theorem L_X8_read {x : vv_X} (F : vv_F x cX8_read 3 RX8 9) (qm qw qk qt : Nat) (txd : Int32) (abv blw : Int64) (qs qi qp qh qb : Nat) (bmy : Int32) (qa q6 : Nat) (hsh : Int64) (tx : Nat → Int32) (tt : Nat) (ht : (txd).toInt = (tt : Int)) (htt : tt ≤ 150) {r : Option Value} {wc' : va_W} (hR : vv_R x (some .int) r wc') : ∀ (n : Nat) (u : Nat) (s : RS), u + n = 151 → ROk tt u s → wc' = [(qm, .inr (7, [.ref qw, .ref qk, .ref qt, .int txd, .long abv, .long blw, .ref qs, .int ((rdF txd tx tt n u s).2.ap), .int ((rdF txd tx tt n u s).2.sp), .int ((rdF txd tx tt n u s).2.nb), .ref qi, .ref qp, .ref qh, .ref qb, .int bmy, .ref qa, .ref q6, .long hsh])), (qw, .inl ((vv_k x).2.1.1, 456, .inl ((rdF txd tx tt n u s).2.wf))), (qt, .inl ((vv_k x).2.1.1, 150, .inl tx))] → r = some (.int (rdF txd tx tt n u s).1) → vv_V x 3 24 [(1, .int (nI u)), (2, .int 1), (0, .ref qm)] [] [(qm, .inr (7, [.ref qw, .ref qk, .ref qt, .int txd, .long abv, .long blw, .ref qs, .int s.ap, .int s.sp, .int s.nb, .ref qi, .ref qp, .ref qh, .ref qb, .int bmy, .ref qa, .ref q6, .long hsh])), (qw, .inl ((vv_k x).2.1.1, 456, .inl s.wf)), (qt, .inl ((vv_k x).2.1.1, 150, .inl tx))] := by
  intro n
  induction n with
  | zero =>
    intro u s hu hok hwc hres
    obtain ⟨ha, hat, hsp, hua, h1, h2⟩ := id hok
    refine vv_iload_n F dX8_read_24 rfl rfl ?_
    refine vv_if_eq (tgt := 71) F dX8_read_25 (by decide) (fun h_1 => absurd h_1 (by decide)) (fun h_1 => ?_)
    refine vv_aload_n F dX8_read_28 rfl rfl ?_
    refine vv_get 0 F fl_X8_102 dX8_read_29 rfl rfl ?_
    refine vv_aload_n F dX8_read_32 rfl rfl ?_
    refine vv_get 0 F fl_X8_48 dX8_read_33 rfl rfl ?_
    refine vv_icmp_lt (tgt := 43) F dX8_read_36 (by decide) (fun h_2 => absurd ((c_lt hsp ht).mp h_2) (by omega)) (fun h_2 => ?_)
    refine vv_iload_n F dX8_read_39 rfl rfl ?_
    refine vv_if_ne (tgt := 71) F dX8_read_40 (by decide) (fun h_3 => ?_) (fun h_3 => absurd ((c_eq (nI_toInt (n := u) (by omega)) (by decide : (0 : Int32).toInt = ((0 : Nat) : Int))).mp h_3) (by omega))
    refine vv_iload_n F dX8_read_71 rfl rfl ?_
    refine vv_if_ne (tgt := 83) F dX8_read_72 (by decide) (fun h_4 => ?_) (fun h_4 => absurd h_4 (by decide))
    refine vv_aload_n F dX8_read_83 rfl rfl ?_
    refine vv_sipush (v := 342) F dX8_read_84 (by decide) ?_
    refine vv_iconst (v := 0) F dX8_read_87 (by decide) ?_
    refine vv_callV (As := [.int 342, .int 0]) (rest := []) [0, 1] 0 (ws' := [(qm, .inr (7, [.ref qw, .ref qk, .ref qt, .int txd, .long abv, .long blw, .ref qs, .int s.ap, .int s.sp, .int s.nb, .ref qi, .ref qp, .ref qh, .ref qb, .int bmy, .ref qa, .ref q6, .long hsh])), (qw, .inl ((vv_k x).2.1.1, 456, .inl (va_cpy s.wf s.wf 342 0 114))), (qt, .inl ((vv_k x).2.1.1, 150, .inl tx))]) F (c_X8_copy (vv_l x) (vv_k x) qm qw qk qt txd abv blw qs s.ap s.sp s.nb qi qp qh qb bmy qa q6 hsh s.wf 342 0 342 0 (by decide : (342 : Int32).toInt = ((342 : Nat) : Int)) (by decide : (0 : Int32).toInt = ((0 : Nat) : Int)) (by omega) (by omega) (by omega)) mv_X8_175 dX8_read_88 (by decide) rfl rfl (Nat.le_of_ble_eq_true rfl) rfl (by decide) (Eq.trans (b := [qm, qw]) rfl rfl) rfl rfl ?_
    refine vv_iload_n F dX8_read_91 rfl rfl ?_
    exact vv_iret F hR dX8_read_92 (by rw [hres, rdF] <;> rfl) (by rw [hwc, rdF] <;> rfl)
  | succ n ih =>
    intro u s hu hok hwc hres
    obtain ⟨ha, hat, hsp, hua, h1, h2⟩ := id hok
    refine vv_iload_n F dX8_read_24 rfl rfl ?_
    refine vv_if_eq (tgt := 71) F dX8_read_25 (by decide) (fun h_1 => absurd h_1 (by decide)) (fun h_1 => ?_)
    refine vv_aload_n F dX8_read_28 rfl rfl ?_
    refine vv_get 0 F fl_X8_102 dX8_read_29 rfl rfl ?_
    refine vv_aload_n F dX8_read_32 rfl rfl ?_
    refine vv_get 0 F fl_X8_48 dX8_read_33 rfl rfl ?_
    refine vv_icmp_lt (tgt := 43) F dX8_read_36 (by decide) (fun h_2 => ?_) (fun h_2 => ?_)
    · refine vv_aload_n F dX8_read_43 rfl rfl ?_
      refine vv_iload_n F dX8_read_44 rfl rfl ?_
      refine vv_if_ne (tgt := 52) F dX8_read_45 (by decide) (fun h_3 => ?_) (fun h_3 => ?_)
      · refine vv_iconst (v := 0) F dX8_read_52 (by decide) ?_
        refine vv_callV (As := [.int 0]) (rest := []) [0, 1, 2] 0 (ws' := [(qm, .inr (7, [.ref qw, .ref qk, .ref qt, .int txd, .long abv, .long blw, .ref qs, .int (g_X8_readsItem_0_7 txd s.wf tx 0 s.ap.toNatClampNeg tt), .int (g_X8_readsItem_0_8 txd s.wf tx 0 s.ap.toNatClampNeg tt), .int (g_X8_readsItem_0_9 txd s.nb s.wf tx 0 s.ap.toNatClampNeg tt), .ref qi, .ref qp, .ref qh, .ref qb, .int bmy, .ref qa, .ref q6, .long hsh])), (qw, .inl ((vv_k x).2.1.1, 456, .inl (g_X8_readsItem_1 txd s.wf tx 0 s.ap.toNatClampNeg tt ((s.wf 342).toNatClampNeg)))), (qt, .inl ((vv_k x).2.1.1, 150, .inl tx))]) F (c_X8_readsItem (vv_l x) (vv_k x) qm qw qk qt txd abv blw qs s.ap s.sp s.nb qi qp qh qb bmy qa q6 hsh s.wf tx 0 s.ap.toNatClampNeg tt ((s.wf 342).toNatClampNeg) ha ht h1 (by omega) (by omega) (by omega)) mv_X8_171 dX8_read_53 (by decide) rfl rfl (Nat.le_of_ble_eq_true rfl) rfl (by decide) (Eq.trans (b := [qm, qw, qt]) rfl rfl) rfl rfl ?_
        refine vv_ws (ws' := [(qm, .inr (7, [.ref qw, .ref qk, .ref qt, .int txd, .long abv, .long blw, .ref qs, .int ((rsS txd tx 0 tt s).ap), .int ((rsS txd tx 0 tt s).sp), .int ((rsS txd tx 0 tt s).nb), .ref qi, .ref qp, .ref qh, .ref qb, .int bmy, .ref qa, .ref q6, .long hsh])), (qw, .inl ((vv_k x).2.1.1, 456, .inl ((rsS txd tx 0 tt s).wf))), (qt, .inl ((vv_k x).2.1.1, 150, .inl tx))]) rfl ?_
        refine vv_istore_n (lv' := [(2, .int (vv_b ((q_X8_readsItem txd s.wf tx 0 s.ap.toNatClampNeg tt) = true))), (1, .int (nI u)), (0, .ref qm)]) F dX8_read_56 rfl (by decide) rfl ?_
        refine vv_iinc (v := (nI (u + 1))) (lv' := [(1, .int (nI (u + 1))), (2, .int (vv_b ((q_X8_readsItem txd s.wf tx 0 s.ap.toNatClampNeg tt) = true))), (0, .ref qm)]) 1 F dX8_read_57 rfl (nI_1 u) (by decide) rfl ?_
        refine vv_iload_n F dX8_read_60 rfl rfl ?_
        refine vv_ifz_eq (tgt := 24) F dX8_read_61 (by decide) (fun h_4 => ?_) (fun h_4 => ?_)
        · refine vv_iload_n F dX8_read_24 rfl rfl ?_
          refine vv_ifz_eq (tgt := 71) F dX8_read_25 (by decide) (fun h_5 => ?_) (fun h_5 => ?_)
          · refine vv_iload_n F dX8_read_71 rfl rfl ?_
            refine vv_ifz_ne (tgt := 83) F dX8_read_72 (by decide) (fun h_6 => ?_) (fun h_6 => ?_)
            · exact absurd h_6 h_4
            · refine vv_bipush (v := (-10)) F dX8_read_75 (by decide) ?_
              refine vv_aload_n F dX8_read_77 rfl rfl ?_
              refine vv_get 0 F fl_X8_102 dX8_read_78 rfl rfl ?_
              refine vv_isub F dX8_read_81 ?_
              exact vv_iret F hR dX8_read_82 (by rw [hres, rdF, if_pos h_2, if_neg h_3, if_neg h_4] <;> rfl) (by rw [hwc, rdF, if_pos h_2, if_neg h_3, if_neg h_4] <;> rfl)
          · exact absurd h_5 h_4
        · have hrb := rb_ok ht htt hok h_4
          refine vv_aload_n F dX8_read_64 rfl rfl ?_
          refine vv_callV (As := []) (rest := []) [0, 2] 0 (ws' := [(qm, .inr (7, [.ref qw, .ref qk, .ref qt, .int txd, .long abv, .long blw, .ref qs, .int (nI (blk txd tx tt ((rsS txd tx 0 tt s).ap.toNatClampNeg))), .int (nI (blk txd tx tt ((rsS txd tx 0 tt s).ap.toNatClampNeg))), .int ((rsS txd tx 0 tt s).nb), .ref qi, .ref qp, .ref qh, .ref qb, .int bmy, .ref qa, .ref q6, .long hsh])), (qw, .inl ((vv_k x).2.1.1, 456, .inl ((rsS txd tx 0 tt s).wf))), (qt, .inl ((vv_k x).2.1.1, 150, .inl tx))]) F (c_X8_blanks (vv_l x) (vv_k x) qm qw qk qt txd abv blw qs ((rsS txd tx 0 tt s).ap) ((rsS txd tx 0 tt s).sp) ((rsS txd tx 0 tt s).nb) qi qp qh qb bmy qa q6 hsh tx ((rsS txd tx 0 tt s).ap.toNatClampNeg) tt hrb.1 ht (by omega) (by omega)) mv_X8_105 dX8_read_65 (by decide) rfl rfl (Nat.le_of_ble_eq_true rfl) rfl (by decide) (Eq.trans (b := [qm, qt]) rfl rfl) rfl rfl ?_
          have h_7b := blk_le (tx := tx) (p := (rsS txd tx 0 tt s).ap.toNatClampNeg) ht htt (by omega)
          refine vv_goto (tgt := 24) F dX8_read_68 (by decide) ?_
          refine vv_lv [0, 1, 2] rfl ?_
          refine vv_lvE (lv' := [(1, .int (nI (u + 1))), (2, .int 1), (0, .ref qm)]) (by rw [vv_b_t h_4]; rfl) ?_
          refine vv_ws (ws' := [(qm, .inr (7, [.ref qw, .ref qk, .ref qt, .int txd, .long abv, .long blw, .ref qs, .int ((rbS txd tx tt (rsS txd tx 0 tt s)).ap), .int ((rbS txd tx tt (rsS txd tx 0 tt s)).sp), .int ((rbS txd tx tt (rsS txd tx 0 tt s)).nb), .ref qi, .ref qp, .ref qh, .ref qb, .int bmy, .ref qa, .ref q6, .long hsh])), (qw, .inl ((vv_k x).2.1.1, 456, .inl ((rbS txd tx tt (rsS txd tx 0 tt s)).wf))), (qt, .inl ((vv_k x).2.1.1, 150, .inl tx))]) rfl ?_
          exact ih (u + 1) (rbS txd tx tt (rsS txd tx 0 tt s)) (by omega) hrb.2.2 (by rw [hwc, rdF, if_pos h_2, if_neg h_3, if_pos h_4]) (by rw [hres, rdF, if_pos h_2, if_neg h_3, if_pos h_4])
      · refine vv_iconst (v := 1) F dX8_read_48 (by decide) ?_
        refine vv_goto (tgt := 53) F dX8_read_49 (by decide) ?_
        refine vv_callV (As := [.int 1]) (rest := []) [0, 1, 2] 0 (ws' := [(qm, .inr (7, [.ref qw, .ref qk, .ref qt, .int txd, .long abv, .long blw, .ref qs, .int (g_X8_readsItem_0_7 txd s.wf tx 1 s.ap.toNatClampNeg tt), .int (g_X8_readsItem_0_8 txd s.wf tx 1 s.ap.toNatClampNeg tt), .int (g_X8_readsItem_0_9 txd s.nb s.wf tx 1 s.ap.toNatClampNeg tt), .ref qi, .ref qp, .ref qh, .ref qb, .int bmy, .ref qa, .ref q6, .long hsh])), (qw, .inl ((vv_k x).2.1.1, 456, .inl (g_X8_readsItem_1 txd s.wf tx 1 s.ap.toNatClampNeg tt ((s.wf 342).toNatClampNeg)))), (qt, .inl ((vv_k x).2.1.1, 150, .inl tx))]) F (c_X8_readsItem (vv_l x) (vv_k x) qm qw qk qt txd abv blw qs s.ap s.sp s.nb qi qp qh qb bmy qa q6 hsh s.wf tx 1 s.ap.toNatClampNeg tt ((s.wf 342).toNatClampNeg) ha ht h1 (by omega) (by omega) (by omega)) mv_X8_171 dX8_read_53 (by decide) rfl rfl (Nat.le_of_ble_eq_true rfl) rfl (by decide) (Eq.trans (b := [qm, qw, qt]) rfl rfl) rfl rfl ?_
        refine vv_ws (ws' := [(qm, .inr (7, [.ref qw, .ref qk, .ref qt, .int txd, .long abv, .long blw, .ref qs, .int ((rsS txd tx 1 tt s).ap), .int ((rsS txd tx 1 tt s).sp), .int ((rsS txd tx 1 tt s).nb), .ref qi, .ref qp, .ref qh, .ref qb, .int bmy, .ref qa, .ref q6, .long hsh])), (qw, .inl ((vv_k x).2.1.1, 456, .inl ((rsS txd tx 1 tt s).wf))), (qt, .inl ((vv_k x).2.1.1, 150, .inl tx))]) rfl ?_
        refine vv_istore_n (lv' := [(2, .int (vv_b ((q_X8_readsItem txd s.wf tx 1 s.ap.toNatClampNeg tt) = true))), (1, .int (nI u)), (0, .ref qm)]) F dX8_read_56 rfl (by decide) rfl ?_
        refine vv_iinc (v := (nI (u + 1))) (lv' := [(1, .int (nI (u + 1))), (2, .int (vv_b ((q_X8_readsItem txd s.wf tx 1 s.ap.toNatClampNeg tt) = true))), (0, .ref qm)]) 1 F dX8_read_57 rfl (nI_1 u) (by decide) rfl ?_
        refine vv_iload_n F dX8_read_60 rfl rfl ?_
        refine vv_ifz_eq (tgt := 24) F dX8_read_61 (by decide) (fun h_8 => ?_) (fun h_8 => ?_)
        · refine vv_iload_n F dX8_read_24 rfl rfl ?_
          refine vv_ifz_eq (tgt := 71) F dX8_read_25 (by decide) (fun h_9 => ?_) (fun h_9 => ?_)
          · refine vv_iload_n F dX8_read_71 rfl rfl ?_
            refine vv_ifz_ne (tgt := 83) F dX8_read_72 (by decide) (fun h_10 => ?_) (fun h_10 => ?_)
            · exact absurd h_10 h_8
            · refine vv_bipush (v := (-10)) F dX8_read_75 (by decide) ?_
              refine vv_aload_n F dX8_read_77 rfl rfl ?_
              refine vv_get 0 F fl_X8_102 dX8_read_78 rfl rfl ?_
              refine vv_isub F dX8_read_81 ?_
              exact vv_iret F hR dX8_read_82 (by rw [hres, rdF, if_pos h_2, if_pos h_3, if_neg h_8] <;> rfl) (by rw [hwc, rdF, if_pos h_2, if_pos h_3, if_neg h_8] <;> rfl)
          · exact absurd h_9 h_8
        · have hrb := rb_ok ht htt hok h_8
          refine vv_aload_n F dX8_read_64 rfl rfl ?_
          refine vv_callV (As := []) (rest := []) [0, 2] 0 (ws' := [(qm, .inr (7, [.ref qw, .ref qk, .ref qt, .int txd, .long abv, .long blw, .ref qs, .int (nI (blk txd tx tt ((rsS txd tx 1 tt s).ap.toNatClampNeg))), .int (nI (blk txd tx tt ((rsS txd tx 1 tt s).ap.toNatClampNeg))), .int ((rsS txd tx 1 tt s).nb), .ref qi, .ref qp, .ref qh, .ref qb, .int bmy, .ref qa, .ref q6, .long hsh])), (qw, .inl ((vv_k x).2.1.1, 456, .inl ((rsS txd tx 1 tt s).wf))), (qt, .inl ((vv_k x).2.1.1, 150, .inl tx))]) F (c_X8_blanks (vv_l x) (vv_k x) qm qw qk qt txd abv blw qs ((rsS txd tx 1 tt s).ap) ((rsS txd tx 1 tt s).sp) ((rsS txd tx 1 tt s).nb) qi qp qh qb bmy qa q6 hsh tx ((rsS txd tx 1 tt s).ap.toNatClampNeg) tt hrb.1 ht (by omega) (by omega)) mv_X8_105 dX8_read_65 (by decide) rfl rfl (Nat.le_of_ble_eq_true rfl) rfl (by decide) (Eq.trans (b := [qm, qt]) rfl rfl) rfl rfl ?_
          have h_11b := blk_le (tx := tx) (p := (rsS txd tx 1 tt s).ap.toNatClampNeg) ht htt (by omega)
          refine vv_goto (tgt := 24) F dX8_read_68 (by decide) ?_
          refine vv_lv [0, 1, 2] rfl ?_
          refine vv_lvE (lv' := [(1, .int (nI (u + 1))), (2, .int 1), (0, .ref qm)]) (by rw [vv_b_t h_8]; rfl) ?_
          refine vv_ws (ws' := [(qm, .inr (7, [.ref qw, .ref qk, .ref qt, .int txd, .long abv, .long blw, .ref qs, .int ((rbS txd tx tt (rsS txd tx 1 tt s)).ap), .int ((rbS txd tx tt (rsS txd tx 1 tt s)).sp), .int ((rbS txd tx tt (rsS txd tx 1 tt s)).nb), .ref qi, .ref qp, .ref qh, .ref qb, .int bmy, .ref qa, .ref q6, .long hsh])), (qw, .inl ((vv_k x).2.1.1, 456, .inl ((rbS txd tx tt (rsS txd tx 1 tt s)).wf))), (qt, .inl ((vv_k x).2.1.1, 150, .inl tx))]) rfl ?_
          exact ih (u + 1) (rbS txd tx tt (rsS txd tx 1 tt s)) (by omega) hrb.2.2 (by rw [hwc, rdF, if_pos h_2, if_pos h_3, if_pos h_8]) (by rw [hres, rdF, if_pos h_2, if_pos h_3, if_pos h_8])
    · refine vv_iload_n F dX8_read_39 rfl rfl ?_
      refine vv_if_ne (tgt := 71) F dX8_read_40 (by decide) (fun h_12 => ?_) (fun h_12 => ?_)
      · refine vv_iload_n F dX8_read_71 rfl rfl ?_
        refine vv_if_ne (tgt := 83) F dX8_read_72 (by decide) (fun h_13 => ?_) (fun h_13 => absurd h_13 (by decide))
        refine vv_aload_n F dX8_read_83 rfl rfl ?_
        refine vv_sipush (v := 342) F dX8_read_84 (by decide) ?_
        refine vv_iconst (v := 0) F dX8_read_87 (by decide) ?_
        refine vv_callV (As := [.int 342, .int 0]) (rest := []) [0, 1] 0 (ws' := [(qm, .inr (7, [.ref qw, .ref qk, .ref qt, .int txd, .long abv, .long blw, .ref qs, .int s.ap, .int s.sp, .int s.nb, .ref qi, .ref qp, .ref qh, .ref qb, .int bmy, .ref qa, .ref q6, .long hsh])), (qw, .inl ((vv_k x).2.1.1, 456, .inl (va_cpy s.wf s.wf 342 0 114))), (qt, .inl ((vv_k x).2.1.1, 150, .inl tx))]) F (c_X8_copy (vv_l x) (vv_k x) qm qw qk qt txd abv blw qs s.ap s.sp s.nb qi qp qh qb bmy qa q6 hsh s.wf 342 0 342 0 (by decide : (342 : Int32).toInt = ((342 : Nat) : Int)) (by decide : (0 : Int32).toInt = ((0 : Nat) : Int)) (by omega) (by omega) (by omega)) mv_X8_175 dX8_read_88 (by decide) rfl rfl (Nat.le_of_ble_eq_true rfl) rfl (by decide) (Eq.trans (b := [qm, qw]) rfl rfl) rfl rfl ?_
        refine vv_iload_n F dX8_read_91 rfl rfl ?_
        exact vv_iret F hR dX8_read_92 (by rw [hres, rdF, if_neg h_2, if_neg h_12] <;> rfl) (by rw [hwc, rdF, if_neg h_2, if_neg h_12] <;> rfl)
      · refine vv_aload_n F dX8_read_43 rfl rfl ?_
        refine vv_iload_n F dX8_read_44 rfl rfl ?_
        refine vv_if_ne (tgt := 52) F dX8_read_45 (by decide) (fun h_14 => ?_) (fun h_14 => ?_)
        · exact absurd h_12 h_14
        · refine vv_iconst (v := 1) F dX8_read_48 (by decide) ?_
          refine vv_goto (tgt := 53) F dX8_read_49 (by decide) ?_
          refine vv_callV (As := [.int 1]) (rest := []) [0, 1, 2] 0 (ws' := [(qm, .inr (7, [.ref qw, .ref qk, .ref qt, .int txd, .long abv, .long blw, .ref qs, .int (g_X8_readsItem_0_7 txd s.wf tx 1 s.ap.toNatClampNeg tt), .int (g_X8_readsItem_0_8 txd s.wf tx 1 s.ap.toNatClampNeg tt), .int (g_X8_readsItem_0_9 txd s.nb s.wf tx 1 s.ap.toNatClampNeg tt), .ref qi, .ref qp, .ref qh, .ref qb, .int bmy, .ref qa, .ref q6, .long hsh])), (qw, .inl ((vv_k x).2.1.1, 456, .inl (g_X8_readsItem_1 txd s.wf tx 1 s.ap.toNatClampNeg tt ((s.wf 342).toNatClampNeg)))), (qt, .inl ((vv_k x).2.1.1, 150, .inl tx))]) F (c_X8_readsItem (vv_l x) (vv_k x) qm qw qk qt txd abv blw qs s.ap s.sp s.nb qi qp qh qb bmy qa q6 hsh s.wf tx 1 s.ap.toNatClampNeg tt ((s.wf 342).toNatClampNeg) ha ht h1 (by omega) (by omega) (by omega)) mv_X8_171 dX8_read_53 (by decide) rfl rfl (Nat.le_of_ble_eq_true rfl) rfl (by decide) (Eq.trans (b := [qm, qw, qt]) rfl rfl) rfl rfl ?_
          refine vv_ws (ws' := [(qm, .inr (7, [.ref qw, .ref qk, .ref qt, .int txd, .long abv, .long blw, .ref qs, .int ((rsS txd tx 1 tt s).ap), .int ((rsS txd tx 1 tt s).sp), .int ((rsS txd tx 1 tt s).nb), .ref qi, .ref qp, .ref qh, .ref qb, .int bmy, .ref qa, .ref q6, .long hsh])), (qw, .inl ((vv_k x).2.1.1, 456, .inl ((rsS txd tx 1 tt s).wf))), (qt, .inl ((vv_k x).2.1.1, 150, .inl tx))]) rfl ?_
          refine vv_istore_n (lv' := [(2, .int (vv_b ((q_X8_readsItem txd s.wf tx 1 s.ap.toNatClampNeg tt) = true))), (1, .int (nI u)), (0, .ref qm)]) F dX8_read_56 rfl (by decide) rfl ?_
          refine vv_iinc (v := (nI (u + 1))) (lv' := [(1, .int (nI (u + 1))), (2, .int (vv_b ((q_X8_readsItem txd s.wf tx 1 s.ap.toNatClampNeg tt) = true))), (0, .ref qm)]) 1 F dX8_read_57 rfl (nI_1 u) (by decide) rfl ?_
          refine vv_iload_n F dX8_read_60 rfl rfl ?_
          refine vv_ifz_eq (tgt := 24) F dX8_read_61 (by decide) (fun h_15 => ?_) (fun h_15 => ?_)
          · refine vv_iload_n F dX8_read_24 rfl rfl ?_
            refine vv_ifz_eq (tgt := 71) F dX8_read_25 (by decide) (fun h_16 => ?_) (fun h_16 => ?_)
            · refine vv_iload_n F dX8_read_71 rfl rfl ?_
              refine vv_ifz_ne (tgt := 83) F dX8_read_72 (by decide) (fun h_17 => ?_) (fun h_17 => ?_)
              · exact absurd h_17 h_15
              · refine vv_bipush (v := (-10)) F dX8_read_75 (by decide) ?_
                refine vv_aload_n F dX8_read_77 rfl rfl ?_
                refine vv_get 0 F fl_X8_102 dX8_read_78 rfl rfl ?_
                refine vv_isub F dX8_read_81 ?_
                exact vv_iret F hR dX8_read_82 (by rw [hres, rdF, if_neg h_2, if_pos h_12, if_neg h_15] <;> rfl) (by rw [hwc, rdF, if_neg h_2, if_pos h_12, if_neg h_15] <;> rfl)
            · exact absurd h_16 h_15
          · have hrb := rb_ok ht htt hok h_15
            refine vv_aload_n F dX8_read_64 rfl rfl ?_
            refine vv_callV (As := []) (rest := []) [0, 2] 0 (ws' := [(qm, .inr (7, [.ref qw, .ref qk, .ref qt, .int txd, .long abv, .long blw, .ref qs, .int (nI (blk txd tx tt ((rsS txd tx 1 tt s).ap.toNatClampNeg))), .int (nI (blk txd tx tt ((rsS txd tx 1 tt s).ap.toNatClampNeg))), .int ((rsS txd tx 1 tt s).nb), .ref qi, .ref qp, .ref qh, .ref qb, .int bmy, .ref qa, .ref q6, .long hsh])), (qw, .inl ((vv_k x).2.1.1, 456, .inl ((rsS txd tx 1 tt s).wf))), (qt, .inl ((vv_k x).2.1.1, 150, .inl tx))]) F (c_X8_blanks (vv_l x) (vv_k x) qm qw qk qt txd abv blw qs ((rsS txd tx 1 tt s).ap) ((rsS txd tx 1 tt s).sp) ((rsS txd tx 1 tt s).nb) qi qp qh qb bmy qa q6 hsh tx ((rsS txd tx 1 tt s).ap.toNatClampNeg) tt hrb.1 ht (by omega) (by omega)) mv_X8_105 dX8_read_65 (by decide) rfl rfl (Nat.le_of_ble_eq_true rfl) rfl (by decide) (Eq.trans (b := [qm, qt]) rfl rfl) rfl rfl ?_
            have h_18b := blk_le (tx := tx) (p := (rsS txd tx 1 tt s).ap.toNatClampNeg) ht htt (by omega)
            refine vv_goto (tgt := 24) F dX8_read_68 (by decide) ?_
            refine vv_lv [0, 1, 2] rfl ?_
            refine vv_lvE (lv' := [(1, .int (nI (u + 1))), (2, .int 1), (0, .ref qm)]) (by rw [vv_b_t h_15]; rfl) ?_
            refine vv_ws (ws' := [(qm, .inr (7, [.ref qw, .ref qk, .ref qt, .int txd, .long abv, .long blw, .ref qs, .int ((rbS txd tx tt (rsS txd tx 1 tt s)).ap), .int ((rbS txd tx tt (rsS txd tx 1 tt s)).sp), .int ((rbS txd tx tt (rsS txd tx 1 tt s)).nb), .ref qi, .ref qp, .ref qh, .ref qb, .int bmy, .ref qa, .ref q6, .long hsh])), (qw, .inl ((vv_k x).2.1.1, 456, .inl ((rbS txd tx tt (rsS txd tx 1 tt s)).wf))), (qt, .inl ((vv_k x).2.1.1, 150, .inl tx))]) rfl ?_
            exact ih (u + 1) (rbS txd tx tt (rsS txd tx 1 tt s)) (by omega) hrb.2.2 (by rw [hwc, rdF, if_neg h_2, if_pos h_12, if_pos h_15]) (by rw [hres, rdF, if_neg h_2, if_pos h_12, if_pos h_15])
noncomputable def f_X8_read (txd nbr : Int32) (wf tx : Nat → Int32) (tt : Nat) : Int32 := (rdF txd tx tt 151 0 (((nI (blk txd tx tt 0)), (nI (blk txd tx tt 0)), nbr, (upd (upd (zer wf 342 114) (11 + 342) 20) (14 + 342) 100)) : RS)).1
theorem c_X8_read (l : Launch) (K : vv_K) (qm qw qk qt : Nat) (txd : Int32) (abv blw : Int64) (qs : Nat) (atp stp nbr : Int32) (qi qp qh qb : Nat) (bmy : Int32) (qa q6 : Nat) (hsh : Int64) (wf tx : Nat → Int32) (tt : Nat) (ht : (txd).toInt = (tt : Int)) (htt : tt ≤ 150)  : vv_C l K 9 yX8_read cX8_read 3 (some .int) [.ref qm] [(qm, .inr (7, [.ref qw, .ref qk, .ref qt, .int txd, .long abv, .long blw, .ref qs, .int atp, .int stp, .int nbr, .ref qi, .ref qp, .ref qh, .ref qb, .int bmy, .ref qa, .ref q6, .long hsh])), (qw, .inl (K.2.1.1, 456, .inl wf)), (qt, .inl (K.2.1.1, 150, .inl tx))] (some (.int (f_X8_read txd nbr wf tx tt))) [(qm, .inr (7, [.ref qw, .ref qk, .ref qt, .int txd, .long abv, .long blw, .ref qs, .int ((rdF txd tx tt 151 0 (((nI (blk txd tx tt 0)), (nI (blk txd tx tt 0)), nbr, (upd (upd (zer wf 342 114) (11 + 342) 20) (14 + 342) 100)) : RS)).2.ap), .int ((rdF txd tx tt 151 0 (((nI (blk txd tx tt 0)), (nI (blk txd tx tt 0)), nbr, (upd (upd (zer wf 342 114) (11 + 342) 20) (14 + 342) 100)) : RS)).2.sp), .int ((rdF txd tx tt 151 0 (((nI (blk txd tx tt 0)), (nI (blk txd tx tt 0)), nbr, (upd (upd (zer wf 342 114) (11 + 342) 20) (14 + 342) 100)) : RS)).2.nb), .ref qi, .ref qp, .ref qh, .ref qb, .int bmy, .ref qa, .ref q6, .long hsh])), (qw, .inl (K.2.1.1, 456, .inl ((rdF txd tx tt 151 0 (((nI (blk txd tx tt 0)), (nI (blk txd tx tt 0)), nbr, (upd (upd (zer wf 342 114) (11 + 342) 20) (14 + 342) 100)) : RS)).2.wf))), (qt, .inl (K.2.1.1, 150, .inl tx))] := by
  refine vv_C.of (lv := [(0, .ref qm)]) (by decide +kernel) (Nat.le_of_ble_eq_true rfl) rfl ?_
  intro x hl hK F hR; subst hl; obtain rfl := hK
  refine vv_aload_n F dX8_read_0 rfl rfl ?_
  refine vv_sipush (v := 342) F dX8_read_1 (by decide) ?_
  refine vv_bipush (v := 20) F dX8_read_4 (by decide) ?_
  refine vv_bipush (v := 100) F dX8_read_6 (by decide) ?_
  refine vv_callV (As := [.int 342, .int 20, .int 100]) (rest := []) [0, 1] 0 (ws' := [(qm, .inr (7, [.ref qw, .ref qk, .ref qt, .int txd, .long abv, .long blw, .ref qs, .int atp, .int stp, .int nbr, .ref qi, .ref qp, .ref qh, .ref qb, .int bmy, .ref qa, .ref q6, .long hsh])), (qw, .inl ((vv_k x).2.1.1, 456, .inl (upd (upd (zer wf 342 114) (11 + 342) 20) (14 + 342) 100))), (qt, .inl ((vv_k x).2.1.1, 150, .inl tx))]) F (c_X8_begins (vv_l x) (vv_k x) qm qw qk qt txd abv blw qs atp stp nbr qi qp qh qb bmy qa q6 hsh wf 342 20 100 342 (by decide : (342 : Int32).toInt = ((342 : Nat) : Int)) (by omega)) mv_X8_52 dX8_read_8 (by decide) rfl rfl (Nat.le_of_ble_eq_true rfl) rfl (by decide) (Eq.trans (b := [qm, qw]) rfl rfl) rfl rfl ?_
  refine vv_aload_n F dX8_read_11 rfl rfl ?_
  refine vv_iconst (v := 0) F dX8_read_12 (by decide) ?_
  refine vv_put 0 (ws' := [(qm, .inr (7, [.ref qw, .ref qk, .ref qt, .int txd, .long abv, .long blw, .ref qs, .int 0, .int stp, .int nbr, .ref qi, .ref qp, .ref qh, .ref qb, .int bmy, .ref qa, .ref q6, .long hsh])), (qw, .inl ((vv_k x).2.1.1, 456, .inl (upd (upd (zer wf 342 114) (11 + 342) 20) (14 + 342) 100))), (qt, .inl ((vv_k x).2.1.1, 150, .inl tx))]) F fl_X8_96 dX8_read_13 rfl rfl rfl (Nat.le_of_ble_eq_true rfl) rfl ?_
  refine vv_iconst (v := 0) F dX8_read_16 (by decide) ?_
  refine vv_istore_n (lv' := [(1, .int 0), (0, .ref qm)]) F dX8_read_17 rfl (by decide) rfl ?_
  refine vv_aload_n F dX8_read_18 rfl rfl ?_
  refine vv_callV (As := []) (rest := []) [0, 2] 0 (ws' := [(qm, .inr (7, [.ref qw, .ref qk, .ref qt, .int txd, .long abv, .long blw, .ref qs, .int (nI (blk txd tx tt 0)), .int (nI (blk txd tx tt 0)), .int nbr, .ref qi, .ref qp, .ref qh, .ref qb, .int bmy, .ref qa, .ref q6, .long hsh])), (qw, .inl ((vv_k x).2.1.1, 456, .inl (upd (upd (zer wf 342 114) (11 + 342) 20) (14 + 342) 100))), (qt, .inl ((vv_k x).2.1.1, 150, .inl tx))]) F (c_X8_blanks (vv_l x) (vv_k x) qm qw qk qt txd abv blw qs 0 stp nbr qi qp qh qb bmy qa q6 hsh tx 0 tt (by decide : (0 : Int32).toInt = ((0 : Nat) : Int)) ht (by omega) (by omega)) mv_X8_105 dX8_read_19 (by decide) rfl rfl (Nat.le_of_ble_eq_true rfl) rfl (by decide) (Eq.trans (b := [qm, qt]) rfl rfl) rfl rfl ?_
  have h_1b := blk_le (tx := tx) (p := 0) ht htt (by omega)
  refine vv_iconst (v := 1) F dX8_read_22 (by decide) ?_
  refine vv_istore_n (lv' := [(2, .int 1), (1, .int 0), (0, .ref qm)]) F dX8_read_23 rfl (by decide) rfl ?_
  refine vv_lv (lv' := [(1, .int 0), (2, .int 1), (0, .ref qm)]) [1, 0, 2] rfl ?_
  have hcl := nI_cl (n := (blk txd tx tt 0)) (by omega)
  have hw0 : ((upd (upd (zer wf 342 114) (11 + 342) 20) (14 + 342) 100) 342) = 0 := by rw [pk_un (by omega), pk_un (by omega)]; exact if_pos ⟨by omega, by omega⟩
  have hok0 : ROk tt 0 (((nI (blk txd tx tt 0)), (nI (blk txd tx tt 0)), nbr, (upd (upd (zer wf 342 114) (11 + 342) 20) (14 + 342) 100)) : RS) := ⟨by show (nI (blk txd tx tt 0)).toInt = ((nI (blk txd tx tt 0)).toNatClampNeg : Int); rw [hcl]; exact nI_toInt (by omega), by show (nI (blk txd tx tt 0)).toNatClampNeg ≤ tt; omega, by show (nI (blk txd tx tt 0)).toInt = ((nI (blk txd tx tt 0)).toNatClampNeg : Int); rw [hcl]; exact nI_toInt (by omega), by omega, by show ((upd (upd (zer wf 342 114) (11 + 342) 20) (14 + 342) 100) 342).toInt = (((upd (upd (zer wf 342 114) (11 + 342) 20) (14 + 342) 100) 342).toNatClampNeg : Int); rw [hw0]; rfl, by show ((upd (upd (zer wf 342 114) (11 + 342) 20) (14 + 342) 100) 342).toNatClampNeg ≤ 5; rw [hw0]; decide⟩
  exact L_X8_read F qm qw qk qt txd abv blw qs qi qp qh qb bmy qa q6 hsh tx tt ht htt hR 151 0 (((nI (blk txd tx tt 0)), (nI (blk txd tx tt 0)), nbr, (upd (upd (zer wf 342 114) (11 + 342) 20) (14 + 342) 100)) : RS) rfl hok0 rfl rfl
