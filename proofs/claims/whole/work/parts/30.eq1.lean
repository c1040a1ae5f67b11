theorem vv_Cr {l : Launch} {K : vv_K} {d : Nat} {y : MethodName} {cc : ByteArray} {nL : Nat} {rt : Option FieldType} {as : List Value} {w w' : va_W} {r r' : Int32} (h : r = r') (c : vv_C l K d y cc nL rt as w (some (.int r')) w') : vv_C l K d y cc nL rt as w (some (.int r)) w' := h ▸ c
theorem vv_CrL {l : Launch} {K : vv_K} {d : Nat} {y : MethodName} {cc : ByteArray} {nL : Nat} {rt : Option FieldType} {as : List Value} {w w' : va_W} {r r' : Int64} (h : r = r') (c : vv_C l K d y cc nL rt as w (some (.long r')) w') : vv_C l K d y cc nL rt as w (some (.long r)) w' := h ▸ c
theorem has_iff {h : PV} {m : MV} (hw0 : h.nS = m.wf 0) (v : Int32) : p_X8_in v.toInt64 0 ((m.wf 0) - 1).toInt64 ↔ p_X7_within v 0 (h.nS - 1) := by
  rw [← hw0]; exact in_wi v 0 (h.nS - 1)
theorem cell_eq {n : Int32} {f : Nat → Int32} {i c : Int32} {k j : Nat} (hn : n.toInt = (k : Int)) (hi : 0 ≤ i.toInt ∧ i.toInt < k) (hc : c.toInt = (j : Int)) (hj : j < 4) : f_X3_cell n f i c = f (4 * i.toNatClampNeg + j) := by
  have e0 : (0 : Int32).toInt = 0 := rfl
  have e4 : (4 : Int32).toInt = 4 := rfl
  unfold f_X3_cell
  rw [if_neg (by rw [Int32.lt_iff_toInt_lt]; omega), if_neg (by rw [Int32.le_iff_toInt_le]; omega), if_neg (by rw [Int32.lt_iff_toInt_lt]; omega), if_pos (by rw [Int32.lt_iff_toInt_lt]; omega)]
  rw [show c.toNatClampNeg = j from by have := nn_cl (a := c) (by omega); omega]
theorem two_cases {v : Int32} (h : p_X7_within v 0 1) : v = 0 ∨ v = 1 := by
  have hr := wi_rng (a := 0) (b := 1) (by decide) (by decide) h
  have e0 : (0 : Int32).toInt = 0 := rfl
  have e1 : (1 : Int32).toInt = 1 := rfl
  by_cases z : v.toInt < 1
  · left; exact Int32.toInt_inj.mp (by omega)
  · right; exact Int32.toInt_inj.mp (by omega)
theorem put_n {n mx : Int32} {k j : Nat} (hn : n.toInt = (k : Int)) (hm : mx.toInt = (j : Int)) (h : k < j) (hj : j < 1000) : g_X3_put_0_2 mx n = n + 1 ∧ (n + 1).toInt = ((k + 1 : Nat) : Int) ∧ (n + 1).toNatClampNeg = k + 1 := by
  have e : (n + 1).toInt = ((k + 1 : Nat) : Int) := nn_add hn (by decide : (1 : Int32).toInt = ((1 : Nat) : Int)) (by omega)
  refine ⟨?_, e, ?_⟩
  · unfold g_X3_put_0_2; exact if_neg (fun z => z ((c_lt hn hm).mpr h))
  · have := nn_cl (a := n + 1) (by omega); omega
theorem full_iff {n mx : Int32} {k j : Nat} (hn : n.toInt = (k : Int)) (hm : mx.toInt = (j : Int)) (h : k ≤ j) : p_X3_isFull mx n ↔ n = mx := by
  show (¬ n < mx) ↔ n = mx
  rw [c_lt hn hm, c_eq hn hm]; omega
theorem eq_clear (x : XV) (h : PV) (d : PV) (o : PV) (p : PV) (t : TV) (w : WV) (g : GV) (e : EV) (m : MV) (hI : Inv x h o p t m) : t.tl = m.txd ∧ Inv x h o p (0, t.ts, t.tn, t.tk, t.tm, t.by_) (0, m.abv, m.blw, m.atp, m.stp, m.nbr, m.bmy, m.hsh, m.wf, m.kp, m.tx, m.ss, m.ti, m.pp, m.hh, m.bb, m.al, m.sx) := by
  obtain ⟨⟨i1, i2, i3, i4, i5, i6, i7⟩, ⟨t1, t2, t3, t4⟩, ⟨⟨l1, l2, l3, l4, l5, l6, l7, l8, l9⟩, ⟨w0, w1, w2, w3⟩, ⟨c0, c1, c2, c3⟩, ⟨n0, n1, n2, n3⟩, ⟨m0, m1, m2, m3⟩, ⟨u0, u1, u2, u3⟩⟩, o1, p1⟩ := id hI
  exact ⟨t1, ⟨i1, i2, i3, i4, i5, i6, i7⟩, ⟨rfl, rfl, (by decide : (0 : Int32).toNatClampNeg ≤ 150), fun i hi => absurd hi (Nat.not_lt_zero i)⟩, hI.2.2⟩
theorem eq_part (a1 : Int32) (x : XV) (h : PV) (d : PV) (o : PV) (p : PV) (t : TV) (w : WV) (g : GV) (e : EV) (m : MV) (hI : Inv x h o p t m) : (f_X7_part x.abv x.blw a1) = (f_X8_part m.abv m.blw a1) ∧ Inv (x.k0, x.k1, x.abv, x.blw, g_X7_part_0_12 x.rb a1, x.rn, x.rf) h o p t (m.txd, m.abv, m.blw, m.atp, m.stp, m.nbr, m.bmy, m.hsh, m.wf, m.kp, m.tx, g_X8_part_1 m.ss a1, m.ti, m.pp, m.hh, m.bb, m.al, m.sx) := by
  obtain ⟨⟨i1, i2, i3, i4, i5, i6, i7⟩, ⟨t1, t2, t3, t4⟩, ⟨⟨l1, l2, l3, l4, l5, l6, l7, l8, l9⟩, ⟨w0, w1, w2, w3⟩, ⟨c0, c1, c2, c3⟩, ⟨n0, n1, n2, n3⟩, ⟨m0, m1, m2, m3⟩, ⟨u0, u1, u2, u3⟩⟩, o1, p1⟩ := id hI
  by_cases z1 : p_X7_within a1 0 1
  · rcases two_cases z1 with rfl | rfl
    · simp only [f_X7_part, g_X7_part_0_12, f_X8_part, g_X8_part_1, if_pos z1]; exact ⟨i1, hI⟩
    · have e : ¬ (1 : Int32) = 0 := by decide
      simp only [f_X7_part, g_X7_part_0_12, f_X8_part, g_X8_part_1, if_pos z1, if_neg e]; exact ⟨i2, hI⟩
  · have n0 : ¬ a1 = 0 := fun z => z1 (by rw [z]; decide)
    have n1 : ¬ a1 = 1 := fun z => z1 (by rw [z]; decide)
    simp only [f_X7_part, g_X7_part_0_12, f_X8_part, g_X8_part_1, if_neg z1, if_neg n0, if_neg n1]; exact ⟨trivial, inv_bad hI⟩
theorem eq_status (a1 : Int32) (x : XV) (h : PV) (d : PV) (o : PV) (p : PV) (t : TV) (w : WV) (g : GV) (e : EV) (m : MV) (hI : Inv x h o p t m) : (f_X7_status x.rb x.rn x.rf a1) = (f_X8_status m.ss a1) ∧ Inv (x.k0, x.k1, x.abv, x.blw, g_X7_status_0_12 x.rb a1, x.rn, x.rf) h o p t (m.txd, m.abv, m.blw, m.atp, m.stp, m.nbr, m.bmy, m.hsh, m.wf, m.kp, m.tx, g_X8_status_1 m.ss a1, m.ti, m.pp, m.hh, m.bb, m.al, m.sx) := by
  obtain ⟨⟨i1, i2, i3, i4, i5, i6, i7⟩, ⟨t1, t2, t3, t4⟩, ⟨⟨l1, l2, l3, l4, l5, l6, l7, l8, l9⟩, ⟨w0, w1, w2, w3⟩, ⟨c0, c1, c2, c3⟩, ⟨n0, n1, n2, n3⟩, ⟨m0, m1, m2, m3⟩, ⟨u0, u1, u2, u3⟩⟩, o1, p1⟩ := id hI
  by_cases n0 : a1 = 0
  · subst n0; simp only [f_X7_status, g_X7_status_0_12, f_X8_status, g_X8_status_1, if_pos (by decide : p_X8_in (0 : Int32).toInt64 0 2)]; exact ⟨i3, hI⟩
  · by_cases n1 : a1 = 1
    · subst n1; simp only [f_X7_status, g_X7_status_0_12, f_X8_status, g_X8_status_1, if_pos (by decide : p_X8_in (1 : Int32).toInt64 0 2), if_neg n0]; exact ⟨i4, hI⟩
    · by_cases n2 : a1 = 2
      · subst n2; simp only [f_X7_status, g_X7_status_0_12, f_X8_status, g_X8_status_1, if_pos (by decide : p_X8_in (2 : Int32).toInt64 0 2), if_neg n0, if_neg n1]; exact ⟨i5, hI⟩
      · have y1 : ¬ p_X8_in a1.toInt64 0 2 := fun z => by
          have hr := in_rng (a := 0) (b := 2) (by decide) (by decide) z
          have e0 : ¬ a1.toInt = 0 := vv_ne n0
          have e1 : ¬ a1.toInt = 1 := vv_ne n1
          have e2 : ¬ a1.toInt = 2 := vv_ne n2
          omega
        simp only [f_X7_status, g_X7_status_0_12, f_X8_status, g_X8_status_1, if_neg n0, if_neg n1, if_neg n2, if_neg y1]; exact ⟨trivial, inv_bad hI⟩
theorem eq_count (a1 : Int32) (x : XV) (h : PV) (d : PV) (o : PV) (p : PV) (t : TV) (w : WV) (g : GV) (e : EV) (m : MV) (hI : Inv x h o p t m) : (f_X7_count h.nS h.nC h.nN h.nM h.nU t.tl a1) = (f_X8_count m.txd m.wf a1) ∧ Inv (x.k0, x.k1, x.abv, x.blw, g_X7_count_0_12 x.rb a1, x.rn, x.rf) h o p t (m.txd, m.abv, m.blw, m.atp, m.stp, m.nbr, m.bmy, m.hsh, m.wf, m.kp, m.tx, g_X8_count_2 m.ss a1, m.ti, m.pp, m.hh, m.bb, m.al, m.sx) := by
  obtain ⟨⟨i1, i2, i3, i4, i5, i6, i7⟩, ⟨t1, t2, t3, t4⟩, ⟨⟨l1, l2, l3, l4, l5, l6, l7, l8, l9⟩, ⟨w0, w1, w2, w3⟩, ⟨c0, c1, c2, c3⟩, ⟨n0, n1, n2, n3⟩, ⟨m0, m1, m2, m3⟩, ⟨u0, u1, u2, u3⟩⟩, o1, p1⟩ := id hI
  by_cases z1 : p_X7_within a1 0 5
  · have y1 : p_X8_in a1.toInt64 0 5 := (in_wi a1 0 5).mpr z1
    simp only [f_X7_count, g_X7_count_0_12, f_X8_count, g_X8_count_2, f_X7_howMany, f_X8_countOf, if_pos z1, if_pos y1, w0, c0, n0, m0, u0, t1]; exact ⟨trivial, hI⟩
  · have y1 : ¬ p_X8_in a1.toInt64 0 5 := mt (in_wi a1 0 5).mp z1
    simp only [f_X7_count, g_X7_count_0_12, f_X8_count, g_X8_count_2, if_neg z1, if_neg y1]
    exact ⟨trivial, inv_bad hI⟩
theorem sim_clear {l : Launch} {K : vv_K} {hx hm : Nat} : simI l K (vI K hx hm) hx hm yX7_clear cX7_clear 2 yX8_clear cX8_clear 2 [] := by
  rintro ws ⟨A, ah, ad, ao, ap, x, h, d, o, p, t, w, g, e, m, rfl, rfl, rfl, hI⟩
  obtain ⟨hcs, hcc, hcn, hcm, hcu, hcs5, hcc6, hcn6, hcm6, hcu8, hcN, hcC, hcO, hcM, hcU, ht, htt, ht8⟩ := inv_cnt hI
  obtain ⟨hr, hJ⟩ := eq_clear x h d o p t w g e m hI
  exact ⟨_, 1, 1, 0, 56, _, _, [0, 45], [56], _, _, _, _, by decide, by decide, c_X7_clear l K A.hX ah.hP ad.hP ao.hP ap.hP x.k0 x.k1 A.hE A.hW A.hG A.hT x.abv x.blw x.rb x.rn x.rf A.aE t.tl t.ts t.tn t.tk t.tm, rfl, rfl, rfl, rfl, vv_Cr hr (c_X8_clear l K A.qm A.qw A.qk A.qt m.txd m.abv m.blw A.qs m.atp m.stp m.nbr A.qi A.qp A.qh A.qb m.bmy A.qa A.q6 m.hsh), rfl, rfl, rfl, rfl, _, List.Perm.refl _, A, ah, ad, ao, ap, x, h, d, o, p, (0, t.ts, t.tn, t.tk, t.tm, t.by_), w, g, e, (0, m.abv, m.blw, m.atp, m.stp, m.nbr, m.bmy, m.hsh, m.wf, m.kp, m.tx, m.ss, m.ti, m.pp, m.hh, m.bb, m.al, m.sx), rfl, rfl, rfl, hJ⟩
theorem sim_part {l : Launch} {K : vv_K} {hx hm : Nat} (a1 : Int32) : simL l K (vI K hx hm) hx hm yX7_part cX7_part 2 yX8_part cX8_part 2 [.int a1] := by
  rintro ws ⟨A, ah, ad, ao, ap, x, h, d, o, p, t, w, g, e, m, rfl, rfl, rfl, hI⟩
  obtain ⟨hcs, hcc, hcn, hcm, hcu, hcs5, hcc6, hcn6, hcm6, hcu8, hcN, hcC, hcO, hcM, hcU, ht, htt, ht8⟩ := inv_cnt hI
  obtain ⟨hr, hJ⟩ := eq_part a1 x h d o p t w g e m hI
  exact ⟨_, 2, 2, 0, 56, _, _, [0], [56, 60], _, _, _, _, by decide, by decide, c_X7_part l K A.hX ah.hP ad.hP ao.hP ap.hP x.k0 x.k1 A.hE A.hW A.hG A.hT x.abv x.blw x.rb x.rn x.rf a1, rfl, rfl, rfl, rfl, vv_CrL hr (c_X8_part l K A.qm A.qw A.qk A.qt m.txd m.abv m.blw A.qs m.atp m.stp m.nbr A.qi A.qp A.qh A.qb m.bmy A.qa A.q6 m.hsh m.ss a1), rfl, rfl, rfl, rfl, _, List.Perm.refl _, A, ah, ad, ao, ap, (x.k0, x.k1, x.abv, x.blw, g_X7_part_0_12 x.rb a1, x.rn, x.rf), h, d, o, p, t, w, g, e, (m.txd, m.abv, m.blw, m.atp, m.stp, m.nbr, m.bmy, m.hsh, m.wf, m.kp, m.tx, g_X8_part_1 m.ss a1, m.ti, m.pp, m.hh, m.bb, m.al, m.sx), rfl, rfl, rfl, hJ⟩
theorem sim_status {l : Launch} {K : vv_K} {hx hm : Nat} (a1 : Int32) : simI l K (vI K hx hm) hx hm yX7_status cX7_status 2 yX8_status cX8_status 2 [.int a1] := by
  rintro ws ⟨A, ah, ad, ao, ap, x, h, d, o, p, t, w, g, e, m, rfl, rfl, rfl, hI⟩
  obtain ⟨hcs, hcc, hcn, hcm, hcu, hcs5, hcc6, hcn6, hcm6, hcu8, hcN, hcC, hcO, hcM, hcU, ht, htt, ht8⟩ := inv_cnt hI
  obtain ⟨hr, hJ⟩ := eq_status a1 x h d o p t w g e m hI
  exact ⟨_, 2, 3, 0, 56, _, _, [0], [56, 60], _, _, _, _, by decide, by decide, c_X7_status l K A.hX ah.hP ad.hP ao.hP ap.hP x.k0 x.k1 A.hE A.hW A.hG A.hT x.abv x.blw x.rb x.rn x.rf a1, rfl, rfl, rfl, rfl, vv_Cr hr (c_X8_status l K A.qm A.qw A.qk A.qt m.txd m.abv m.blw A.qs m.atp m.stp m.nbr A.qi A.qp A.qh A.qb m.bmy A.qa A.q6 m.hsh m.ss a1), rfl, rfl, rfl, rfl, _, List.Perm.refl _, A, ah, ad, ao, ap, (x.k0, x.k1, x.abv, x.blw, g_X7_status_0_12 x.rb a1, x.rn, x.rf), h, d, o, p, t, w, g, e, (m.txd, m.abv, m.blw, m.atp, m.stp, m.nbr, m.bmy, m.hsh, m.wf, m.kp, m.tx, g_X8_status_1 m.ss a1, m.ti, m.pp, m.hh, m.bb, m.al, m.sx), rfl, rfl, rfl, hJ⟩
theorem sim_count {l : Launch} {K : vv_K} {hx hm : Nat} (a1 : Int32) : simI l K (vI K hx hm) hx hm yX7_count cX7_count 2 yX8_count cX8_count 2 [.int a1] := by
  rintro ws ⟨A, ah, ad, ao, ap, x, h, d, o, p, t, w, g, e, m, rfl, rfl, rfl, hI⟩
  obtain ⟨hcs, hcc, hcn, hcm, hcu, hcs5, hcc6, hcn6, hcm6, hcu8, hcN, hcC, hcO, hcM, hcU, ht, htt, ht8⟩ := inv_cnt hI
  obtain ⟨hr, hJ⟩ := eq_count a1 x h d o p t w g e m hI
  exact ⟨_, 3, 3, 0, 56, _, _, [0, 1, 2, 4, 6, 8, 10, 45], [56, 57, 60], _, _, _, _, by decide, by decide, c_X7_count l K A.hX ah.hP ad.hP ao.hP ap.hP x.k0 x.k1 A.hE A.hW A.hG A.hT x.abv x.blw x.rb x.rn x.rf ah.hS ah.hC ah.hN ah.hM ah.hU h.ln h.hb h.ha h.pu h.hl h.sm h.hr ah.aS 5 h.nS ah.aC 6 h.nC ah.aN 6 h.nN ah.aM 6 h.nM ah.aU 8 h.nU A.aE t.tl t.ts t.tn t.tk t.tm a1, rfl, rfl, rfl, rfl, vv_Cr hr (c_X8_count l K A.qm A.qw A.qk A.qt m.txd m.abv m.blw A.qs m.atp m.stp m.nbr A.qi A.qp A.qh A.qb m.bmy A.qa A.q6 m.hsh m.wf m.ss a1), rfl, rfl, rfl, rfl, _, List.Perm.refl _, A, ah, ad, ao, ap, (x.k0, x.k1, x.abv, x.blw, g_X7_count_0_12 x.rb a1, x.rn, x.rf), h, d, o, p, t, w, g, e, (m.txd, m.abv, m.blw, m.atp, m.stp, m.nbr, m.bmy, m.hsh, m.wf, m.kp, m.tx, g_X8_count_2 m.ss a1, m.ti, m.pp, m.hh, m.bb, m.al, m.sx), rfl, rfl, rfl, hJ⟩
