theorem brings_rng {n ln : Int32} (h0 : 0 ≤ n.toInt) (h1 : n.toInt ≤ 60) (h2 : 1 ≤ ln.toInt) (h3 : ln.toInt ≤ 60) : 0 ≤ (f_X8_bringsBy n ln).toInt ∧ (f_X8_bringsBy n ln).toInt ≤ 60 := by
  have c0 : (0 : Int32).toInt = 0 := rfl
  have c1 : (1 : Int32).toInt = 1 := rfl
  have e1 : (n + 1).toInt = n.toInt + 1 := by rw [ti_add (by rw [c1]; omega) (by rw [c1]; omega), c1]
  have e2 : (n + 1 - ln).toInt = n.toInt + 1 - ln.toInt := by rw [ti_sub (by rw [e1]; omega) (by rw [e1]; omega), e1]
  unfold f_X8_bringsBy
  split
  · rw [c0]; omega
  · rename_i z; rw [Int32.lt_iff_toInt_lt] at z; omega
theorem sc_term {c b1 b2 : Int32} (hc : 0 ≤ c.toInt ∧ c.toInt ≤ 10) (h1 : 0 ≤ b1.toInt ∧ b1.toInt ≤ 60) (h2 : 0 ≤ b2.toInt ∧ b2.toInt ≤ 60) : ∃ X : Nat, X ≤ 1200 ∧ c * b1 + (10 - c) * b2 = nI X := by
  have kc := nn_cl hc.1
  have k1 := nn_cl h1.1
  have k2 := nn_cl h2.1
  have p1 := Nat.mul_le_mul (show c.toNatClampNeg ≤ 10 by omega) (show b1.toNatClampNeg ≤ 60 by omega)
  have p2 := Nat.mul_le_mul (show 10 - c.toNatClampNeg ≤ 10 by omega) (show b2.toNatClampNeg ≤ 60 by omega)
  have m1 := nn_mul kc k1 (by omega)
  have s10 : (10 - c).toInt = ((10 - c.toNatClampNeg : Nat) : Int) := nn_sub (a := 10) (k := 10) rfl kc (by omega)
  have m2 := nn_mul s10 k2 (by omega)
  have a := nn_add m1 m2 (by omega)
  exact ⟨_, by omega, nn_eq a (by omega)⟩
theorem sc_sum {v : PV} {wf : Nat → Int32} (h : RP v wf) {c : Int32} (hc : 0 ≤ c.toInt ∧ c.toInt ≤ 10) : ∀ n, n ≤ v.nS.toNatClampNeg → ∃ W, W ≤ 1200 * n ∧ itr (st_X7_scissors v.ln v.nS v.fS c) n 0 0 = nI W ∧ itr (st_X8_scissors wf c) n 0 0 = lN W
  | 0, _ => ⟨0, by omega, by rw [itr_0]; rfl, by rw [itr_0]; rfl⟩
  | n + 1, hn => by
    obtain ⟨W, hW, e1, e2⟩ := sc_sum h hc n (by omega)
    have hS := h.2.1
    have h5 := hS.2.2.1
    have z1 : p_X7_within (nI n) 0 (v.nS - 1) := has_k' hS.2.1 (by omega) (by rw [nI_toInt (by omega)]; omega) (by rw [nI_toInt (by omega)]; omega)
    have hcell := (str_cell hS z1).2.1
    rw [nI_cl (by omega)] at hcell
    have hl := (hS.2.2.2 n (by omega)).2.2
    have hln : v.ln = wf 11 := h.1.1
    have hl1 := h.1.2.2.2.2.2.2.2.1
    have hl2 := h.1.2.2.2.2.2.2.2.2
    rw [hln] at hl1 hl2
    have c2 : (2 : Int32).toInt = 2 := rfl
    have ed : (wf (6 + n) / 2).toInt = (wf (6 + n)).toInt / 2 := ti_div (by omega) c2 (by omega)
    obtain ⟨X, hX, eX⟩ := sc_term hc (brings_rng (n := wf (6 + n) / 2) (by omega) (by omega) hl1 hl2) (brings_rng (n := wf (6 + n)) (by omega) (by omega) hl1 hl2)
    rw [itr_snoc, itr_snoc, e1, e2, Nat.zero_add]
    refine ⟨W + X, by omega, ?_, ?_⟩
    · unfold st_X7_scissors
      rw [hcell, brought_eq, brought_eq, hln, eX]; exact nI_add W X
    · unfold st_X8_scissors f_X8_bringsIn
      rw [show 6 + 0 + n = 6 + n by omega, show wf (11 + 0) = wf 11 from rfl, eX, nI_l (by omega)]; exact lN_add W X
theorem rem_nn {a b : Nat} (ha : a < 2147483648) (hb : b < 2147483648) (h0 : 0 < b) : vv_rem (nI a) (nI b) = nI (a % b) := by
  unfold vv_rem; exact pk_rem (by omega) h0 (by omega)
theorem nI_z {a : Nat} (ha : a < 2147483648) : nI a = 0 ↔ a = 0 := nI_eq (b := 0) ha (by decide)
theorem fr_step {W u : Nat} (hW : W < 100000) (h2 : 2 ≤ u) (hu : u ≤ 10) (s : Int32) : st_X7_setFraction (nI W) u s = if W % u = 0 ∧ 10 % u = 0 then nI u else s := by
  unfold st_X7_setFraction
  rw [show (10 : Int32) = nI 10 from rfl, rem_nn (by omega) (by omega) (by omega), rem_nn (by omega) (by omega) (by omega)]
  have l1 := Nat.mod_lt W (show 0 < u by omega)
  have l2 := Nat.mod_lt 10 (show 0 < u by omega)
  by_cases y : W % u = 0
  · by_cases z : 10 % u = 0
    · rw [if_pos ((nI_z (by omega)).mpr y), if_pos ((nI_z (by omega)).mpr z), if_pos ⟨y, z⟩]
    · rw [if_pos ((nI_z (by omega)).mpr y), if_neg (mt (nI_z (by omega)).mp z), if_neg (fun q => z q.2)]
  · rw [if_neg (mt (nI_z (by omega)).mp y), if_neg (fun q => y q.1)]
theorem fr_tab : ∀ r, r < 10 → (if r = 0 ∧ 10 % 10 = 0 then nI 10 else if r % 5 = 0 ∧ 10 % 5 = 0 then nI 5 else if r % 2 = 0 ∧ 10 % 2 = 0 then nI 2 else 1) = nI (Nat.gcd 10 r) := by decide +kernel
theorem fr_eq {W : Nat} (hW : W < 100000) : itr (st_X7_setFraction (nI W)) 9 2 1 = nI (Nat.gcd W 10) := by
  rw [show itr (st_X7_setFraction (nI W)) 9 2 1 = st_X7_setFraction (nI W) 10 (st_X7_setFraction (nI W) 9 (st_X7_setFraction (nI W) 8 (st_X7_setFraction (nI W) 7 (st_X7_setFraction (nI W) 6 (st_X7_setFraction (nI W) 5 (st_X7_setFraction (nI W) 4 (st_X7_setFraction (nI W) 3 (st_X7_setFraction (nI W) 2 1)))))))) from (itr_s (n := 8)).trans ((itr_s (n := 7)).trans ((itr_s (n := 6)).trans ((itr_s (n := 5)).trans ((itr_s (n := 4)).trans ((itr_s (n := 3)).trans ((itr_s (n := 2)).trans ((itr_s (n := 1)).trans ((itr_s (n := 0)).trans itr_0))))))))]
  rw [fr_step (u := 10) hW (by omega) (by omega), fr_step (u := 9) hW (by omega) (by omega), fr_step (u := 8) hW (by omega) (by omega), fr_step (u := 7) hW (by omega) (by omega), fr_step (u := 6) hW (by omega) (by omega), fr_step (u := 5) hW (by omega) (by omega), fr_step (u := 4) hW (by omega) (by omega), fr_step (u := 3) hW (by omega) (by omega), fr_step (u := 2) hW (by omega) (by omega)]
  have n9 : ¬ (W % 9 = 0 ∧ 10 % 9 = 0) := fun z => absurd z.2 (by decide)
  have n8 : ¬ (W % 8 = 0 ∧ 10 % 8 = 0) := fun z => absurd z.2 (by decide)
  have n7 : ¬ (W % 7 = 0 ∧ 10 % 7 = 0) := fun z => absurd z.2 (by decide)
  have n6 : ¬ (W % 6 = 0 ∧ 10 % 6 = 0) := fun z => absurd z.2 (by decide)
  have n4 : ¬ (W % 4 = 0 ∧ 10 % 4 = 0) := fun z => absurd z.2 (by decide)
  have n3 : ¬ (W % 3 = 0 ∧ 10 % 3 = 0) := fun z => absurd z.2 (by decide)
  rw [if_neg n9, if_neg n8, if_neg n7, if_neg n6, if_neg n4, if_neg n3, gcd_st W 10, show W % 5 = W % 10 % 5 by omega, show W % 2 = W % 10 % 2 by omega]
  exact fr_tab (W % 10) (Nat.mod_lt W (by decide))
theorem fr_div {a b : Nat} (ha : a < 2147483648) (hb : b < 2147483648) (h0 : 0 < b) : (nI a / nI b).toInt64 = lN a / lN b := by
  have d : (nI a / nI b).toInt = ((a / b : Nat) : Int) := by
    rw [ti_div (d := (b : Int)) (by rw [nI_toInt ha]; omega) (nI_toInt hb) (by omega), nI_toInt ha]; rfl
  have hle := Nat.div_le_self a b
  rw [i2l_nn d (by omega), pk_lDiv (by omega) (by omega) (by omega)]
theorem scis_eq {v : PV} {wf : Nat → Int32} (h : RP v wf) {c : Int32} (hc : 0 ≤ c.toInt ∧ c.toInt ≤ 10) : (itr (st_X7_scissors v.ln v.nS v.fS c) v.nS.toNatClampNeg 0 0).toNatClampNeg < 100000 ∧ itr (st_X8_scissors wf c) v.nS.toNatClampNeg 0 0 = lN (itr (st_X7_scissors v.ln v.nS v.fS c) v.nS.toNatClampNeg 0 0).toNatClampNeg ∧ ((itr (st_X7_scissors v.ln v.nS v.fS c) v.nS.toNatClampNeg 0 0) / (itr (st_X7_setFraction (itr (st_X7_scissors v.ln v.nS v.fS c) v.nS.toNatClampNeg 0 0)) 9 2 1)).toInt64 = lN (itr (st_X7_scissors v.ln v.nS v.fS c) v.nS.toNatClampNeg 0 0).toNatClampNeg / lN (Nat.gcd (itr (st_X7_scissors v.ln v.nS v.fS c) v.nS.toNatClampNeg 0 0).toNatClampNeg 10) ∧ (10 / (itr (st_X7_setFraction (itr (st_X7_scissors v.ln v.nS v.fS c) v.nS.toNatClampNeg 0 0)) 9 2 1)).toInt64 = 10 / lN (Nat.gcd (itr (st_X7_scissors v.ln v.nS v.fS c) v.nS.toNatClampNeg 0 0).toNatClampNeg 10) := by
  obtain ⟨W, hW, e1, e2⟩ := sc_sum h hc _ (Nat.le_refl _)
  have h5 := h.2.1.2.2.1
  have hg : 0 < Nat.gcd W 10 := Nat.gcd_pos_of_pos_right W (by decide)
  have hg2 : Nat.gcd W 10 ≤ 10 := Nat.gcd_le_right W (by decide)
  rw [e1, e2, nI_cl (by omega), fr_eq (by omega)]
  exact ⟨by omega, rfl, fr_div (by omega) (by omega) hg, fr_div (a := 10) (by omega) (by omega) hg⟩
theorem eq_scissors (a1 : Int32) (x : XV) (h : PV) (d : PV) (o : PV) (p : PV) (t : TV) (w : WV) (g : GV) (e : EV) (m : MV) (hI : Inv x h o p t m) : (f_X7_scissors a1) = (f_X8_scissors a1) ∧ Inv (x.k0, x.k1, g_X7_scissors_0_10 x.abv h.ln h.nS h.fS a1 h.nS.toNatClampNeg, g_X7_scissors_0_11 x.blw h.ln h.nS h.fS a1 h.nS.toNatClampNeg, g_X7_scissors_0_12 x.rb a1, x.rn, x.rf) h o p t (m.txd, g_X8_scissors_0_4 m.abv a1 ((itr (st_X7_scissors h.ln h.nS h.fS a1) h.nS.toNatClampNeg 0 0).toNatClampNeg), g_X8_scissors_0_5 m.blw a1 ((itr (st_X7_scissors h.ln h.nS h.fS a1) h.nS.toNatClampNeg 0 0).toNatClampNeg), m.atp, m.stp, m.nbr, m.bmy, m.hsh, m.wf, m.kp, m.tx, g_X8_scissors_2 m.ss a1, m.ti, m.pp, m.hh, m.bb, m.al, m.sx) := by
  obtain ⟨⟨i1, i2, i3, i4, i5, i6, i7⟩, ⟨t1, t2, t3, t4⟩, ⟨⟨l1, l2, l3, l4, l5, l6, l7, l8, l9⟩, ⟨w0, w1, w2, w3⟩, ⟨c0, c1, c2, c3⟩, ⟨n0, n1, n2, n3⟩, ⟨m0, m1, m2, m3⟩, ⟨u0, u1, u2, u3⟩⟩, o1, p1⟩ := id hI
  by_cases z1 : p_X7_within a1 0 10
  · have y1 : p_X8_in a1.toInt64 0 10 := (in_wi a1 0 10).mpr z1
    obtain ⟨-, -, q1, q2⟩ := scis_eq hI.2.2.1 (wi_rng (a := 0) (b := 10) (by decide) (by decide) z1)
    simp only [f_X7_scissors, g_X7_scissors_0_10, g_X7_scissors_0_11, g_X7_scissors_0_12, f_X8_scissors, g_X8_scissors_0_4, g_X8_scissors_0_5, g_X8_scissors_2, if_pos z1, if_pos y1]
    exact ⟨trivial, ⟨q1, q2, i3, i4, i5, i6, i7⟩, hI.2⟩
  · have y1 : ¬ p_X8_in a1.toInt64 0 10 := mt (in_wi a1 0 10).mp z1
    simp only [f_X7_scissors, g_X7_scissors_0_10, g_X7_scissors_0_11, g_X7_scissors_0_12, f_X8_scissors, g_X8_scissors_0_4, g_X8_scissors_0_5, g_X8_scissors_2, if_neg z1, if_neg y1]
    exact ⟨trivial, inv_bad hI⟩
