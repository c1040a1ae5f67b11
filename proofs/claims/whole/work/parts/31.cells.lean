theorem lt_le_i {α : Type} (a b : Int32) (x y : α) : (if a < b then x else y) = (if b ≤ a then y else x) := by
  by_cases z : a < b
  · rw [if_pos z, if_neg (by rw [Int32.lt_iff_toInt_lt] at z; rw [Int32.le_iff_toInt_le]; omega)]
  · rw [if_neg z, if_pos (by rw [Int32.lt_iff_toInt_lt] at z; rw [Int32.le_iff_toInt_le]; omega)]
theorem show_eq (k n h : Int32) : f_X1_shown k n h = f_X8_showOf k n (vv_rem h 24) := by
  unfold f_X1_shown f_X8_showOf f_X8_silk
  generalize vv_rem h 24 = q
  rw [lt_le_i 10 n, lt_le_i 99 (2 * (n + 5))]
  by_cases z1 : q < 6
  · simp only [if_pos z1]
  · by_cases z2 : q < 18
    · simp only [if_neg z1, if_pos z2]
    · simp only [if_neg z1, if_neg z2]
theorem charge_eq (k s d : Int32) : f_X1_charged k s d = f_X8_chargeOf k s d := by
  unfold f_X1_charged f_X8_chargeOf f_X8_greedy
  rw [lt_le_i 25 ((s + 1) / 2 + s / 10)]
  by_cases z1 : s < 1
  · simp only [if_pos z1]
  · simp only [if_neg z1]
theorem brought_eq (n l : Int32) : f_X1_brought n l = f_X8_bringsBy n l := rfl
theorem zer_in {f : Nat → Int32} {b k j : Nat} (h1 : b ≤ j) (h2 : j < b + k) : zer f b k j = 0 := if_pos ⟨h1, h2⟩
theorem zer_out {f : Nat → Int32} {b k j : Nat} (h : j < b ∨ b + k ≤ j) : zer f b k j = f j := if_neg (by omega)
/-! a row of four -/
def rw4 (f : Nat → Int32) (k : Nat) (b0 b1 b2 b3 : Int32) : Nat → Int32 := upd (upd (upd (upd f (4 * k + 0) b0) (4 * k + 1) b1) (4 * k + 2) b2) (4 * k + 3) b3
theorem rw4_o {f : Nat → Int32} {k j : Nat} {b0 b1 b2 b3 : Int32} (h : j < 4 * k) : rw4 f k b0 b1 b2 b3 j = f j := by
  unfold rw4; rw [pk_un (by omega), pk_un (by omega), pk_un (by omega), pk_un (by omega)]
theorem rw4_0 {f : Nat → Int32} {k : Nat} {b0 b1 b2 b3 : Int32} : rw4 f k b0 b1 b2 b3 (4 * k + 0) = b0 := by
  unfold rw4; rw [pk_un (by omega), pk_un (by omega), pk_un (by omega), pk_us]
theorem rw4_1 {f : Nat → Int32} {k : Nat} {b0 b1 b2 b3 : Int32} : rw4 f k b0 b1 b2 b3 (4 * k + 1) = b1 := by
  unfold rw4; rw [pk_un (by omega), pk_un (by omega), pk_us]
theorem rw4_2 {f : Nat → Int32} {k : Nat} {b0 b1 b2 b3 : Int32} : rw4 f k b0 b1 b2 b3 (4 * k + 2) = b2 := by
  unfold rw4; rw [pk_un (by omega), pk_us]
theorem rw4_3 {f : Nat → Int32} {k : Nat} {b0 b1 b2 b3 : Int32} : rw4 f k b0 b1 b2 b3 (4 * k + 3) = b3 := by
  unfold rw4; rw [pk_us]
theorem put_f {n mx : Int32} {k j : Nat} (hn : n.toInt = (k : Int)) (hm : mx.toInt = (j : Int)) (h : k < j) (f : Nat → Int32) (b0 b1 b2 b3 : Int32) : g_X3_put_1 mx n f b0 b1 b2 b3 = rw4 f n.toNatClampNeg b0 b1 b2 b3 := by
  unfold g_X3_put_1; exact if_neg (fun z => z ((c_lt hn hm).mpr h))
theorem inc_n {n : Int32} {k : Nat} (hn : n.toInt = (k : Int)) (h : k < 1000) : (n + 1).toInt = (((n + 1).toNatClampNeg : Nat) : Int) ∧ (n + 1).toNatClampNeg = k + 1 := by
  have e : (n + 1).toInt = ((k + 1 : Nat) : Int) := nn_add hn (by decide : (1 : Int32).toInt = ((1 : Nat) : Int)) (by omega)
  have e2 := nn_cl (a := n + 1) (by omega)
  exact ⟨e2, by omega⟩
theorem RSt.put {n : Int32} {a f g : Nat → Int32} {b0 b1 b2 b3 : Int32} (h : RSt n a f) (hk : n.toNatClampNeg < 5) (g0 : g 0 = n + 1) (g1 : g (1 + n.toNatClampNeg) = b0) (g2 : g (6 + n.toNatClampNeg) = b1) (go : ∀ i, i < n.toNatClampNeg → g (1 + i) = f (1 + i) ∧ g (6 + i) = f (6 + i)) (hb : 1 ≤ b1.toInt ∧ b1.toInt ≤ 60) : RSt (n + 1) (rw4 a n.toNatClampNeg b0 b1 b2 b3) g := by
  obtain ⟨h1, h2, h3, h4⟩ := h
  obtain ⟨e1, e2⟩ := inc_n h2 (by omega)
  refine ⟨g0.symm, e1, by omega, fun i hi => ?_⟩
  by_cases z : i < n.toNatClampNeg
  · rw [rw4_o (by omega), rw4_o (by omega), (go i z).1, (go i z).2]; exact h4 i z
  · have e : i = n.toNatClampNeg := by omega
    subst e; rw [rw4_0, rw4_1, g1, g2]; exact ⟨rfl, rfl, hb⟩
theorem RCm.put {n : Int32} {a f g : Nat → Int32} {b0 b1 b2 b3 : Int32} (h : RCm n a f) (hk : n.toNatClampNeg < 6) (g0 : g 18 = n + 1) (g1 : g (19 + 2 * n.toNatClampNeg) = b0) (g2 : g (20 + 2 * n.toNatClampNeg) = b1) (go : ∀ i, i < n.toNatClampNeg → g (19 + 2 * i) = f (19 + 2 * i) ∧ g (20 + 2 * i) = f (20 + 2 * i)) : RCm (n + 1) (rw4 a n.toNatClampNeg b0 b1 b2 b3) g := by
  obtain ⟨h1, h2, h3, h4⟩ := h
  obtain ⟨e1, e2⟩ := inc_n h2 (by omega)
  refine ⟨g0.symm, e1, by omega, fun i hi => ?_⟩
  by_cases z : i < n.toNatClampNeg
  · rw [rw4_o (by omega), rw4_o (by omega), (go i z).1, (go i z).2]; exact h4 i z
  · have e : i = n.toNatClampNeg := by omega
    subst e; rw [rw4_0, rw4_1, g1, g2]; exact ⟨rfl, rfl⟩
theorem RNt.put {n : Int32} {a f g : Nat → Int32} {b0 b1 b2 b3 : Int32} (h : RNt n a f) (hk : n.toNatClampNeg < 6) (g0 : g 31 = n + 1) (g1 : g (32 + 4 * n.toNatClampNeg) = b0) (g2 : g (33 + 4 * n.toNatClampNeg) = b1) (g3 : g (34 + 4 * n.toNatClampNeg) = b2) (g4 : g (35 + 4 * n.toNatClampNeg) = b3) (go : ∀ i, i < n.toNatClampNeg → g (32 + 4 * i) = f (32 + 4 * i) ∧ g (33 + 4 * i) = f (33 + 4 * i) ∧ g (34 + 4 * i) = f (34 + 4 * i) ∧ g (35 + 4 * i) = f (35 + 4 * i)) (hb : 0 ≤ b2.toInt ∧ b2.toInt ≤ 23) : RNt (n + 1) (rw4 a n.toNatClampNeg b0 b1 b2 b3) g := by
  obtain ⟨h1, h2, h3, h4⟩ := h
  obtain ⟨e1, e2⟩ := inc_n h2 (by omega)
  refine ⟨g0.symm, e1, by omega, fun i hi => ?_⟩
  by_cases z : i < n.toNatClampNeg
  · rw [rw4_o (by omega), rw4_o (by omega), rw4_o (by omega), rw4_o (by omega), (go i z).1, (go i z).2.1, (go i z).2.2.1, (go i z).2.2.2]; exact h4 i z
  · have e : i = n.toNatClampNeg := by omega
    subst e; rw [rw4_0, rw4_1, rw4_2, rw4_3, g1, g2, g3, g4]; exact ⟨rfl, rfl, rfl, rfl, hb⟩
theorem RMk.put {n : Int32} {a f g : Nat → Int32} {b0 b1 b2 b3 : Int32} (h : RMk n a f) (hk : n.toNatClampNeg < 6) (g0 : g 56 = n + 1) (g1 : g (57 + 4 * n.toNatClampNeg) = b0) (g2 : g (58 + 4 * n.toNatClampNeg) = b1) (g3 : g (59 + 4 * n.toNatClampNeg) = b2) (g4 : g (60 + 4 * n.toNatClampNeg) = b3) (go : ∀ i, i < n.toNatClampNeg → g (57 + 4 * i) = f (57 + 4 * i) ∧ g (58 + 4 * i) = f (58 + 4 * i) ∧ g (59 + 4 * i) = f (59 + 4 * i) ∧ g (60 + 4 * i) = f (60 + 4 * i)) : RMk (n + 1) (rw4 a n.toNatClampNeg b0 b1 b2 b3) g := by
  obtain ⟨h1, h2, h3, h4⟩ := h
  obtain ⟨e1, e2⟩ := inc_n h2 (by omega)
  refine ⟨g0.symm, e1, by omega, fun i hi => ?_⟩
  by_cases z : i < n.toNatClampNeg
  · rw [rw4_o (by omega), rw4_o (by omega), rw4_o (by omega), rw4_o (by omega), (go i z).1, (go i z).2.1, (go i z).2.2.1, (go i z).2.2.2]; exact h4 i z
  · have e : i = n.toNatClampNeg := by omega
    subst e; rw [rw4_0, rw4_1, rw4_2, rw4_3, g1, g2, g3, g4]; exact ⟨rfl, rfl, rfl, rfl⟩
theorem RUn.put {n : Int32} {a f g : Nat → Int32} {b0 b1 b2 b3 : Int32} (h : RUn n a f) (hk : n.toNatClampNeg < 8) (g0 : g 81 = n + 1) (g1 : g (82 + 4 * n.toNatClampNeg) = b0) (g2 : g (83 + 4 * n.toNatClampNeg) = b1) (g3 : g (84 + 4 * n.toNatClampNeg) = b2) (g4 : g (85 + 4 * n.toNatClampNeg) = b3) (go : ∀ i, i < n.toNatClampNeg → g (82 + 4 * i) = f (82 + 4 * i) ∧ g (83 + 4 * i) = f (83 + 4 * i) ∧ g (84 + 4 * i) = f (84 + 4 * i) ∧ g (85 + 4 * i) = f (85 + 4 * i)) : RUn (n + 1) (rw4 a n.toNatClampNeg b0 b1 b2 b3) g := by
  obtain ⟨h1, h2, h3, h4⟩ := h
  obtain ⟨e1, e2⟩ := inc_n h2 (by omega)
  refine ⟨g0.symm, e1, by omega, fun i hi => ?_⟩
  by_cases z : i < n.toNatClampNeg
  · rw [rw4_o (by omega), rw4_o (by omega), rw4_o (by omega), rw4_o (by omega), (go i z).1, (go i z).2.1, (go i z).2.2.1, (go i z).2.2.2]; exact h4 i z
  · have e : i = n.toNatClampNeg := by omega
    subst e; rw [rw4_0, rw4_1, rw4_2, rw4_3, g1, g2, g3, g4]; exact ⟨rfl, rfl, rfl, rfl⟩
/-! other rows with the same first cells -/
theorem RSt.ca {n : Int32} {a b f : Nat → Int32} (h : RSt n a f) (e : ∀ i, i < 32 → b i = a i) : RSt n b f := by
  obtain ⟨h1, h2, h3, h4⟩ := h
  refine ⟨h1, h2, h3, fun i hi => ?_⟩
  rw [e _ (by omega), e _ (by omega)]; exact h4 i hi
theorem RCm.ca {n : Int32} {a b f : Nat → Int32} (h : RCm n a f) (e : ∀ i, i < 32 → b i = a i) : RCm n b f := by
  obtain ⟨h1, h2, h3, h4⟩ := h
  refine ⟨h1, h2, h3, fun i hi => ?_⟩
  rw [e _ (by omega), e _ (by omega)]; exact h4 i hi
theorem RNt.ca {n : Int32} {a b f : Nat → Int32} (h : RNt n a f) (e : ∀ i, i < 32 → b i = a i) : RNt n b f := by
  obtain ⟨h1, h2, h3, h4⟩ := h
  refine ⟨h1, h2, h3, fun i hi => ?_⟩
  rw [e _ (by omega), e _ (by omega), e _ (by omega), e _ (by omega)]; exact h4 i hi
theorem RMk.ca {n : Int32} {a b f : Nat → Int32} (h : RMk n a f) (e : ∀ i, i < 32 → b i = a i) : RMk n b f := by
  obtain ⟨h1, h2, h3, h4⟩ := h
  refine ⟨h1, h2, h3, fun i hi => ?_⟩
  rw [e _ (by omega), e _ (by omega), e _ (by omega), e _ (by omega)]; exact h4 i hi
theorem RUn.ca {n : Int32} {a b f : Nat → Int32} (h : RUn n a f) (e : ∀ i, i < 32 → b i = a i) : RUn n b f := by
  obtain ⟨h1, h2, h3, h4⟩ := h
  refine ⟨h1, h2, h3, fun i hi => ?_⟩
  rw [e _ (by omega), e _ (by omega), e _ (by omega), e _ (by omega)]; exact h4 i hi
theorem RP.cp {v u : PV} {f : Nat → Int32} (h : RP v f) : RP (v.ln, v.hb, v.ha, v.pu, v.hl, v.sm, v.hr, v.nS, v.nC, v.nN, v.nM, v.nU, va_cpy v.fS u.fS 0 0 32, va_cpy v.fC u.fC 0 0 32, va_cpy v.fN u.fN 0 0 32, va_cpy v.fM u.fM 0 0 32, va_cpy v.fU u.fU 0 0 32) f :=
  ⟨h.1, h.2.1.ca fun i hi => sb_cpy0 hi, h.2.2.1.ca fun i hi => sb_cpy0 hi, h.2.2.2.1.ca fun i hi => sb_cpy0 hi, h.2.2.2.2.1.ca fun i hi => sb_cpy0 hi, h.2.2.2.2.2.ca fun i hi => sb_cpy0 hi⟩
/-! strings, what they show and cost -/
theorem has_k {n i : Int32} {k : Nat} (hn : n.toInt = (k : Int)) (hk : k < 1000) (z : p_X7_within i 0 (n - 1)) : 0 ≤ i.toInt ∧ i.toInt < k ∧ i.toNatClampNeg < k := by
  have e1 : (1 : Int32).toInt = 1 := rfl
  have e : (n - 1).toInt = (k : Int) - 1 := by
    rw [ti_sub (by rw [hn, e1]; omega) (by rw [hn, e1]; omega), hn, e1]
  have hr := wi_rng (a := 0) (b := (k : Int) - 1) rfl e z
  have h3 := nn_cl (a := i) hr.1
  omega
theorem has_k' {n i : Int32} {k : Nat} (hn : n.toInt = (k : Int)) (hk : k < 1000) (z : 0 ≤ i.toInt) (z2 : i.toInt < k) : p_X7_within i 0 (n - 1) := by
  have e1 : (1 : Int32).toInt = 1 := rfl
  have e0 : (0 : Int32).toInt = 0 := rfl
  have e : (n - 1).toInt = (k : Int) - 1 := by
    rw [ti_sub (by rw [hn, e1]; omega) (by rw [hn, e1]; omega), hn, e1]
  refine ⟨fun q => ?_, fun q => ?_⟩
  · rw [Int32.lt_iff_toInt_lt] at q; omega
  · rw [Int32.lt_iff_toInt_lt] at q; omega
theorem str_cell {n : Int32} {a f : Nat → Int32} (h : RSt n a f) {i : Int32} (z : p_X7_within i 0 (n - 1)) : f_X3_cell n a i 0 = f (1 + i.toNatClampNeg) ∧ f_X3_cell n a i 1 = f (6 + i.toNatClampNeg) ∧ i.toNatClampNeg < n.toNatClampNeg := by
  obtain ⟨h1, h2, h3, h4⟩ := h
  obtain ⟨k1, k2, k3⟩ := has_k h2 (by omega) z
  refine ⟨?_, ?_, k3⟩
  · rw [cell_eq h2 ⟨k1, k2⟩ (by decide : (0 : Int32).toInt = ((0 : Nat) : Int)) (by decide)]; exact (h4 _ k3).1
  · rw [cell_eq h2 ⟨k1, k2⟩ (by decide : (1 : Int32).toInt = ((1 : Nat) : Int)) (by decide)]; exact (h4 _ k3).2.1
theorem shown_eq {v : PV} {wf : Nat → Int32} {r : Nat} (h : RP v (fun i => wf (r + i))) {i : Int32} (z : p_X7_within i 0 (v.nS - 1)) (t : Int32) : f_X2_shownIn v.hr v.nS v.fS i t = f_X8_showsIn wf (v.hr + t) r i.toNatClampNeg := by
  obtain ⟨c1, c2, -⟩ := str_cell h.2.1 z
  unfold f_X2_shownIn f_X8_showsIn
  rw [show_eq, c1, c2]
  show f_X8_showOf (wf (r + (1 + i.toNatClampNeg))) (wf (r + (6 + i.toNatClampNeg))) _ = _
  rw [show r + (1 + i.toNatClampNeg) = 1 + r + i.toNatClampNeg by omega, show r + (6 + i.toNatClampNeg) = 6 + r + i.toNatClampNeg by omega]
theorem cost_eq {v : PV} {wf : Nat → Int32} {r : Nat} (h : RP v (fun i => wf (r + i))) {i : Int32} (z : p_X7_within i 0 (v.nS - 1)) (t : Int32) : f_X2_costIn v.hb v.ha v.hr v.nS v.fS i t = f_X8_costIn wf (v.hr + t) r i.toNatClampNeg := by
  unfold f_X2_costIn f_X2_tollOn f_X8_costIn
  rw [shown_eq h z t, charge_eq, charge_eq, h.1.2.1, h.1.2.2.1]
  show f_X8_chargeOf (wf (r + 12)) _ _ + f_X8_chargeOf (wf (r + 13)) _ _ = _
  rw [Nat.add_comm r 12, Nat.add_comm r 13]
theorem bring_eq {v : PV} {wf : Nat → Int32} {r : Nat} (h : RP v (fun i => wf (r + i))) {i : Int32} (z : p_X7_within i 0 (v.nS - 1)) : f_X1_brought (f_X3_cell v.nS v.fS i 1) v.ln = f_X8_bringsIn wf r i.toNatClampNeg := by
  obtain ⟨c1, c2, -⟩ := str_cell h.2.1 z
  unfold f_X8_bringsIn
  rw [brought_eq, c2, h.1.1]
  show f_X8_bringsBy (wf (r + (6 + i.toNatClampNeg))) (wf (r + 11)) = _
  rw [show r + (6 + i.toNatClampNeg) = 6 + r + i.toNatClampNeg by omega, show r + 11 = 11 + r by omega]
theorem RP.r0 {v : PV} {f : Nat → Int32} (h : RP v f) : RP v (fun i => f (0 + i)) := h.cg fun i _ => by show f (0 + i) = f i; rw [Nat.zero_add]
/-! what is minded -/
theorem minds_o {wf : Nat → Int32} {c i : Nat} (hc : c ≤ 8) (h0 : wf 81 = 8 → c = 8) (h1 : ¬ wf 81 = 8 → c < 8) (hi : i < 81 ∨ 114 ≤ i) : g_X8_minds_1 wf c i = wf i := by
  unfold g_X8_minds_1
  by_cases z : wf 81 = 8
  · have e := h0 z
    rw [if_pos z, pk_un (by omega), pk_un (by omega), pk_un (by omega), pk_un (by omega), pk_un (by omega), pk_un (by omega), pk_cpy_out (by omega)]
  · have e := h1 z
    rw [if_neg z, pk_un (by omega), pk_un (by omega), pk_un (by omega), pk_un (by omega), pk_un (by omega)]
theorem minds_c {n : Int32} {a f : Nat → Int32} (h : RUn n a f) : (f 81 = 8 → n.toNatClampNeg = 8) ∧ (¬ f 81 = 8 → n.toNatClampNeg < 8) := by
  obtain ⟨h1, h2, h3, h4⟩ := h
  have e8 : (8 : Int32).toInt = 8 := rfl
  refine ⟨fun z => ?_, fun z => ?_⟩
  · have : n.toInt = 8 := by rw [h1, z]; rfl
    omega
  · rw [← h1] at z
    have := vv_ne z
    omega
theorem minds_u {v : PV} {f : Nat → Int32} (h : RP v f) : RUn (g_X2_remember_1_2 8 v.nU) (g_X2_remember_2 v.pu v.hl v.sm v.hr 8 v.nU v.fU v.nU.toNatClampNeg) (g_X8_minds_1 f v.nU.toNatClampNeg) := by
  obtain ⟨⟨-, -, -, l4, l5, l6, l7, -⟩, -, -, -, -, hU⟩ := h
  obtain ⟨d1, d2⟩ := minds_c hU
  obtain ⟨h1, h2, h3, h4⟩ := id hU
  have e8 : (8 : Int32).toInt = ((8 : Nat) : Int) := rfl
  have e1 : (1 : Int32).toInt = ((1 : Nat) : Int) := rfl
  by_cases z : f 81 = 8
  · have e := d1 z
    have en : v.nU = 8 := h1.trans z
    have ef : p_X3_isFull 8 v.nU := by rw [en]; decide
    have ed : g_X3_dropFirst_0_2 v.nU = 7 := by rw [en]; unfold g_X3_dropFirst_0_2; rw [if_neg (by decide)]; decide
    have e7 : (7 : Int32).toInt = ((7 : Nat) : Int) := rfl
    have e7c : (7 : Int32).toNatClampNeg = 7 := by decide
    have e71 : (7 : Int32) + 1 = 8 := by decide
    have q1 : g_X2_remember_1_2 8 v.nU = 8 := by
      unfold g_X2_remember_1_2; rw [if_pos ef, ed, (put_n e7 e8 (by decide) (by decide)).1]; exact e71
    have q2 : g_X2_remember_2 v.pu v.hl v.sm v.hr 8 v.nU v.fU v.nU.toNatClampNeg = rw4 (va_cpy v.fU v.fU 4 0 28) 7 v.pu v.hl v.sm v.hr := by
      unfold g_X2_remember_2; rw [if_pos ef, ed, put_f e7 e8 (by decide), e7c]
      unfold g_X3_dropFirst_1; rw [if_neg (by rw [en]; decide), e]
    rw [q1, q2, e]
    refine ⟨?_, by decide, by decide, fun i hi => ?_⟩
    · unfold g_X8_minds_1; rw [if_pos z, pk_us, z]; decide
    · have c8 : (8 : Int32).toNatClampNeg = 8 := by decide
      have hi8 : i < 8 := by omega
      unfold g_X8_minds_1; rw [if_pos z]
      by_cases zi : i < 7
      · have hh := h4 (i + 1) (by omega)
        have cp : ∀ j, j < 28 → va_cpy v.fU v.fU 4 0 28 j = v.fU (j + 4) := fun j hj => by rw [pk_cpy_in (by omega) (by omega), show 4 + (j - 0) = j + 4 by omega]
        have cq : ∀ j, 82 ≤ j → j < 110 → upd (upd (upd (upd (upd (upd (va_cpy f f 86 82 28) 81 (f 81 - 1)) (78 + 4 * 8) (va_cpy f f 86 82 28 14)) (79 + 4 * 8) (va_cpy f f 86 82 28 15)) (80 + 4 * 8) (va_cpy f f 86 82 28 16)) (81 + 4 * 8) (va_cpy f f 86 82 28 17)) 81 (f 81 - 1 + 1) j = f (j + 4) := fun j h1 h2 => by
          rw [pk_un (by omega), pk_un (by omega), pk_un (by omega), pk_un (by omega), pk_un (by omega), pk_un (by omega), pk_cpy_in (by omega) (by omega), show 86 + (j - 82) = j + 4 by omega]
        rw [rw4_o (by omega), rw4_o (by omega), rw4_o (by omega), rw4_o (by omega), cp _ (by omega), cp _ (by omega), cp _ (by omega), cp _ (by omega), cq _ (by omega) (by omega), cq _ (by omega) (by omega), cq _ (by omega) (by omega), cq _ (by omega) (by omega)]
        rw [show 4 * i + 0 + 4 = 4 * (i + 1) + 0 by omega, show 4 * i + 1 + 4 = 4 * (i + 1) + 1 by omega, show 4 * i + 2 + 4 = 4 * (i + 1) + 2 by omega, show 4 * i + 3 + 4 = 4 * (i + 1) + 3 by omega, show 82 + 4 * i + 4 = 82 + 4 * (i + 1) by omega, show 83 + 4 * i + 4 = 83 + 4 * (i + 1) by omega, show 84 + 4 * i + 4 = 84 + 4 * (i + 1) by omega, show 85 + 4 * i + 4 = 85 + 4 * (i + 1) by omega]
        exact hh
      · have ei : i = 7 := by omega
        subst ei
        refine ⟨?_, ?_, ?_, ?_⟩
        · rw [rw4_0]; exact l4
        · rw [rw4_1]; exact l5
        · rw [rw4_2]; exact l6
        · rw [rw4_3]; exact l7
  · have e := d2 z
    have ef : ¬ p_X3_isFull 8 v.nU := fun q => q ((c_lt h2 e8).mpr e)
    have q1 : g_X2_remember_1_2 8 v.nU = v.nU + 1 := by
      unfold g_X2_remember_1_2; rw [if_neg ef, (put_n h2 e8 e (by decide)).1]
    have q2 : g_X2_remember_2 v.pu v.hl v.sm v.hr 8 v.nU v.fU v.nU.toNatClampNeg = rw4 v.fU v.nU.toNatClampNeg v.pu v.hl v.sm v.hr := by
      unfold g_X2_remember_2; rw [if_neg ef, put_f h2 e8 e]
    rw [q1, q2]
    unfold g_X8_minds_1; rw [if_neg z]
    refine RUn.put hU e ?_ ?_ ?_ ?_ ?_ ?_
    · rw [pk_us, h1]
    · rw [pk_un (by omega), pk_un (by omega), pk_un (by omega), pk_un (by omega), pk_us]; exact l4.symm
    · rw [pk_un (by omega), pk_un (by omega), pk_un (by omega), pk_us]; exact l5.symm
    · rw [pk_un (by omega), pk_un (by omega), pk_us]; exact l6.symm
    · rw [pk_un (by omega), pk_us]; exact l7.symm
    · intro i hi
      refine ⟨?_, ?_, ?_, ?_⟩ <;> rw [pk_un (by omega), pk_un (by omega), pk_un (by omega), pk_un (by omega), pk_un (by omega)]
/-- behind minding, all but the minded is as it was -/
theorem minds_r {v : PV} {f : Nat → Int32} (h : RP v f) : RP (v.ln, v.hb, v.ha, v.pu, v.hl, v.sm, v.hr, v.nS, v.nC, v.nN, v.nM, g_X2_remember_1_2 8 v.nU, v.fS, v.fC, v.fN, v.fM, g_X2_remember_2 v.pu v.hl v.sm v.hr 8 v.nU v.fU v.nU.toNatClampNeg) (g_X8_minds_1 f v.nU.toNatClampNeg) := by
  obtain ⟨d1, d2⟩ := minds_c h.2.2.2.2.2
  have o : ∀ i, i < 81 ∨ 114 ≤ i → g_X8_minds_1 f v.nU.toNatClampNeg i = f i := fun i hi => minds_o h.2.2.2.2.2.2.2.1 d1 d2 hi
  exact ⟨h.1.cg fun i _ _ => o i (by omega), h.2.1.cg fun i _ => o i (by omega), h.2.2.1.cg fun i _ _ => o i (by omega), h.2.2.2.1.cg fun i _ _ => o i (by omega), h.2.2.2.2.1.cg fun i _ _ => o i (by omega), minds_u h⟩
theorem minds_s {v : PV} {f : Nat → Int32} (h : RP v f) (i : Nat) (hi : i < 81 ∨ 114 ≤ i) : g_X8_minds_1 f v.nU.toNatClampNeg i = f i := by
  obtain ⟨d1, d2⟩ := minds_c h.2.2.2.2.2
  exact minds_o h.2.2.2.2.2.2.2.1 d1 d2 hi
/-! a sending -/
theorem sent_o {wf : Nat → Int32} {r ii i : Nat} (hi : i < 14 + r ∨ 18 + r ≤ i) : g_X8_isSent_1 wf r ii i = wf i := by
  unfold g_X8_isSent_1; split <;> rw [pk_un (by omega), pk_un (by omega), pk_un (by omega), pk_un (by omega)]
theorem sent_14 {wf : Nat → Int32} {r ii : Nat} : g_X8_isSent_1 wf r ii (14 + r) = wf (14 + r) - f_X8_costIn wf (wf (17 + r)) r ii := by
  unfold g_X8_isSent_1; split <;> rw [pk_un (by omega), pk_un (by omega), pk_un (by omega), pk_us]
theorem sent_15 {wf : Nat → Int32} {r ii : Nat} (hii : ii < 5) : g_X8_isSent_1 wf r ii (15 + r) = wf (15 + r) + f_X8_bringsIn wf r ii := by
  have e : ∀ y, f_X8_bringsIn (upd wf (14 + r) y) r ii = f_X8_bringsIn wf r ii := fun y => by
    unfold f_X8_bringsIn; rw [pk_un (by omega), pk_un (by omega)]
  unfold g_X8_isSent_1; split <;> rw [pk_un (by omega), pk_un (by omega), pk_us, e]
theorem sent_16 {wf : Nat → Int32} {r ii : Nat} (hii : ii < 5) : g_X8_isSent_1 wf r ii (16 + r) = if f_X8_chargeOf (wf (13 + r)) (f_X8_showsIn wf (wf (17 + r)) r ii) (wf (17 + r) / 24) ≤ 0 then wf (16 + r) else wf (16 + r) + 1 := by
  have e : ∀ y z q, f_X8_showsIn (upd (upd wf (14 + r) y) (15 + r) z) q r ii = f_X8_showsIn wf q r ii := fun y z q => by
    unfold f_X8_showsIn; rw [pk_un (by omega), pk_un (by omega), pk_un (by omega), pk_un (by omega)]
  unfold g_X8_isSent_1; rw [e]
  split
  · rw [pk_un (by omega), pk_us, Int32.add_zero]
  · rw [pk_un (by omega), pk_us]
theorem sent_17 {wf : Nat → Int32} {r ii : Nat} : g_X8_isSent_1 wf r ii (17 + r) = wf (17 + r) + 1 := by
  unfold g_X8_isSent_1; split <;> rw [pk_us]
theorem sent_r {v : PV} {wf : Nat → Int32} {r : Nat} (h : RP v (fun i => wf (r + i))) {i : Int32} (z : p_X7_within i 0 (v.nS - 1)) (hc : f_X2_costIn v.hb v.ha v.hr v.nS v.fS i 0 ≤ v.pu) : RP (v.ln, v.hb, v.ha, g_X2_sendString_0_3 v.hb v.ha v.pu v.hr v.nS v.fS i, g_X2_sendString_0_4 v.ln v.hb v.ha v.pu v.hl v.hr v.nS v.fS i, g_X2_sendString_0_5 v.hb v.ha v.pu v.sm v.hr v.nS v.fS i, g_X2_sendString_0_6 v.hb v.ha v.pu v.hr v.nS v.fS i, v.nS, v.nC, v.nN, v.nM, v.nU, v.fS, v.fC, v.fN, v.fM, v.fU) (fun j => g_X8_isSent_1 wf r i.toNatClampNeg (r + j)) := by
  obtain ⟨-, -, hk⟩ := str_cell h.2.1 z
  have hk5 := h.2.1.2.2.1
  have e0 : v.hr + 0 = v.hr := Int32.add_zero _
  have hs : f_X2_shownIn v.hr v.nS v.fS i 0 = f_X8_showsIn wf v.hr r i.toNatClampNeg := by rw [shown_eq h z, e0]
  have hcc : f_X2_costIn v.hb v.ha v.hr v.nS v.fS i 0 = f_X8_costIn wf v.hr r i.toNatClampNeg := by rw [cost_eq h z, e0]
  have ht : f_X2_tollOn v.hb v.ha (f_X2_shownIn v.hr v.nS v.fS i 0) v.hr = f_X8_costIn wf v.hr r i.toNatClampNeg := by
    rw [← hcc]; unfold f_X2_costIn; rw [e0]
  have hb := bring_eq h z
  have hp : f_X8_costIn wf v.hr r i.toNatClampNeg ≤ v.pu := by rw [← hcc]; exact hc
  obtain ⟨⟨l1, l2, l3, l4, l5, l6, l7, l8, l9⟩, hS, hC, hN, hM, hU⟩ := h
  have e17 : wf (17 + r) = v.hr := by rw [l7, Nat.add_comm]
  have e14 : wf (14 + r) = v.pu := by rw [l4, Nat.add_comm]
  have e15 : wf (15 + r) = v.hl := by rw [l5, Nat.add_comm]
  have e16 : wf (16 + r) = v.sm := by rw [l6, Nat.add_comm]
  have e13 : wf (13 + r) = v.ha := by rw [l3, Nat.add_comm]
  have o : ∀ j, j < 14 ∨ 18 ≤ j → g_X8_isSent_1 wf r i.toNatClampNeg (r + j) = wf (r + j) := fun j hj => sent_o (by omega)
  refine ⟨⟨?_, ?_, ?_, ?_, ?_, ?_, ?_, l8, l9⟩, hS.cg fun j hj => o j (by omega), hC.cg fun j h1 h2 => o j (by omega), hN.cg fun j h1 h2 => o j (by omega), hM.cg fun j h1 h2 => o j (by omega), hU.cg fun j h1 h2 => o j (by omega)⟩
  · show v.ln = g_X8_isSent_1 wf r i.toNatClampNeg (r + 11); rw [o 11 (by omega)]; exact l1
  · show v.hb = g_X8_isSent_1 wf r i.toNatClampNeg (r + 12); rw [o 12 (by omega)]; exact l2
  · show v.ha = g_X8_isSent_1 wf r i.toNatClampNeg (r + 13); rw [o 13 (by omega)]; exact l3
  · show g_X2_sendString_0_3 v.hb v.ha v.pu v.hr v.nS v.fS i = g_X8_isSent_1 wf r i.toNatClampNeg (r + 14)
    rw [Nat.add_comm r 14, sent_14, e17, e14]; unfold g_X2_sendString_0_3; rw [ht, if_pos hp]; exact ite_self _
  · show g_X2_sendString_0_4 v.ln v.hb v.ha v.pu v.hl v.hr v.nS v.fS i = g_X8_isSent_1 wf r i.toNatClampNeg (r + 15)
    rw [Nat.add_comm r 15, sent_15 (by omega), e15]; unfold g_X2_sendString_0_4; rw [ht, if_pos hp, hb]; exact ite_self _
  · show g_X2_sendString_0_5 v.hb v.ha v.pu v.sm v.hr v.nS v.fS i = g_X8_isSent_1 wf r i.toNatClampNeg (r + 16)
    rw [Nat.add_comm r 16, sent_16 (by omega), e17, e16, e13]; unfold g_X2_sendString_0_5; rw [ht, if_pos hp, hs, charge_eq]
  · show g_X2_sendString_0_6 v.hb v.ha v.pu v.hr v.nS v.fS i = g_X8_isSent_1 wf r i.toNatClampNeg (r + 17)
    rw [Nat.add_comm r 17, sent_17, e17]; unfold g_X2_sendString_0_6; rw [ht, if_pos hp]; exact ite_self _
theorem Int32_lt_of {n mx : Int32} {k j : Nat} (z : ¬ p_X3_isFull mx n) (hn : n.toInt = (k : Int)) (hm : mx.toInt = (j : Int)) : k < j := by
  by_cases q : n < mx
  · exact (c_lt hn hm).mp q
  · exact absurd q z
theorem byte_eq {c : Int32} (h : 0 ≤ c.toInt ∧ c.toInt ≤ 127) : vp_nar .byte c.toInt8.toInt32 = c := by
  rw [pk_vb]; apply Int32.toInt_inj.mp
  rw [Int8.toInt_toInt32, Int32.toInt_toInt8]
  exact Int.bmod_eq_of_le (by omega) (by omega)
theorem fig_eq {v : PV} {f : Nat → Int32} (h : RP v f) : ∀ u, u < 7 → f_X2_figure v.ln v.hb v.ha v.pu v.hl v.sm v.hr (nI u) = f (11 + u)
  | 0, _ => by unfold f_X2_figure; rw [if_pos (by decide)]; exact h.1.1
  | 1, _ => by unfold f_X2_figure; rw [if_neg (by decide), if_pos (by decide)]; exact h.1.2.1
  | 2, _ => by unfold f_X2_figure; rw [if_neg (by decide), if_neg (by decide), if_pos (by decide)]; exact h.1.2.2.1
  | 3, _ => by unfold f_X2_figure; rw [if_neg (by decide), if_neg (by decide), if_neg (by decide), if_pos (by decide)]; exact h.1.2.2.2.1
  | 4, _ => by unfold f_X2_figure; rw [if_neg (by decide), if_neg (by decide), if_neg (by decide), if_neg (by decide), if_pos (by decide)]; exact h.1.2.2.2.2.1
  | 5, _ => by unfold f_X2_figure; rw [if_neg (by decide), if_neg (by decide), if_neg (by decide), if_neg (by decide), if_neg (by decide), if_pos (by decide)]; exact h.1.2.2.2.2.2.1
  | 6, _ => by unfold f_X2_figure; rw [if_neg (by decide), if_neg (by decide), if_neg (by decide), if_neg (by decide), if_neg (by decide), if_neg (by decide)]; exact h.1.2.2.2.2.2.2.1
  | n + 7, h => absurd h (by omega)
theorem eq_province (a1 a2 : Int32) (x : XV) (h : PV) (d : PV) (o : PV) (p : PV) (t : TV) (w : WV) (g : GV) (e : EV) (m : MV) (hI : Inv x h o p t m) : (f_X7_province h.nS a1 a2) = (f_X8_province m.wf a1 a2) ∧ Inv (x.k0, x.k1, x.abv, x.blw, g_X7_province_0_12 x.rb a1 a2, x.rn, x.rf) (g_X7_province_1_0 h.ln a1 a2, g_X7_province_1_1 h.hb a1 a2, g_X7_province_1_2 h.ha a1 a2, g_X7_province_1_3 h.pu a1 a2, g_X7_province_1_4 h.hl a1 a2, g_X7_province_1_5 h.sm a1 a2, g_X7_province_1_6 h.hr a1 a2, g_X7_province_2_2 h.nS a1 a2, g_X7_province_3_2 h.nC a1 a2, g_X7_province_4_2 h.nN a1 a2, g_X7_province_5_2 h.nM a1 a2, g_X7_province_6_2 h.nU a1 a2, h.fS, h.fC, h.fN, h.fM, h.fU) o p t (m.txd, m.abv, m.blw, m.atp, m.stp, m.nbr, m.bmy, m.hsh, g_X8_province_1 m.wf a1 a2, m.kp, m.tx, g_X8_province_2 m.ss a1 a2, m.ti, m.pp, m.hh, m.bb, m.al, m.sx) := by
  obtain ⟨⟨i1, i2, i3, i4, i5, i6, i7⟩, ⟨t1, t2, t3, t4⟩, ⟨⟨l1, l2, l3, l4, l5, l6, l7, l8, l9⟩, ⟨w0, w1, w2, w3⟩, ⟨c0, c1, c2, c3⟩, ⟨n0, n1, n2, n3⟩, ⟨m0, m1, m2, m3⟩, ⟨u0, u1, u2, u3⟩⟩, o1, p1⟩ := id hI
  by_cases z1 : p_X7_within a1 1 60
  · have y1 : p_X8_in a1.toInt64 1 60 := (in_wi a1 1 60).mpr z1
    by_cases z2 : p_X7_within a2 0 9999
    · have y2 : p_X8_in a2.toInt64 0 9999 := (in_wi a2 0 9999).mpr z2
      have hr := wi_rng (a := 1) (b := 60) (by decide) (by decide) z1
      simp only [f_X7_province, g_X7_province_0_12, g_X7_province_1_0, g_X7_province_1_1, g_X7_province_1_2, g_X7_province_1_3, g_X7_province_1_4, g_X7_province_1_5, g_X7_province_1_6, g_X7_province_2_2, g_X7_province_3_2, g_X7_province_4_2, g_X7_province_5_2, g_X7_province_6_2, f_X8_province, g_X8_province_1, g_X8_province_2, if_pos z1, if_pos y1, if_pos z2, if_pos y2]
      exact ⟨w0, inv_wf hI ⟨⟨rfl, rfl, rfl, rfl, rfl, rfl, rfl, hr.1, hr.2⟩, RSt.zero rfl, RCm.zero rfl, RNt.zero rfl, RMk.zero rfl, RUn.zero rfl⟩ (fun i hi => by rw [pk_un (by omega), pk_un (by omega), zer_out (by omega)])⟩
    · have y2 : ¬ p_X8_in a2.toInt64 0 9999 := mt (in_wi a2 0 9999).mp z2
      simp only [f_X7_province, g_X7_province_0_12, g_X7_province_1_0, g_X7_province_1_1, g_X7_province_1_2, g_X7_province_1_3, g_X7_province_1_4, g_X7_province_1_5, g_X7_province_1_6, g_X7_province_2_2, g_X7_province_3_2, g_X7_province_4_2, g_X7_province_5_2, g_X7_province_6_2, f_X8_province, g_X8_province_1, g_X8_province_2, if_pos z1, if_pos y1, if_neg z2, if_neg y2]
      exact ⟨trivial, inv_bad hI⟩
  · have y1 : ¬ p_X8_in a1.toInt64 1 60 := mt (in_wi a1 1 60).mp z1
    simp only [f_X7_province, g_X7_province_0_12, g_X7_province_1_0, g_X7_province_1_1, g_X7_province_1_2, g_X7_province_1_3, g_X7_province_1_4, g_X7_province_1_5, g_X7_province_1_6, g_X7_province_2_2, g_X7_province_3_2, g_X7_province_4_2, g_X7_province_5_2, g_X7_province_6_2, f_X8_province, g_X8_province_1, g_X8_province_2, if_neg z1, if_neg y1]
    exact ⟨trivial, inv_bad hI⟩
theorem eq_house (a1 a2 : Int32) (x : XV) (h : PV) (d : PV) (o : PV) (p : PV) (t : TV) (w : WV) (g : GV) (e : EV) (m : MV) (hI : Inv x h o p t m) : (f_X7_house h.hb h.ha a1 a2) = (f_X8_house m.wf a1 a2) ∧ Inv (x.k0, x.k1, x.abv, x.blw, g_X7_house_0_12 x.rb a1 a2, x.rn, x.rf) (h.ln, g_X7_house_1_1 h.hb a1 a2, g_X7_house_1_2 h.ha a1 a2, h.pu, h.hl, h.sm, h.hr, h.nS, h.nC, h.nN, h.nM, g_X7_house_2_2 h.nU a1 a2, h.fS, h.fC, h.fN, h.fM, h.fU) o p t (m.txd, m.abv, m.blw, m.atp, m.stp, m.nbr, m.bmy, m.hsh, g_X8_house_1 m.wf a1 a2, m.kp, m.tx, g_X8_house_2 m.ss a1 a2, m.ti, m.pp, m.hh, m.bb, m.al, m.sx) := by
  obtain ⟨⟨i1, i2, i3, i4, i5, i6, i7⟩, ⟨t1, t2, t3, t4⟩, ⟨⟨l1, l2, l3, l4, l5, l6, l7, l8, l9⟩, ⟨w0, w1, w2, w3⟩, ⟨c0, c1, c2, c3⟩, ⟨n0, n1, n2, n3⟩, ⟨m0, m1, m2, m3⟩, ⟨u0, u1, u2, u3⟩⟩, o1, p1⟩ := id hI
  by_cases z1 : p_X7_within a1 0 1
  · have y1 : p_X8_in a1.toInt64 0 1 := (in_wi a1 0 1).mpr z1
    by_cases z2 : p_X7_within a2 0 5
    · have y2 : p_X8_in a2.toInt64 0 5 := (in_wi a2 0 5).mpr z2
      rcases two_cases z1 with rfl | rfl
      · simp only [f_X7_house, g_X7_house_0_12, g_X7_house_1_1, g_X7_house_1_2, g_X7_house_2_2, f_X8_house, g_X8_house_1, g_X8_house_2, f_X2_houseKind, g_X2_setHouse_0_1, g_X2_setHouse_0_2, if_pos z1, if_pos y1, if_pos z2, if_pos y2, (by decide : (0 : Int32).toNatClampNeg = 0), if_pos rfl, if_true]
        exact ⟨l2, inv_wf hI ⟨⟨l1, rfl, l3, l4, l5, l6, l7, l8, l9⟩, (hI.2.2.1.2.1.cg fun i _ => by repeat rw [pk_un (by omega)]), (hI.2.2.1.2.2.1.cg fun i _ _ => by repeat rw [pk_un (by omega)]), (hI.2.2.1.2.2.2.1.cg fun i _ _ => by repeat rw [pk_un (by omega)]), (hI.2.2.1.2.2.2.2.1.cg fun i _ _ => by repeat rw [pk_un (by omega)]), RUn.zero rfl⟩ (fun i hi => by repeat rw [pk_un (by omega)])⟩
      · simp only [f_X7_house, g_X7_house_0_12, g_X7_house_1_1, g_X7_house_1_2, g_X7_house_2_2, f_X8_house, g_X8_house_1, g_X8_house_2, f_X2_houseKind, g_X2_setHouse_0_1, g_X2_setHouse_0_2, if_pos z1, if_pos y1, if_pos z2, if_pos y2, (by decide : (1 : Int32).toNatClampNeg = 1), if_neg (by decide : ¬ (1 : Int32) = 0)]
        exact ⟨l3, inv_wf hI ⟨⟨l1, l2, rfl, l4, l5, l6, l7, l8, l9⟩, (hI.2.2.1.2.1.cg fun i _ => by repeat rw [pk_un (by omega)]), (hI.2.2.1.2.2.1.cg fun i _ _ => by repeat rw [pk_un (by omega)]), (hI.2.2.1.2.2.2.1.cg fun i _ _ => by repeat rw [pk_un (by omega)]), (hI.2.2.1.2.2.2.2.1.cg fun i _ _ => by repeat rw [pk_un (by omega)]), RUn.zero rfl⟩ (fun i hi => by repeat rw [pk_un (by omega)])⟩
    · have y2 : ¬ p_X8_in a2.toInt64 0 5 := mt (in_wi a2 0 5).mp z2
      simp only [f_X7_house, g_X7_house_0_12, g_X7_house_1_1, g_X7_house_1_2, g_X7_house_2_2, f_X8_house, g_X8_house_1, g_X8_house_2, if_pos z1, if_pos y1, if_neg z2, if_neg y2]
      exact ⟨trivial, inv_bad hI⟩
  · have y1 : ¬ p_X8_in a1.toInt64 0 1 := mt (in_wi a1 0 1).mp z1
    simp only [f_X7_house, g_X7_house_0_12, g_X7_house_1_1, g_X7_house_1_2, g_X7_house_2_2, f_X8_house, g_X8_house_1, g_X8_house_2, if_neg z1, if_neg y1]
    exact ⟨trivial, inv_bad hI⟩
theorem eq_string (a1 a2 : Int32) (x : XV) (h : PV) (d : PV) (o : PV) (p : PV) (t : TV) (w : WV) (g : GV) (e : EV) (m : MV) (hI : Inv x h o p t m) : (f_X7_string 5 h.nS a1 a2) = (f_X8_string m.wf a1 a2) ∧ Inv (x.k0, x.k1, x.abv, x.blw, g_X7_string_0_12 x.rb 5 h.nS a1 a2, x.rn, g_X7_string_0_14 x.rf 5 h.nS a1 a2) (h.ln, h.hb, h.ha, h.pu, h.hl, h.sm, h.hr, g_X7_string_2_2 5 h.nS a1 a2, h.nC, h.nN, h.nM, g_X7_string_4_2 5 h.nS h.nU a1 a2, g_X7_string_3 5 h.nS h.fS a1 a2, h.fC, h.fN, h.fM, h.fU) o p t (m.txd, m.abv, m.blw, m.atp, m.stp, m.nbr, m.bmy, m.hsh, g_X8_string_1 m.wf a1 a2 h.nS.toNatClampNeg, m.kp, m.tx, g_X8_string_2 m.wf m.ss a1 a2, m.ti, m.pp, m.hh, m.bb, m.al, m.sx) := by
  obtain ⟨⟨i1, i2, i3, i4, i5, i6, i7⟩, ⟨t1, t2, t3, t4⟩, ⟨⟨l1, l2, l3, l4, l5, l6, l7, l8, l9⟩, ⟨w0, w1, w2, w3⟩, ⟨c0, c1, c2, c3⟩, ⟨n0, n1, n2, n3⟩, ⟨m0, m1, m2, m3⟩, ⟨u0, u1, u2, u3⟩⟩, o1, p1⟩ := id hI
  by_cases z1 : p_X7_within a1 0 5
  · have y1 : p_X8_in a1.toInt64 0 5 := (in_wi a1 0 5).mpr z1
    by_cases z2 : p_X7_within a2 1 60
    · have y2 : p_X8_in a2.toInt64 1 60 := (in_wi a2 1 60).mpr z2
      by_cases zf : p_X3_isFull 5 h.nS
      · have yf : m.wf 0 = 5 := w0.symm.trans ((full_iff w1 (by decide : (5 : Int32).toInt = ((5 : Nat) : Int)) w2).mp zf)
        simp only [f_X7_string, g_X7_string_0_12, g_X7_string_0_14, g_X7_string_2_2, g_X7_string_3, g_X7_string_4_2, f_X8_string, g_X8_string_1, g_X8_string_2, if_pos z1, if_pos y1, if_pos z2, if_pos y2, if_pos zf, if_pos yf]
        exact ⟨trivial, inv_full hI⟩
      · have yf : ¬ m.wf 0 = 5 := fun q => zf ((full_iff w1 (by decide : (5 : Int32).toInt = ((5 : Nat) : Int)) w2).mpr (w0.trans q))
        have hk : h.nS.toNatClampNeg < 5 := Int32_lt_of zf w1 (by decide : (5 : Int32).toInt = ((5 : Nat) : Int))
        simp only [f_X7_string, g_X7_string_0_12, g_X7_string_0_14, g_X7_string_2_2, g_X7_string_3, g_X7_string_4_2, f_X8_string, g_X8_string_1, g_X8_string_2, if_pos z1, if_pos y1, if_pos z2, if_pos y2, if_neg zf, if_neg yf, (put_n w1 (by decide : (5 : Int32).toInt = ((5 : Nat) : Int)) hk (by decide)).1, put_f w1 (by decide : (5 : Int32).toInt = ((5 : Nat) : Int)) hk]
        have hr := wi_rng (a := 1) (b := 60) (by decide) (by decide) z2
        exact ⟨by rw [w0], inv_wf hI ⟨(hI.2.2.1.1.cg fun i _ _ => by repeat rw [pk_un (by omega)]), RSt.put ⟨w0, w1, w2, w3⟩ hk (by rw [pk_un (by omega), pk_us, w0]) (by rw [pk_un (by omega), pk_un (by omega), pk_un (by omega), pk_us]) (by rw [pk_un (by omega), pk_un (by omega), pk_us]) (fun i hi => ⟨by repeat rw [pk_un (by omega)], by repeat rw [pk_un (by omega)]⟩) hr, (hI.2.2.1.2.2.1.cg fun i _ _ => by repeat rw [pk_un (by omega)]), (hI.2.2.1.2.2.2.1.cg fun i _ _ => by repeat rw [pk_un (by omega)]), (hI.2.2.1.2.2.2.2.1.cg fun i _ _ => by repeat rw [pk_un (by omega)]), RUn.zero rfl⟩ (fun i hi => by repeat rw [pk_un (by omega)])⟩
    · have y2 : ¬ p_X8_in a2.toInt64 1 60 := mt (in_wi a2 1 60).mp z2
      simp only [f_X7_string, g_X7_string_0_12, g_X7_string_0_14, g_X7_string_2_2, g_X7_string_3, g_X7_string_4_2, f_X8_string, g_X8_string_1, g_X8_string_2, if_pos z1, if_pos y1, if_neg z2, if_neg y2]
      exact ⟨trivial, inv_bad hI⟩
  · have y1 : ¬ p_X8_in a1.toInt64 0 5 := mt (in_wi a1 0 5).mp z1
    simp only [f_X7_string, g_X7_string_0_12, g_X7_string_0_14, g_X7_string_2_2, g_X7_string_3, g_X7_string_4_2, f_X8_string, g_X8_string_1, g_X8_string_2, if_neg z1, if_neg y1]
    exact ⟨trivial, inv_bad hI⟩
theorem eq_type (a1 : Int32) (x : XV) (h : PV) (d : PV) (o : PV) (p : PV) (t : TV) (w : WV) (g : GV) (e : EV) (m : MV) (hI : Inv x h o p t m) : (f_X7_type t.tl a1) = (f_X8_type m.txd a1) ∧ Inv (x.k0, x.k1, x.abv, x.blw, g_X7_type_0_12 x.rb t.tl a1, x.rn, g_X7_type_0_14 x.rf t.tl a1) h o p (g_X7_type_1_1 t.tl a1, t.ts, t.tn, t.tk, t.tm, g_X7_type_2 t.tl t.by_ a1) (g_X8_type_0_3 m.txd a1, m.abv, m.blw, m.atp, m.stp, m.nbr, m.bmy, m.hsh, m.wf, m.kp, g_X8_type_1 m.txd m.tx a1 t.tl.toNatClampNeg, g_X8_type_2 m.txd m.ss a1, m.ti, m.pp, m.hh, m.bb, m.al, m.sx) := by
  obtain ⟨⟨i1, i2, i3, i4, i5, i6, i7⟩, ⟨t1, t2, t3, t4⟩, ⟨⟨l1, l2, l3, l4, l5, l6, l7, l8, l9⟩, ⟨w0, w1, w2, w3⟩, ⟨c0, c1, c2, c3⟩, ⟨n0, n1, n2, n3⟩, ⟨m0, m1, m2, m3⟩, ⟨u0, u1, u2, u3⟩⟩, o1, p1⟩ := id hI
  by_cases z1 : p_X7_within a1 0 127
  · have y1 : p_X8_in a1.toInt64 0 127 := (in_wi a1 0 127).mpr z1
    have e150 : (150 : Int32).toInt = 150 := rfl
    have hc := wi_rng (a := 0) (b := 127) (by decide) (by decide) z1
    by_cases zf : p_X7_within t.tl 0 149
    · have hw := wi_rng (a := 0) (b := 149) (by decide) (by decide) zf
      have yf : ¬ m.txd = 150 := fun q => by
        have q2 : t.tl.toInt = 150 := by rw [t1, q]; rfl
        omega
      obtain ⟨n1, n2⟩ := inc_n t2 (by omega)
      simp only [f_X7_type, g_X7_type_0_12, g_X7_type_0_14, g_X7_type_1_1, g_X7_type_2, f_X8_type, g_X8_type_0_3, g_X8_type_1, g_X8_type_2, g_X5_put_0_1, g_X5_put_1, if_pos z1, if_pos y1, if_pos zf, if_neg yf]
      refine ⟨by rw [t1], hI.1, ⟨by show t.tl + 1 = m.txd + 1; rw [t1], n1, by show (t.tl + 1).toNatClampNeg ≤ 150; omega, fun i hi => ?_⟩, hI.2.2⟩
      have hi1 : i < (t.tl + 1).toNatClampNeg := hi
      have hi2 : i < t.tl.toNatClampNeg + 1 := by omega
      show upd t.by_ t.tl.toNatClampNeg (vp_nar .byte a1.toInt8.toInt32) i = upd m.tx t.tl.toNatClampNeg a1 i ∧ 0 ≤ (upd m.tx t.tl.toNatClampNeg a1 i).toInt ∧ (upd m.tx t.tl.toNatClampNeg a1 i).toInt ≤ 127
      by_cases zi : i < t.tl.toNatClampNeg
      · rw [pk_un (by omega), pk_un (by omega)]; exact t4 i zi
      · have ei : i = t.tl.toNatClampNeg := by omega
        rw [ei, pk_us, pk_us, byte_eq hc]; exact ⟨rfl, hc⟩
    · have yf : m.txd = 150 := by
        rw [← t1]; apply Int32.toInt_inj.mp; rw [e150]
        have e0 : (0 : Int32).toInt = 0 := rfl
        have e149 : (149 : Int32).toInt = 149 := rfl
        by_cases q : t.tl.toInt ≤ 149
        · exact absurd ⟨by rw [Int32.lt_iff_toInt_lt]; omega, by rw [Int32.lt_iff_toInt_lt]; omega⟩ zf
        · omega
      simp only [f_X7_type, g_X7_type_0_12, g_X7_type_0_14, g_X7_type_1_1, g_X7_type_2, f_X8_type, g_X8_type_0_3, g_X8_type_1, g_X8_type_2, g_X5_put_0_1, g_X5_put_1, if_pos z1, if_pos y1, if_neg zf, if_pos yf]
      exact ⟨trivial, inv_full hI⟩
  · have y1 : ¬ p_X8_in a1.toInt64 0 127 := mt (in_wi a1 0 127).mp z1
    simp only [f_X7_type, g_X7_type_0_12, g_X7_type_0_14, g_X7_type_1_1, g_X7_type_2, f_X8_type, g_X8_type_0_3, g_X8_type_1, g_X8_type_2, if_neg z1, if_neg y1]
    exact ⟨trivial, inv_bad hI⟩
theorem eq_waits (a1 : Int32) (x : XV) (h : PV) (d : PV) (o : PV) (p : PV) (t : TV) (w : WV) (g : GV) (e : EV) (m : MV) (hI : Inv x h o p t m) : (f_X7_waits h.hr a1) = (f_X8_waits m.wf a1 h.nU.toNatClampNeg) ∧ Inv (x.k0, x.k1, x.abv, x.blw, g_X7_waits_0_12 x.rb a1, x.rn, x.rf) (h.ln, h.hb, h.ha, h.pu, h.hl, h.sm, g_X7_waits_1_6 h.hr a1, h.nS, h.nC, h.nN, h.nM, g_X7_waits_2_2 8 h.nU a1, h.fS, h.fC, h.fN, h.fM, g_X7_waits_3 h.pu h.hl h.sm h.hr 8 h.nU h.fU a1 h.nU.toNatClampNeg) o p t (m.txd, m.abv, m.blw, m.atp, m.stp, m.nbr, m.bmy, m.hsh, g_X8_waits_1 m.wf a1 h.nU.toNatClampNeg, m.kp, m.tx, g_X8_waits_2 m.wf m.ss a1 h.nU.toNatClampNeg, m.ti, m.pp, m.hh, m.bb, m.al, m.sx) := by
  obtain ⟨⟨i1, i2, i3, i4, i5, i6, i7⟩, ⟨t1, t2, t3, t4⟩, ⟨⟨l1, l2, l3, l4, l5, l6, l7, l8, l9⟩, ⟨w0, w1, w2, w3⟩, ⟨c0, c1, c2, c3⟩, ⟨n0, n1, n2, n3⟩, ⟨m0, m1, m2, m3⟩, ⟨u0, u1, u2, u3⟩⟩, o1, p1⟩ := id hI
  by_cases z1 : p_X7_within a1 1 99
  · have y1 : p_X8_in a1.toInt64 1 99 := (in_wi a1 1 99).mpr z1
    have e17 : g_X8_minds_1 m.wf h.nU.toNatClampNeg 17 = h.hr := (minds_s hI.2.2.1 17 (by omega)).trans l7.symm
    obtain ⟨⟨q1, q2, q3, q4, q5, q6, q7, -⟩, qS, qC, qN, qM, qU⟩ := minds_r hI.2.2.1
    by_cases zt : h.hr + a1 ≤ 9999
    · simp only [f_X7_waits, g_X7_waits_0_12, g_X7_waits_1_6, g_X7_waits_2_2, g_X7_waits_3, f_X8_waits, g_X8_waits_1, g_X8_waits_2, if_pos z1, if_pos y1, lt_le_i 9999 (h.hr + a1), e17, if_pos zt]
      exact ⟨trivial, inv_wf hI ⟨⟨q1, q2, q3, q4, q5, q6, rfl, l8, l9⟩, qS.cg (fun i _ => by repeat rw [pk_un (by omega)]), qC.cg (fun i _ _ => by repeat rw [pk_un (by omega)]), qN.cg (fun i _ _ => by repeat rw [pk_un (by omega)]), qM.cg (fun i _ _ => by repeat rw [pk_un (by omega)]), qU.cg (fun i _ _ => by repeat rw [pk_un (by omega)])⟩ (fun i hi => by rw [pk_un (by omega)]; exact minds_s hI.2.2.1 i (Or.inr hi))⟩
    · simp only [f_X7_waits, g_X7_waits_0_12, g_X7_waits_1_6, g_X7_waits_2_2, g_X7_waits_3, f_X8_waits, g_X8_waits_1, g_X8_waits_2, if_pos z1, if_pos y1, lt_le_i 9999 (h.hr + a1), e17, if_neg zt]
      exact ⟨trivial, inv_wf hI ⟨⟨q1, q2, q3, q4, q5, q6, rfl, l8, l9⟩, qS.cg (fun i _ => by repeat rw [pk_un (by omega)]), qC.cg (fun i _ _ => by repeat rw [pk_un (by omega)]), qN.cg (fun i _ _ => by repeat rw [pk_un (by omega)]), qM.cg (fun i _ _ => by repeat rw [pk_un (by omega)]), qU.cg (fun i _ _ => by repeat rw [pk_un (by omega)])⟩ (fun i hi => by rw [pk_un (by omega)]; exact minds_s hI.2.2.1 i (Or.inr hi))⟩
  · have y1 : ¬ p_X8_in a1.toInt64 1 99 := mt (in_wi a1 1 99).mp z1
    simp only [f_X7_waits, g_X7_waits_0_12, g_X7_waits_1_6, g_X7_waits_2_2, g_X7_waits_3, f_X8_waits, g_X8_waits_1, g_X8_waits_2, if_neg z1, if_neg y1]
    exact ⟨trivial, inv_bad hI⟩
theorem eq_sends (a1 : Int32) (x : XV) (h : PV) (d : PV) (o : PV) (p : PV) (t : TV) (w : WV) (g : GV) (e : EV) (m : MV) (hI : Inv x h o p t m) : (f_X7_sends h.ln h.hb h.ha h.pu h.hr h.nS h.fS a1) = (f_X8_sends m.wf a1 h.nU.toNatClampNeg) ∧ Inv (x.k0, x.k1, x.abv, x.blw, g_X7_sends_0_12 x.rb h.hb h.ha h.pu h.hr h.nS h.fS a1, g_X7_sends_0_13 x.rn h.hb h.ha h.pu h.hr h.nS h.fS a1, x.rf) (h.ln, h.hb, h.ha, g_X7_sends_1_3 h.hb h.ha h.pu h.hr h.nS h.fS a1, g_X7_sends_1_4 h.ln h.hb h.ha h.pu h.hl h.hr h.nS h.fS a1, g_X7_sends_1_5 h.hb h.ha h.pu h.sm h.hr h.nS h.fS a1, g_X7_sends_1_6 h.hb h.ha h.pu h.hr h.nS h.fS a1, h.nS, h.nC, h.nN, h.nM, g_X7_sends_4_2 h.hb h.ha h.pu h.hr h.nS h.fS 8 h.nU a1, h.fS, h.fC, h.fN, h.fM, g_X7_sends_5 h.hb h.ha h.pu h.hl h.sm h.hr h.nS h.fS 8 h.nU h.fU a1 h.nU.toNatClampNeg) o p t (m.txd, m.abv, m.blw, m.atp, m.stp, m.nbr, m.bmy, m.hsh, g_X8_sends_1 m.wf a1 h.nU.toNatClampNeg, m.kp, m.tx, g_X8_sends_2 m.wf m.ss a1, m.ti, m.pp, m.hh, m.bb, m.al, m.sx) := by
  obtain ⟨⟨i1, i2, i3, i4, i5, i6, i7⟩, ⟨t1, t2, t3, t4⟩, ⟨⟨l1, l2, l3, l4, l5, l6, l7, l8, l9⟩, ⟨w0, w1, w2, w3⟩, ⟨c0, c1, c2, c3⟩, ⟨n0, n1, n2, n3⟩, ⟨m0, m1, m2, m3⟩, ⟨u0, u1, u2, u3⟩⟩, o1, p1⟩ := id hI
  have hw0 := w0
  by_cases z1 : p_X7_within a1 0 (h.nS - 1)
  · have y1 : p_X8_in a1.toInt64 0 ((m.wf 0) - 1).toInt64 := (has_iff hw0 a1).mpr z1
    have hc : f_X2_costIn h.hb h.ha h.hr h.nS h.fS a1 0 = f_X8_costIn m.wf (m.wf 17) 0 a1.toNatClampNeg := by rw [cost_eq hI.2.2.1.r0 z1, Int32.add_zero, l7]
    obtain ⟨-, -, hk⟩ := str_cell hI.2.2.1.2.1 z1
    by_cases c1 : 9999 ≤ h.hr
    · have yc : ¬ p_X8_canSend m.wf 0 a1.toNatClampNeg := fun q => q.1 (by show 9999 ≤ m.wf 17; rw [← l7]; exact c1)
      simp only [f_X7_sends, g_X7_sends_0_12, g_X7_sends_0_13, g_X7_sends_1_3, g_X7_sends_1_4, g_X7_sends_1_5, g_X7_sends_1_6, g_X7_sends_4_2, g_X7_sends_5, f_X8_sends, g_X8_sends_1, g_X8_sends_2, if_pos z1, if_pos y1, if_pos c1, if_neg yc]
      exact ⟨trivial, inv_no hI⟩
    · by_cases c2 : f_X2_costIn h.hb h.ha h.hr h.nS h.fS a1 0 ≤ h.pu
      · have yc : p_X8_canSend m.wf 0 a1.toNatClampNeg := ⟨by show ¬ 9999 ≤ m.wf 17; rw [← l7]; exact c1, by show ¬ m.wf 14 < f_X8_costIn m.wf (m.wf 17) 0 a1.toNatClampNeg; rw [← hc, ← l4]; exact Int32.not_lt.mpr c2⟩
        simp only [f_X7_sends, g_X7_sends_0_12, g_X7_sends_0_13, g_X7_sends_1_3, g_X7_sends_1_4, g_X7_sends_1_5, g_X7_sends_1_6, g_X7_sends_4_2, g_X7_sends_5, f_X8_sends, g_X8_sends_1, g_X8_sends_2, if_pos z1, if_pos y1, if_neg c1, if_pos c2, if_pos yc]
        refine ⟨?_, inv_wf hI ((sent_r (minds_r hI.2.2.1).r0 z1 c2).cg fun i _ => ?_) fun i hi => ?_⟩
        · rw [bring_eq hI.2.2.1.r0 z1]; unfold f_X8_bringsIn
          rw [sent_o (by omega), sent_o (by omega), minds_s hI.2.2.1 _ (by omega), minds_s hI.2.2.1 _ (by omega)]
        · show _ = g_X8_isSent_1 (g_X8_minds_1 m.wf h.nU.toNatClampNeg) 0 a1.toNatClampNeg (0 + i); rw [Nat.zero_add]
        · rw [sent_o (by omega)]; exact minds_s hI.2.2.1 i (Or.inr hi)
      · have yc : ¬ p_X8_canSend m.wf 0 a1.toNatClampNeg := fun q => q.2 (by show m.wf 14 < f_X8_costIn m.wf (m.wf 17) 0 a1.toNatClampNeg; rw [← hc, ← l4]; exact Int32.not_le.mp c2)
        simp only [f_X7_sends, g_X7_sends_0_12, g_X7_sends_0_13, g_X7_sends_1_3, g_X7_sends_1_4, g_X7_sends_1_5, g_X7_sends_1_6, g_X7_sends_4_2, g_X7_sends_5, f_X8_sends, g_X8_sends_1, g_X8_sends_2, if_pos z1, if_pos y1, if_neg c1, if_neg c2, if_neg yc]
        exact ⟨trivial, inv_no hI⟩
  · have y1 : ¬ p_X8_in a1.toInt64 0 ((m.wf 0) - 1).toInt64 := mt (has_iff hw0 a1).mp z1
    simp only [f_X7_sends, g_X7_sends_0_12, g_X7_sends_0_13, g_X7_sends_1_3, g_X7_sends_1_4, g_X7_sends_1_5, g_X7_sends_1_6, g_X7_sends_4_2, g_X7_sends_5, f_X8_sends, g_X8_sends_1, g_X8_sends_2, if_neg z1, if_neg y1]
    exact ⟨trivial, inv_bad hI⟩
theorem eq_undo (x : XV) (h : PV) (d : PV) (o : PV) (p : PV) (t : TV) (w : WV) (g : GV) (e : EV) (m : MV) (hI : Inv x h o p t m) : (f_X7_undo h.hr h.nU h.fU) = (f_X8_undo m.wf h.nU.toNatClampNeg) ∧ Inv (x.k0, x.k1, x.abv, x.blw, x.rb, g_X7_undo_0_13 x.rn h.nU, x.rf) (h.ln, h.hb, h.ha, g_X2_stepBack_0_3 h.pu h.nU h.fU, g_X2_stepBack_0_4 h.hl h.nU h.fU, g_X2_stepBack_0_5 h.sm h.nU h.fU, g_X2_stepBack_0_6 h.hr h.nU h.fU, h.nS, h.nC, h.nN, h.nM, g_X2_stepBack_1_2 h.nU, h.fS, h.fC, h.fN, h.fM, h.fU) o p t (m.txd, m.abv, m.blw, m.atp, m.stp, m.nbr, m.bmy, m.hsh, g_X8_undo_1 m.wf h.nU.toNatClampNeg, m.kp, m.tx, g_X8_undo_2 m.wf m.ss, m.ti, m.pp, m.hh, m.bb, m.al, m.sx) := by
  obtain ⟨⟨i1, i2, i3, i4, i5, i6, i7⟩, ⟨t1, t2, t3, t4⟩, ⟨⟨l1, l2, l3, l4, l5, l6, l7, l8, l9⟩, ⟨w0, w1, w2, w3⟩, ⟨c0, c1, c2, c3⟩, ⟨n0, n1, n2, n3⟩, ⟨m0, m1, m2, m3⟩, ⟨u0, u1, u2, u3⟩⟩, o1, p1⟩ := id hI
  have e1 : (1 : Int32).toInt = 1 := rfl
  have e0 : (0 : Int32).toInt = 0 := rfl
  have en : (h.nU - 1).toInt = (h.nU.toNatClampNeg : Int) - 1 := by rw [ti_sub (by rw [u1, e1]; omega) (by rw [u1, e1]; omega), u1, e1]
  by_cases zu : h.nU.toNatClampNeg = 0
  · have s1 : ¬ p_X2_stepBack h.nU := fun q => by
      have q2 := Int32.le_iff_toInt_le.mp q
      omega
    have s2 : m.wf 81 = 0 := by rw [← u0]; apply Int32.toInt_inj.mp; rw [u1, zu]; rfl
    simp only [f_X7_undo, g_X7_undo_0_13, f_X8_undo, g_X8_undo_1, g_X8_undo_2, g_X2_stepBack_0_3, g_X2_stepBack_0_4, g_X2_stepBack_0_5, g_X2_stepBack_0_6, g_X2_stepBack_1_2, if_neg s1, if_pos s2]
    exact ⟨trivial, inv_no hI⟩
  · have s1 : p_X2_stepBack h.nU := Int32.le_iff_toInt_le.mpr (by omega)
    have s2 : ¬ m.wf 81 = 0 := fun q => by
      have q2 : h.nU.toInt = 0 := by rw [u0, q]; rfl
      omega
    have s3 : g_X3_dropLast_0_2 h.nU = h.nU - 1 := by
      have s4 : ¬ h.nU ≤ 0 := fun q => by
        have q2 := Int32.le_iff_toInt_le.mp q
        omega
      unfold g_X3_dropLast_0_2; exact if_neg s4
    have ec : (h.nU - 1).toNatClampNeg = h.nU.toNatClampNeg - 1 := by
      have ec0 := nn_cl (a := h.nU - 1) (by omega)
      omega
    have k3 := u3 (h.nU.toNatClampNeg - 1) (by omega)
    rw [show 82 + 4 * (h.nU.toNatClampNeg - 1) = 78 + 4 * h.nU.toNatClampNeg by omega, show 83 + 4 * (h.nU.toNatClampNeg - 1) = 79 + 4 * h.nU.toNatClampNeg by omega, show 84 + 4 * (h.nU.toNatClampNeg - 1) = 80 + 4 * h.nU.toNatClampNeg by omega, show 85 + 4 * (h.nU.toNatClampNeg - 1) = 81 + 4 * h.nU.toNatClampNeg by omega] at k3
    have d0 : f_X3_cell h.nU h.fU (h.nU - 1) 0 = m.wf (78 + 4 * h.nU.toNatClampNeg) := by rw [cell_eq u1 ⟨by omega, by omega⟩ (by decide : (0 : Int32).toInt = ((0 : Nat) : Int)) (by decide), ec]; exact k3.1
    have d1 : f_X3_cell h.nU h.fU (h.nU - 1) 1 = m.wf (79 + 4 * h.nU.toNatClampNeg) := by rw [cell_eq u1 ⟨by omega, by omega⟩ (by decide : (1 : Int32).toInt = ((1 : Nat) : Int)) (by decide), ec]; exact k3.2.1
    have d2 : f_X3_cell h.nU h.fU (h.nU - 1) 2 = m.wf (80 + 4 * h.nU.toNatClampNeg) := by rw [cell_eq u1 ⟨by omega, by omega⟩ (by decide : (2 : Int32).toInt = ((2 : Nat) : Int)) (by decide), ec]; exact k3.2.2.1
    have d3 : f_X3_cell h.nU h.fU (h.nU - 1) 3 = m.wf (81 + 4 * h.nU.toNatClampNeg) := by rw [cell_eq u1 ⟨by omega, by omega⟩ (by decide : (3 : Int32).toInt = ((3 : Nat) : Int)) (by decide), ec]; exact k3.2.2.2
    simp only [f_X7_undo, g_X7_undo_0_13, f_X8_undo, g_X8_undo_1, g_X8_undo_2, g_X2_stepBack_0_3, g_X2_stepBack_0_4, g_X2_stepBack_0_5, g_X2_stepBack_0_6, g_X2_stepBack_1_2, if_pos s1, if_neg s2, s3, d0, d1, d2, d3]
    refine ⟨trivial, inv_wf hI ⟨⟨l1, l2, l3, rfl, rfl, rfl, rfl, l8, l9⟩, hI.2.2.1.2.1.cg (fun i _ => by repeat rw [pk_un (by omega)]), hI.2.2.1.2.2.1.cg (fun i _ _ => by repeat rw [pk_un (by omega)]), hI.2.2.1.2.2.2.1.cg (fun i _ _ => by repeat rw [pk_un (by omega)]), hI.2.2.1.2.2.2.2.1.cg (fun i _ _ => by repeat rw [pk_un (by omega)]), ?_⟩ (fun i hi => by repeat rw [pk_un (by omega)])⟩
    have ec2 : (h.nU - 1).toInt = ((h.nU - 1).toNatClampNeg : Int) := nn_cl (by omega)
    refine ⟨?_, ec2, by show (h.nU - 1).toNatClampNeg ≤ 8; omega, fun i hi => ?_⟩
    · show h.nU - 1 = _; rw [pk_un (by omega), pk_un (by omega), pk_un (by omega), pk_un (by omega), pk_us, u0]
    · have hi1 : i < (h.nU - 1).toNatClampNeg := hi
      have hi2 : i < h.nU.toNatClampNeg - 1 := by omega
      have k4 := u3 i (by omega)
      refine ⟨?_, ?_, ?_, ?_⟩ <;> rw [pk_un (by omega), pk_un (by omega), pk_un (by omega), pk_un (by omega), pk_un (by omega)]
      · exact k4.1
      · exact k4.2.1
      · exact k4.2.2.1
      · exact k4.2.2.2
theorem eq_of (a1 a2 : Int32) (x : XV) (h : PV) (d : PV) (o : PV) (p : PV) (t : TV) (w : WV) (g : GV) (e : EV) (m : MV) (hI : Inv x h o p t m) : (f_X7_of h.nS h.fS a1 a2) = (f_X8_of m.wf a1 a2) ∧ Inv (x.k0, x.k1, x.abv, x.blw, g_X7_of_0_12 x.rb h.nS a1 a2, x.rn, x.rf) h o p t (m.txd, m.abv, m.blw, m.atp, m.stp, m.nbr, m.bmy, m.hsh, m.wf, m.kp, m.tx, g_X8_of_2 m.wf m.ss a1 a2, m.ti, m.pp, m.hh, m.bb, m.al, m.sx) := by
  obtain ⟨⟨i1, i2, i3, i4, i5, i6, i7⟩, ⟨t1, t2, t3, t4⟩, ⟨⟨l1, l2, l3, l4, l5, l6, l7, l8, l9⟩, ⟨w0, w1, w2, w3⟩, ⟨c0, c1, c2, c3⟩, ⟨n0, n1, n2, n3⟩, ⟨m0, m1, m2, m3⟩, ⟨u0, u1, u2, u3⟩⟩, o1, p1⟩ := id hI
  have hw0 := w0
  by_cases z1 : p_X7_within a1 0 (h.nS - 1)
  · have y1 : p_X8_in a1.toInt64 0 ((m.wf 0) - 1).toInt64 := (has_iff hw0 a1).mpr z1
    by_cases z2 : p_X7_within a2 0 1
    · have y2 : p_X8_in a2.toInt64 0 1 := (in_wi a2 0 1).mpr z2
      obtain ⟨c1, c2, -⟩ := str_cell hI.2.2.1.2.1 z1
      simp only [f_X7_of, g_X7_of_0_12, f_X8_of, g_X8_of_2, if_pos z1, if_pos y1, if_pos z2, if_pos y2, c1, c2, ite_self]
      exact ⟨trivial, hI⟩
    · have y2 : ¬ p_X8_in a2.toInt64 0 1 := mt (in_wi a2 0 1).mp z2
      simp only [f_X7_of, g_X7_of_0_12, f_X8_of, g_X8_of_2, if_pos z1, if_pos y1, if_neg z2, if_neg y2]
      exact ⟨trivial, inv_bad hI⟩
  · have y1 : ¬ p_X8_in a1.toInt64 0 ((m.wf 0) - 1).toInt64 := mt (has_iff hw0 a1).mp z1
    simp only [f_X7_of, g_X7_of_0_12, f_X8_of, g_X8_of_2, if_neg z1, if_neg y1]
    exact ⟨trivial, inv_bad hI⟩
theorem eq_now (a1 : Int32) (x : XV) (h : PV) (d : PV) (o : PV) (p : PV) (t : TV) (w : WV) (g : GV) (e : EV) (m : MV) (hI : Inv x h o p t m) : (f_X7_now h.ln h.hb h.ha h.pu h.hl h.sm h.hr a1) = (f_X8_now m.wf a1) ∧ Inv (x.k0, x.k1, x.abv, x.blw, g_X7_now_0_12 x.rb a1, x.rn, x.rf) h o p t (m.txd, m.abv, m.blw, m.atp, m.stp, m.nbr, m.bmy, m.hsh, m.wf, m.kp, m.tx, g_X8_now_2 m.ss a1, m.ti, m.pp, m.hh, m.bb, m.al, m.sx) := by
  obtain ⟨⟨i1, i2, i3, i4, i5, i6, i7⟩, ⟨t1, t2, t3, t4⟩, ⟨⟨l1, l2, l3, l4, l5, l6, l7, l8, l9⟩, ⟨w0, w1, w2, w3⟩, ⟨c0, c1, c2, c3⟩, ⟨n0, n1, n2, n3⟩, ⟨m0, m1, m2, m3⟩, ⟨u0, u1, u2, u3⟩⟩, o1, p1⟩ := id hI
  by_cases z1 : p_X7_within a1 0 6
  · have y1 : p_X8_in a1.toInt64 0 6 := (in_wi a1 0 6).mpr z1
    have hr := wi_rng (a := 0) (b := 6) (by decide) (by decide) z1
    have e1 := nn_cl hr.1
    have e2 := fig_eq hI.2.2.1 a1.toNatClampNeg (by omega)
    rw [← nn_eq e1 (by omega)] at e2
    simp only [f_X7_now, g_X7_now_0_12, f_X8_now, g_X8_now_2, if_pos z1, if_pos y1, e2]
    exact ⟨trivial, hI⟩
  · have y1 : ¬ p_X8_in a1.toInt64 0 6 := mt (in_wi a1 0 6).mp z1
    simp only [f_X7_now, g_X7_now_0_12, f_X8_now, g_X8_now_2, if_neg z1, if_neg y1]
    exact ⟨trivial, inv_bad hI⟩
theorem eq_asks (a1 a2 a3 : Int32) (x : XV) (h : PV) (d : PV) (o : PV) (p : PV) (t : TV) (w : WV) (g : GV) (e : EV) (m : MV) (hI : Inv x h o p t m) : (f_X7_asks h.ln h.hb h.ha h.hr h.nS h.fS a1 a2 a3) = (f_X8_asks m.wf a1 a2 a3) ∧ Inv (x.k0, x.k1, x.abv, x.blw, g_X7_asks_0_12 x.rb h.nS a1 a2 a3, x.rn, x.rf) h o p t (m.txd, m.abv, m.blw, m.atp, m.stp, m.nbr, m.bmy, m.hsh, m.wf, m.kp, m.tx, g_X8_asks_2 m.wf m.ss a1 a2 a3, m.ti, m.pp, m.hh, m.bb, m.al, m.sx) := by
  obtain ⟨⟨i1, i2, i3, i4, i5, i6, i7⟩, ⟨t1, t2, t3, t4⟩, ⟨⟨l1, l2, l3, l4, l5, l6, l7, l8, l9⟩, ⟨w0, w1, w2, w3⟩, ⟨c0, c1, c2, c3⟩, ⟨n0, n1, n2, n3⟩, ⟨m0, m1, m2, m3⟩, ⟨u0, u1, u2, u3⟩⟩, o1, p1⟩ := id hI
  have hw0 := w0
  by_cases z1 : p_X7_within a1 0 (h.nS - 1)
  · have y1 : p_X8_in a1.toInt64 0 ((m.wf 0) - 1).toInt64 := (has_iff hw0 a1).mpr z1
    by_cases z2 : p_X7_within a2 0 47
    · have y2 : p_X8_in a2.toInt64 0 47 := (in_wi a2 0 47).mpr z2
      by_cases z3 : p_X7_within a3 0 2
      · have y3 : p_X8_in a3.toInt64 0 2 := (in_wi a3 0 2).mpr z3
        have s1 : f_X2_shownIn h.hr h.nS h.fS a1 a2 = f_X8_showsIn m.wf (m.wf 17 + a2) 0 a1.toNatClampNeg := by rw [← l7]; exact shown_eq hI.2.2.1.r0 z1 a2
        have s2 : f_X2_costIn h.hb h.ha h.hr h.nS h.fS a1 a2 = f_X8_costIn m.wf (m.wf 17 + a2) 0 a1.toNatClampNeg := by rw [← l7]; exact cost_eq hI.2.2.1.r0 z1 a2
        simp only [f_X7_asks, g_X7_asks_0_12, f_X8_asks, g_X8_asks_2, if_pos z1, if_pos y1, if_pos z2, if_pos y2, if_pos z3, if_pos y3, s1, s2, bring_eq hI.2.2.1.r0 z1, ite_self]
        exact ⟨trivial, hI⟩
      · have y3 : ¬ p_X8_in a3.toInt64 0 2 := mt (in_wi a3 0 2).mp z3
        simp only [f_X7_asks, g_X7_asks_0_12, f_X8_asks, g_X8_asks_2, if_pos z1, if_pos y1, if_pos z2, if_pos y2, if_neg z3, if_neg y3]
        exact ⟨trivial, inv_bad hI⟩
    · have y2 : ¬ p_X8_in a2.toInt64 0 47 := mt (in_wi a2 0 47).mp z2
      simp only [f_X7_asks, g_X7_asks_0_12, f_X8_asks, g_X8_asks_2, if_pos z1, if_pos y1, if_neg z2, if_neg y2]
      exact ⟨trivial, inv_bad hI⟩
  · have y1 : ¬ p_X8_in a1.toInt64 0 ((m.wf 0) - 1).toInt64 := mt (has_iff hw0 a1).mp z1
    simp only [f_X7_asks, g_X7_asks_0_12, f_X8_asks, g_X8_asks_2, if_neg z1, if_neg y1]
    exact ⟨trivial, inv_bad hI⟩
theorem eq_came (a1 a2 : Int32) (x : XV) (h : PV) (d : PV) (o : PV) (p : PV) (t : TV) (w : WV) (g : GV) (e : EV) (m : MV) (hI : Inv x h o p t m) : (f_X7_came 6 h.nC a1 a2) = (f_X8_came m.wf a1 a2) ∧ Inv (x.k0, x.k1, x.abv, x.blw, g_X7_came_0_12 x.rb a1 a2, x.rn, g_X7_came_0_14 x.rf 6 h.nC a1 a2) (h.ln, h.hb, h.ha, h.pu, h.hl, h.sm, h.hr, h.nS, g_X7_came_2_2 6 h.nC a1 a2, h.nN, h.nM, h.nU, h.fS, g_X7_came_3 6 h.nC h.fC a1 a2, h.fN, h.fM, h.fU) o p t (m.txd, m.abv, m.blw, m.atp, m.stp, m.nbr, m.bmy, m.hsh, g_X8_came_1 m.wf a1 a2 h.nC.toNatClampNeg, m.kp, m.tx, g_X8_came_2 m.wf m.ss a1 a2, m.ti, m.pp, m.hh, m.bb, m.al, m.sx) := by
  obtain ⟨⟨i1, i2, i3, i4, i5, i6, i7⟩, ⟨t1, t2, t3, t4⟩, ⟨⟨l1, l2, l3, l4, l5, l6, l7, l8, l9⟩, ⟨w0, w1, w2, w3⟩, ⟨c0, c1, c2, c3⟩, ⟨n0, n1, n2, n3⟩, ⟨m0, m1, m2, m3⟩, ⟨u0, u1, u2, u3⟩⟩, o1, p1⟩ := id hI
  by_cases z1 : p_X7_within a1 1 60
  · have y1 : p_X8_in a1.toInt64 1 60 := (in_wi a1 1 60).mpr z1
    by_cases z2 : p_X7_within a2 0 60
    · have y2 : p_X8_in a2.toInt64 0 60 := (in_wi a2 0 60).mpr z2
      by_cases zf : p_X3_isFull 6 h.nC
      · have yf : m.wf 18 = 6 := c0.symm.trans ((full_iff c1 (by decide : (6 : Int32).toInt = ((6 : Nat) : Int)) c2).mp zf)
        simp only [f_X7_came, g_X7_came_0_12, g_X7_came_0_14, g_X7_came_2_2, g_X7_came_3, f_X8_came, g_X8_came_1, g_X8_came_2, f_X7_keep, g_X7_keep_0_14, g_X7_keep_1_2, g_X7_keep_2, if_pos z1, if_pos y1, if_pos z2, if_pos y2, if_pos zf, if_pos yf]
        exact ⟨trivial, inv_full hI⟩
      · have yf : ¬ m.wf 18 = 6 := fun q => zf ((full_iff c1 (by decide : (6 : Int32).toInt = ((6 : Nat) : Int)) c2).mpr (c0.trans q))
        have hk : h.nC.toNatClampNeg < 6 := Int32_lt_of zf c1 (by decide : (6 : Int32).toInt = ((6 : Nat) : Int))
        simp only [f_X7_came, g_X7_came_0_12, g_X7_came_0_14, g_X7_came_2_2, g_X7_came_3, f_X8_came, g_X8_came_1, g_X8_came_2, f_X7_keep, g_X7_keep_0_14, g_X7_keep_1_2, g_X7_keep_2, if_pos z1, if_pos y1, if_pos z2, if_pos y2, if_neg zf, if_neg yf, (put_n c1 (by decide : (6 : Int32).toInt = ((6 : Nat) : Int)) hk (by decide)).1, put_f c1 (by decide : (6 : Int32).toInt = ((6 : Nat) : Int)) hk]
        exact ⟨by rw [c0], inv_wf hI ⟨(hI.2.2.1.1.cg fun i _ _ => by repeat rw [pk_un (by omega)]), (hI.2.2.1.2.1.cg fun i _ => by repeat rw [pk_un (by omega)]), RCm.put ⟨c0, c1, c2, c3⟩ hk (by rw [pk_us, c0]) (by rw [pk_un (by omega), pk_un (by omega), pk_us]) (by rw [pk_un (by omega), pk_us]) (fun i hi => ⟨by repeat rw [pk_un (by omega)], by repeat rw [pk_un (by omega)]⟩), (hI.2.2.1.2.2.2.1.cg fun i _ _ => by repeat rw [pk_un (by omega)]), (hI.2.2.1.2.2.2.2.1.cg fun i _ _ => by repeat rw [pk_un (by omega)]), (hI.2.2.1.2.2.2.2.2.cg fun i _ _ => by repeat rw [pk_un (by omega)])⟩ (fun i hi => by repeat rw [pk_un (by omega)])⟩
    · have y2 : ¬ p_X8_in a2.toInt64 0 60 := mt (in_wi a2 0 60).mp z2
      simp only [f_X7_came, g_X7_came_0_12, g_X7_came_0_14, g_X7_came_2_2, g_X7_came_3, f_X8_came, g_X8_came_1, g_X8_came_2, if_pos z1, if_pos y1, if_neg z2, if_neg y2]
      exact ⟨trivial, inv_bad hI⟩
  · have y1 : ¬ p_X8_in a1.toInt64 1 60 := mt (in_wi a1 1 60).mp z1
    simp only [f_X7_came, g_X7_came_0_12, g_X7_came_0_14, g_X7_came_2_2, g_X7_came_3, f_X8_came, g_X8_came_1, g_X8_came_2, if_neg z1, if_neg y1]
    exact ⟨trivial, inv_bad hI⟩
theorem eq_note (a1 a2 a3 a4 : Int32) (x : XV) (h : PV) (d : PV) (o : PV) (p : PV) (t : TV) (w : WV) (g : GV) (e : EV) (m : MV) (hI : Inv x h o p t m) : (f_X7_note h.nS 6 h.nN a1 a2 a3 a4) = (f_X8_note m.wf a1 a2 a3 a4) ∧ Inv (x.k0, x.k1, x.abv, x.blw, g_X7_note_0_12 x.rb h.nS a1 a2 a3 a4, x.rn, g_X7_note_0_14 x.rf h.nS 6 h.nN a1 a2 a3 a4) (h.ln, h.hb, h.ha, h.pu, h.hl, h.sm, h.hr, h.nS, h.nC, g_X7_note_3_2 h.nS 6 h.nN a1 a2 a3 a4, h.nM, h.nU, h.fS, h.fC, g_X7_note_4 h.nS 6 h.nN h.fN a1 a2 a3 a4, h.fM, h.fU) o p t (m.txd, m.abv, m.blw, m.atp, m.stp, m.nbr, m.bmy, m.hsh, g_X8_note_1 m.wf a1 a2 a3 a4 h.nN.toNatClampNeg, m.kp, m.tx, g_X8_note_2 m.wf m.ss a1 a2 a3 a4, m.ti, m.pp, m.hh, m.bb, m.al, m.sx) := by
  obtain ⟨⟨i1, i2, i3, i4, i5, i6, i7⟩, ⟨t1, t2, t3, t4⟩, ⟨⟨l1, l2, l3, l4, l5, l6, l7, l8, l9⟩, ⟨w0, w1, w2, w3⟩, ⟨c0, c1, c2, c3⟩, ⟨n0, n1, n2, n3⟩, ⟨m0, m1, m2, m3⟩, ⟨u0, u1, u2, u3⟩⟩, o1, p1⟩ := id hI
  have hw0 := w0
  by_cases z1 : p_X7_within a1 0 (h.nS - 1)
  · have y1 : p_X8_in a1.toInt64 0 ((m.wf 0) - 1).toInt64 := (has_iff hw0 a1).mpr z1
    by_cases z2 : p_X7_within a2 1 60
    · have y2 : p_X8_in a2.toInt64 1 60 := (in_wi a2 1 60).mpr z2
      by_cases z3 : p_X7_within a3 0 23
      · have y3 : p_X8_in a3.toInt64 0 23 := (in_wi a3 0 23).mpr z3
        by_cases z4 : p_X7_within a4 0 200
        · have y4 : p_X8_in a4.toInt64 0 200 := (in_wi a4 0 200).mpr z4
          by_cases zf : p_X3_isFull 6 h.nN
          · have yf : m.wf 31 = 6 := n0.symm.trans ((full_iff n1 (by decide : (6 : Int32).toInt = ((6 : Nat) : Int)) n2).mp zf)
            simp only [f_X7_note, g_X7_note_0_12, g_X7_note_0_14, g_X7_note_3_2, g_X7_note_4, f_X8_note, g_X8_note_1, g_X8_note_2, f_X7_keep, g_X7_keep_0_14, g_X7_keep_1_2, g_X7_keep_2, if_pos z1, if_pos y1, if_pos z2, if_pos y2, if_pos z3, if_pos y3, if_pos z4, if_pos y4, if_pos zf, if_pos yf]
            exact ⟨trivial, inv_full hI⟩
          · have yf : ¬ m.wf 31 = 6 := fun q => zf ((full_iff n1 (by decide : (6 : Int32).toInt = ((6 : Nat) : Int)) n2).mpr (n0.trans q))
            have hk : h.nN.toNatClampNeg < 6 := Int32_lt_of zf n1 (by decide : (6 : Int32).toInt = ((6 : Nat) : Int))
            simp only [f_X7_note, g_X7_note_0_12, g_X7_note_0_14, g_X7_note_3_2, g_X7_note_4, f_X8_note, g_X8_note_1, g_X8_note_2, f_X7_keep, g_X7_keep_0_14, g_X7_keep_1_2, g_X7_keep_2, if_pos z1, if_pos y1, if_pos z2, if_pos y2, if_pos z3, if_pos y3, if_pos z4, if_pos y4, if_neg zf, if_neg yf, (put_n n1 (by decide : (6 : Int32).toInt = ((6 : Nat) : Int)) hk (by decide)).1, put_f n1 (by decide : (6 : Int32).toInt = ((6 : Nat) : Int)) hk]
            have hr := wi_rng (a := 0) (b := 23) (by decide) (by decide) z3
            exact ⟨by rw [n0], inv_wf hI ⟨(hI.2.2.1.1.cg fun i _ _ => by repeat rw [pk_un (by omega)]), (hI.2.2.1.2.1.cg fun i _ => by repeat rw [pk_un (by omega)]), (hI.2.2.1.2.2.1.cg fun i _ _ => by repeat rw [pk_un (by omega)]), RNt.put ⟨n0, n1, n2, n3⟩ hk (by rw [pk_us, n0]) (by rw [pk_un (by omega), pk_un (by omega), pk_un (by omega), pk_un (by omega), pk_us]) (by rw [pk_un (by omega), pk_un (by omega), pk_un (by omega), pk_us]) (by rw [pk_un (by omega), pk_un (by omega), pk_us]) (by rw [pk_un (by omega), pk_us]) (fun i hi => ⟨by repeat rw [pk_un (by omega)], by repeat rw [pk_un (by omega)], by repeat rw [pk_un (by omega)], by repeat rw [pk_un (by omega)]⟩) hr, (hI.2.2.1.2.2.2.2.1.cg fun i _ _ => by repeat rw [pk_un (by omega)]), (hI.2.2.1.2.2.2.2.2.cg fun i _ _ => by repeat rw [pk_un (by omega)])⟩ (fun i hi => by repeat rw [pk_un (by omega)])⟩
        · have y4 : ¬ p_X8_in a4.toInt64 0 200 := mt (in_wi a4 0 200).mp z4
          simp only [f_X7_note, g_X7_note_0_12, g_X7_note_0_14, g_X7_note_3_2, g_X7_note_4, f_X8_note, g_X8_note_1, g_X8_note_2, if_pos z1, if_pos y1, if_pos z2, if_pos y2, if_pos z3, if_pos y3, if_neg z4, if_neg y4]
          exact ⟨trivial, inv_bad hI⟩
      · have y3 : ¬ p_X8_in a3.toInt64 0 23 := mt (in_wi a3 0 23).mp z3
        simp only [f_X7_note, g_X7_note_0_12, g_X7_note_0_14, g_X7_note_3_2, g_X7_note_4, f_X8_note, g_X8_note_1, g_X8_note_2, if_pos z1, if_pos y1, if_pos z2, if_pos y2, if_neg z3, if_neg y3]
        exact ⟨trivial, inv_bad hI⟩
    · have y2 : ¬ p_X8_in a2.toInt64 1 60 := mt (in_wi a2 1 60).mp z2
      simp only [f_X7_note, g_X7_note_0_12, g_X7_note_0_14, g_X7_note_3_2, g_X7_note_4, f_X8_note, g_X8_note_1, g_X8_note_2, if_pos z1, if_pos y1, if_neg z2, if_neg y2]
      exact ⟨trivial, inv_bad hI⟩
  · have y1 : ¬ p_X8_in a1.toInt64 0 ((m.wf 0) - 1).toInt64 := mt (has_iff hw0 a1).mp z1
    simp only [f_X7_note, g_X7_note_0_12, g_X7_note_0_14, g_X7_note_3_2, g_X7_note_4, f_X8_note, g_X8_note_1, g_X8_note_2, if_neg z1, if_neg y1]
    exact ⟨trivial, inv_bad hI⟩
theorem eq_mark (a1 a2 a3 a4 : Int32) (x : XV) (h : PV) (d : PV) (o : PV) (p : PV) (t : TV) (w : WV) (g : GV) (e : EV) (m : MV) (hI : Inv x h o p t m) : (f_X7_mark 6 h.nM a1 a2 a3 a4) = (f_X8_mark m.wf a1 a2 a3 a4) ∧ Inv (x.k0, x.k1, x.abv, x.blw, g_X7_mark_0_12 x.rb a1 a2 a3 a4, x.rn, g_X7_mark_0_14 x.rf 6 h.nM a1 a2 a3 a4) (h.ln, h.hb, h.ha, h.pu, h.hl, h.sm, h.hr, h.nS, h.nC, h.nN, g_X7_mark_2_2 6 h.nM a1 a2 a3 a4, h.nU, h.fS, h.fC, h.fN, g_X7_mark_3 6 h.nM h.fM a1 a2 a3 a4, h.fU) o p t (m.txd, m.abv, m.blw, m.atp, m.stp, m.nbr, m.bmy, m.hsh, g_X8_mark_1 m.wf a1 a2 a3 a4 h.nM.toNatClampNeg, m.kp, m.tx, g_X8_mark_2 m.wf m.ss a1 a2 a3 a4, m.ti, m.pp, m.hh, m.bb, m.al, m.sx) := by
  obtain ⟨⟨i1, i2, i3, i4, i5, i6, i7⟩, ⟨t1, t2, t3, t4⟩, ⟨⟨l1, l2, l3, l4, l5, l6, l7, l8, l9⟩, ⟨w0, w1, w2, w3⟩, ⟨c0, c1, c2, c3⟩, ⟨n0, n1, n2, n3⟩, ⟨m0, m1, m2, m3⟩, ⟨u0, u1, u2, u3⟩⟩, o1, p1⟩ := id hI
  by_cases z1 : p_X7_within a1 0 1
  · have y1 : p_X8_in a1.toInt64 0 1 := (in_wi a1 0 1).mpr z1
    by_cases z2 : p_X7_within a2 0 99
    · have y2 : p_X8_in a2.toInt64 0 99 := (in_wi a2 0 99).mpr z2
      by_cases z3 : p_X7_within a3 0 99
      · have y3 : p_X8_in a3.toInt64 0 99 := (in_wi a3 0 99).mpr z3
        by_cases z4 : p_X7_within a4 0 200
        · have y4 : p_X8_in a4.toInt64 0 200 := (in_wi a4 0 200).mpr z4
          by_cases zf : p_X3_isFull 6 h.nM
          · have yf : m.wf 56 = 6 := m0.symm.trans ((full_iff m1 (by decide : (6 : Int32).toInt = ((6 : Nat) : Int)) m2).mp zf)
            simp only [f_X7_mark, g_X7_mark_0_12, g_X7_mark_0_14, g_X7_mark_2_2, g_X7_mark_3, f_X8_mark, g_X8_mark_1, g_X8_mark_2, f_X7_keep, g_X7_keep_0_14, g_X7_keep_1_2, g_X7_keep_2, if_pos z1, if_pos y1, if_pos z2, if_pos y2, if_pos z3, if_pos y3, if_pos z4, if_pos y4, if_pos zf, if_pos yf]
            exact ⟨trivial, inv_full hI⟩
          · have yf : ¬ m.wf 56 = 6 := fun q => zf ((full_iff m1 (by decide : (6 : Int32).toInt = ((6 : Nat) : Int)) m2).mpr (m0.trans q))
            have hk : h.nM.toNatClampNeg < 6 := Int32_lt_of zf m1 (by decide : (6 : Int32).toInt = ((6 : Nat) : Int))
            simp only [f_X7_mark, g_X7_mark_0_12, g_X7_mark_0_14, g_X7_mark_2_2, g_X7_mark_3, f_X8_mark, g_X8_mark_1, g_X8_mark_2, f_X7_keep, g_X7_keep_0_14, g_X7_keep_1_2, g_X7_keep_2, if_pos z1, if_pos y1, if_pos z2, if_pos y2, if_pos z3, if_pos y3, if_pos z4, if_pos y4, if_neg zf, if_neg yf, (put_n m1 (by decide : (6 : Int32).toInt = ((6 : Nat) : Int)) hk (by decide)).1, put_f m1 (by decide : (6 : Int32).toInt = ((6 : Nat) : Int)) hk]
            exact ⟨by rw [m0], inv_wf hI ⟨(hI.2.2.1.1.cg fun i _ _ => by repeat rw [pk_un (by omega)]), (hI.2.2.1.2.1.cg fun i _ => by repeat rw [pk_un (by omega)]), (hI.2.2.1.2.2.1.cg fun i _ _ => by repeat rw [pk_un (by omega)]), (hI.2.2.1.2.2.2.1.cg fun i _ _ => by repeat rw [pk_un (by omega)]), RMk.put ⟨m0, m1, m2, m3⟩ hk (by rw [pk_us, m0]) (by rw [pk_un (by omega), pk_un (by omega), pk_un (by omega), pk_un (by omega), pk_us]) (by rw [pk_un (by omega), pk_un (by omega), pk_un (by omega), pk_us]) (by rw [pk_un (by omega), pk_un (by omega), pk_us]) (by rw [pk_un (by omega), pk_us]) (fun i hi => ⟨by repeat rw [pk_un (by omega)], by repeat rw [pk_un (by omega)], by repeat rw [pk_un (by omega)], by repeat rw [pk_un (by omega)]⟩), (hI.2.2.1.2.2.2.2.2.cg fun i _ _ => by repeat rw [pk_un (by omega)])⟩ (fun i hi => by repeat rw [pk_un (by omega)])⟩
        · have y4 : ¬ p_X8_in a4.toInt64 0 200 := mt (in_wi a4 0 200).mp z4
          simp only [f_X7_mark, g_X7_mark_0_12, g_X7_mark_0_14, g_X7_mark_2_2, g_X7_mark_3, f_X8_mark, g_X8_mark_1, g_X8_mark_2, if_pos z1, if_pos y1, if_pos z2, if_pos y2, if_pos z3, if_pos y3, if_neg z4, if_neg y4]
          exact ⟨trivial, inv_bad hI⟩
      · have y3 : ¬ p_X8_in a3.toInt64 0 99 := mt (in_wi a3 0 99).mp z3
        simp only [f_X7_mark, g_X7_mark_0_12, g_X7_mark_0_14, g_X7_mark_2_2, g_X7_mark_3, f_X8_mark, g_X8_mark_1, g_X8_mark_2, if_pos z1, if_pos y1, if_pos z2, if_pos y2, if_neg z3, if_neg y3]
        exact ⟨trivial, inv_bad hI⟩
    · have y2 : ¬ p_X8_in a2.toInt64 0 99 := mt (in_wi a2 0 99).mp z2
      simp only [f_X7_mark, g_X7_mark_0_12, g_X7_mark_0_14, g_X7_mark_2_2, g_X7_mark_3, f_X8_mark, g_X8_mark_1, g_X8_mark_2, if_pos z1, if_pos y1, if_neg z2, if_neg y2]
      exact ⟨trivial, inv_bad hI⟩
  · have y1 : ¬ p_X8_in a1.toInt64 0 1 := mt (in_wi a1 0 1).mp z1
    simp only [f_X7_mark, g_X7_mark_0_12, g_X7_mark_0_14, g_X7_mark_2_2, g_X7_mark_3, f_X8_mark, g_X8_mark_1, g_X8_mark_2, if_neg z1, if_neg y1]
    exact ⟨trivial, inv_bad hI⟩
theorem eq_forget (a1 : Int32) (x : XV) (h : PV) (d : PV) (o : PV) (p : PV) (t : TV) (w : WV) (g : GV) (e : EV) (m : MV) (hI : Inv x h o p t m) : (f_X7_forget h.nC h.nN h.nM a1) = (f_X8_forget m.wf a1) ∧ Inv (x.k0, x.k1, x.abv, x.blw, g_X7_forget_0_12 x.rb a1, x.rn, x.rf) (h.ln, h.hb, h.ha, h.pu, h.hl, h.sm, h.hr, h.nS, g_X7_forget_2_2 h.nC a1, g_X7_forget_3_2 h.nN a1, g_X7_forget_4_2 h.nM a1, h.nU, h.fS, h.fC, h.fN, h.fM, h.fU) o p t (m.txd, m.abv, m.blw, m.atp, m.stp, m.nbr, m.bmy, m.hsh, g_X8_forget_1 m.wf a1, m.kp, m.tx, g_X8_forget_2 m.ss a1, m.ti, m.pp, m.hh, m.bb, m.al, m.sx) := by
  obtain ⟨⟨i1, i2, i3, i4, i5, i6, i7⟩, ⟨t1, t2, t3, t4⟩, ⟨⟨l1, l2, l3, l4, l5, l6, l7, l8, l9⟩, ⟨w0, w1, w2, w3⟩, ⟨c0, c1, c2, c3⟩, ⟨n0, n1, n2, n3⟩, ⟨m0, m1, m2, m3⟩, ⟨u0, u1, u2, u3⟩⟩, o1, p1⟩ := id hI
  by_cases z1 : p_X7_within a1 0 2
  · have y1 : p_X8_in a1.toInt64 0 2 := (in_wi a1 0 2).mpr z1
    by_cases b0 : a1 = 0
    · simp only [f_X7_forget, g_X7_forget_0_12, g_X7_forget_2_2, g_X7_forget_3_2, g_X7_forget_4_2, f_X8_forget, g_X8_forget_1, g_X8_forget_2, if_pos z1, if_pos y1, if_pos b0]
      exact ⟨c0, inv_wf hI ⟨(hI.2.2.1.1.cg fun i _ _ => by repeat rw [pk_un (by omega)]), (hI.2.2.1.2.1.cg fun i _ => by repeat rw [pk_un (by omega)]), RCm.zero rfl, (hI.2.2.1.2.2.2.1.cg fun i _ _ => by repeat rw [pk_un (by omega)]), (hI.2.2.1.2.2.2.2.1.cg fun i _ _ => by repeat rw [pk_un (by omega)]), (hI.2.2.1.2.2.2.2.2.cg fun i _ _ => by repeat rw [pk_un (by omega)])⟩ (fun i hi => by repeat rw [pk_un (by omega)])⟩
    · by_cases b1 : a1 = 1
      · simp only [f_X7_forget, g_X7_forget_0_12, g_X7_forget_2_2, g_X7_forget_3_2, g_X7_forget_4_2, f_X8_forget, g_X8_forget_1, g_X8_forget_2, if_pos z1, if_pos y1, if_neg b0, if_pos b1]
        exact ⟨n0, inv_wf hI ⟨(hI.2.2.1.1.cg fun i _ _ => by repeat rw [pk_un (by omega)]), (hI.2.2.1.2.1.cg fun i _ => by repeat rw [pk_un (by omega)]), (hI.2.2.1.2.2.1.cg fun i _ _ => by repeat rw [pk_un (by omega)]), RNt.zero rfl, (hI.2.2.1.2.2.2.2.1.cg fun i _ _ => by repeat rw [pk_un (by omega)]), (hI.2.2.1.2.2.2.2.2.cg fun i _ _ => by repeat rw [pk_un (by omega)])⟩ (fun i hi => by repeat rw [pk_un (by omega)])⟩
      · simp only [f_X7_forget, g_X7_forget_0_12, g_X7_forget_2_2, g_X7_forget_3_2, g_X7_forget_4_2, f_X8_forget, g_X8_forget_1, g_X8_forget_2, if_pos z1, if_pos y1, if_neg b0, if_neg b1]
        exact ⟨m0, inv_wf hI ⟨(hI.2.2.1.1.cg fun i _ _ => by repeat rw [pk_un (by omega)]), (hI.2.2.1.2.1.cg fun i _ => by repeat rw [pk_un (by omega)]), (hI.2.2.1.2.2.1.cg fun i _ _ => by repeat rw [pk_un (by omega)]), (hI.2.2.1.2.2.2.1.cg fun i _ _ => by repeat rw [pk_un (by omega)]), RMk.zero rfl, (hI.2.2.1.2.2.2.2.2.cg fun i _ _ => by repeat rw [pk_un (by omega)])⟩ (fun i hi => by repeat rw [pk_un (by omega)])⟩
  · have y1 : ¬ p_X8_in a1.toInt64 0 2 := mt (in_wi a1 0 2).mp z1
    simp only [f_X7_forget, g_X7_forget_0_12, g_X7_forget_2_2, g_X7_forget_3_2, g_X7_forget_4_2, f_X8_forget, g_X8_forget_1, g_X8_forget_2, if_neg z1, if_neg y1]
    exact ⟨trivial, inv_bad hI⟩
theorem eq_image (a1 : Int32) (x : XV) (h : PV) (d : PV) (o : PV) (p : PV) (t : TV) (w : WV) (g : GV) (e : EV) (m : MV) (hI : Inv x h o p t m) : (f_X7_image a1) = (f_X8_image a1) ∧ Inv (g_X7_image_0_4 x.k0 a1, g_X7_image_0_5 x.k1 a1, x.abv, x.blw, g_X7_image_0_12 x.rb a1, x.rn, x.rf) h (g_X7_image_12_0 h.ln o.ln a1, g_X7_image_12_1 h.hb o.hb a1, g_X7_image_12_2 h.ha o.ha a1, g_X7_image_12_3 h.pu o.pu a1, g_X7_image_12_4 h.hl o.hl a1, g_X7_image_12_5 h.sm o.sm a1, g_X7_image_12_6 h.hr o.hr a1, g_X7_image_13_2 h.nS o.nS a1, g_X7_image_15_2 h.nC o.nC a1, g_X7_image_17_2 h.nN o.nN a1, g_X7_image_19_2 h.nM o.nM a1, g_X7_image_21_2 h.nU o.nU a1, g_X7_image_14 h.fS o.fS a1, g_X7_image_16 h.fC o.fC a1, g_X7_image_18 h.fN o.fN a1, g_X7_image_20 h.fM o.fM a1, g_X7_image_22 h.fU o.fU a1) (g_X7_image_23_0 h.ln p.ln a1, g_X7_image_23_1 h.hb p.hb a1, g_X7_image_23_2 h.ha p.ha a1, g_X7_image_23_3 h.pu p.pu a1, g_X7_image_23_4 h.hl p.hl a1, g_X7_image_23_5 h.sm p.sm a1, g_X7_image_23_6 h.hr p.hr a1, g_X7_image_24_2 h.nS p.nS a1, g_X7_image_26_2 h.nC p.nC a1, g_X7_image_28_2 h.nN p.nN a1, g_X7_image_30_2 h.nM p.nM a1, g_X7_image_32_2 h.nU p.nU a1, g_X7_image_25 h.fS p.fS a1, g_X7_image_27 h.fC p.fC a1, g_X7_image_29 h.fN p.fN a1, g_X7_image_31 h.fM p.fM a1, g_X7_image_33 h.fU p.fU a1) t (m.txd, m.abv, m.blw, m.atp, m.stp, m.nbr, m.bmy, m.hsh, g_X8_image_1 m.wf a1, g_X8_image_2 m.kp a1, m.tx, g_X8_image_3 m.ss a1, m.ti, m.pp, m.hh, m.bb, m.al, m.sx) := by
  obtain ⟨⟨i1, i2, i3, i4, i5, i6, i7⟩, ⟨t1, t2, t3, t4⟩, ⟨⟨l1, l2, l3, l4, l5, l6, l7, l8, l9⟩, ⟨w0, w1, w2, w3⟩, ⟨c0, c1, c2, c3⟩, ⟨n0, n1, n2, n3⟩, ⟨m0, m1, m2, m3⟩, ⟨u0, u1, u2, u3⟩⟩, o1, p1⟩ := id hI
  by_cases z1 : p_X7_within a1 0 1
  · have y1 : p_X8_in a1.toInt64 0 1 := (in_wi a1 0 1).mpr z1
    rcases two_cases z1 with rfl | rfl
    · simp only [f_X7_image, g_X7_image_0_4, g_X7_image_0_5, g_X7_image_0_12, g_X7_image_12_0, g_X7_image_12_1, g_X7_image_12_2, g_X7_image_12_3, g_X7_image_12_4, g_X7_image_12_5, g_X7_image_12_6, g_X7_image_13_2, g_X7_image_14, g_X7_image_15_2, g_X7_image_16, g_X7_image_17_2, g_X7_image_18, g_X7_image_19_2, g_X7_image_20, g_X7_image_21_2, g_X7_image_22, g_X7_image_23_0, g_X7_image_23_1, g_X7_image_23_2, g_X7_image_23_3, g_X7_image_23_4, g_X7_image_23_5, g_X7_image_23_6, g_X7_image_24_2, g_X7_image_25, g_X7_image_26_2, g_X7_image_27, g_X7_image_28_2, g_X7_image_29, g_X7_image_30_2, g_X7_image_31, g_X7_image_32_2, g_X7_image_33, f_X8_image, g_X8_image_1, g_X8_image_2, g_X8_image_3, if_pos z1, if_pos y1, (by decide : (0 : Int32).toNatClampNeg = 0), if_pos rfl, if_true]
      exact ⟨trivial, ⟨i1, i2, i3, i4, i5, rfl, i7⟩, hI.2.1, hI.2.2.1.cg (fun i hi => pk_cpy_out (by omega)), fun _ => hI.2.2.1.cp.cg (fun i hi => by show va_cpy m.wf m.wf 0 114 114 (114 + i) = m.wf i; rw [pk_cpy_in (by omega) (by omega), show 0 + (114 + i - 114) = i by omega]), fun hk => (p1 hk).cg (fun i hi => pk_cpy_out (by omega))⟩
    · simp only [f_X7_image, g_X7_image_0_4, g_X7_image_0_5, g_X7_image_0_12, g_X7_image_12_0, g_X7_image_12_1, g_X7_image_12_2, g_X7_image_12_3, g_X7_image_12_4, g_X7_image_12_5, g_X7_image_12_6, g_X7_image_13_2, g_X7_image_14, g_X7_image_15_2, g_X7_image_16, g_X7_image_17_2, g_X7_image_18, g_X7_image_19_2, g_X7_image_20, g_X7_image_21_2, g_X7_image_22, g_X7_image_23_0, g_X7_image_23_1, g_X7_image_23_2, g_X7_image_23_3, g_X7_image_23_4, g_X7_image_23_5, g_X7_image_23_6, g_X7_image_24_2, g_X7_image_25, g_X7_image_26_2, g_X7_image_27, g_X7_image_28_2, g_X7_image_29, g_X7_image_30_2, g_X7_image_31, g_X7_image_32_2, g_X7_image_33, f_X8_image, g_X8_image_1, g_X8_image_2, g_X8_image_3, if_pos z1, if_pos y1, (by decide : (1 : Int32).toNatClampNeg = 1), if_neg (by decide : ¬ (1 : Int32) = 0)]
      exact ⟨trivial, ⟨i1, i2, i3, i4, i5, i6, rfl⟩, hI.2.1, hI.2.2.1.cg (fun i hi => pk_cpy_out (by omega)), fun hk => (o1 hk).cg (fun i hi => pk_cpy_out (by omega)), fun _ => hI.2.2.1.cp.cg (fun i hi => by show va_cpy m.wf m.wf 0 228 114 (228 + i) = m.wf i; rw [pk_cpy_in (by omega) (by omega), show 0 + (228 + i - 228) = i by omega])⟩
  · have y1 : ¬ p_X8_in a1.toInt64 0 1 := mt (in_wi a1 0 1).mp z1
    simp only [f_X7_image, g_X7_image_0_4, g_X7_image_0_5, g_X7_image_0_12, g_X7_image_12_0, g_X7_image_12_1, g_X7_image_12_2, g_X7_image_12_3, g_X7_image_12_4, g_X7_image_12_5, g_X7_image_12_6, g_X7_image_13_2, g_X7_image_14, g_X7_image_15_2, g_X7_image_16, g_X7_image_17_2, g_X7_image_18, g_X7_image_19_2, g_X7_image_20, g_X7_image_21_2, g_X7_image_22, g_X7_image_23_0, g_X7_image_23_1, g_X7_image_23_2, g_X7_image_23_3, g_X7_image_23_4, g_X7_image_23_5, g_X7_image_23_6, g_X7_image_24_2, g_X7_image_25, g_X7_image_26_2, g_X7_image_27, g_X7_image_28_2, g_X7_image_29, g_X7_image_30_2, g_X7_image_31, g_X7_image_32_2, g_X7_image_33, f_X8_image, g_X8_image_1, g_X8_image_2, g_X8_image_3, if_neg z1, if_neg y1]
    exact ⟨trivial, inv_bad hI⟩
theorem eq_from (a1 : Int32) (x : XV) (h : PV) (d : PV) (o : PV) (p : PV) (t : TV) (w : WV) (g : GV) (e : EV) (m : MV) (hI : Inv x h o p t m) : (f_X7_from x.k0 x.k1 a1) = (f_X8_from m.kp a1) ∧ Inv (x.k0, x.k1, x.abv, x.blw, g_X7_from_0_12 x.k0 x.k1 x.rb a1, g_X7_from_0_13 x.k0 x.k1 x.rn a1, x.rf) (g_X7_from_1_0 x.k0 x.k1 h.ln o.ln p.ln a1, g_X7_from_1_1 x.k0 x.k1 h.hb o.hb p.hb a1, g_X7_from_1_2 x.k0 x.k1 h.ha o.ha p.ha a1, g_X7_from_1_3 x.k0 x.k1 h.pu o.pu p.pu a1, g_X7_from_1_4 x.k0 x.k1 h.hl o.hl p.hl a1, g_X7_from_1_5 x.k0 x.k1 h.sm o.sm p.sm a1, g_X7_from_1_6 x.k0 x.k1 h.hr o.hr p.hr a1, g_X7_from_2_2 x.k0 x.k1 h.nS o.nS p.nS a1, g_X7_from_4_2 x.k0 x.k1 h.nC o.nC p.nC a1, g_X7_from_6_2 x.k0 x.k1 h.nN o.nN p.nN a1, g_X7_from_8_2 x.k0 x.k1 h.nM o.nM p.nM a1, g_X7_from_10_2 x.k0 x.k1 h.nU o.nU p.nU a1, g_X7_from_3 x.k0 x.k1 h.fS o.fS p.fS a1, g_X7_from_5 x.k0 x.k1 h.fC o.fC p.fC a1, g_X7_from_7 x.k0 x.k1 h.fN o.fN p.fN a1, g_X7_from_9 x.k0 x.k1 h.fM o.fM p.fM a1, g_X7_from_11 x.k0 x.k1 h.fU o.fU p.fU a1) o p t (m.txd, m.abv, m.blw, m.atp, m.stp, m.nbr, m.bmy, m.hsh, g_X8_from_1 m.wf m.kp a1, m.kp, m.tx, g_X8_from_3 m.kp m.ss a1, m.ti, m.pp, m.hh, m.bb, m.al, m.sx) := by
  obtain ⟨⟨i1, i2, i3, i4, i5, i6, i7⟩, ⟨t1, t2, t3, t4⟩, ⟨⟨l1, l2, l3, l4, l5, l6, l7, l8, l9⟩, ⟨w0, w1, w2, w3⟩, ⟨c0, c1, c2, c3⟩, ⟨n0, n1, n2, n3⟩, ⟨m0, m1, m2, m3⟩, ⟨u0, u1, u2, u3⟩⟩, o1, p1⟩ := id hI
  by_cases z1 : p_X7_within a1 0 1
  · have y1 : p_X8_in a1.toInt64 0 1 := (in_wi a1 0 1).mpr z1
    rcases two_cases z1 with rfl | rfl
    · by_cases zk : x.k0 = 0
      · have yk : m.kp 0 = 0 := i6.symm.trans zk
        simp only [f_X7_from, g_X7_from_0_12, g_X7_from_0_13, g_X7_from_1_0, g_X7_from_1_1, g_X7_from_1_2, g_X7_from_1_3, g_X7_from_1_4, g_X7_from_1_5, g_X7_from_1_6, g_X7_from_2_2, g_X7_from_3, g_X7_from_4_2, g_X7_from_5, g_X7_from_6_2, g_X7_from_7, g_X7_from_8_2, g_X7_from_9, g_X7_from_10_2, g_X7_from_11, f_X8_from, g_X8_from_1, g_X8_from_3, if_pos z1, if_pos y1, (by decide : (0 : Int32).toNatClampNeg = 0), if_pos rfl, if_true, if_pos zk, if_pos yk]
        exact ⟨trivial, inv_no hI⟩
      · have yk : ¬ m.kp 0 = 0 := fun z => zk (i6.trans z)
        simp only [f_X7_from, g_X7_from_0_12, g_X7_from_0_13, g_X7_from_1_0, g_X7_from_1_1, g_X7_from_1_2, g_X7_from_1_3, g_X7_from_1_4, g_X7_from_1_5, g_X7_from_1_6, g_X7_from_2_2, g_X7_from_3, g_X7_from_4_2, g_X7_from_5, g_X7_from_6_2, g_X7_from_7, g_X7_from_8_2, g_X7_from_9, g_X7_from_10_2, g_X7_from_11, f_X8_from, g_X8_from_1, g_X8_from_3, if_pos z1, if_pos y1, (by decide : (0 : Int32).toNatClampNeg = 0), if_pos rfl, if_true, if_neg zk, if_neg yk]
        exact ⟨trivial, inv_wf hI ((o1 zk).cp.cg (fun i hi => by show va_cpy m.wf m.wf 114 0 114 i = m.wf (114 + i); rw [pk_cpy_in (by omega) (by omega), Nat.sub_zero])) (fun i hi => pk_cpy_out (by omega))⟩
    · by_cases zk : x.k1 = 0
      · have yk : m.kp 1 = 0 := i7.symm.trans zk
        simp only [f_X7_from, g_X7_from_0_12, g_X7_from_0_13, g_X7_from_1_0, g_X7_from_1_1, g_X7_from_1_2, g_X7_from_1_3, g_X7_from_1_4, g_X7_from_1_5, g_X7_from_1_6, g_X7_from_2_2, g_X7_from_3, g_X7_from_4_2, g_X7_from_5, g_X7_from_6_2, g_X7_from_7, g_X7_from_8_2, g_X7_from_9, g_X7_from_10_2, g_X7_from_11, f_X8_from, g_X8_from_1, g_X8_from_3, if_pos z1, if_pos y1, (by decide : (1 : Int32).toNatClampNeg = 1), if_neg (by decide : ¬ (1 : Int32) = 0), if_pos zk, if_pos yk]
        exact ⟨trivial, inv_no hI⟩
      · have yk : ¬ m.kp 1 = 0 := fun z => zk (i7.trans z)
        simp only [f_X7_from, g_X7_from_0_12, g_X7_from_0_13, g_X7_from_1_0, g_X7_from_1_1, g_X7_from_1_2, g_X7_from_1_3, g_X7_from_1_4, g_X7_from_1_5, g_X7_from_1_6, g_X7_from_2_2, g_X7_from_3, g_X7_from_4_2, g_X7_from_5, g_X7_from_6_2, g_X7_from_7, g_X7_from_8_2, g_X7_from_9, g_X7_from_10_2, g_X7_from_11, f_X8_from, g_X8_from_1, g_X8_from_3, if_pos z1, if_pos y1, (by decide : (1 : Int32).toNatClampNeg = 1), if_neg (by decide : ¬ (1 : Int32) = 0), if_neg zk, if_neg yk]
        exact ⟨trivial, inv_wf hI ((p1 zk).cp.cg (fun i hi => by show va_cpy m.wf m.wf 228 0 114 i = m.wf (228 + i); rw [pk_cpy_in (by omega) (by omega), Nat.sub_zero])) (fun i hi => pk_cpy_out (by omega))⟩
  · have y1 : ¬ p_X8_in a1.toInt64 0 1 := mt (in_wi a1 0 1).mp z1
    simp only [f_X7_from, g_X7_from_0_12, g_X7_from_0_13, g_X7_from_1_0, g_X7_from_1_1, g_X7_from_1_2, g_X7_from_1_3, g_X7_from_1_4, g_X7_from_1_5, g_X7_from_1_6, g_X7_from_2_2, g_X7_from_3, g_X7_from_4_2, g_X7_from_5, g_X7_from_6_2, g_X7_from_7, g_X7_from_8_2, g_X7_from_9, g_X7_from_10_2, g_X7_from_11, f_X8_from, g_X8_from_1, g_X8_from_3, if_neg z1, if_neg y1]
    exact ⟨trivial, inv_bad hI⟩
