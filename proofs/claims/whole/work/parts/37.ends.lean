theorem itr_ix {σ : Type} {f : Nat → σ → σ} (P : Nat → σ → Prop) : ∀ (n u : Nat) (s : σ), (∀ v, u ≤ v → v < u + n → ∀ s, P v s → P (v + 1) (f v s)) → P u s → P (u + n) (itr f n u s)
  | 0, u, s, _, h => by rw [itr_0]; exact h
  | n + 1, u, s, k, h => by
    rw [itr_s, show u + (n + 1) = u + 1 + n by omega]
    exact itr_ix P n (u + 1) _ (fun v h1 h2 => k v (by omega) (by omega)) (k u (by omega) (by omega) s h)
theorem rp_eq {v : PV} {wf : Nat → Int32} (h : RP v wf) (i j : Int32) : ∀ n, n ≤ v.nS.toNatClampNeg → itr (st_X6_reckonPair v.ln v.hr v.nS v.fS i j) n 0 (0, 0) = (itr (st_X8_getsBy wf 0 i j) n 0 0, itr (st_X8_getsBy wf 1 i j) n 0 0)
  | 0, _ => by rw [itr_0, itr_0, itr_0]
  | n + 1, hn => by
    have hS := h.2.1
    have h5 := hS.2.2.1
    rw [itr_snoc, itr_snoc, itr_snoc, rp_eq h i j n (by omega), Nat.zero_add]
    generalize itr (st_X8_getsBy wf 0 i j) n 0 0 = p
    generalize itr (st_X8_getsBy wf 1 i j) n 0 0 = q
    have z1 : p_X7_within (nI n) 0 (v.nS - 1) := has_k' hS.2.1 (by omega) (by rw [nI_toInt (by omega)]; omega) (by rw [nI_toInt (by omega)]; omega)
    have hs := shown_eq h.r0 z1 0
    rw [nI_cl (by omega), Int32.add_zero] at hs
    have hb := bring_eq h.r0 z1
    rw [nI_cl (by omega)] at hb
    unfold st_X6_reckonPair st_X8_getsBy
    simp only [hs, hb, charge_eq]
    simp only [h.1.2.2.2.2.2.2.1]
    generalize f_X8_chargeOf i (f_X8_showsIn wf (wf 17) 0 n) (wf 17 / 24) = X
    generalize f_X8_chargeOf j (f_X8_showsIn wf (wf 17) 0 n) (wf 17 / 24) = Y
    generalize 2 * f_X8_bringsIn wf 0 n = B
    have n10 : ¬ (1 : Int32) = 0 := by decide
    by_cases z : B < X + Y
    · have z2 : ¬ X + Y ≤ B := fun w => by rw [Int32.lt_iff_toInt_lt] at z; rw [Int32.le_iff_toInt_le] at w; omega
      simp only [if_pos z, if_neg z2, Int32.add_zero]
    · have z2 : X + Y ≤ B := by rw [Int32.lt_iff_toInt_lt] at z; rw [Int32.le_iff_toInt_le]; omega
      simp only [if_neg z, if_pos z2, eq_self, if_true, if_neg n10]
theorem rk_eq {v : PV} {wf : Nat → Int32} (h : RP v wf) (tb ta : Nat → Int32) : ∀ i j, i < 6 → j < 6 → (itr (st_X6_reckon v.ln v.hr v.nS v.fS v.nS.toNatClampNeg) 6 0 (tb, ta)).1 (6 * i + j) = itr (st_X8_getsBy wf 0 (nI i) (nI j)) v.nS.toNatClampNeg 0 0 ∧ (itr (st_X6_reckon v.ln v.hr v.nS v.fS v.nS.toNatClampNeg) 6 0 (tb, ta)).2 (6 * i + j) = itr (st_X8_getsBy wf 1 (nI i) (nI j)) v.nS.toNatClampNeg 0 0 := by
  refine itr_ix (f := st_X6_reckon v.ln v.hr v.nS v.fS v.nS.toNatClampNeg) (fun n s => ∀ i j, i < n → j < 6 → s.1 (6 * i + j) = itr (st_X8_getsBy wf 0 (nI i) (nI j)) v.nS.toNatClampNeg 0 0 ∧ s.2 (6 * i + j) = itr (st_X8_getsBy wf 1 (nI i) (nI j)) v.nS.toNatClampNeg 0 0) 6 0 (tb, ta) (fun k hk1 hk2 s hs => ?_) (fun i j hi => absurd hi (Nat.not_lt_zero i))
  have key := itr_ix (f := st_X6_reckon_in v.ln v.hr v.nS v.fS k v.nS.toNatClampNeg) (fun n s => (∀ i j, i < k → j < 6 → s.1 (6 * i + j) = itr (st_X8_getsBy wf 0 (nI i) (nI j)) v.nS.toNatClampNeg 0 0 ∧ s.2 (6 * i + j) = itr (st_X8_getsBy wf 1 (nI i) (nI j)) v.nS.toNatClampNeg 0 0) ∧ ∀ j, j < n → s.1 (6 * k + j) = itr (st_X8_getsBy wf 0 (nI k) (nI j)) v.nS.toNatClampNeg 0 0 ∧ s.2 (6 * k + j) = itr (st_X8_getsBy wf 1 (nI k) (nI j)) v.nS.toNatClampNeg 0 0) 6 0 (s.1, s.2) (fun u hu1 hu2 z hz => ⟨fun i j hi hj => ?_, fun j hj => ?_⟩) ⟨hs, fun j hj => absurd hj (Nat.not_lt_zero j)⟩
  · intro i j hi hj
    by_cases e : i = k
    · subst e; exact key.2 j (by omega)
    · exact key.1 i j (by omega) hj
  · show upd z.1 (6 * k + u) _ (6 * i + j) = _ ∧ upd z.2 (6 * k + u) _ (6 * i + j) = _
    rw [pk_un (by omega), pk_un (by omega)]; exact hz.1 i j hi hj
  · show upd z.1 (6 * k + u) (itr (st_X6_reckonPair v.ln v.hr v.nS v.fS (nI k) (nI u)) v.nS.toNatClampNeg 0 (0, 0)).1 (6 * k + j) = _ ∧ upd z.2 (6 * k + u) (itr (st_X6_reckonPair v.ln v.hr v.nS v.fS (nI k) (nI u)) v.nS.toNatClampNeg 0 (0, 0)).2 (6 * k + j) = _
    by_cases e : j = u
    · subst e; rw [pk_us, pk_us, rp_eq h _ _ _ (Nat.le_refl _)]; exact ⟨rfl, rfl⟩
    · rw [pk_un (by omega), pk_un (by omega)]; exact hz.2 j (by omega)
theorem le_nlt (a b : Int32) : decide (a ≤ b) = !decide (b < a) := by
  by_cases z : b < a
  · rw [decide_eq_true z, decide_eq_false (fun w => by rw [Int32.lt_iff_toInt_lt] at z; rw [Int32.le_iff_toInt_le] at w; omega)]; rfl
  · rw [decide_eq_false z, decide_eq_true (by rw [Int32.lt_iff_toInt_lt] at z; rw [Int32.le_iff_toInt_le]; omega)]; rfl
theorem rest_eq {tb ta : Nat → Int32} {wf : Nat → Int32} {c : Nat} (h : ∀ i j, i < 6 → j < 6 → tb (6 * i + j) = itr (st_X8_getsBy wf 0 (nI i) (nI j)) c 0 0 ∧ ta (6 * i + j) = itr (st_X8_getsBy wf 1 (nI i) (nI j)) c 0 0) {i j : Nat} (hi : i < 6) (hj : j < 6) : itr (st_X6_rests tb ta i j) 6 0 true = itr (st_X8_rests wf (nI i) (nI j) c) 6 0 true := by
  refine itr_congr _ _ _ fun u _ hu s => ?_
  unfold st_X6_rests st_X8_rests
  rw [(h i j hi hj).1, (h u j (by omega) hj).1, (h i u hi (by omega)).2, (h i j hi hj).2, le_nlt]
theorem len_cg {P Q : Nat → Prop} [∀ u, Decidable (P u)] [∀ u, Decidable (Q u)] {k : Int32} {v : Nat} {ct : Int32 → Int32} : ∀ (n u : Nat) (c : Int32), (∀ w, u ≤ w → w < u + n → (P w ↔ Q w)) → l_ends_in P k v ct n u c = l_ends_in Q k v ct n u c
  | 0, u, c, _ => rfl
  | n + 1, u, c, h => by
    have hu := h u (by omega) (by omega)
    have ih : ∀ c, l_ends_in P k v ct n (u + 1) c = l_ends_in Q k v ct n (u + 1) c := fun c => len_cg n (u + 1) c fun w h1 h2 => h w (by omega) (by omega)
    show (if P u then (if c = k then 10 * nI v + nI u else l_ends_in P k v ct n (u + 1) (c + 1)) else l_ends_in P k v ct n (u + 1) c) = (if Q u then (if c = k then 10 * nI v + nI u else l_ends_in Q k v ct n (u + 1) (c + 1)) else l_ends_in Q k v ct n (u + 1) c)
    by_cases z : P u
    · rw [if_pos z, if_pos (hu.mp z), ih]
    · rw [if_neg z, if_neg (fun y => z (hu.mpr y)), ih]
theorem le_cg {P Q : Nat → Nat → Prop} [∀ v u, Decidable (P v u)] [∀ v u, Decidable (Q v u)] {k : Int32} {ct : Int32 → Int32} : ∀ (n v : Nat) (c : Int32), (∀ w y, v ≤ w → w < v + n → y < 6 → (P w y ↔ Q w y)) → l_ends P k ct n v c = l_ends Q k ct n v c
  | 0, v, c, _ => rfl
  | n + 1, v, c, h => by
    have ih : l_ends P k ct n (v + 1) = l_ends Q k ct n (v + 1) := funext fun c => le_cg n (v + 1) c fun w y h1 h2 h3 => h w y (by omega) (by omega) h3
    show l_ends_in (P v) k v (l_ends P k ct n (v + 1)) 6 0 c = l_ends_in (Q v) k v (l_ends Q k ct n (v + 1)) 6 0 c
    rw [ih]
    exact len_cg 6 0 c fun w _ hw => h v w (by omega) (by omega) (by omega)
def fi5 (x : Int32) : Int32 := if x = -1 then -5 else x
theorem pair_no : ∀ v, v < 6 → ∀ u, u < 6 → ¬ (10 * nI v + nI u = -1) := by decide +kernel
theorem len_fi {P : Nat → Prop} [∀ u, Decidable (P u)] {k : Int32} {v : Nat} (hv : v < 6) {ct : Int32 → Int32} : ∀ (n u : Nat) (c : Int32), u + n ≤ 6 → fi5 (l_ends_in P k v ct n u c) = l_ends_in P k v (fun c => fi5 (ct c)) n u c
  | 0, u, c, _ => rfl
  | n + 1, u, c, h => by
    have ih : ∀ c, fi5 (l_ends_in P k v ct n (u + 1) c) = l_ends_in P k v (fun c => fi5 (ct c)) n (u + 1) c := fun c => len_fi hv n (u + 1) c (by omega)
    show fi5 (if P u then (if c = k then 10 * nI v + nI u else l_ends_in P k v ct n (u + 1) (c + 1)) else l_ends_in P k v ct n (u + 1) c) = (if P u then (if c = k then 10 * nI v + nI u else l_ends_in P k v (fun c => fi5 (ct c)) n (u + 1) (c + 1)) else l_ends_in P k v (fun c => fi5 (ct c)) n (u + 1) c)
    by_cases z : P u
    · rw [if_pos z, if_pos z]
      by_cases y : c = k
      · rw [if_pos y, if_pos y]; exact if_neg (pair_no v hv u (by omega))
      · rw [if_neg y, if_neg y, ih]
    · rw [if_neg z, if_neg z, ih]
theorem le_fi {P : Nat → Nat → Prop} [∀ v u, Decidable (P v u)] {k : Int32} {ct : Int32 → Int32} : ∀ (n v : Nat) (c : Int32), v + n ≤ 6 → fi5 (l_ends P k ct n v c) = l_ends P k (fun c => fi5 (ct c)) n v c
  | 0, v, c, _ => rfl
  | n + 1, v, c, h => by
    show fi5 (l_ends_in (P v) k v (l_ends P k ct n (v + 1)) 6 0 c) = l_ends_in (P v) k v (l_ends P k (fun c => fi5 (ct c)) n (v + 1)) 6 0 c
    rw [len_fi (by omega) 6 0 c (by omega), show (fun c => fi5 (l_ends P k ct n (v + 1) c)) = l_ends P k (fun c => fi5 (ct c)) n (v + 1) from funext fun c => le_fi n (v + 1) c (by omega)]
theorem nI_nm {m : Nat} (h : m < 100) : ¬ nI m = -1 := fun z => by
  have e : (-1 : Int32).toInt = -1 := rfl
  have := congrArg Int32.toInt z
  rw [nI_toInt (by omega), e] at this; omega
theorem len_n {tb ta : Nat → Int32} {v : Nat} {ct : Int32 → Int32} : ∀ (n u m : Nat), m + n < 100 → ∃ m', m' ≤ m + n ∧ itr (st_X6_pairs_in tb ta v) n u (nI m) = nI m' ∧ l_ends_in (fun u => itr (st_X6_rests tb ta v u) 6 0 true = true) (-1) v ct n u (nI m) = ct (nI m')
  | 0, u, m, _ => ⟨m, by omega, itr_0, rfl⟩
  | n + 1, u, m, h => by
    rw [itr_s]
    show ∃ m', m' ≤ m + (n + 1) ∧ itr (st_X6_pairs_in tb ta v) n (u + 1) (if itr (st_X6_rests tb ta v u) 6 0 true = true then nI m + 1 else nI m) = nI m' ∧ (if itr (st_X6_rests tb ta v u) 6 0 true = true then (if nI m = -1 then 10 * nI v + nI u else l_ends_in (fun u => itr (st_X6_rests tb ta v u) 6 0 true = true) (-1) v ct n (u + 1) (nI m + 1)) else l_ends_in (fun u => itr (st_X6_rests tb ta v u) 6 0 true = true) (-1) v ct n (u + 1) (nI m)) = ct (nI m')
    by_cases z : itr (st_X6_rests tb ta v u) 6 0 true = true
    · rw [if_pos z, if_pos z, if_neg (nI_nm (by omega)), show nI m + 1 = nI (m + 1) from nI_add m 1]
      obtain ⟨m', h1, h2, h3⟩ := len_n (tb := tb) (ta := ta) (v := v) (ct := ct) n (u + 1) (m + 1) (by omega)
      exact ⟨m', by omega, h2, h3⟩
    · rw [if_neg z, if_neg z]
      obtain ⟨m', h1, h2, h3⟩ := len_n (tb := tb) (ta := ta) (v := v) (ct := ct) n (u + 1) m (by omega)
      exact ⟨m', by omega, h2, h3⟩
theorem le_n {tb ta : Nat → Int32} {ct : Int32 → Int32} : ∀ (n v m : Nat), m + 6 * n < 100 → l_ends (fun v u => itr (st_X6_rests tb ta v u) 6 0 true = true) (-1) ct n v (nI m) = ct (itr (st_X6_pairs tb ta) n v (nI m))
  | 0, v, m, _ => by rw [itr_0]; rfl
  | n + 1, v, m, h => by
    obtain ⟨m', h1, h2, h3⟩ := len_n (tb := tb) (ta := ta) (v := v) (ct := l_ends (fun v u => itr (st_X6_rests tb ta v u) 6 0 true = true) (-1) ct n (v + 1)) 6 0 m (by omega)
    rw [itr_s, show st_X6_pairs tb ta v (nI m) = nI m' from h2]
    exact h3.trans (le_n (tb := tb) (ta := ta) (ct := ct) n (v + 1) m' (by omega))
theorem ends_eq {v : PV} {wf : Nat → Int32} (h : RP v wf) (tb ta : Nat → Int32) (k : Int32) : f_X7_ends v.ln v.hr v.nS v.fS tb ta k v.nS.toNatClampNeg = f_X8_ends wf k v.nS.toNatClampNeg := by
  unfold f_X7_ends f_X8_ends f_X6_pair
  have hk := rk_eq h tb ta
  revert hk
  generalize (itr (st_X6_reckon v.ln v.hr v.nS v.fS v.nS.toNatClampNeg) 6 0 (tb, ta)).1 = TB
  generalize (itr (st_X6_reckon v.ln v.hr v.nS v.fS v.nS.toNatClampNeg) 6 0 (tb, ta)).2 = TA
  intro hk
  by_cases z : (-1) ≤ k
  · rw [if_pos z, if_pos z]
    rw [← le_cg (P := fun v u => itr (st_X6_rests TB TA v u) 6 0 true = true) (k := k) (ct := fun c => if k = -1 then c else -5) 6 0 0 (fun w y _ hw hy => by rw [rest_eq hk (by omega) hy])]
    by_cases y : k = -1
    · subst y
      rw [if_pos rfl]
      exact (le_n (tb := TB) (ta := TA) (ct := fun c => if (-1 : Int32) = -1 then c else -5) 6 0 0 (by omega)).symm
    · rw [if_neg y]
      have e := le_fi (P := fun v u => itr (st_X6_rests TB TA v u) 6 0 true = true) (k := k) (ct := fun _ => -1) 6 0 0 (by omega)
      simp only [if_neg y]
      exact e
  · rw [if_neg z, if_neg z]
theorem eq_ends (a1 : Int32) (x : XV) (h : PV) (d : PV) (o : PV) (p : PV) (t : TV) (w : WV) (g : GV) (e : EV) (m : MV) (hI : Inv x h o p t m) : (f_X7_ends h.ln h.hr h.nS h.fS e.tb e.ta a1 h.nS.toNatClampNeg) = (f_X8_ends m.wf a1 h.nS.toNatClampNeg) ∧ Inv (x.k0, x.k1, x.abv, x.blw, g_X7_ends_0_12 x.rb h.ln h.hr h.nS h.fS e.tb e.ta a1 h.nS.toNatClampNeg, x.rn, x.rf) h o p t (m.txd, m.abv, m.blw, m.atp, m.stp, m.nbr, m.bmy, m.hsh, m.wf, m.kp, m.tx, g_X8_ends_2 m.ss a1, m.ti, m.pp, m.hh, m.bb, m.al, m.sx) := by
  obtain ⟨⟨i1, i2, i3, i4, i5, i6, i7⟩, ⟨t1, t2, t3, t4⟩, ⟨⟨l1, l2, l3, l4, l5, l6, l7, l8, l9⟩, ⟨w0, w1, w2, w3⟩, ⟨c0, c1, c2, c3⟩, ⟨n0, n1, n2, n3⟩, ⟨m0, m1, m2, m3⟩, ⟨u0, u1, u2, u3⟩⟩, o1, p1⟩ := id hI
  refine ⟨ends_eq hI.2.2.1 e.tb e.ta a1, ?_⟩
  by_cases z : (-1) ≤ a1
  · simp only [f_X7_ends, g_X7_ends_0_12, g_X7_ends_5, g_X7_ends_6, f_X8_ends, g_X8_ends_2, if_pos z, ite_self]; exact hI
  · simp only [f_X7_ends, g_X7_ends_0_12, g_X7_ends_5, g_X7_ends_6, f_X8_ends, g_X8_ends_2, if_neg z]; exact inv_bad hI
