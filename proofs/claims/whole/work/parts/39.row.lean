theorem srch {v : PV} {wf : Nat → Int32} (h : RP v wf) (c0 : Nat → Int32) : ∀ i j, i < 5 → j < v.nS.toNatClampNeg → itr (st_X4_search v.hb v.ha v.hr v.nS v.fS v.nS.toNatClampNeg) 5 0 c0 (5 * i + j) = f_X8_costIn wf (wf 17 + nI i) 0 j := by
  have h5 := h.2.1.2.2.1
  refine itr_ix (f := st_X4_search v.hb v.ha v.hr v.nS v.fS v.nS.toNatClampNeg) (fun n (s : Nat → Int32) => ∀ i j, i < n → j < v.nS.toNatClampNeg → s (5 * i + j) = f_X8_costIn wf (wf 17 + nI i) 0 j) 5 0 c0 (fun k hk1 hk2 s hs => ?_) (fun i j hi => absurd hi (Nat.not_lt_zero i))
  have key := itr_ix (f := st_X4_search_in v.hb v.ha v.hr v.nS v.fS k) (fun n (s : Nat → Int32) => (∀ i j, i < k → j < v.nS.toNatClampNeg → s (5 * i + j) = f_X8_costIn wf (wf 17 + nI i) 0 j) ∧ ∀ j, j < n → s (5 * k + j) = f_X8_costIn wf (wf 17 + nI k) 0 j) v.nS.toNatClampNeg 0 s (fun u hu1 hu2 z hz => ⟨fun i j hi hj => ?_, fun j hj => ?_⟩) ⟨hs, fun j hj => absurd hj (Nat.not_lt_zero j)⟩
  · intro i j hi hj
    by_cases e : i = k
    · subst e; exact key.2 j (by omega)
    · exact key.1 i j (by omega) hj
  · show upd z (5 * k + u) _ (5 * i + j) = _
    rw [pk_un (by omega)]; exact hz.1 i j hi hj
  · show upd z (5 * k + u) (f_X2_costIn v.hb v.ha v.hr v.nS v.fS (nI u) (nI k)) (5 * k + j) = _
    by_cases e : j = u
    · subst e
      have z1 : p_X7_within (nI j) 0 (v.nS - 1) := has_k' h.2.1.2.1 (by omega) (by rw [nI_toInt (by omega)]; omega) (by rw [nI_toInt (by omega)]; omega)
      rw [pk_us, cost_eq h.r0 z1, nI_cl (by omega), h.1.2.2.2.2.2.2.1]
    · rw [pk_un (by omega)]; exact hz.2 j (by omega)
theorem ext_eq {cst : Nat → Int32} {ln nS : Int32} {fS : Nat → Int32} {pq hq : Int32} {dp : Nat} {ex : Nat → Int32 → Int32 → (Int32 × Int32 × (Nat → Int32) × (Nat → Int32)) → (Int32 × Int32 × (Nat → Int32) × (Nat → Int32))} {u : Nat} {s : Int32 × Int32 × (Nat → Int32) × (Nat → Int32)} : st_X4_extend cst ln nS fS pq hq dp ex u s = if pq < cst (5 * dp + u) then s else if itr (st_X4_isOnPath s.2.2.1 (nI u)) dp 0 false = true then s else ex (dp + 1) (pq - cst (5 * dp + u)) (hq + f_X1_brought (f_X3_cell nS fS (nI u) 1) ln) (s.1, s.2.1, upd s.2.2.1 dp (nI u), s.2.2.2) := by
  unfold st_X4_extend
  by_cases z : pq < cst (5 * dp + u)
  · simp only [if_pos z] <;> rfl
  · by_cases y : itr (st_X4_isOnPath s.2.2.1 (nI u)) dp 0 false = true
    · simp only [if_neg z, if_pos y] <;> rfl
    · simp only [if_neg z, if_neg y] <;> rfl
theorem on_path {pt : Nat → Int32} {i : Int32} : ∀ d, itr (st_X4_isOnPath pt i) d 0 false = true ↔ ∃ e, e < d ∧ pt e = i
  | 0 => by
    rw [itr_0]
    exact ⟨fun z => absurd z (by decide), fun ⟨e, he, _⟩ => absurd he (Nat.not_lt_zero e)⟩
  | d + 1 => by
    rw [itr_snoc, Nat.zero_add]
    show (itr (st_X4_isOnPath pt i) d 0 false || decide (pt d = i)) = true ↔ _
    rw [Bool.or_eq_true, decide_eq_true_eq, on_path d]
    constructor
    · rintro (⟨e, he, z⟩ | z)
      · exact ⟨e, by omega, z⟩
      · exact ⟨d, by omega, z⟩
    · rintro ⟨e, he, z⟩
      by_cases q : e = d
      · subst q; exact Or.inr z
      · exact Or.inl ⟨e, by omega, z⟩
def RwR (d : Nat) (s : Int32 × Int32 × (Nat → Int32) × (Nat → Int32)) (t : BS) : Prop := ∃ b : Nat, b ≤ 5 ∧ s.1 = nI b ∧ t.bm = nI b ∧ s.2.1 = t.mo ∧ (∀ e, e < b → s.2.2.2 e = t.B e) ∧ ∀ e, e < d → s.2.2.1 e = t.T e
theorem dsc_P {wf : Nat → Int32} {d u : Nat} {s : BS} : (dsc wf d u s).P = upd s.P (d + 1) (s.P d - (f_X8_costIn wf ((wf 17) + (nI d)) 0 u)) := by unfold dsc; split <;> rfl
theorem dsc_H {wf : Nat → Int32} {d u : Nat} {s : BS} : (dsc wf d u s).H = upd s.H (d + 1) (s.H d + (f_X8_bringsIn wf 0 u)) := by unfold dsc; split <;> rfl
theorem row_dsc {wf : Nat → Int32} {d u : Nat} {s1 : Int32 × Int32 × (Nat → Int32) × (Nat → Int32)} {t1 : BS} {hq : Int32} (hd : d < 5) (r1 : RwR d s1 t1) (hH : t1.H d = hq) : RwR (d + 1) (kpF (d + 1) (hq + f_X8_bringsIn wf 0 u) (s1.1, s1.2.1, upd s1.2.2.1 d (nI u), s1.2.2.2)) (dsc wf d u t1) := by
  obtain ⟨b, b1, b2, b3, b4, b5, b6⟩ := r1
  have p0 : ∀ e, e < d + 1 → upd s1.2.2.1 d (nI u) e = upd t1.T d (nI u) e := fun e he => by
    by_cases q : e = d
    · subst q; rw [pk_us, pk_us]
    · rw [pk_un q, pk_un q]; exact b6 e (by omega)
  have p1 : ∀ e, e < d + 1 → upd s1.2.2.1 d (nI u) e = upd (upd t1.T d (nI u)) (d + 1) (-1) e := fun e he => by
    rw [p0 e he]; exact (pk_un (by omega)).symm
  unfold kpF dsc
  rw [hH]
  by_cases q : hq + f_X8_bringsIn wf 0 u ≤ t1.mo
  · have q' : hq + f_X8_bringsIn wf 0 u ≤ s1.2.1 := by rw [b4]; exact q
    rw [if_pos q', if_pos q]
    exact ⟨b, b1, b2, b3, b4, b5, p1⟩
  · have q' : ¬ hq + f_X8_bringsIn wf 0 u ≤ s1.2.1 := by rw [b4]; exact q
    rw [if_neg q', if_neg q]
    refine ⟨d + 1, by omega, rfl, rfl, rfl, fun e he => ?_, p1⟩
    show itr (st_X4_keepPath (upd s1.2.2.1 d (nI u))) (d + 1) 0 s1.2.2.2 e = itr (st_X8_bh_c (upd t1.T d (nI u))) (d + 1) 0 t1.B e
    rw [six_in (g := st_X4_keepPath (upd s1.2.2.1 d (nI u))) (y := upd s1.2.2.1 d (nI u)) (fun _ _ => rfl) _ (d + 1) e he, six_in (g := st_X8_bh_c (upd t1.T d (nI u))) (y := upd t1.T d (nI u)) (fun _ _ => rfl) _ (d + 1) e he]
    exact p0 e he
theorem row_main {v : PV} {wf : Nat → Int32} (h : RP v wf) (cst : Nat → Int32) (hcst : ∀ i j, i < 5 → j < v.nS.toNatClampNeg → cst (5 * i + j) = f_X8_costIn wf (wf 17 + nI i) 0 j) : ∀ (k d : Nat) (s : Int32 × Int32 × (Nat → Int32) × (Nat → Int32)) (t : BS) (pq hq : Int32), d + k = 5 → RwR d (kpF d hq s) t → t.P d = pq → t.H d = hq → Dst t.T d v.nS.toNatClampNeg → RwR d (exF cst v.ln v.nS v.fS v.nS.toNatClampNeg k d pq hq s) (bhG wf v.nS.toNatClampNeg k d v.nS.toNatClampNeg 0 t) ∧ ∀ e, e ≤ d → (bhG wf v.nS.toNatClampNeg k d v.nS.toNatClampNeg 0 t).P e = t.P e ∧ (bhG wf v.nS.toNatClampNeg k d v.nS.toNatClampNeg 0 t).H e = t.H e
  | 0, d, s, t, pq, hq, hd, hR, hP, hH, hD => by
    rw [exF, bhG]
    refine ⟨?_, fun e _ => ⟨rfl, rfl⟩⟩
    obtain ⟨b, b1, b2, b3, b4, b5, b6⟩ := hR
    exact ⟨b, b1, b2, b3, b4, b5, fun e he => (b6 e he).trans (pk_un (by omega)).symm⟩
  | k + 1, d, s, t, pq, hq, hd, hR, hP, hH, hD => by
    rw [exF, bhG]
    have hc5 := h.2.1.2.2.1
    have step : ∀ u, 0 ≤ u → u < 0 + v.nS.toNatClampNeg → ∀ (s1 : Int32 × Int32 × (Nat → Int32) × (Nat → Int32)) (t1 : BS), (RwR d s1 t1 ∧ (∀ e, e ≤ d → t1.P e = t.P e ∧ t1.H e = t.H e) ∧ ∀ e, e < d → t1.T e = t.T e) → (RwR d (st_X4_extend cst v.ln v.nS v.fS pq hq d (exF cst v.ln v.nS v.fS v.nS.toNatClampNeg k) u s1) (bhT wf d (fun z => bhG wf v.nS.toNatClampNeg k (d + 1) v.nS.toNatClampNeg 0 z) u t1) ∧ (∀ e, e ≤ d → (bhT wf d (fun z => bhG wf v.nS.toNatClampNeg k (d + 1) v.nS.toNatClampNeg 0 z) u t1).P e = t.P e ∧ (bhT wf d (fun z => bhG wf v.nS.toNatClampNeg k (d + 1) v.nS.toNatClampNeg 0 z) u t1).H e = t.H e) ∧ ∀ e, e < d → (bhT wf d (fun z => bhG wf v.nS.toNatClampNeg k (d + 1) v.nS.toNatClampNeg 0 z) u t1).T e = t.T e) := by
      intro u _ hu s1 t1 hr
      obtain ⟨r1, r2, r3⟩ := id hr
      have hu' : u < v.nS.toNatClampNeg := by omega
      have hD1 : Dst t1.T d v.nS.toNatClampNeg := Dst_same hD r3
      have z1 : p_X7_within (nI u) 0 (v.nS - 1) := has_k' h.2.1.2.1 (by omega) (by rw [nI_toInt (by omega)]; omega) (by rw [nI_toInt (by omega)]; omega)
      have hb := bring_eq h.r0 z1
      rw [nI_cl (by omega)] at hb
      have hPd : t1.P d = pq := (r2 d (Nat.le_refl d)).1.trans hP
      have hHd : t1.H d = hq := (r2 d (Nat.le_refl d)).2.trans hH
      have hw : itr (st_X4_isOnPath s1.2.2.1 (nI u)) d 0 false = true ↔ ∃ e, e < d ∧ t1.T e = nI u := by
        obtain ⟨b, b1, b2, b3, b4, b5, b6⟩ := r1
        rw [on_path d]
        exact ⟨fun ⟨e, he, z⟩ => ⟨e, he, (b6 e he).symm.trans z⟩, fun ⟨e, he, z⟩ => ⟨e, he, (b6 e he).trans z⟩⟩
      have hz := has_bz (s := t1) hD1 hc5 hu'
      rw [ext_eq, hcst d u (by omega) hu', hb]
      have ebh : bhT wf d (fun z => bhG wf v.nS.toNatClampNeg k (d + 1) v.nS.toNatClampNeg 0 z) u t1 = if p_X8_has (itr (st_X8_bh_b t1) d 0 0) (nI u) then t1 else if (f_X8_costIn wf ((wf 17) + (nI d)) 0 u) ≤ pq then bhG wf v.nS.toNatClampNeg k (d + 1) v.nS.toNatClampNeg 0 (dsc wf d u t1) else t1 := by
        unfold bhT; rw [hPd]
      rw [ebh]
      by_cases w : ∃ e, e < d ∧ t1.T e = nI u
      · rw [if_pos (hz.mpr w), if_pos (hw.mpr w)]
        split <;> exact hr
      · rw [if_neg (mt hz.mp w), if_neg (mt hw.mp w)]
        by_cases y : f_X8_costIn wf (wf 17 + nI d) 0 u ≤ pq
        · have y' : ¬ pq < f_X8_costIn wf (wf 17 + nI d) 0 u := fun q => by rw [Int32.lt_iff_toInt_lt] at q; rw [Int32.le_iff_toInt_le] at y; omega
          rw [if_neg y', if_pos y]
          have T1 : ∀ e, e < d → (dsc wf d u t1).T e = t1.T e := fun e he => by rw [dsc_T, pk_un (by omega), pk_un (by omega)]
          have T2 : (dsc wf d u t1).T d = nI u := by rw [dsc_T, pk_un (by omega), pk_us]
          obtain ⟨k1, k2⟩ := row_main h cst hcst k (d + 1) (s1.1, s1.2.1, upd s1.2.2.1 d (nI u), s1.2.2.2) (dsc wf d u t1) (pq - f_X8_costIn wf (wf 17 + nI d) 0 u) (hq + f_X8_bringsIn wf 0 u) (by omega) (row_dsc (by omega) r1 hHd) (by rw [dsc_P, pk_us, hPd]) (by rw [dsc_H, pk_us, hHd]) (Dst_ext hc5 hD1 hu' w T1 T2)
          refine ⟨?_, fun e he => ?_, fun e he => ?_⟩
          · obtain ⟨b, b1, b2, b3, b4, b5, b6⟩ := k1
            exact ⟨b, b1, b2, b3, b4, b5, fun e he => b6 e (by omega)⟩
          · have q := k2 e (by omega)
            rw [dsc_P, dsc_H, pk_un (by omega), pk_un (by omega)] at q
            exact ⟨q.1.trans (r2 e he).1, q.2.trans (r2 e he).2⟩
          · rw [bhG_T k (d + 1) v.nS.toNatClampNeg 0 _ e (by omega), T1 e he]; exact r3 e he
        · have y' : pq < f_X8_costIn wf (wf 17 + nI d) 0 u := by rw [Int32.le_iff_toInt_le] at y; rw [Int32.lt_iff_toInt_lt]; omega
          rw [if_pos y', if_neg y]
          exact hr
    have key := itr_rel (f := st_X4_extend cst v.ln v.nS v.fS pq hq d (exF cst v.ln v.nS v.fS v.nS.toNatClampNeg k)) (g := bhT wf d (fun z => bhG wf v.nS.toNatClampNeg k (d + 1) v.nS.toNatClampNeg 0 z)) (fun _ s1 t1 => RwR d s1 t1 ∧ (∀ e, e ≤ d → t1.P e = t.P e ∧ t1.H e = t.H e) ∧ ∀ e, e < d → t1.T e = t.T e) v.nS.toNatClampNeg 0 (kpF d hq s) t step ⟨hR, fun e _ => ⟨rfl, rfl⟩, fun e _ => rfl⟩
    obtain ⟨⟨b, b1, b2, b3, b4, b5, b6⟩, k2, -⟩ := key
    exact ⟨⟨b, b1, b2, b3, b4, b5, fun e he => (b6 e he).trans (pk_un (by omega)).symm⟩, k2⟩
theorem row_res {v : PV} {wf : Nat → Int32} (h : RP v wf) (cst pt bs ti pp hh bb : Nat → Int32) : RwR 0 (exF (itr (st_X4_search v.hb v.ha v.hr v.nS v.fS v.nS.toNatClampNeg) 5 0 cst) v.ln v.nS v.fS v.nS.toNatClampNeg 5 0 v.pu 0 (0, 0, pt, bs)) (bhG wf v.nS.toNatClampNeg 5 0 v.nS.toNatClampNeg 0 ((0, 0, (upd ti 0 (-1)), (upd pp 0 (wf 14)), (upd hh 0 0), bb) : BS)) := by
  refine (row_main h _ (srch h cst) 5 0 (0, 0, pt, bs) ((0, 0, (upd ti 0 (-1)), (upd pp 0 (wf 14)), (upd hh 0 0), bb) : BS) v.pu 0 rfl ?_ ?_ ?_ ?_).1
  · refine ⟨0, by omega, ?_, rfl, ?_, fun e he => absurd he (Nat.not_lt_zero e), fun e he => absurd he (Nat.not_lt_zero e)⟩
    · unfold kpF; rw [if_pos (show (0 : Int32) ≤ 0 by decide)]; rfl
    · unfold kpF; rw [if_pos (show (0 : Int32) ≤ 0 by decide)]
  · show upd pp 0 (wf 14) 0 = v.pu
    rw [pk_us]; exact h.1.2.2.2.1.symm
  · show upd hh 0 0 0 = 0
    exact pk_us
  · exact ⟨fun _ => 0, fun e he => absurd he (Nat.not_lt_zero e), fun e f he => absurd he (Nat.not_lt_zero e)⟩
theorem row_eq {v : PV} {wf : Nat → Int32} (h : RP v wf) (cst pt bs ti pp hh bb : Nat → Int32) (i : Int32) : f_X7_row v.ln v.hb v.ha v.pu v.hr v.nS v.fS cst pt bs i v.nS.toNatClampNeg = f_X8_row wf ti pp hh bb i v.nS.toNatClampNeg := by
  unfold f_X7_row f_X8_row f_X8_bestHaul f_X4_sent
  have hr := row_res h cst pt bs ti pp hh bb
  revert hr
  generalize exF (itr (st_X4_search v.hb v.ha v.hr v.nS v.fS v.nS.toNatClampNeg) 5 0 cst) v.ln v.nS v.fS v.nS.toNatClampNeg 5 0 v.pu 0 (0, 0, pt, bs) = X
  generalize bhG wf v.nS.toNatClampNeg 5 0 v.nS.toNatClampNeg 0 ((0, 0, (upd ti 0 (-1)), (upd pp 0 (wf 14)), (upd hh 0 0), bb) : BS) = Y
  rintro ⟨b, b1, b2, b3, b4, b5, -⟩
  by_cases z : (-2) ≤ i
  · rw [if_pos z, if_pos z]
    by_cases z2 : i = (-2)
    · rw [if_pos z2, if_pos z2]; exact b4
    · rw [if_neg z2, if_neg z2]
      by_cases z1 : i = (-1)
      · rw [if_pos z1, if_pos z1, b2, b3]
      · rw [if_neg z1, if_neg z1, b2, b3]
        have hi := row_ix z z2 z1
        have n5 : ¬ (5 : Int32) < nI b := fun q => by
          have := (nI_ltI (a := 5) (b := b) (by omega) (by omega)).mp q; omega
        rw [if_neg n5]
        by_cases y : i.toInt < b
        · have y1 : p_X7_within i 0 (nI b - 1) := has_k' (nI_toInt (by omega)) (by omega) hi y
          have y2 : ¬ nI b ≤ i := fun q => by rw [Int32.le_iff_toInt_le, nI_toInt (by omega)] at q; omega
          rw [if_pos y1, if_pos y1, if_neg y2]
          exact b5 _ (by have := nn_cl hi; omega)
        · have y1 : ¬ p_X7_within i 0 (nI b - 1) := fun q => by
            have := has_k (nI_toInt (n := b) (by omega)) (by omega) q; omega
          have y2 : nI b ≤ i := by rw [Int32.le_iff_toInt_le, nI_toInt (by omega)]; omega
          rw [if_neg y1, if_pos y2]
  · rw [if_neg z, if_neg z]
theorem eq_row (a1 : Int32) (x : XV) (h : PV) (d : PV) (o : PV) (p : PV) (t : TV) (w : WV) (g : GV) (e : EV) (m : MV) (hI : Inv x h o p t m) : (f_X7_row h.ln h.hb h.ha h.pu h.hr h.nS h.fS w.cst w.pt w.bs a1 h.nS.toNatClampNeg) = (f_X8_row m.wf m.ti m.pp m.hh m.bb a1 h.nS.toNatClampNeg) ∧ Inv (x.k0, x.k1, x.abv, x.blw, g_X7_row_0_12 x.rb h.ln h.hb h.ha h.pu h.hr h.nS h.fS w.cst w.pt w.bs a1 h.nS.toNatClampNeg, x.rn, x.rf) h o p t (m.txd, m.abv, m.blw, m.atp, m.stp, m.nbr, g_X8_row_0_14 m.bmy m.wf m.ti m.pp m.hh m.bb a1 h.nS.toNatClampNeg, m.hsh, m.wf, m.kp, m.tx, g_X8_row_6 m.wf m.ti m.pp m.hh m.bb m.ss a1 h.nS.toNatClampNeg, g_X8_row_2 m.wf m.ti m.pp m.hh m.bb a1 h.nS.toNatClampNeg, g_X8_row_3 m.wf m.ti m.pp m.hh m.bb a1 h.nS.toNatClampNeg, g_X8_row_4 m.wf m.ti m.pp m.hh m.bb a1 h.nS.toNatClampNeg, g_X8_row_5 m.wf m.ti m.pp m.hh m.bb a1 h.nS.toNatClampNeg, m.al, m.sx) := by
  obtain ⟨⟨i1, i2, i3, i4, i5, i6, i7⟩, ⟨t1, t2, t3, t4⟩, ⟨⟨l1, l2, l3, l4, l5, l6, l7, l8, l9⟩, ⟨w0, w1, w2, w3⟩, ⟨c0, c1, c2, c3⟩, ⟨n0, n1, n2, n3⟩, ⟨m0, m1, m2, m3⟩, ⟨u0, u1, u2, u3⟩⟩, o1, p1⟩ := id hI
  refine ⟨row_eq hI.2.2.1 w.cst w.pt w.bs m.ti m.pp m.hh m.bb a1, ?_⟩
  by_cases z : (-2) ≤ a1
  · simp only [f_X7_row, g_X7_row_0_12, g_X7_row_4_3, g_X7_row_4_4, g_X7_row_5, g_X7_row_6, g_X7_row_7, f_X8_row, g_X8_row_0_14, g_X8_row_2, g_X8_row_3, g_X8_row_4, g_X8_row_5, g_X8_row_6, if_pos z, ite_self]; exact hI
  · simp only [f_X7_row, g_X7_row_0_12, g_X7_row_4_3, g_X7_row_4_4, g_X7_row_5, g_X7_row_6, g_X7_row_7, f_X8_row, g_X8_row_0_14, g_X8_row_2, g_X8_row_3, g_X8_row_4, g_X8_row_5, g_X8_row_6, if_neg z]; exact inv_bad hI
