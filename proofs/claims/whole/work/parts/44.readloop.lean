def LR (tl : Int32) (by_ tx : Nat → Int32) (t P : Nat) (ln : Int32) (s : TS) (r : RS) : Prop := P ≤ t ∧ s.ts = nI (adS tl by_ t P) ∧ s.tn = nI (adN tl by_ t P) ∧ s.tk = g_X5_advance_0_4 tl by_ P t ∧ r.ap = nI (blk tl tx t P) ∧ r.sp = nI (blk tl tx t P) ∧ RP (ln, s.hb, s.ha, s.pu, s.hl, s.sm, s.hr, s.nS, 0, 0, 0, 0, s.fS, zf, zf, zf, zf) (fun i => r.wf (342 + i)) ∧ 0 ≤ s.hr.toInt ∧ 2 * s.hr.toInt ≤ 99 * (blk tl tx t P : Int)
theorem item_s {tl : Int32} {by_ tx : Nat → Int32} {t : Nat} (h : TxO tl by_ tx t) {P : Nat} {ln : Int32} {s : TS} {r : RS} (hL : LR tl by_ tx t P ln s r) : ItR tl tx t (blk tl tx t P) s.hr (riQ tl 5 by_ t s) (riS tl ln 5 by_ t s).ts (riS tl ln 5 by_ t s).tn (ln, (riS tl ln 5 by_ t s).hb, (riS tl ln 5 by_ t s).ha, (riS tl ln 5 by_ t s).pu, (riS tl ln 5 by_ t s).hl, (riS tl ln 5 by_ t s).sm, (riS tl ln 5 by_ t s).hr, (riS tl ln 5 by_ t s).nS, 0, 0, 0, 0, (riS tl ln 5 by_ t s).fS, zf, zf, zf, zf) r.wf (rsS tl tx 0 t r).wf (rsQ tl tx 0 t r) (rsS tl tx 0 t r).ap (rsS tl tx 0 t r).sp := by
  obtain ⟨hP, e1, e2, e3, e4, e5, R, hr0, hr1⟩ := hL
  have htt := h.2.1
  have hB := S_le h hP
  have hN := adN_le (by_ := by_) h.1 htt hP
  have hA := adS_le (by_ := by_) h.1 htt hP
  obtain ⟨ts, tn, tk, tm, hb, ha, pu, hl, sm, hr, nS, fS⟩ := s
  obtain ⟨ap, sp, nb, wf⟩ := r
  have e1 : ts = nI (adS tl by_ t P) := e1
  have e2 : tn = nI (adN tl by_ t P) := e2
  have e3 : tk = g_X5_advance_0_4 tl by_ P t := e3
  have e4 : ap = nI (blk tl tx t P) := e4
  have hr0 : 0 ≤ hr.toInt := hr0
  have hr1 : 2 * hr.toInt ≤ 99 * (blk tl tx t P : Int) := hr1
  subst e1; subst e2; subst e3; subst e4
  have I := item_eq h hP R hr0 (by omega) tm
  have c1 : (nI (adS tl by_ t P)).toNatClampNeg = adS tl by_ t P := nI_cl (by omega)
  have c2 : (nI (adN tl by_ t P)).toNatClampNeg = adN tl by_ t P := nI_cl (by omega)
  have c3 : (nI (blk tl tx t P)).toNatClampNeg = blk tl tx t P := nI_cl (by omega)
  unfold riS rsS
  dsimp only [riQ, rsQ, TS.ts, TS.tn, TS.tk, TS.tm, TS.hb, TS.ha, TS.pu, TS.hl, TS.sm, TS.hr, TS.nS, TS.fS, RS.ap, RS.sp, RS.nb, RS.wf]
  rw [c1, c2, c3]
  exact I
theorem neg_b {b : Nat} (hb : b ≤ 150) : (-10 : Int32) - nI b < 0 := by
  have c0 : (0 : Int32).toInt = 0 := rfl
  have c10 : (-10 : Int32).toInt = -10 := rfl
  rw [Int32.lt_iff_toInt_lt, ti_sub (by rw [c10, nI_toInt (by omega)]; omega) (by rw [c10, nI_toInt (by omega)]; omega), c10, c0, nI_toInt (by omega)]; omega
def FR (ln : Int32) (wf : Nat → Int32) (c : Int32 × TS) (d : Int32 × RS) : Prop := c.1 = d.1 ∧ ((c.1 < 0 ∧ ∀ i, i < 342 → d.2.wf i = wf i) ∨ (¬ c.1 < 0 ∧ ∃ wf1 : Nat → Int32, d.2.wf = va_cpy wf1 wf1 342 0 114 ∧ (∀ i, i < 342 → wf1 i = wf i) ∧ RP (ln, c.2.hb, c.2.ha, c.2.pu, c.2.hl, c.2.sm, c.2.hr, c.2.nS, 0, 0, 0, 0, c.2.fS, zf, zf, zf, zf) (fun i => wf1 (342 + i))))
theorem rd_loop {tl : Int32} {by_ tx : Nat → Int32} {t : Nat} (h : TxO tl by_ tx t) (ln : Int32) : ∀ (n u : Nat) (s : TS) (r : RS) (P : Nat), 1 ≤ u → u + n < 1000 → LR tl by_ tx t P ln s r → FR ln r.wf (clF tl ln 5 by_ t n u s) (rdF tl tx t n u r)
  | 0, u, s, r, P, hu, hn, hL => by
    rw [clF, rdF]
    exact ⟨rfl, Or.inr ⟨nI_pos (by omega), r.wf, rfl, fun _ _ => rfl, hL.2.2.2.2.2.2.1⟩⟩
  | n + 1, u, s, r, P, hu, hn, hL => by
    have I := item_s h hL
    obtain ⟨hP, e1, e2, e3, e4, e5, R, hr0, hr1⟩ := id hL
    have htt := h.2.1
    have hB := S_le h hP
    have htk : s.tk = 0 ↔ t ≤ blk tl tx t P := by rw [e3]; exact av4_0.trans (ad_T h hP).2.2.2
    have hsp : r.sp < tl ↔ blk tl tx t P < t := by rw [e5]; exact c_lt (nI_toInt (by omega)) h.1
    have hu0 : ¬ nI u = 0 := nI_ne0 (by omega) (by omega)
    have f0 : ¬ (false = true) := by decide
    rw [clF, rdF]
    by_cases z : t ≤ blk tl tx t P
    · rw [if_pos (htk.mpr z), if_neg (fun y => by have := hsp.mp y; omega), if_neg hu0]
      exact ⟨rfl, Or.inr ⟨nI_pos (by omega), r.wf, rfl, fun _ _ => rfl, R⟩⟩
    · rw [if_neg (mt htk.mp z), if_pos (hsp.mpr (by omega)), if_neg hu0]
      obtain ⟨hf, hno, hyes⟩ := I
      by_cases hok : riQ tl 5 by_ t s = true
      · obtain ⟨q, q1, q2, q3, q4, q5, q6, q7, q8, q9⟩ := hyes hok
        have eq : (riS tl ln 5 by_ t s).tn.toNatClampNeg = q := by rw [q3, nI_cl (by omega)]
        obtain ⟨st1, st2⟩ := stop_eq h q2
        rw [if_pos hok, eq]
        have hq := S_le h q2
        by_cases y : p_X8_takesEnd tl tx q t
        · obtain ⟨y1, y2⟩ := st2 y
          have hq2 := S_le h (p := blk tl tx t q + 1) (by omega)
          have eap : (rsS tl tx 0 t r).ap.toNatClampNeg = blk tl tx t q + 1 := by rw [q6, nI_1, nI_cl (by omega)]
          rw [if_pos (st1.mpr y), if_pos (q4.mpr y)]
          have ih := rd_loop h ln n (u + 1) (adv2 tl by_ t (riS tl ln 5 by_ t s)) (rbS tl tx t (rsS tl tx 0 t r)) (blk tl tx t q + 1) (by omega) (by omega) ⟨by omega, by
            show nI (adS tl by_ t (adN tl by_ t (riS tl ln 5 by_ t s).tn.toNatClampNeg)) = _
            rw [eq, y1], by
            show nI (adN tl by_ t (adN tl by_ t (riS tl ln 5 by_ t s).tn.toNatClampNeg)) = _
            rw [eq, y1], by
            show g_X5_advance_0_4 tl by_ (adN tl by_ t (riS tl ln 5 by_ t s).tn.toNatClampNeg) t = _
            rw [eq, y1], by
            show nI (blk tl tx t (rsS tl tx 0 t r).ap.toNatClampNeg) = _
            rw [eap], by
            show nI (blk tl tx t (rsS tl tx 0 t r).ap.toNatClampNeg) = _
            rw [eap], q7, q8, by
            have q9' : (riS tl ln 5 by_ t s).hr.toInt ≤ s.hr.toInt + 99 := q9
            show 2 * (riS tl ln 5 by_ t s).hr.toInt ≤ 99 * (blk tl tx t (blk tl tx t q + 1) : Int)
            omega⟩
          obtain ⟨k1, k2⟩ := ih
          refine ⟨k1, ?_⟩
          rcases k2 with ⟨k2, k3⟩ | ⟨k2, wf1, k3, k4, k5⟩
          · exact Or.inl ⟨k2, fun i hi => (k3 i hi).trans (hf i hi)⟩
          · exact Or.inr ⟨k2, wf1, k3, fun i hi => (k4 i hi).trans (hf i hi), k5⟩
        · rw [if_neg (mt st1.mp y), if_neg (mt q4.mp y)]
          have ea : (adv1 tl by_ t (riS tl ln 5 by_ t s)).ts = nI (blk tl tx t q) := by
            show nI (adS tl by_ t (riS tl ln 5 by_ t s).tn.toNatClampNeg) = _
            rw [eq, ad_S h q2]
          rw [ea, q5]
          exact ⟨rfl, Or.inl ⟨neg_b (by omega), hf⟩⟩
      · have hok' : riQ tl 5 by_ t s = false := by
          revert hok; cases riQ tl 5 by_ t s
          · exact fun _ => rfl
          · exact fun y => absurd rfl y
        obtain ⟨k1, k2, b, hb, k3⟩ := hno hok'
        rw [if_neg hok, k1, if_neg f0, ← k2, k3]
        exact ⟨rfl, Or.inl ⟨neg_b hb, hf⟩⟩
/-! the first item -/
theorem first_eq {tl : Int32} {by_ tx : Nat → Int32} {t : Nat} (h : TxO tl by_ tx t) (tm : Int32) (wf : Nat → Int32) (cW : Nat) : (∀ i, i < 342 → g_X8_readsItem_1 tl wf tx 1 (blk tl tx t 0) t cW i = wf i) ∧ ((p_X5_readFirst tl tm by_ 0 t ∧ q_X8_readsItem tl wf tx 1 (blk tl tx t 0) t = true ∧ ∃ q k, q ≤ t ∧ blk tl tx t q < t ∧ g_X5_readFirst_0_3 tl tm by_ 0 t = nI (blk tl tx t q + 1) ∧ g_X8_readsItem_0_7 tl wf tx 1 (blk tl tx t 0) t = nI (blk tl tx t q + 1) ∧ (∀ dl, g_X5_readFirst_2_0 tl tm by_ dl 0 t = k) ∧ g_X8_readsItem_1 tl wf tx 1 (blk tl tx t 0) t cW = upd wf 353 k ∧ 1 ≤ k.toInt ∧ k.toInt ≤ 60) ∨ (¬ p_X5_readFirst tl tm by_ 0 t ∧ q_X8_readsItem tl wf tx 1 (blk tl tx t 0) t = false ∧ ∃ b : Nat, b ≤ 150 ∧ g_X5_readFirst_0_2 tl tm by_ 0 t = nI b ∧ g_X8_readsItem_0_8 tl wf tx 1 (blk tl tx t 0) t = nI b)) := by
  have htt := h.2.1
  have hP : 0 ≤ t := Nat.zero_le t
  have hB := S_le h hP
  have hW := wlk_le (tx := tx) (p := blk tl tx t 0) h.1 htt (by omega)
  have hid := S_id h hP
  have hsub : nI (wlk tl tx t (blk tl tx t 0)) - nI (blk tl tx t 0) = nI (wlk tl tx t (blk tl tx t 0) - blk tl tx t 0) := pk_sub hW.1
  have hlen : wlk tl tx t (blk tl tx t 0) - blk tl tx t 0 < 1000 := by omega
  have hwt : wlk tl tx t (blk tl tx t 0) ≤ t := by omega
  have hN : ¬ wlk tl tx t (blk tl tx t 0) = blk tl tx t 0 → adN tl by_ t 0 = wlk tl tx t (blk tl tx t 0) := fun z => by
    by_cases y : adT tl by_ t 0 = 1
    · exact ad_N1 h hP y
    · exact absurd (wlk_0 h hP y) z
  have hB150 : blk tl tx t 0 ≤ 150 := by omega
  have hSw := S_le h hwt
  have m01 : ¬ (1 : Int32) = 0 := by decide
  have i0 := iw_c h hP (wi := 0) (by decide)
  have j0 := iw_province (tx := tx) hsub hlen
  by_cases w0 : Wd tx (blk tl tx t 0) (wlk tl tx t (blk tl tx t 0) - blk tl tx t 0) 0
  · have c0 := i0.mpr w0
    have d0 := j0.mpr w0
    have hl : wlk tl tx t (blk tl tx t 0) - blk tl tx t 0 = 8 := w0.1
    have hn := hN (fun z => by rw [z, Nat.sub_self] at hl; exact absurd hl (by decide))
    have nw : ∀ k, 1 ≤ k → k < 6 → ¬ Wd tx (blk tl tx t 0) (wlk tl tx t (blk tl tx t 0) - blk tl tx t 0) k := fun k h1 h2 z => by
      have z1 := z.1
      rw [hl] at z1
      have hk : k = 1 ∨ k = 2 ∨ k = 3 ∨ k = 4 ∨ k = 5 := by omega
      rcases hk with rfl | rfl | rfl | rfl | rfl <;> exact absurd z1 (by decide)
    have hwd : f_X8_wordOf (nI (wlk tl tx t (blk tl tx t 0))) (nI (blk tl tx t 0)) tx (blk tl tx t 0) = 1 := by
      unfold f_X8_wordOf
      rw [if_neg (mt (iw_house hsub hlen).mp (nw 1 (by decide) (by decide))), if_neg (mt (iw_string hsub hlen).mp (nw 2 (by decide) (by decide))), if_neg (mt (iw_purse hsub hlen).mp (nw 3 (by decide) (by decide))), if_neg (mt (iw_send hsub hlen).mp (nw 4 (by decide) (by decide))), if_neg (mt (iw_wait hsub hlen).mp (nw 5 (by decide) (by decide))), if_pos d0]
    simp only [q_X8_readsItem, g_X8_readsItem_0_7, g_X8_readsItem_0_8, g_X8_readsItem_1, hid, hwd, eq_self, if_true, ite_self]
    obtain ⟨a1, a2⟩ := num_eq h hwt (g_X5_advance_0_5 tl tm by_ 0 t) 1 60
    by_cases y : p_X8_takesNumber tl tx 1 60 (wlk tl tx t (blk tl tx t 0)) t
    · obtain ⟨e1, e2, e3, e4⟩ := a2 y
      have y' := a1.mpr y
      have yc : p_X5_takeNumber tl (g_X5_advance_0_5 tl tm by_ 0 t) by_ 1 60 (adN tl by_ t 0) t := by rw [hn]; exact y'
      have hb := wi_rng (a := 1) (b := 60) (by decide) (by decide) ((in_wi _ 1 60).mp y.2)
      have hq := S_le h e4
      obtain ⟨st1, st2⟩ := stop_eq h e4
      have g1 : g_X8_readsProvince_1 tl wf tx (wlk tl tx t (blk tl tx t 0)) t = upd wf 353 (nuN tl tx t (wlk tl tx t (blk tl tx t 0))) := by unfold g_X8_readsProvince_1; rw [if_pos y]
      have en : adN tl by_ t (adN tl by_ t 0) = nuP tl tx t (wlk tl tx t (blk tl tx t 0)) := by rw [hn, e1]
      rw [g1]
      refine ⟨fun i hi => pk_un (by omega), ?_⟩
      by_cases x : p_X8_takesEnd tl tx (nuP tl tx t (wlk tl tx t (blk tl tx t 0))) t
      · obtain ⟨x1, x2⟩ := st2 x
        have xc : p_X5_stops tl by_ (adN tl by_ t (adN tl by_ t 0)) t := by rw [en]; exact st1.mpr x
        refine Or.inl ⟨⟨c0, yc, xc⟩, ?_, nuP tl tx t (wlk tl tx t (blk tl tx t 0)), nuN tl tx t (wlk tl tx t (blk tl tx t 0)), e4, x2, ?_, ?_, ?_, rfl, hb.1, hb.2⟩
        · rw [if_pos y, if_pos x]
        · unfold g_X5_readFirst_0_3; rw [if_pos c0, if_pos yc, en, x1]
        · rw [if_pos y]; exact nI_1 _
        · intro dl; unfold g_X5_readFirst_2_0; rw [if_pos c0, if_pos yc, hn, e2]
      · have xc : ¬ p_X5_stops tl by_ (adN tl by_ t (adN tl by_ t 0)) t := by rw [en]; exact mt st1.mp x
        refine Or.inr ⟨fun z => xc z.2.2, ?_, blk tl tx t (nuP tl tx t (wlk tl tx t (blk tl tx t 0))), by omega, ?_, ?_⟩
        · rw [if_pos y, if_neg x]
        · unfold g_X5_readFirst_0_2; rw [if_pos c0, if_pos yc, en, ad_S h e4]
        · rw [if_pos y]
    · have y' := mt a1.mp y
      have yc : ¬ p_X5_takeNumber tl (g_X5_advance_0_5 tl tm by_ 0 t) by_ 1 60 (adN tl by_ t 0) t := by rw [hn]; exact y'
      have g1 : g_X8_readsProvince_1 tl wf tx (wlk tl tx t (blk tl tx t 0)) t = wf := by unfold g_X8_readsProvince_1; rw [if_neg y]
      rw [g1]
      refine ⟨fun i hi => rfl, Or.inr ⟨fun z => yc z.2.1, ?_, blk tl tx t (wlk tl tx t (blk tl tx t 0)), by omega, ?_, ?_⟩⟩
      · rw [if_neg y]
      · unfold g_X5_readFirst_0_2; rw [if_pos c0, if_neg yc, hn, ad_S h hwt]
      · rw [if_neg y]
  · have c0 := mt i0.mp w0
    have d0 := mt j0.mp w0
    have hwd : ¬ f_X8_wordOf (nI (wlk tl tx t (blk tl tx t 0))) (nI (blk tl tx t 0)) tx (blk tl tx t 0) = 1 := by
      unfold f_X8_wordOf
      rw [if_neg d0]
      split
      · decide
      · split
        · decide
        · split
          · decide
          · split
            · decide
            · split
              · decide
              · decide
    simp only [q_X8_readsItem, g_X8_readsItem_0_7, g_X8_readsItem_0_8, g_X8_readsItem_1, hid, if_neg hwd, if_neg m01]
    refine ⟨fun i hi => trivial, Or.inr ⟨fun z => c0 z.1, trivial, blk tl tx t 0, hB150, ?_, rfl⟩⟩
    unfold g_X5_readFirst_0_2; rw [if_neg c0, ad_S h hP]

