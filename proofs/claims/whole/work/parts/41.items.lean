def zf : Nat → Int32 := fun _ => 0
theorem RP.sc {v : PV} {f g : Nat → Int32} (h : RP v f) {ln hb ha pu hl sm hr : Int32} (hs : RSc ln hb ha pu hl sm hr g) (e : ∀ i, i < 11 ∨ 18 ≤ i → g i = f i) : RP (ln, hb, ha, pu, hl, sm, hr, v.nS, v.nC, v.nN, v.nM, v.nU, v.fS, v.fC, v.fN, v.fM, v.fU) g :=
  ⟨hs, h.2.1.cg fun i hi => e i (by omega), h.2.2.1.cg fun i h1 _ => e i (by omega), h.2.2.2.1.cg fun i h1 _ => e i (by omega), h.2.2.2.2.1.cg fun i h1 _ => e i (by omega), h.2.2.2.2.2.cg fun i h1 _ => e i (by omega)⟩
theorem up_o {wf : Nat → Int32} {j i : Nat} {k : Int32} (h : ¬ i = j) : upd wf (342 + j) k (342 + i) = wf (342 + i) := pk_un (by omega)
theorem up_s {wf : Nat → Int32} {j : Nat} {k : Int32} : upd wf (342 + j) k (342 + j) = k := pk_us
def ItR (tl : Int32) (tx : Nat → Int32) (t S : Nat) (hr : Int32) (ok : Bool) (ts tn : Int32) (v : PV) (wf wf' : Nat → Int32) (rq : Bool) (rap rsp : Int32) : Prop := (∀ i, i < 342 → wf' i = wf i) ∧ (ok = false → rq = false ∧ rsp = ts ∧ ∃ b : Nat, b ≤ 150 ∧ rsp = nI b) ∧ (ok = true → ∃ q : Nat, S + 1 ≤ q ∧ q ≤ t ∧ tn = nI q ∧ (rq = true ↔ p_X8_takesEnd tl tx q t) ∧ rsp = nI (blk tl tx t q) ∧ rap = nI (blk tl tx t q) + 1 ∧ RP v (fun i => wf' (342 + i)) ∧ 0 ≤ v.hr.toInt ∧ v.hr.toInt ≤ hr.toInt + 99)
theorem ItR.no {tl : Int32} {tx : Nat → Int32} {t S : Nat} {hr : Int32} {ok : Bool} {ts tn : Int32} {v : PV} {wf wf' : Nat → Int32} {rq : Bool} {rap rsp : Int32} (ho : ok = false) (hf : ∀ i, i < 342 → wf' i = wf i) (hq : rq = false) (b : Nat) (hb : b ≤ 150) (hs : rsp = nI b) (hs2 : ts = nI b) : ItR tl tx t S hr ok ts tn v wf wf' rq rap rsp := ⟨hf, fun _ => ⟨hq, hs.trans hs2.symm, b, hb, hs⟩, fun z => absurd (ho.symm.trans z) (by decide)⟩
theorem ItR.yes {tl : Int32} {tx : Nat → Int32} {t S : Nat} {hr : Int32} {ok : Bool} {ts tn : Int32} {v : PV} {wf wf' : Nat → Int32} {rq : Bool} {rap rsp : Int32} (ho : ok = true) (q : Nat) (h1 : S + 1 ≤ q) (h2 : q ≤ t) (htn : tn = nI q) (hrq : rq = true ↔ p_X8_takesEnd tl tx q t) (hsp : rsp = nI (blk tl tx t q)) (hap : rap = nI (blk tl tx t q) + 1) (hf : ∀ i, i < 342 → wf' i = wf i) (hR : RP v (fun i => wf' (342 + i))) (h0 : 0 ≤ v.hr.toInt) (h99 : v.hr.toInt ≤ hr.toInt + 99) : ItR tl tx t S hr ok ts tn v wf wf' rq rap rsp := ⟨hf, fun z => absurd (ho.symm.trans z) (by decide), fun _ => ⟨q, h1, h2, htn, hrq, hsp, hap, hR, h0, h99⟩⟩
theorem itf {P : Prop} [Decidable P] : ((if P then true else false) = true) ↔ P := by
  by_cases z : P
  · rw [if_pos z]; exact ⟨fun _ => z, fun _ => rfl⟩
  · rw [if_neg z]; exact ⟨fun y => absurd y (by decide), fun y => absurd y z⟩
theorem RP_12 {ln hb ha pu hl sm hr nS : Int32} {fS wf : Nat → Int32} (R : RP (ln, hb, ha, pu, hl, sm, hr, nS, 0, 0, 0, 0, fS, zf, zf, zf, zf) (fun i => wf (342 + i))) (k : Int32) : RP (ln, k, ha, pu, hl, sm, hr, nS, 0, 0, 0, 0, fS, zf, zf, zf, zf) (fun i => upd wf 354 k (342 + i)) := by
  obtain ⟨⟨l1, l2, l3, l4, l5, l6, l7, l8, l9⟩, -⟩ := id R
  refine RP.sc R ⟨?_, ?_, ?_, ?_, ?_, ?_, ?_, l8, l9⟩ (fun i hi => up_o (wf := wf) (k := k) (j := 12) (i := i) (by omega))
  · exact l1.trans (up_o (wf := wf) (k := k) (j := 12) (i := 11) (by decide)).symm
  · exact (up_s (wf := wf) (k := k) (j := 12)).symm
  · exact l3.trans (up_o (wf := wf) (k := k) (j := 12) (i := 13) (by decide)).symm
  · exact l4.trans (up_o (wf := wf) (k := k) (j := 12) (i := 14) (by decide)).symm
  · exact l5.trans (up_o (wf := wf) (k := k) (j := 12) (i := 15) (by decide)).symm
  · exact l6.trans (up_o (wf := wf) (k := k) (j := 12) (i := 16) (by decide)).symm
  · exact l7.trans (up_o (wf := wf) (k := k) (j := 12) (i := 17) (by decide)).symm
theorem RP_13 {ln hb ha pu hl sm hr nS : Int32} {fS wf : Nat → Int32} (R : RP (ln, hb, ha, pu, hl, sm, hr, nS, 0, 0, 0, 0, fS, zf, zf, zf, zf) (fun i => wf (342 + i))) (k : Int32) : RP (ln, hb, k, pu, hl, sm, hr, nS, 0, 0, 0, 0, fS, zf, zf, zf, zf) (fun i => upd wf 355 k (342 + i)) := by
  obtain ⟨⟨l1, l2, l3, l4, l5, l6, l7, l8, l9⟩, -⟩ := id R
  refine RP.sc R ⟨?_, ?_, ?_, ?_, ?_, ?_, ?_, l8, l9⟩ (fun i hi => up_o (wf := wf) (k := k) (j := 13) (i := i) (by omega))
  · exact l1.trans (up_o (wf := wf) (k := k) (j := 13) (i := 11) (by decide)).symm
  · exact l2.trans (up_o (wf := wf) (k := k) (j := 13) (i := 12) (by decide)).symm
  · exact (up_s (wf := wf) (k := k) (j := 13)).symm
  · exact l4.trans (up_o (wf := wf) (k := k) (j := 13) (i := 14) (by decide)).symm
  · exact l5.trans (up_o (wf := wf) (k := k) (j := 13) (i := 15) (by decide)).symm
  · exact l6.trans (up_o (wf := wf) (k := k) (j := 13) (i := 16) (by decide)).symm
  · exact l7.trans (up_o (wf := wf) (k := k) (j := 13) (i := 17) (by decide)).symm
theorem RP_14 {ln hb ha pu hl sm hr nS : Int32} {fS wf : Nat → Int32} (R : RP (ln, hb, ha, pu, hl, sm, hr, nS, 0, 0, 0, 0, fS, zf, zf, zf, zf) (fun i => wf (342 + i))) (k : Int32) : RP (ln, hb, ha, k, hl, sm, hr, nS, 0, 0, 0, 0, fS, zf, zf, zf, zf) (fun i => upd wf 356 k (342 + i)) := by
  obtain ⟨⟨l1, l2, l3, l4, l5, l6, l7, l8, l9⟩, -⟩ := id R
  refine RP.sc R ⟨?_, ?_, ?_, ?_, ?_, ?_, ?_, l8, l9⟩ (fun i hi => up_o (wf := wf) (k := k) (j := 14) (i := i) (by omega))
  · exact l1.trans (up_o (wf := wf) (k := k) (j := 14) (i := 11) (by decide)).symm
  · exact l2.trans (up_o (wf := wf) (k := k) (j := 14) (i := 12) (by decide)).symm
  · exact l3.trans (up_o (wf := wf) (k := k) (j := 14) (i := 13) (by decide)).symm
  · exact (up_s (wf := wf) (k := k) (j := 14)).symm
  · exact l5.trans (up_o (wf := wf) (k := k) (j := 14) (i := 15) (by decide)).symm
  · exact l6.trans (up_o (wf := wf) (k := k) (j := 14) (i := 16) (by decide)).symm
  · exact l7.trans (up_o (wf := wf) (k := k) (j := 14) (i := 17) (by decide)).symm
theorem RP_17 {ln hb ha pu hl sm hr nS : Int32} {fS wf : Nat → Int32} (R : RP (ln, hb, ha, pu, hl, sm, hr, nS, 0, 0, 0, 0, fS, zf, zf, zf, zf) (fun i => wf (342 + i))) (k : Int32) : RP (ln, hb, ha, pu, hl, sm, k, nS, 0, 0, 0, 0, fS, zf, zf, zf, zf) (fun i => upd wf 359 k (342 + i)) := by
  obtain ⟨⟨l1, l2, l3, l4, l5, l6, l7, l8, l9⟩, -⟩ := id R
  refine RP.sc R ⟨?_, ?_, ?_, ?_, ?_, ?_, ?_, l8, l9⟩ (fun i hi => up_o (wf := wf) (k := k) (j := 17) (i := i) (by omega))
  · exact l1.trans (up_o (wf := wf) (k := k) (j := 17) (i := 11) (by decide)).symm
  · exact l2.trans (up_o (wf := wf) (k := k) (j := 17) (i := 12) (by decide)).symm
  · exact l3.trans (up_o (wf := wf) (k := k) (j := 17) (i := 13) (by decide)).symm
  · exact l4.trans (up_o (wf := wf) (k := k) (j := 17) (i := 14) (by decide)).symm
  · exact l5.trans (up_o (wf := wf) (k := k) (j := 17) (i := 15) (by decide)).symm
  · exact l6.trans (up_o (wf := wf) (k := k) (j := 17) (i := 16) (by decide)).symm
  · exact (up_s (wf := wf) (k := k) (j := 17)).symm
theorem rd_house {tl : Int32} {by_ tx : Nat → Int32} {t : Nat} (h : TxO tl by_ tx t) {w S : Nat} (hw : w ≤ t) (hS : S ≤ w) {ln hb ha pu hl sm hr nS : Int32} {fS wf : Nat → Int32} (R : RP (ln, hb, ha, pu, hl, sm, hr, nS, 0, 0, 0, 0, fS, zf, zf, zf, zf) (fun i => wf (342 + i))) (hr0 : 0 ≤ hr.toInt) (tm : Int32) : ItR tl tx t S hr (decide (p_X5_readHouse tl tm by_ w t)) (g_X5_readHouse_0_2 tl tm by_ w t) (g_X5_readHouse_0_3 tl tm by_ w t) (ln, g_X5_readHouse_2_1 tl tm by_ hb w t, g_X5_readHouse_2_2 tl tm by_ ha w t, pu, hl, sm, hr, nS, 0, 0, 0, 0, fS, zf, zf, zf, zf) wf (g_X8_readsHouse_1 tl wf tx w t) (if p_X8_readsHouse tl tx w t then (if p_X8_takesEnd tl tx ((g_X8_readsHouse_0_7 tl tx w t).toNatClampNeg) t then true else false) else false) (if p_X8_readsHouse tl tx w t then ((nI (blk tl tx t ((g_X8_readsHouse_0_7 tl tx w t).toNatClampNeg))) + 1) else (g_X8_readsHouse_0_7 tl tx w t)) (if p_X8_readsHouse tl tx w t then (nI (blk tl tx t ((g_X8_readsHouse_0_7 tl tx w t).toNatClampNeg))) else (g_X8_readsHouse_0_8 tl tx w t)) := by
  have htt := h.2.1
  have hSw := S_le h hw
  obtain ⟨a1, a2⟩ := num_eq h hw tm 0 1
  by_cases y : p_X8_takesNumber tl tx 0 1 w t
  · obtain ⟨e1, e2, e3, e4⟩ := a2 y
    have y' := a1.mpr y
    obtain ⟨b1, b2⟩ := num_eq h e4 (nuN tl tx t w) 0 5
    have hS2 := S_le h e4
    by_cases x : p_X8_takesNumber tl tx 0 5 (nuP tl tx t w) t
    · obtain ⟨f1, f2, f3, f4⟩ := b2 x
      have x' := b1.mpr x
      have k1 : p_X5_readHouse tl tm by_ w t := ⟨y', by rw [e1, e2]; exact x'⟩
      have k2 : p_X8_readsHouse tl tx w t := ⟨y, x⟩
      have e7 : ((g_X8_readsHouse_0_7 tl tx w t).toNatClampNeg) = nuP tl tx t (nuP tl tx t w) := by unfold g_X8_readsHouse_0_7; rw [if_pos y, if_pos x, nI_cl (by omega)]
      refine ItR.yes (decide_eq_true k1) (nuP tl tx t (nuP tl tx t w)) (by omega) f4 ?_ ?_ ?_ ?_ ?_ ?_ hr0 (by show hr.toInt ≤ hr.toInt + 99; omega)
      · unfold g_X5_readHouse_0_3; rw [if_pos y', e1, e2, if_pos x', f1]
      · rw [if_pos k2, e7]; exact itf
      · rw [if_pos k2, e7]
      · rw [if_pos k2, e7]
      · intro i hi; unfold g_X8_readsHouse_1; rw [if_pos y, if_pos x]; exact pk_un (by omega)
      · have q1 : g_X5_readHouse_2_1 tl tm by_ hb w t = g_X2_setHouse_0_1 hb (nuN tl tx t w) (nuN tl tx t (nuP tl tx t w)) := by unfold g_X5_readHouse_2_1; rw [if_pos y', e1, e2, if_pos x', f2]
        have q2 : g_X5_readHouse_2_2 tl tm by_ ha w t = g_X2_setHouse_0_2 ha (nuN tl tx t w) (nuN tl tx t (nuP tl tx t w)) := by unfold g_X5_readHouse_2_2; rw [if_pos y', e1, e2, if_pos x', f2]
        have q3 : g_X8_readsHouse_1 tl wf tx w t = upd wf (354 + ((nuN tl tx t w).toNatClampNeg)) (nuN tl tx t (nuP tl tx t w)) := by unfold g_X8_readsHouse_1; rw [if_pos y, if_pos x]
        rw [q1, q2, q3]
        unfold g_X2_setHouse_0_1 g_X2_setHouse_0_2
        rcases two_cases ((in_wi _ 0 1).mp y.2) with q | q
        · rw [q, if_pos rfl, if_pos rfl]; exact RP_12 R _
        · have n10 : ¬ (1 : Int32) = 0 := by decide
          rw [q, if_neg n10, if_neg n10]; exact RP_13 R _
    · have x' := mt b1.mp x
      have k1 : ¬ p_X5_readHouse tl tm by_ w t := fun z => x' (by have := z.2; rw [e1, e2] at this; exact this)
      have k2 : ¬ p_X8_readsHouse tl tx w t := fun z => x z.2
      refine ItR.no (decide_eq_false k1) ?_ ?_ (blk tl tx t (nuP tl tx t w)) (by omega) ?_ ?_
      · intro i hi; unfold g_X8_readsHouse_1; rw [if_pos y, if_neg x]
      · rw [if_neg k2]
      · rw [if_neg k2]; unfold g_X8_readsHouse_0_8; rw [if_pos y, if_neg x]
      · unfold g_X5_readHouse_0_2; rw [if_pos y', e1, e2, if_neg x', ad_S h e4]
  · have y' := mt a1.mp y
    have k1 : ¬ p_X5_readHouse tl tm by_ w t := fun z => y' z.1
    have k2 : ¬ p_X8_readsHouse tl tx w t := fun z => y z.1
    refine ItR.no (decide_eq_false k1) ?_ ?_ (blk tl tx t w) (by omega) ?_ ?_
    · intro i hi; unfold g_X8_readsHouse_1; rw [if_neg y]
    · rw [if_neg k2]
    · rw [if_neg k2]; unfold g_X8_readsHouse_0_8; rw [if_neg y]
    · unfold g_X5_readHouse_0_2; rw [if_neg y', ad_S h hw]
theorem rd_string {tl : Int32} {by_ tx : Nat → Int32} {t : Nat} (h : TxO tl by_ tx t) {w S : Nat} (hw : w ≤ t) (hS : S ≤ w) {ln hb ha pu hl sm hr nS : Int32} {fS wf : Nat → Int32} (R : RP (ln, hb, ha, pu, hl, sm, hr, nS, 0, 0, 0, 0, fS, zf, zf, zf, zf) (fun i => wf (342 + i))) (hr0 : 0 ≤ hr.toInt) (tm : Int32) : ItR tl tx t S hr (if p_X3_isFull 5 nS then false else (if p_X5_readString tl tm by_ w t then true else false)) (if p_X3_isFull 5 nS then (nI S) else (g_X5_readString_0_2 tl tm by_ w t)) (if p_X3_isFull 5 nS then (nI w) else (g_X5_readString_0_3 tl tm by_ w t)) (ln, hb, ha, pu, hl, sm, hr, (if p_X3_isFull 5 nS then nS else (g_X5_readString_3_2 tl tm by_ 5 nS w t)), 0, 0, 0, 0, (if p_X3_isFull 5 nS then fS else (g_X5_readString_4 tl tm by_ 5 nS fS w t)), zf, zf, zf, zf) wf (g_X8_readsString_1 tl wf tx w t ((wf 342).toNatClampNeg)) (if p_X8_readsString tl wf tx w t then (if p_X8_takesEnd tl tx ((g_X8_readsString_0_7 tl (nI w) wf tx w t).toNatClampNeg) t then true else false) else false) (if p_X8_readsString tl wf tx w t then ((nI (blk tl tx t ((g_X8_readsString_0_7 tl (nI w) wf tx w t).toNatClampNeg))) + 1) else (g_X8_readsString_0_7 tl (nI w) wf tx w t)) (if p_X8_readsString tl wf tx w t then (nI (blk tl tx t ((g_X8_readsString_0_7 tl (nI w) wf tx w t).toNatClampNeg))) else (g_X8_readsString_0_8 tl (nI S) wf tx w t)) := by
  have htt := h.2.1
  have hSw := S_le h hw
  obtain ⟨n0, n1, n2, n3⟩ := id R.2.1
  have n0 : nS = wf 342 := n0
  have n1 : nS.toInt = (nS.toNatClampNeg : Int) := n1
  have n2 : nS.toNatClampNeg ≤ 5 := n2
  have E5 : (5 : Int32).toInt = ((5 : Nat) : Int) := by decide
  by_cases zf5 : p_X3_isFull 5 nS
  · have yf : wf 342 = 5 := n0.symm.trans ((full_iff n1 E5 n2).mp zf5)
    have k2 : ¬ p_X8_readsString tl wf tx w t := fun z => z.1 yf
    refine ItR.no (if_pos zf5) ?_ ?_ S (by omega) ?_ ?_
    · intro i hi; unfold g_X8_readsString_1; rw [if_pos yf]
    · rw [if_neg k2]
    · rw [if_neg k2]; unfold g_X8_readsString_0_8; rw [if_pos yf]
    · rw [if_pos zf5]
  · have yf : ¬ wf 342 = 5 := fun z => zf5 ((full_iff n1 E5 n2).mpr (n0.trans z))
    have hlt : nS.toNatClampNeg < 5 := Int32_lt_of zf5 n1 E5
    obtain ⟨a1, a2⟩ := num_eq h hw tm 0 5
    by_cases y : p_X8_takesNumber tl tx 0 5 w t
    · obtain ⟨e1, e2, e3, e4⟩ := a2 y
      have y' := a1.mpr y
      obtain ⟨b1, b2⟩ := num_eq h e4 (nuN tl tx t w) 1 60
      have hS2 := S_le h e4
      by_cases x : p_X8_takesNumber tl tx 1 60 (nuP tl tx t w) t
      · obtain ⟨f1, f2, f3, f4⟩ := b2 x
        have x' := b1.mpr x
        have k1 : p_X5_readString tl tm by_ w t := ⟨y', by rw [e1, e2]; exact x'⟩
        have k2 : p_X8_readsString tl wf tx w t := ⟨yf, y, x⟩
        have e7 : ((g_X8_readsString_0_7 tl (nI w) wf tx w t).toNatClampNeg) = nuP tl tx t (nuP tl tx t w) := by unfold g_X8_readsString_0_7; rw [if_neg yf, if_pos y, if_pos x, nI_cl (by omega)]
        refine ItR.yes (by rw [if_neg zf5, if_pos k1]) (nuP tl tx t (nuP tl tx t w)) (by omega) f4 ?_ ?_ ?_ ?_ ?_ ?_ hr0 (by show hr.toInt ≤ hr.toInt + 99; omega)
        · rw [if_neg zf5]; unfold g_X5_readString_0_3; rw [if_pos y', e1, e2, if_pos x', f1]
        · rw [if_pos k2, e7]; exact itf
        · rw [if_pos k2, e7]
        · rw [if_pos k2, e7]
        · intro i hi; unfold g_X8_readsString_1; rw [if_neg yf, if_pos y, if_pos x, pk_un (by omega), pk_un (by omega), pk_un (by omega)]
        · have q1 : g_X5_readString_3_2 tl tm by_ 5 nS w t = nS + 1 := by unfold g_X5_readString_3_2; rw [if_pos y', e1, e2, if_pos x']; exact (put_n n1 E5 hlt (by decide)).1
          have q2 : g_X5_readString_4 tl tm by_ 5 nS fS w t = rw4 fS nS.toNatClampNeg (nuN tl tx t w) (nuN tl tx t (nuP tl tx t w)) 0 0 := by unfold g_X5_readString_4; rw [if_pos y', e1, e2, if_pos x', f2]; exact put_f n1 E5 hlt _ _ _ _ _
          have q3 : g_X8_readsString_1 tl wf tx w t ((wf 342).toNatClampNeg) = upd (upd (upd wf (1 + 342 + (wf 342).toNatClampNeg) (nuN tl tx t w)) (6 + 342 + (wf 342).toNatClampNeg) (nuN tl tx t (nuP tl tx t w))) 342 ((wf 342) + 1) := by unfold g_X8_readsString_1; rw [if_neg yf, if_pos y, if_pos x]
          rw [if_neg zf5, if_neg zf5, q1, q2, q3, ← n0]
          have hb := wi_rng (a := 1) (b := 60) (by decide) (by decide) ((in_wi _ 1 60).mp x.2)
          have o : ∀ i, 11 ≤ i → upd (upd (upd wf (1 + 342 + nS.toNatClampNeg) (nuN tl tx t w)) (6 + 342 + nS.toNatClampNeg) (nuN tl tx t (nuP tl tx t w))) 342 (nS + 1) (342 + i) = wf (342 + i) := fun i hi => by rw [pk_un (by omega), pk_un (by omega), pk_un (by omega)]
          refine ⟨R.1.cg fun i h1 _ => o i (by omega), RSt.put R.2.1 hlt ?_ ?_ ?_ (fun i hi => ⟨?_, ?_⟩) hb, R.2.2.1.cg fun i h1 _ => o i (by omega), R.2.2.2.1.cg fun i h1 _ => o i (by omega), R.2.2.2.2.1.cg fun i h1 _ => o i (by omega), R.2.2.2.2.2.cg fun i h1 _ => o i (by omega)⟩
          · show upd _ 342 (nS + 1) 342 = nS + 1
            exact pk_us
          · show upd _ 342 (nS + 1) (342 + (1 + nS.toNatClampNeg)) = _
            rw [pk_un (by omega), pk_un (by omega), show 342 + (1 + nS.toNatClampNeg) = 1 + 342 + nS.toNatClampNeg by omega, pk_us]
          · show upd _ 342 (nS + 1) (342 + (6 + nS.toNatClampNeg)) = _
            rw [pk_un (by omega), show 342 + (6 + nS.toNatClampNeg) = 6 + 342 + nS.toNatClampNeg by omega, pk_us]
          · have hi : i < nS.toNatClampNeg := hi
            show upd _ 342 (nS + 1) (342 + (1 + i)) = wf (342 + (1 + i))
            rw [pk_un (by omega), pk_un (by omega), pk_un (by omega)]
          · have hi : i < nS.toNatClampNeg := hi
            show upd _ 342 (nS + 1) (342 + (6 + i)) = wf (342 + (6 + i))
            rw [pk_un (by omega), pk_un (by omega), pk_un (by omega)]
      · have x' := mt b1.mp x
        have k1 : ¬ p_X5_readString tl tm by_ w t := fun z => x' (by have := z.2; rw [e1, e2] at this; exact this)
        have k2 : ¬ p_X8_readsString tl wf tx w t := fun z => x z.2.2
        refine ItR.no (by rw [if_neg zf5, if_neg k1]) ?_ ?_ (blk tl tx t (nuP tl tx t w)) (by omega) ?_ ?_
        · intro i hi; unfold g_X8_readsString_1; rw [if_neg yf, if_pos y, if_neg x]
        · rw [if_neg k2]
        · rw [if_neg k2]; unfold g_X8_readsString_0_8; rw [if_neg yf, if_pos y, if_neg x]
        · rw [if_neg zf5]; unfold g_X5_readString_0_2; rw [if_pos y', e1, e2, if_neg x', ad_S h e4]
    · have y' := mt a1.mp y
      have k1 : ¬ p_X5_readString tl tm by_ w t := fun z => y' z.1
      have k2 : ¬ p_X8_readsString tl wf tx w t := fun z => y z.2.1
      refine ItR.no (by rw [if_neg zf5, if_neg k1]) ?_ ?_ (blk tl tx t w) (by omega) ?_ ?_
      · intro i hi; unfold g_X8_readsString_1; rw [if_neg yf, if_neg y]
      · rw [if_neg k2]
      · rw [if_neg k2]; unfold g_X8_readsString_0_8; rw [if_neg yf, if_neg y]
      · rw [if_neg zf5]; unfold g_X5_readString_0_2; rw [if_neg y', ad_S h hw]
theorem rd_purse {tl : Int32} {by_ tx : Nat → Int32} {t : Nat} (h : TxO tl by_ tx t) {w S : Nat} (hw : w ≤ t) (hS : S ≤ w) {ln hb ha pu hl sm hr nS : Int32} {fS wf : Nat → Int32} (R : RP (ln, hb, ha, pu, hl, sm, hr, nS, 0, 0, 0, 0, fS, zf, zf, zf, zf) (fun i => wf (342 + i))) (hr0 : 0 ≤ hr.toInt) (tm : Int32) : ItR tl tx t S hr (decide (p_X5_readPurse tl tm by_ w t)) (nI (adS tl by_ t w)) (nI (adN tl by_ t w)) (ln, hb, ha, g_X5_readPurse_2_3 tl tm by_ pu w t, hl, sm, hr, nS, 0, 0, 0, 0, fS, zf, zf, zf, zf) wf (g_X8_readsPurse_1 tl wf tx w t) (if p_X8_readsPurse tl tx w t then (if p_X8_takesEnd tl tx (nuP tl tx t w) t then true else false) else false) (if p_X8_readsPurse tl tx w t then ((nI (blk tl tx t (nuP tl tx t w))) + 1) else (nI (nuP tl tx t w))) (if p_X8_readsPurse tl tx w t then (nI (blk tl tx t (nuP tl tx t w))) else (nI (blk tl tx t w))) := by
  have htt := h.2.1
  have hSw := S_le h hw
  obtain ⟨a1, a2⟩ := num_eq h hw tm 0 99
  by_cases y : p_X8_takesNumber tl tx 0 99 w t
  · obtain ⟨e1, e2, e3, e4⟩ := a2 y
    have y' := a1.mpr y
    refine ItR.yes (decide_eq_true y') (nuP tl tx t w) (by omega) e4 (by rw [e1]) ?_ ?_ ?_ ?_ ?_ hr0 (by show hr.toInt ≤ hr.toInt + 99; omega)
    · rw [if_pos y]; exact itf
    · rw [if_pos y]
    · rw [if_pos y]
    · intro i hi; unfold g_X8_readsPurse_1; rw [if_pos y]; exact pk_un (by omega)
    · have q1 : g_X5_readPurse_2_3 tl tm by_ pu w t = 100 * nuN tl tx t w := by unfold g_X5_readPurse_2_3; rw [if_pos y', e2]
      have q2 : g_X8_readsPurse_1 tl wf tx w t = upd wf 356 (100 * nuN tl tx t w) := by unfold g_X8_readsPurse_1; rw [if_pos y]
      rw [q1, q2]; exact RP_14 R _
  · have y' := mt a1.mp y
    refine ItR.no (decide_eq_false y') ?_ ?_ (blk tl tx t w) (by omega) ?_ ?_
    · intro i hi; unfold g_X8_readsPurse_1; rw [if_neg y]
    · rw [if_neg y]
    · rw [if_neg y]
    · rw [ad_S h hw]
theorem rd_wait {tl : Int32} {by_ tx : Nat → Int32} {t : Nat} (h : TxO tl by_ tx t) {w S : Nat} (hw : w ≤ t) (hS : S ≤ w) {ln hb ha pu hl sm hr nS : Int32} {fS wf : Nat → Int32} (R : RP (ln, hb, ha, pu, hl, sm, hr, nS, 0, 0, 0, 0, fS, zf, zf, zf, zf) (fun i => wf (342 + i))) (hr0 : 0 ≤ hr.toInt) (hr9 : hr.toInt < 9999) (tm : Int32) : ItR tl tx t S hr (if p_X5_readWait tl tm by_ w t then true else false) (nI (adS tl by_ t w)) (nI (adN tl by_ t w)) (ln, hb, ha, pu, hl, sm, g_X5_readWait_2_6 tl tm by_ hr w t, nS, 0, 0, 0, 0, fS, zf, zf, zf, zf) wf (g_X8_readsWait_1 tl wf tx w t) (if p_X8_readsWait tl tx w t then (if p_X8_takesEnd tl tx (nuP tl tx t w) t then true else false) else false) (if p_X8_readsWait tl tx w t then ((nI (blk tl tx t (nuP tl tx t w))) + 1) else (nI (nuP tl tx t w))) (if p_X8_readsWait tl tx w t then (nI (blk tl tx t (nuP tl tx t w))) else (nI (blk tl tx t w))) := by
  have htt := h.2.1
  have hSw := S_le h hw
  obtain ⟨a1, a2⟩ := num_eq h hw tm 1 99
  by_cases y : p_X8_takesNumber tl tx 1 99 w t
  · obtain ⟨e1, e2, e3, e4⟩ := a2 y
    have y' := a1.mpr y
    have hn := wi_rng (a := 1) (b := 99) (by decide) (by decide) ((in_wi _ 1 99).mp y.2)
    have c9 : (9999 : Int32).toInt = 9999 := rfl
    have ea : (hr + nuN tl tx t w).toInt = hr.toInt + (nuN tl tx t w).toInt := ti_add (by omega) (by omega)
    have q1 : g_X5_readWait_2_6 tl tm by_ hr w t = if (hr + nuN tl tx t w) ≤ 9999 then (hr + nuN tl tx t w) else 9999 := by unfold g_X5_readWait_2_6; rw [if_pos y', e2, lt_le_i]
    have hh : 0 ≤ (g_X5_readWait_2_6 tl tm by_ hr w t).toInt ∧ (g_X5_readWait_2_6 tl tm by_ hr w t).toInt ≤ hr.toInt + 99 := by
      rw [q1]
      split
      · rw [ea]; omega
      · rename_i z; rw [Int32.le_iff_toInt_le, ea, c9] at z; rw [c9]; omega
    refine ItR.yes (if_pos y') (nuP tl tx t w) (by omega) e4 (by rw [e1]) ?_ ?_ ?_ ?_ ?_ hh.1 hh.2
    · rw [if_pos y]; exact itf
    · rw [if_pos y]
    · rw [if_pos y]
    · intro i hi; unfold g_X8_readsWait_1; rw [if_pos y]; split <;> exact pk_un (by omega)
    · have l7 : hr = wf 359 := R.1.2.2.2.2.2.2.1
      have q2 : g_X8_readsWait_1 tl wf tx w t = upd wf 359 (if (hr + nuN tl tx t w) ≤ 9999 then (hr + nuN tl tx t w) else 9999) := by
        unfold g_X8_readsWait_1; rw [if_pos y, ← l7]; split <;> rfl
      rw [q1, q2]; exact RP_17 R _
  · have y' := mt a1.mp y
    refine ItR.no (if_neg y') ?_ ?_ (blk tl tx t w) (by omega) ?_ ?_
    · intro i hi; unfold g_X8_readsWait_1; rw [if_neg y]
    · rw [if_neg y]
    · rw [if_neg y]
    · rw [ad_S h hw]
theorem rd_send {tl : Int32} {by_ tx : Nat → Int32} {t : Nat} (h : TxO tl by_ tx t) {w S : Nat} (hw : w ≤ t) (hS : S ≤ w) {ln hb ha pu hl sm hr nS : Int32} {fS wf : Nat → Int32} (R : RP (ln, hb, ha, pu, hl, sm, hr, nS, 0, 0, 0, 0, fS, zf, zf, zf, zf) (fun i => wf (342 + i))) (hr0 : 0 ≤ hr.toInt) (hr9 : hr.toInt < 9999) (tm : Int32) : ItR tl tx t S hr (if p_X5_takeNumber tl tm by_ 0 (nS - 1) w t then (if p_X2_sendString hb ha pu hr nS fS (g_X5_advance_0_5 tl tm by_ w t) then true else false) else false) (nI (adS tl by_ t w)) (nI (adN tl by_ t w)) (ln, hb, ha, (if p_X5_takeNumber tl tm by_ 0 (nS - 1) w t then (g_X2_sendString_0_3 hb ha pu hr nS fS (g_X5_advance_0_5 tl tm by_ w t)) else pu), (if p_X5_takeNumber tl tm by_ 0 (nS - 1) w t then (g_X2_sendString_0_4 ln hb ha pu hl hr nS fS (g_X5_advance_0_5 tl tm by_ w t)) else hl), (if p_X5_takeNumber tl tm by_ 0 (nS - 1) w t then (g_X2_sendString_0_5 hb ha pu sm hr nS fS (g_X5_advance_0_5 tl tm by_ w t)) else sm), (if p_X5_takeNumber tl tm by_ 0 (nS - 1) w t then (g_X2_sendString_0_6 hb ha pu hr nS fS (g_X5_advance_0_5 tl tm by_ w t)) else hr), nS, 0, 0, 0, 0, fS, zf, zf, zf, zf) wf (g_X8_readsSend_1 tl wf tx w t) (if p_X8_readsSend tl wf tx w t then (if p_X8_takesEnd tl tx (nuP tl tx t w) t then true else false) else false) (if p_X8_readsSend tl wf tx w t then ((nI (blk tl tx t (nuP tl tx t w))) + 1) else (nI (nuP tl tx t w))) (if p_X8_readsSend tl wf tx w t then (nI (blk tl tx t (nuP tl tx t w))) else (nI (blk tl tx t w))) := by
  have htt := h.2.1
  have hSw := S_le h hw
  have n0 : nS = wf 342 := R.2.1.1
  have l7 : hr = wf 359 := R.1.2.2.2.2.2.2.1
  have l4 : pu = wf 356 := R.1.2.2.2.1
  obtain ⟨a1, a2⟩ := num_eq h hw tm 0 (nS - 1)
  by_cases y : p_X8_takesNumber tl tx 0 (nS - 1) w t
  · obtain ⟨e1, e2, e3, e4⟩ := a2 y
    have y' := a1.mpr y
    have yn : p_X8_takesNumber tl tx 0 ((wf 342) - 1) w t := by rw [← n0]; exact y
    have z : p_X7_within (nuN tl tx t w) 0 (nS - 1) := (in_wi _ 0 (nS - 1)).mp y.2
    have hc := cost_eq R z 0
    have e0 : hr + 0 = hr := Int32.add_zero _
    have ht : f_X2_tollOn hb ha (f_X2_shownIn hr nS fS (nuN tl tx t w) 0) hr = f_X2_costIn hb ha hr nS fS (nuN tl tx t w) 0 := by unfold f_X2_costIn; rw [e0]
    have hc' : f_X2_costIn hb ha hr nS fS (nuN tl tx t w) 0 = f_X8_costIn wf (wf 359) 342 (nuN tl tx t w).toNatClampNeg := by
      rw [← l7]; exact hc.trans (by rw [show PV.hr (ln, hb, ha, pu, hl, sm, hr, nS, 0, 0, 0, 0, fS, zf, zf, zf, zf) + 0 = hr from e0])
    have c9 : (9999 : Int32).toInt = 9999 := rfl
    have n9 : ¬ (9999 : Int32) ≤ wf 359 := fun q => by rw [Int32.le_iff_toInt_le, ← l7, c9] at q; omega
    by_cases x : f_X2_costIn hb ha hr nS fS (nuN tl tx t w) 0 ≤ pu
    · have x' : p_X2_sendString hb ha pu hr nS fS (nuN tl tx t w) := by show f_X2_tollOn hb ha (f_X2_shownIn hr nS fS (nuN tl tx t w) 0) hr ≤ pu; rw [ht]; exact x
      have yc : p_X8_canSend wf 342 (nuN tl tx t w).toNatClampNeg := ⟨n9, by show ¬ wf 356 < f_X8_costIn wf (wf 359) 342 (nuN tl tx t w).toNatClampNeg; rw [← hc', ← l4]; exact Int32.not_lt.mpr x⟩
      have k2 : p_X8_readsSend tl wf tx w t := ⟨yn, yc⟩
      have q6 : g_X2_sendString_0_6 hb ha pu hr nS fS (nuN tl tx t w) = hr + 1 := by unfold g_X2_sendString_0_6; rw [if_pos x', ite_self]
      have c1 : (1 : Int32).toInt = 1 := rfl
      have e6 : (hr + 1).toInt = hr.toInt + 1 := by rw [ti_add (by rw [c1]; omega) (by rw [c1]; omega), c1]
      refine ItR.yes (by rw [if_pos y', e2, if_pos x']) (nuP tl tx t w) (by omega) e4 (by rw [e1]) ?_ ?_ ?_ ?_ ?_ ?_ ?_
      · rw [if_pos k2]; exact itf
      · rw [if_pos k2]
      · rw [if_pos k2]
      · intro i hi; unfold g_X8_readsSend_1; rw [if_pos yn, if_pos yc]; exact sent_o (by omega)
      · have q3 : g_X8_readsSend_1 tl wf tx w t = g_X8_isSent_1 wf 342 (nuN tl tx t w).toNatClampNeg := by unfold g_X8_readsSend_1; rw [if_pos yn, if_pos yc]
        rw [if_pos y', if_pos y', if_pos y', if_pos y', e2, q3]
        exact sent_r R z x
      · show 0 ≤ (if p_X5_takeNumber tl tm by_ 0 (nS - 1) w t then (g_X2_sendString_0_6 hb ha pu hr nS fS (g_X5_advance_0_5 tl tm by_ w t)) else hr).toInt
        rw [if_pos y', e2, q6, e6]; omega
      · show (if p_X5_takeNumber tl tm by_ 0 (nS - 1) w t then (g_X2_sendString_0_6 hb ha pu hr nS fS (g_X5_advance_0_5 tl tm by_ w t)) else hr).toInt ≤ hr.toInt + 99
        rw [if_pos y', e2, q6, e6]; omega
    · have x' : ¬ p_X2_sendString hb ha pu hr nS fS (nuN tl tx t w) := by show ¬ f_X2_tollOn hb ha (f_X2_shownIn hr nS fS (nuN tl tx t w) 0) hr ≤ pu; rw [ht]; exact x
      have yc : ¬ p_X8_canSend wf 342 (nuN tl tx t w).toNatClampNeg := fun q => q.2 (by show wf 356 < f_X8_costIn wf (wf 359) 342 (nuN tl tx t w).toNatClampNeg; rw [← hc', ← l4]; exact Int32.not_le.mp x)
      have k2 : ¬ p_X8_readsSend tl wf tx w t := fun q => yc q.2
      refine ItR.no (by rw [if_pos y', e2, if_neg x']) ?_ ?_ (blk tl tx t w) (by omega) ?_ ?_
      · intro i hi; unfold g_X8_readsSend_1; rw [if_pos yn, if_neg yc]
      · rw [if_neg k2]
      · rw [if_neg k2]
      · rw [ad_S h hw]
  · have y' := mt a1.mp y
    have yn : ¬ p_X8_takesNumber tl tx 0 ((wf 342) - 1) w t := by rw [← n0]; exact y
    have k2 : ¬ p_X8_readsSend tl wf tx w t := fun q => yn q.1
    refine ItR.no (if_neg y') ?_ ?_ (blk tl tx t w) (by omega) ?_ ?_
    · intro i hi; unfold g_X8_readsSend_1; rw [if_neg yn]
    · rw [if_neg k2]
    · rw [if_neg k2]
    · rw [ad_S h hw]
theorem item_eq {tl : Int32} {by_ tx : Nat → Int32} {t : Nat} (h : TxO tl by_ tx t) {P : Nat} (hP : P ≤ t) {ln hb ha pu hl sm hr nS : Int32} {fS wf : Nat → Int32} (R : RP (ln, hb, ha, pu, hl, sm, hr, nS, 0, 0, 0, 0, fS, zf, zf, zf, zf) (fun i => wf (342 + i))) (hr0 : 0 ≤ hr.toInt) (hr9 : hr.toInt < 9999) (tm : Int32) : ItR tl tx t (blk tl tx t P) hr (q_X5_readItem tl (nI (adS tl by_ t P)) (nI (adN tl by_ t P)) (g_X5_advance_0_4 tl by_ P t) tm by_ hb ha pu hr 5 nS fS (adN tl by_ t P) t (adS tl by_ t P)) (g_X5_readItem_0_2 tl (nI (adS tl by_ t P)) (nI (adN tl by_ t P)) (g_X5_advance_0_4 tl by_ P t) tm by_ hb ha pu hr 5 nS fS (adN tl by_ t P) t (adS tl by_ t P)) (g_X5_readItem_0_3 tl (nI (adS tl by_ t P)) (nI (adN tl by_ t P)) (g_X5_advance_0_4 tl by_ P t) tm by_ hb ha pu hr 5 nS fS (adN tl by_ t P) t (adS tl by_ t P)) (ln, g_X5_readItem_2_1 tl (nI (adS tl by_ t P)) (nI (adN tl by_ t P)) (g_X5_advance_0_4 tl by_ P t) tm by_ hb ha pu hr 5 nS fS (adN tl by_ t P) t (adS tl by_ t P), g_X5_readItem_2_2 tl (nI (adS tl by_ t P)) (nI (adN tl by_ t P)) (g_X5_advance_0_4 tl by_ P t) tm by_ hb ha pu hr 5 nS fS (adN tl by_ t P) t (adS tl by_ t P), g_X5_readItem_2_3 tl (nI (adS tl by_ t P)) (nI (adN tl by_ t P)) (g_X5_advance_0_4 tl by_ P t) tm by_ hb ha pu hr 5 nS fS (adN tl by_ t P) t (adS tl by_ t P), g_X5_readItem_2_4 tl (nI (adS tl by_ t P)) (nI (adN tl by_ t P)) (g_X5_advance_0_4 tl by_ P t) tm by_ ln hb ha pu hl hr 5 nS fS (adN tl by_ t P) t (adS tl by_ t P), g_X5_readItem_2_5 tl (nI (adS tl by_ t P)) (nI (adN tl by_ t P)) (g_X5_advance_0_4 tl by_ P t) tm by_ hb ha pu sm hr 5 nS fS (adN tl by_ t P) t (adS tl by_ t P), g_X5_readItem_2_6 tl (nI (adS tl by_ t P)) (nI (adN tl by_ t P)) (g_X5_advance_0_4 tl by_ P t) tm by_ hb ha pu hr 5 nS fS (adN tl by_ t P) t (adS tl by_ t P), g_X5_readItem_3_2 tl (nI (adS tl by_ t P)) (nI (adN tl by_ t P)) (g_X5_advance_0_4 tl by_ P t) tm by_ hb ha pu hr 5 nS fS (adN tl by_ t P) t (adS tl by_ t P), 0, 0, 0, 0, g_X5_readItem_4 tl (nI (adS tl by_ t P)) (nI (adN tl by_ t P)) (g_X5_advance_0_4 tl by_ P t) tm by_ hb ha pu hr 5 nS fS (adN tl by_ t P) t (adS tl by_ t P), zf, zf, zf, zf) wf (g_X8_readsItem_1 tl wf tx 0 (blk tl tx t P) t ((wf 342).toNatClampNeg)) (q_X8_readsItem tl wf tx 0 (blk tl tx t P) t) (g_X8_readsItem_0_7 tl wf tx 0 (blk tl tx t P) t) (g_X8_readsItem_0_8 tl wf tx 0 (blk tl tx t P) t) := by
  have htt := h.2.1
  have hB := S_le h hP
  have hW := wlk_le (tx := tx) (p := (blk tl tx t P)) h.1 htt (by omega)
  have hid := S_id h hP
  have hsub : nI (wlk tl tx t (blk tl tx t P)) - nI (blk tl tx t P) = nI (wlk tl tx t (blk tl tx t P) - (blk tl tx t P)) := pk_sub hW.1
  have hlen : wlk tl tx t (blk tl tx t P) - (blk tl tx t P) < 1000 := by omega
  have hwt : wlk tl tx t (blk tl tx t P) ≤ t := by omega
  have hBw : (blk tl tx t P) ≤ wlk tl tx t (blk tl tx t P) := hW.1
  have hN : ¬ wlk tl tx t (blk tl tx t P) = (blk tl tx t P) → adN tl by_ t P = wlk tl tx t (blk tl tx t P) := fun z => by
    by_cases y : adT tl by_ t P = 1
    · exact ad_N1 h hP y
    · exact absurd (wlk_0 h hP y) z
  have i1 := iw_c h hP (wi := 1) (by decide)
  have i2 := iw_c h hP (wi := 2) (by decide)
  have i3 := iw_c h hP (wi := 3) (by decide)
  have i4 := iw_c h hP (wi := 4) (by decide)
  have i5 := iw_c h hP (wi := 5) (by decide)
  have j1 := iw_house (tx := tx) hsub hlen
  have j2 := iw_string (tx := tx) hsub hlen
  have j3 := iw_purse (tx := tx) hsub hlen
  have j4 := iw_send (tx := tx) hsub hlen
  have j5 := iw_wait (tx := tx) hsub hlen
  have j0 := iw_province (tx := tx) hsub hlen
  have m01 : ¬ (0 : Int32) = 1 := by decide
  have m02 : ¬ (0 : Int32) = 2 := by decide
  have m03 : ¬ (0 : Int32) = 3 := by decide
  have m04 : ¬ (0 : Int32) = 4 := by decide
  have m05 : ¬ (0 : Int32) = 5 := by decide
  have m06 : ¬ (0 : Int32) = 6 := by decide
  have m10 : ¬ (1 : Int32) = 0 := by decide
  have m12 : ¬ (1 : Int32) = 2 := by decide
  have m13 : ¬ (1 : Int32) = 3 := by decide
  have m14 : ¬ (1 : Int32) = 4 := by decide
  have m15 : ¬ (1 : Int32) = 5 := by decide
  have m16 : ¬ (1 : Int32) = 6 := by decide
  have m20 : ¬ (2 : Int32) = 0 := by decide
  have m21 : ¬ (2 : Int32) = 1 := by decide
  have m23 : ¬ (2 : Int32) = 3 := by decide
  have m24 : ¬ (2 : Int32) = 4 := by decide
  have m25 : ¬ (2 : Int32) = 5 := by decide
  have m26 : ¬ (2 : Int32) = 6 := by decide
  have m30 : ¬ (3 : Int32) = 0 := by decide
  have m31 : ¬ (3 : Int32) = 1 := by decide
  have m32 : ¬ (3 : Int32) = 2 := by decide
  have m34 : ¬ (3 : Int32) = 4 := by decide
  have m35 : ¬ (3 : Int32) = 5 := by decide
  have m36 : ¬ (3 : Int32) = 6 := by decide
  have m40 : ¬ (4 : Int32) = 0 := by decide
  have m41 : ¬ (4 : Int32) = 1 := by decide
  have m42 : ¬ (4 : Int32) = 2 := by decide
  have m43 : ¬ (4 : Int32) = 3 := by decide
  have m45 : ¬ (4 : Int32) = 5 := by decide
  have m46 : ¬ (4 : Int32) = 6 := by decide
  have m50 : ¬ (5 : Int32) = 0 := by decide
  have m51 : ¬ (5 : Int32) = 1 := by decide
  have m52 : ¬ (5 : Int32) = 2 := by decide
  have m53 : ¬ (5 : Int32) = 3 := by decide
  have m54 : ¬ (5 : Int32) = 4 := by decide
  have m56 : ¬ (5 : Int32) = 6 := by decide
  have m60 : ¬ (6 : Int32) = 0 := by decide
  have m61 : ¬ (6 : Int32) = 1 := by decide
  have m62 : ¬ (6 : Int32) = 2 := by decide
  have m63 : ¬ (6 : Int32) = 3 := by decide
  have m64 : ¬ (6 : Int32) = 4 := by decide
  have m65 : ¬ (6 : Int32) = 5 := by decide
  by_cases w1 : Wd tx (blk tl tx t P) (wlk tl tx t (blk tl tx t P) - (blk tl tx t P)) 1
  · have c1 := i1.mpr w1
    have d1 := j1.mpr w1
    have hl : wlk tl tx t (blk tl tx t P) - (blk tl tx t P) = 5 := w1.1
    have hwd : f_X8_wordOf (nI (wlk tl tx t (blk tl tx t P))) (nI (blk tl tx t P)) tx (blk tl tx t P) = 2 := by unfold f_X8_wordOf; rw [if_pos d1]
    have hn := hN (fun z => by rw [z, Nat.sub_self] at hl; exact absurd hl (by decide))
    simp only [q_X5_readItem, g_X5_readItem_0_2, g_X5_readItem_0_3, g_X5_readItem_2_1, g_X5_readItem_2_2, g_X5_readItem_2_3, g_X5_readItem_2_4, g_X5_readItem_2_5, g_X5_readItem_2_6, g_X5_readItem_3_2, g_X5_readItem_4, if_pos c1, ite_self]
    simp only [q_X8_readsItem, g_X8_readsItem_0_7, g_X8_readsItem_0_8, g_X8_readsItem_1, hid, hwd, if_neg m21, eq_self, if_true, ite_self]
    rw [hn]
    exact rd_house h hwt hBw R hr0 tm
  · have c1 := mt i1.mp w1
    have d1 := mt j1.mp w1
    by_cases w2 : Wd tx (blk tl tx t P) (wlk tl tx t (blk tl tx t P) - (blk tl tx t P)) 2
    · have c2 := i2.mpr w2
      have d2 := j2.mpr w2
      have hl : wlk tl tx t (blk tl tx t P) - (blk tl tx t P) = 6 := w2.1
      have hwd : f_X8_wordOf (nI (wlk tl tx t (blk tl tx t P))) (nI (blk tl tx t P)) tx (blk tl tx t P) = 3 := by unfold f_X8_wordOf; rw [if_neg d1, if_pos d2]
      have hn := hN (fun z => by rw [z, Nat.sub_self] at hl; exact absurd hl (by decide))
      simp only [q_X5_readItem, g_X5_readItem_0_2, g_X5_readItem_0_3, g_X5_readItem_2_1, g_X5_readItem_2_2, g_X5_readItem_2_3, g_X5_readItem_2_4, g_X5_readItem_2_5, g_X5_readItem_2_6, g_X5_readItem_3_2, g_X5_readItem_4, if_neg c1, if_pos c2, ite_self]
      simp only [q_X8_readsItem, g_X8_readsItem_0_7, g_X8_readsItem_0_8, g_X8_readsItem_1, hid, hwd, if_neg m31, if_neg m32, eq_self, if_true, ite_self]
      rw [hn, ad_S h hP]
      exact rd_string h hwt hBw R hr0 tm
    · have c2 := mt i2.mp w2
      have d2 := mt j2.mp w2
      by_cases w3 : Wd tx (blk tl tx t P) (wlk tl tx t (blk tl tx t P) - (blk tl tx t P)) 3
      · have c3 := i3.mpr w3
        have d3 := j3.mpr w3
        have hl : wlk tl tx t (blk tl tx t P) - (blk tl tx t P) = 5 := w3.1
        have hwd : f_X8_wordOf (nI (wlk tl tx t (blk tl tx t P))) (nI (blk tl tx t P)) tx (blk tl tx t P) = 4 := by unfold f_X8_wordOf; rw [if_neg d1, if_neg d2, if_pos d3]
        have hn := hN (fun z => by rw [z, Nat.sub_self] at hl; exact absurd hl (by decide))
        simp only [q_X5_readItem, g_X5_readItem_0_2, g_X5_readItem_0_3, g_X5_readItem_2_1, g_X5_readItem_2_2, g_X5_readItem_2_3, g_X5_readItem_2_4, g_X5_readItem_2_5, g_X5_readItem_2_6, g_X5_readItem_3_2, g_X5_readItem_4, if_neg c1, if_neg c2, if_pos c3, ite_self]
        simp only [q_X8_readsItem, g_X8_readsItem_0_7, g_X8_readsItem_0_8, g_X8_readsItem_1, hid, hwd, if_neg m41, if_neg m42, if_neg m43, eq_self, if_true, ite_self]
        rw [hn]
        exact rd_purse h hwt hBw R hr0 tm
      · have c3 := mt i3.mp w3
        have d3 := mt j3.mp w3
        by_cases w4 : Wd tx (blk tl tx t P) (wlk tl tx t (blk tl tx t P) - (blk tl tx t P)) 4
        · have c4 := i4.mpr w4
          have d4 := j4.mpr w4
          have hl : wlk tl tx t (blk tl tx t P) - (blk tl tx t P) = 4 := w4.1
          have hwd : f_X8_wordOf (nI (wlk tl tx t (blk tl tx t P))) (nI (blk tl tx t P)) tx (blk tl tx t P) = 5 := by unfold f_X8_wordOf; rw [if_neg d1, if_neg d2, if_neg d3, if_pos d4]
          have hn := hN (fun z => by rw [z, Nat.sub_self] at hl; exact absurd hl (by decide))
          simp only [q_X5_readItem, g_X5_readItem_0_2, g_X5_readItem_0_3, g_X5_readItem_2_1, g_X5_readItem_2_2, g_X5_readItem_2_3, g_X5_readItem_2_4, g_X5_readItem_2_5, g_X5_readItem_2_6, g_X5_readItem_3_2, g_X5_readItem_4, if_neg c1, if_neg c2, if_neg c3, if_pos c4, ite_self]
          simp only [q_X8_readsItem, g_X8_readsItem_0_7, g_X8_readsItem_0_8, g_X8_readsItem_1, hid, hwd, if_neg m51, if_neg m52, if_neg m53, if_neg m54, eq_self, if_true, ite_self]
          rw [hn]
          exact rd_send h hwt hBw R hr0 hr9 tm
        · have c4 := mt i4.mp w4
          have d4 := mt j4.mp w4
          by_cases w5 : Wd tx (blk tl tx t P) (wlk tl tx t (blk tl tx t P) - (blk tl tx t P)) 5
          · have c5 := i5.mpr w5
            have d5 := j5.mpr w5
            have hl : wlk tl tx t (blk tl tx t P) - (blk tl tx t P) = 4 := w5.1
            have hwd : f_X8_wordOf (nI (wlk tl tx t (blk tl tx t P))) (nI (blk tl tx t P)) tx (blk tl tx t P) = 6 := by unfold f_X8_wordOf; rw [if_neg d1, if_neg d2, if_neg d3, if_neg d4, if_pos d5]
            have hn := hN (fun z => by rw [z, Nat.sub_self] at hl; exact absurd hl (by decide))
            simp only [q_X5_readItem, g_X5_readItem_0_2, g_X5_readItem_0_3, g_X5_readItem_2_1, g_X5_readItem_2_2, g_X5_readItem_2_3, g_X5_readItem_2_4, g_X5_readItem_2_5, g_X5_readItem_2_6, g_X5_readItem_3_2, g_X5_readItem_4, if_neg c1, if_neg c2, if_neg c3, if_neg c4, if_pos c5, ite_self]
            simp only [q_X8_readsItem, g_X8_readsItem_0_7, g_X8_readsItem_0_8, g_X8_readsItem_1, hid, hwd, if_neg m61, if_neg m62, if_neg m63, if_neg m64, if_neg m65, eq_self, if_true, ite_self]
            rw [hn]
            exact rd_wait h hwt hBw R hr0 hr9 tm
          · have c5 := mt i5.mp w5
            have d5 := mt j5.mp w5
            simp only [q_X5_readItem, g_X5_readItem_0_2, g_X5_readItem_0_3, g_X5_readItem_2_1, g_X5_readItem_2_2, g_X5_readItem_2_3, g_X5_readItem_2_4, g_X5_readItem_2_5, g_X5_readItem_2_6, g_X5_readItem_3_2, g_X5_readItem_4, if_neg c1, if_neg c2, if_neg c3, if_neg c4, if_neg c5]
            have hwd : f_X8_wordOf (nI (wlk tl tx t (blk tl tx t P))) (nI (blk tl tx t P)) tx (blk tl tx t P) = 1 ∨ f_X8_wordOf (nI (wlk tl tx t (blk tl tx t P))) (nI (blk tl tx t P)) tx (blk tl tx t P) = 0 := by
              unfold f_X8_wordOf; rw [if_neg d1, if_neg d2, if_neg d3, if_neg d4, if_neg d5]
              split
              · exact Or.inl rfl
              · exact Or.inr rfl
            rcases hwd with hwd | hwd
            · simp only [q_X8_readsItem, g_X8_readsItem_0_7, g_X8_readsItem_0_8, g_X8_readsItem_1, hid, hwd, if_neg m01, eq_self, if_true]
              exact ItR.no rfl (fun _ _ => rfl) rfl (blk tl tx t P) (Nat.le_trans hB.2 htt) rfl (by rw [ad_S h hP])
            · simp only [q_X8_readsItem, g_X8_readsItem_0_7, g_X8_readsItem_0_8, g_X8_readsItem_1, hid, hwd, if_neg m01, if_neg m02, if_neg m03, if_neg m04, if_neg m05, if_neg m06, eq_self, if_true]
              exact ItR.no rfl (fun _ _ => rfl) rfl (blk tl tx t P) (Nat.le_trans hB.2 htt) rfl (by rw [ad_S h hP])
