theorem itr_snoc {σ : Type} {f : Nat → σ → σ} : ∀ (n u : Nat) (s : σ), itr f (n + 1) u s = f (u + n) (itr f n u s)
  | 0, u, s => by rw [itr_s, itr_0, itr_0]; rfl
  | n + 1, u, s => by rw [itr_s, itr_snoc n (u + 1) (f u s), itr_s, show u + 1 + n = u + (n + 1) by omega]
theorem itr_congr {σ : Type} {f g : Nat → σ → σ} : ∀ (n u : Nat) (s : σ), (∀ v, u ≤ v → v < u + n → ∀ s, f v s = g v s) → itr f n u s = itr g n u s
  | 0, u, s, _ => by rw [itr_0, itr_0]
  | n + 1, u, s, h => by rw [itr_s, itr_s, h u (by omega) (by omega) s]; exact itr_congr n (u + 1) _ fun v h1 h2 => h v (by omega) (by omega)
theorem itr_rel {σ τ : Type} {f : Nat → σ → σ} {g : Nat → τ → τ} (R : Nat → σ → τ → Prop) : ∀ (n u : Nat) (s : σ) (t : τ), (∀ v, u ≤ v → v < u + n → ∀ s t, R v s t → R (v + 1) (f v s) (g v t)) → R u s t → R (u + n) (itr f n u s) (itr g n u t)
  | 0, u, s, t, _, h => by rw [itr_0, itr_0]; exact h
  | n + 1, u, s, t, k, h => by
    rw [itr_s, itr_s, show u + (n + 1) = u + 1 + n by omega]
    exact itr_rel R n (u + 1) _ _ (fun v h1 h2 => k v (by omega) (by omega)) (k u (by omega) (by omega) s t h)
theorem itr_keep {σ : Type} {f : Nat → σ → σ} {s : σ} : ∀ (n u : Nat), (∀ v, f v s = s) → itr f n u s = s
  | 0, u, _ => itr_0
  | n + 1, u, h => by rw [itr_s, h u]; exact itr_keep n (u + 1) h
theorem ti_div {a b : Int32} {d : Int} (ha : 0 ≤ a.toInt) (hb : b.toInt = d) (hd : 0 < d) : (a / b).toInt = a.toInt / d := by
  have e : (-1 : Int32).toInt = -1 := rfl
  rw [Int32.toInt_div_of_ne_right _ _ (fun z => by rw [z] at hb; omega), hb, Int.tdiv_eq_ediv_of_nonneg ha]
/-! how much a string shows and costs -/
theorem show_rng {k n h : Int32} (h1 : 1 ≤ n.toInt) (h2 : n.toInt ≤ 60) : 0 ≤ (f_X8_showOf k n h).toInt ∧ (f_X8_showOf k n h).toInt ≤ 99 := by
  have c0 : (0 : Int32).toInt = 0 := rfl
  have c1 : (1 : Int32).toInt = 1 := rfl
  have c2 : (2 : Int32).toInt = 2 := rfl
  have c5 : (5 : Int32).toInt = 5 := rfl
  have c10 : (10 : Int32).toInt = 10 := rfl
  have c99 : (99 : Int32).toInt = 99 := rfl
  have e5 : (n + 5).toInt = n.toInt + 5 := by rw [ti_add (by rw [c5]; omega) (by rw [c5]; omega), c5]
  have e25 : (2 * (n + 5)).toInt = 2 * (n.toInt + 5) := by rw [ti_mul (by rw [c2, e5]; omega) (by rw [c2, e5]; omega), c2, e5]
  have hs : 0 ≤ (f_X8_silk n h).toInt ∧ (f_X8_silk n h).toInt ≤ 60 := by
    unfold f_X8_silk; split
    · rw [c0]; omega
    · split
      · omega
      · rw [c0]; omega
  have es : (f_X8_silk n h + 1).toInt = (f_X8_silk n h).toInt + 1 := by rw [ti_add (by rw [c1]; omega) (by rw [c1]; omega), c1]
  have ed : ((f_X8_silk n h + 1) / 2).toInt = ((f_X8_silk n h).toInt + 1) / 2 := by rw [ti_div (by rw [es]; omega) c2 (by omega), es]
  unfold f_X8_showOf
  split
  · omega
  · split
    · split
      · omega
      · rw [c10]; omega
    · split
      · omega
      · split
        · omega
        · split
          · split
            · rename_i z; rw [Int32.le_iff_toInt_le] at z; omega
            · rw [c99]; omega
          · omega
theorem charge_rng {k s d : Int32} (h1 : 0 ≤ s.toInt) (h2 : s.toInt ≤ 99) : 0 ≤ (f_X8_chargeOf k s d).toInt ∧ (f_X8_chargeOf k s d).toInt ≤ 99 := by
  have c0 : (0 : Int32).toInt = 0 := rfl
  have c1 : (1 : Int32).toInt = 1 := rfl
  have c2 : (2 : Int32).toInt = 2 := rfl
  have c3 : (3 : Int32).toInt = 3 := rfl
  have c4 : (4 : Int32).toInt = 4 := rfl
  have c5 : (5 : Int32).toInt = 5 := rfl
  have c10 : (10 : Int32).toInt = 10 := rfl
  have c25 : (25 : Int32).toInt = 25 := rfl
  have e1 : (s + 1).toInt = s.toInt + 1 := by rw [ti_add (by rw [c1]; omega) (by rw [c1]; omega), c1]
  have ep : ((s + 1) / 2).toInt = (s.toInt + 1) / 2 := by rw [ti_div (by rw [e1]; omega) c2 (by omega), e1]
  have et : (s / 10).toInt = s.toInt / 10 := ti_div h1 c10 (by omega)
  have est : ((s + 1) / 2 + s / 10).toInt = (s.toInt + 1) / 2 + s.toInt / 10 := by rw [ti_add (by rw [ep, et]; omega) (by rw [ep, et]; omega), ep, et]
  have eg : 0 ≤ (f_X8_greedy s).toInt ∧ (f_X8_greedy s).toInt ≤ 53 := by
    unfold f_X8_greedy; split
    · omega
    · rw [ti_add (by rw [c3]; omega) (by rw [c3]; omega), c3]; omega
  have eg4 : (f_X8_greedy s + 4).toInt = (f_X8_greedy s).toInt + 4 := by rw [ti_add (by rw [c4]; omega) (by rw [c4]; omega), c4]
  have eg5 : ((f_X8_greedy s + 4) / 5).toInt = ((f_X8_greedy s).toInt + 4) / 5 := by rw [ti_div (by rw [eg4]; omega) c5 (by omega), eg4]
  have eg6 : ((f_X8_greedy s + 4) / 5 * 5).toInt = ((f_X8_greedy s).toInt + 4) / 5 * 5 := by rw [ti_mul (by rw [eg5, c5]; omega) (by rw [eg5, c5]; omega), eg5, c5]
  unfold f_X8_chargeOf
  split
  · omega
  · split
    · split
      · rw [c0]; omega
      · omega
    · split
      · omega
      · split
        · split
          · omega
          · rw [c25]; omega
        · split
          · omega
          · omega
theorem add_rng {a b : Int32} {p q : Int} (ha : 0 ≤ a.toInt ∧ a.toInt ≤ p) (hb : 0 ≤ b.toInt ∧ b.toInt ≤ q) (h : p + q < 100000) : 0 ≤ (a + b).toInt ∧ (a + b).toInt ≤ p + q := by
  rw [ti_add (by omega) (by omega)]; omega
theorem costIn_rng {wf : Nat → Int32} {ho : Int32} {r ii : Nat} (h : 1 ≤ (wf (6 + r + ii)).toInt ∧ (wf (6 + r + ii)).toInt ≤ 60) : 0 ≤ (f_X8_costIn wf ho r ii).toInt ∧ (f_X8_costIn wf ho r ii).toInt ≤ 198 := by
  have s := show_rng (k := wf (1 + r + ii)) (h := vv_rem ho 24) h.1 h.2
  exact add_rng (charge_rng s.1 s.2) (charge_rng s.1 s.2) (by omega)
theorem costOf_rng {wf : Nat → Int32} {kd n : Int32} (h1 : 1 ≤ n.toInt) (h2 : n.toInt ≤ 60) : 0 ≤ (f_X8_costOf wf kd n).toInt ∧ (f_X8_costOf wf kd n).toInt ≤ 198 := by
  have s := show_rng (k := kd) (h := vv_rem (wf 17) 24) h1 h2
  exact add_rng (charge_rng s.1 s.2) (charge_rng s.1 s.2) (by omega)
theorem far_no {c : Int32} {p : Int} (h : 0 ≤ c.toInt ∧ c.toInt ≤ p) (hp : p < 1000000) : ¬ (1000000 : Int32) ≤ c := fun z => by
  have c6 : (1000000 : Int32).toInt = 1000000 := rfl
  rw [Int32.le_iff_toInt_le] at z; omega
theorem ch_loop {wf : Nat → Int32} {v : PV} (h : RP v wf) {i : Int32} (z : p_X7_within i 0 (v.nS - 1)) : itr (st_X7_cheapest v.hb v.ha v.hr v.nS v.fS i) 47 1 (0, f_X2_costIn v.hb v.ha v.hr v.nS v.fS i 0) = itr (st_X8_cheapest wf i.toNatClampNeg) 48 0 (0, 1000000) := by
  have hc : ∀ t, f_X2_costIn v.hb v.ha v.hr v.nS v.fS i t = f_X8_costIn wf (wf 17 + t) 0 i.toNatClampNeg := fun t => by rw [cost_eq h.r0 z, h.1.2.2.2.2.2.2.1]
  have hk := (str_cell h.2.1 z).2.2
  have hl := (h.2.1.2.2.2 _ hk).2.2
  have e48 : itr (st_X8_cheapest wf i.toNatClampNeg) 48 0 (0, 1000000) = itr (st_X8_cheapest wf i.toNatClampNeg) 47 1 (st_X8_cheapest wf i.toNatClampNeg 0 (0, 1000000)) := itr_s (n := 47)
  have hf := far_no (costIn_rng (wf := wf) (ho := wf 17 + nI 0) (r := 0) (ii := i.toNatClampNeg) (by rw [show 6 + 0 + i.toNatClampNeg = 6 + i.toNatClampNeg by omega]; exact hl)) (by omega)
  have e0 : st_X8_cheapest wf i.toNatClampNeg 0 (0, 1000000) = (nI 0, f_X8_costIn wf (wf 17 + nI 0) 0 i.toNatClampNeg) := by
    unfold st_X8_cheapest; rw [if_neg hf, if_neg hf]
  rw [e48, e0, hc 0]
  refine itr_congr _ _ _ fun u _ _ s => ?_
  unfold st_X7_cheapest st_X8_cheapest; rw [hc (nI u)]
theorem cu_cut {wf : Nat → Int32} {v : PV} (h : RP v wf) (k a b : Int32) : f_X2_costOfCut v.hb v.ha v.hr k a b = f_X8_costOf wf k a + f_X8_costOf wf k b := by
  unfold f_X2_costOfCut f_X2_tollOn f_X8_costOf
  rw [show_eq, show_eq, charge_eq, charge_eq, charge_eq, charge_eq, h.1.2.1, h.1.2.2.1, h.1.2.2.2.2.2.2.1]
theorem cu_loop {wf : Nat → Int32} {v : PV} (h : RP v wf) (k : Int32) {l : Int32} (h1 : 2 ≤ l.toInt) (h2 : l.toInt ≤ 60) : itr (st_X7_cuts v.hb v.ha v.hr k l) (l.toNatClampNeg - 2) 2 (1, f_X2_costOfCut v.hb v.ha v.hr k 1 (l - 1)) = itr (st_X8_cuts wf k l) (l.toNatClampNeg - 1) 1 (0, 1000000) := by
  have hl := nn_cl (a := l) (by omega)
  have c1 : (1 : Int32).toInt = 1 := rfl
  have e1 : itr (st_X8_cuts wf k l) (l.toNatClampNeg - 1) 1 (0, 1000000) = itr (st_X8_cuts wf k l) (l.toNatClampNeg - 2) 2 (st_X8_cuts wf k l 1 (0, 1000000)) := by
    rw [show l.toNatClampNeg - 1 = l.toNatClampNeg - 2 + 1 by omega]; exact itr_s
  have el : (l - nI 1).toInt = l.toInt - 1 := by
    rw [ti_sub (by rw [nI_toInt (by decide)]; omega) (by rw [nI_toInt (by decide)]; omega), nI_toInt (by decide)]; rfl
  have hf := far_no (add_rng (costOf_rng (wf := wf) (kd := k) (n := nI 1) (by rw [nI_toInt (by decide)]; decide) (by rw [nI_toInt (by decide)]; decide)) (costOf_rng (wf := wf) (kd := k) (n := l - nI 1) (by omega) (by omega)) (by omega)) (by omega)
  have e0 : st_X8_cuts wf k l 1 (0, 1000000) = (nI 1, f_X8_costOf wf k (nI 1) + f_X8_costOf wf k (l - nI 1)) := by
    unfold st_X8_cuts; rw [if_neg hf, if_neg hf]
  rw [e1, e0, cu_cut h]
  refine itr_congr _ _ _ fun u _ _ s => ?_
  unfold st_X7_cuts st_X8_cuts; rw [cu_cut h]
/-! rows of what was seen -/
theorem nI_k {n : Int32} {k u : Nat} (hn : n.toInt = (k : Int)) (hk : k ≤ 8) (h : u < k) : 0 ≤ (nI u).toInt ∧ (nI u).toInt < k := by
  rw [nI_toInt (by omega)]; omega
theorem row_cell {n : Int32} {a : Nat → Int32} {k u : Nat} (hn : n.toInt = (k : Int)) (hk : k ≤ 8) (h : u < k) (c : Int32) (j : Nat) (hc : c.toInt = (j : Int)) (hj : j < 4) : f_X3_cell n a (nI u) c = a (4 * u + j) := by
  rw [cell_eq hn (nI_k hn hk h) hc hj, nI_cl (by omega)]
theorem fits_eq {n : Int32} {a f : Nat → Int32} (h : RCm n a f) (l : Int32) : itr (st_X0_fits n a l) n.toNatClampNeg 0 true = itr (st_X8_fits f l) n.toNatClampNeg 0 true := by
  obtain ⟨h1, h2, h3, h4⟩ := h
  refine itr_congr _ _ _ fun u _ hu s => ?_
  have k := h4 u (by omega)
  unfold st_X0_fits st_X8_fits
  rw [row_cell h2 (by omega) (by omega) 0 0 rfl (by omega), row_cell h2 (by omega) (by omega) 1 1 rfl (by omega), k.1, k.2, brought_eq]
theorem rem_id {h : Int32} (h1 : 0 ≤ h.toInt) (h2 : h.toInt ≤ 23) : vv_rem h 24 = h := by
  have c24 : (24 : Int32).toInt = 24 := rfl
  have e : h / 24 = 0 := Int32.toInt_inj.mp (by rw [ti_div h1 c24 (by omega), Int.ediv_eq_zero_of_lt h1 (by omega)]; rfl)
  unfold vv_rem; rw [e, Int32.zero_mul, Int32.sub_zero]
theorem notes_eq {n : Int32} {a f : Nat → Int32} (h : RNt n a f) (i : Int32) (q : Nat) : itr (st_X0_notesFit n a i (nI q)) n.toNatClampNeg 0 true = itr (st_X8_kindsOf_in f i q) n.toNatClampNeg 0 true := by
  obtain ⟨h1, h2, h3, h4⟩ := h
  refine itr_congr _ _ _ fun u _ hu s => ?_
  have k := h4 u (by omega)
  unfold st_X0_notesFit st_X8_kindsOf_in
  rw [row_cell h2 (by omega) (by omega) 0 0 rfl (by omega), row_cell h2 (by omega) (by omega) 1 1 rfl (by omega), row_cell h2 (by omega) (by omega) 2 2 rfl (by omega), row_cell h2 (by omega) (by omega) 3 3 rfl (by omega), k.1, k.2.1, k.2.2.1, k.2.2.2.1, show_eq, rem_id k.2.2.2.2.1 k.2.2.2.2.2, Bool.decide_or]
theorem marks_eq {n : Int32} {a f : Nat → Int32} (h : RMk n a f) (i : Int32) (q : Nat) : itr (st_X0_marksFit n a i (nI q)) n.toNatClampNeg 0 true = itr (st_X8_housesOf_in f i q) n.toNatClampNeg 0 true := by
  obtain ⟨h1, h2, h3, h4⟩ := h
  refine itr_congr _ _ _ fun u _ hu s => ?_
  have k := h4 u (by omega)
  unfold st_X0_marksFit st_X8_housesOf_in
  rw [row_cell h2 (by omega) (by omega) 0 0 rfl (by omega), row_cell h2 (by omega) (by omega) 1 1 rfl (by omega), row_cell h2 (by omega) (by omega) 2 2 rfl (by omega), row_cell h2 (by omega) (by omega) 3 3 rfl (by omega), k.1, k.2.1, k.2.2.1, k.2.2.2, charge_eq, Bool.decide_or]
theorem skinds_eq {n : Int32} {a f : Nat → Int32} (h : RNt n a f) (i : Int32) : itr (st_X0_stringKinds n a i n.toNatClampNeg) 6 0 0 = itr (st_X8_kindsOf f i n.toNatClampNeg) 6 0 0 := by
  refine itr_congr _ _ _ fun u _ hu s => ?_
  unfold st_X0_stringKinds st_X8_kindsOf
  rw [notes_eq h]; split
  · rfl
  · rw [Int32.or_zero]
theorem hkinds_eq {n : Int32} {a f : Nat → Int32} (h : RMk n a f) (i : Int32) : itr (st_X0_houseKinds n a i n.toNatClampNeg) 6 0 0 = itr (st_X8_housesOf f i n.toNatClampNeg) 6 0 0 := by
  refine itr_congr _ _ _ fun u _ hu s => ?_
  unfold st_X0_houseKinds st_X8_housesOf
  rw [marks_eq h]; split
  · rfl
  · rw [Int32.or_zero]
/-! lines -/
theorem ln_n {n : Int32} {a f : Nat → Int32} (h : RCm n a f) : ∀ k, itr (st_X0_linesThatFit n a n.toNatClampNeg) k 1 0 = (itr (st_X8_lines f n.toNatClampNeg) k 1 (0, (-1), (-1))).1
  | 0 => by rw [itr_0, itr_0]
  | k + 1 => by
    rw [itr_snoc, itr_snoc, ln_n h k]
    unfold st_X0_linesThatFit st_X8_lines; rw [fits_eq h]
theorem ln_m {n : Int32} {f : Nat → Int32} : ∀ k, k ≤ 60 → ∃ j, j ≤ k ∧ (itr (st_X8_lines f n.toNatClampNeg) k 1 (0, (-1), (-1))).1 = nI j
  | 0, _ => ⟨0, Nat.le_refl 0, by rw [itr_0]; rfl⟩
  | k + 1, hk => by
    obtain ⟨j, h1, h2⟩ := ln_m (n := n) (f := f) k (by omega)
    rw [itr_snoc]
    revert h2
    generalize itr (st_X8_lines f n.toNatClampNeg) k 1 (0, (-1), (-1)) = s
    intro h2
    by_cases z : itr (st_X8_fits f (nI (1 + k))) n.toNatClampNeg 0 true = true
    · refine ⟨j + 1, by omega, ?_⟩
      show (if itr (st_X8_fits f (nI (1 + k))) n.toNatClampNeg 0 true = true then (s.1 + 1) else s.1) = _
      rw [if_pos z, h2]; exact nI_add j 1
    · refine ⟨j, by omega, ?_⟩
      show (if itr (st_X8_fits f (nI (1 + k))) n.toNatClampNeg 0 true = true then (s.1 + 1) else s.1) = _
      rw [if_neg z, h2]
theorem ln_f {n : Int32} {a f : Nat → Int32} (h : RCm n a f) : ∀ k, k ≤ 60 → (oI (itr (st_X0_leastLine n a n.toNatClampNeg) k 1 none) = (itr (st_X8_lines f n.toNatClampNeg) k 1 (0, (-1), (-1))).2.1 ∧ ((itr (st_X0_leastLine n a n.toNatClampNeg) k 1 none).isSome = true ↔ ¬ (itr (st_X8_lines f n.toNatClampNeg) k 1 (0, (-1), (-1))).1 = 0))
  | 0, _ => by rw [itr_0, itr_0]; exact ⟨rfl, by decide⟩
  | k + 1, hk => by
    obtain ⟨q1, q2⟩ := ln_f h k (by omega)
    obtain ⟨j, h1, h2⟩ := ln_m (n := n) (f := f) k (by omega)
    rw [itr_snoc, itr_snoc]
    revert q1 q2 h2
    generalize itr (st_X0_leastLine n a n.toNatClampNeg) k 1 none = o
    generalize itr (st_X8_lines f n.toNatClampNeg) k 1 (0, (-1), (-1)) = s
    intro q1 q2 h2
    unfold st_X0_leastLine st_X8_lines; rw [fits_eq h]
    have e0 : (0 : Int32) = nI 0 := rfl
    by_cases z : itr (st_X8_fits f (nI (1 + k))) n.toNatClampNeg 0 true = true
    · simp only [if_pos z]
      have hne : ¬ s.1 + 1 = 0 := fun y => by
        rw [h2, show nI j + 1 = nI (j + 1) from nI_add j 1, e0] at y
        exact absurd (nI_inj (by omega) (by omega) y) (by omega)
      by_cases y : o.isSome = true
      · rw [if_pos y, if_neg (q2.mp y)]; exact ⟨q1, ⟨fun _ => hne, fun _ => y⟩⟩
      · have y2 : s.1 = 0 := by
          by_cases y3 : s.1 = 0
          · exact y3
          · exact absurd (q2.mpr y3) y
        rw [if_neg y, if_pos y2]; exact ⟨rfl, ⟨fun _ => hne, fun _ => rfl⟩⟩
    · simp only [if_neg z]
      by_cases y : o.isSome = true
      · rw [if_pos y]; exact ⟨q1, q2⟩
      · rw [if_neg y]; exact ⟨q1, q2⟩
theorem ln_l {n : Int32} {a f : Nat → Int32} (h : RCm n a f) : ∀ k, k ≤ 60 → oI (itr (st_X0_greatestLine n a n.toNatClampNeg) k (60 - k) none) = (itr (st_X8_lines f n.toNatClampNeg) k 1 (0, (-1), (-1))).2.2
  | 0, _ => by rw [itr_0, itr_0]; rfl
  | k + 1, hk => by
    have ih := ln_l h k (by omega)
    rw [itr_s, itr_snoc, show 60 - (k + 1) + 1 = 60 - k by omega]
    have e : st_X0_greatestLine n a n.toNatClampNeg (60 - (k + 1)) none = if itr (st_X8_fits f (nI (1 + k))) n.toNatClampNeg 0 true = true then some (1 + k) else none := by
      unfold st_X0_greatestLine; rw [show 60 - (60 - (k + 1)) = 1 + k by omega, fits_eq h]; rfl
    rw [e]
    by_cases z : itr (st_X8_fits f (nI (1 + k))) n.toNatClampNeg 0 true = true
    · rw [if_pos z, itr_keep _ _ (fun v => rfl)]
      generalize itr (st_X8_lines f n.toNatClampNeg) k 1 (0, (-1), (-1)) = s
      show nI (1 + k) = if itr (st_X8_fits f (nI (1 + k))) n.toNatClampNeg 0 true = true then (nI (1 + k)) else s.2.2
      rw [if_pos z]
    · rw [if_neg z, ih]
      generalize itr (st_X8_lines f n.toNatClampNeg) k 1 (0, (-1), (-1)) = s
      show s.2.2 = if itr (st_X8_fits f (nI (1 + k))) n.toNatClampNeg 0 true = true then (nI (1 + k)) else s.2.2
      rw [if_neg z]
/-! nights -/
theorem ni_step {wf : Nat → Int32} {v : PV} (h : RP v wf) (u : Nat) (s : Nat × Int32 × Int32) : st_X7_nights v.ln v.hb v.ha v.hr v.nS v.fS u s = st_X8_nights wf u s := by
  unfold st_X7_nights st_X8_nights
  have hj : ng s.1 / 65536 % 6 < 6 := Nat.mod_lt _ (by decide)
  revert hj; generalize ng s.1 / 65536 % 6 = j; intro hj
  have hS := h.2.1
  have e1 : (wf 0).toInt = (v.nS.toNatClampNeg : Int) := hS.1 ▸ hS.2.1
  by_cases z : j < v.nS.toNatClampNeg
  · have z1 : p_X7_within (nI j) 0 (v.nS - 1) := has_k' hS.2.1 (by have := hS.2.2.1; omega) (by rw [nI_toInt (by omega)]; omega) (by rw [nI_toInt (by omega)]; omega)
    have z2 : ¬ wf 0 ≤ nI j := fun y => by rw [Int32.le_iff_toInt_le, e1, nI_toInt (by omega)] at y; omega
    have hc := cost_eq h.r0 z1 (nI u)
    rw [nI_cl (by omega), h.1.2.2.2.2.2.2.1] at hc
    have hb := bring_eq h.r0 z1
    rw [nI_cl (by omega)] at hb
    have hc' : f_X2_costIn v.hb v.ha v.hr v.nS v.fS (nI j) (nI u) = f_X8_costIn wf (wf 17 + nI u) 0 j := by rw [h.1.2.2.2.2.2.2.1]; exact hc
    simp only [if_pos z1, if_neg z2, hc', hb, Int32.sub_zero, Int32.add_zero]
  · have z1 : ¬ p_X7_within (nI j) 0 (v.nS - 1) := fun y => by
      have := has_k hS.2.1 (by have := hS.2.2.1; omega) y
      rw [nI_cl (by omega)] at this; omega
    have z2 : wf 0 ≤ nI j := by rw [Int32.le_iff_toInt_le, e1, nI_toInt (by omega)]; omega
    simp only [if_neg z1, if_pos z2]
/-! digest -/
theorem dg_row {n : Int32} {a : Nat → Int32} {k : Nat} (hn : n.toInt = (k : Int)) (hk : k ≤ 8) (u : Nat) (hu : u < k) (s : Int64) : st_X3_digestOn a n 2 u s = 31 * (31 * s + (a (4 * u + 0)).toInt64) + (a (4 * u + 1)).toInt64 := by
  unfold st_X3_digestOn
  rw [show itr (st_X3_digestOn_in a n u) 2 0 s = st_X3_digestOn_in a n u 1 (st_X3_digestOn_in a n u 0 s) from (itr_s (n := 1)).trans ((itr_s (n := 0)).trans itr_0)]
  unfold st_X3_digestOn_in
  rw [row_cell hn hk hu (nI 0) 0 rfl (by omega), row_cell hn hk hu (nI 1) 1 rfl (by omega)]
theorem dg_row4 {n : Int32} {a : Nat → Int32} {k : Nat} (hn : n.toInt = (k : Int)) (hk : k ≤ 8) (u : Nat) (hu : u < k) (s : Int64) : st_X3_digestOn a n 4 u s = 31 * (31 * (31 * (31 * s + (a (4 * u + 0)).toInt64) + (a (4 * u + 1)).toInt64) + (a (4 * u + 2)).toInt64) + (a (4 * u + 3)).toInt64 := by
  unfold st_X3_digestOn
  rw [show itr (st_X3_digestOn_in a n u) 4 0 s = st_X3_digestOn_in a n u 3 (st_X3_digestOn_in a n u 2 (st_X3_digestOn_in a n u 1 (st_X3_digestOn_in a n u 0 s))) from (itr_s (n := 3)).trans ((itr_s (n := 2)).trans ((itr_s (n := 1)).trans ((itr_s (n := 0)).trans itr_0)))]
  unfold st_X3_digestOn_in
  rw [row_cell hn hk hu (nI 0) 0 rfl (by omega), row_cell hn hk hu (nI 1) 1 rfl (by omega), row_cell hn hk hu (nI 2) 2 rfl (by omega), row_cell hn hk hu (nI 3) 3 rfl (by omega)]
theorem dg_2 {g : Nat → Int64 → Int64} : ∀ (c u : Nat) (s : Int64), itr g (2 * c) (2 * u) s = itr (fun v t => g (2 * v + 1) (g (2 * v) t)) c u s
  | 0, u, s => by rw [itr_0]; exact itr_0.symm
  | c + 1, u, s => by
    rw [show 2 * (c + 1) = 2 * c + 1 + 1 by omega, itr_s, itr_s, itr_s, show 2 * u + 1 + 1 = 2 * (u + 1) by omega, dg_2 c (u + 1)]
theorem dg_4 {g : Nat → Int64 → Int64} : ∀ (c u : Nat) (s : Int64), itr g (4 * c) (4 * u) s = itr (fun v t => g (4 * v + 3) (g (4 * v + 2) (g (4 * v + 1) (g (4 * v) t)))) c u s
  | 0, u, s => by rw [itr_0]; exact itr_0.symm
  | c + 1, u, s => by
    rw [show 4 * (c + 1) = 4 * c + 1 + 1 + 1 + 1 by omega, itr_s, itr_s, itr_s, itr_s, itr_s, show 4 * u + 1 + 1 + 1 + 1 = 4 * (u + 1) by omega, dg_4 c (u + 1)]
theorem dg_eq {v : PV} {f : Nat → Int32} {tl txd : Int32} (h : RP v f) (ht : tl = txd) (b c : Int64) : f_X7_digest b c v.ln v.hb v.ha v.pu v.hl v.sm v.hr v.nS v.fS v.nC v.fC v.nN v.fN v.nM v.fM v.nU tl v.nS.toNatClampNeg v.nC.toNatClampNeg v.nN.toNatClampNeg v.nM.toNatClampNeg = f_X8_digest txd b c f v.nS.toNatClampNeg v.nC.toNatClampNeg v.nN.toNatClampNeg v.nM.toNatClampNeg := by
  have q1 : ∀ s, itr (st_X7_digest_1 v.nS v.nC v.nN v.nM v.nU tl) 6 0 s = itr (st_X8_digest_1 txd f) 6 0 s := fun s => itr_congr _ _ _ fun u _ _ s => by
    unfold st_X7_digest_1 st_X8_digest_1 f_X7_howMany f_X8_countOf
    rw [h.2.1.1, h.2.2.1.1, h.2.2.2.1.1, h.2.2.2.2.1.1, h.2.2.2.2.2.1, ht]
  have q2 : ∀ s, itr (st_X7_digest_2 v.ln v.hb v.ha v.pu v.hl v.sm v.hr) 7 0 s = itr (st_X8_digest_2 f) 7 0 s := fun s => itr_congr _ _ _ fun u _ hu s => by
    unfold st_X7_digest_2 st_X8_digest_2; rw [fig_eq h u (by omega)]
  have q3 : ∀ s, itr (st_X3_digestOn v.fS v.nS 2) v.nS.toNatClampNeg 0 s = itr (st_X8_digest_3 f) v.nS.toNatClampNeg 0 s := fun s => itr_congr _ _ _ fun u _ hu s => by
    have k := h.2.1.2.2.2 u (by omega)
    rw [dg_row h.2.1.2.1 (by have := h.2.1.2.2.1; omega) u (by omega), k.1, k.2.1]; rfl
  have q4 : ∀ s, itr (st_X3_digestOn v.fC v.nC 2) v.nC.toNatClampNeg 0 s = itr (st_X8_digest_4 f) (2 * v.nC.toNatClampNeg) 0 s := fun s => by
    refine Eq.trans ?_ (dg_2 v.nC.toNatClampNeg 0 s).symm
    refine itr_congr _ _ _ fun u _ hu s => ?_
    have k := h.2.2.1.2.2.2 u (by omega)
    rw [dg_row h.2.2.1.2.1 (by have := h.2.2.1.2.2.1; omega) u (by omega), k.1, k.2]
    unfold st_X8_digest_4
    rw [show 19 + (2 * u + 1) = 20 + 2 * u by omega]
  have q5 : ∀ s, itr (st_X3_digestOn v.fN v.nN 4) v.nN.toNatClampNeg 0 s = itr (st_X8_digest_5 f) (4 * v.nN.toNatClampNeg) 0 s := fun s => by
    refine Eq.trans ?_ (dg_4 v.nN.toNatClampNeg 0 s).symm
    refine itr_congr _ _ _ fun u _ hu s => ?_
    have k := h.2.2.2.1.2.2.2 u (by omega)
    rw [dg_row4 h.2.2.2.1.2.1 (by have := h.2.2.2.1.2.2.1; omega) u (by omega), k.1, k.2.1, k.2.2.1, k.2.2.2.1]
    unfold st_X8_digest_5
    rw [show 32 + (4 * u + 1) = 33 + 4 * u by omega, show 32 + (4 * u + 2) = 34 + 4 * u by omega, show 32 + (4 * u + 3) = 35 + 4 * u by omega]
  have q6 : ∀ s, itr (st_X3_digestOn v.fM v.nM 4) v.nM.toNatClampNeg 0 s = itr (st_X8_digest_6 f) (4 * v.nM.toNatClampNeg) 0 s := fun s => by
    refine Eq.trans ?_ (dg_4 v.nM.toNatClampNeg 0 s).symm
    refine itr_congr _ _ _ fun u _ hu s => ?_
    have k := h.2.2.2.2.1.2.2.2 u (by omega)
    rw [dg_row4 h.2.2.2.2.1.2.1 (by have := h.2.2.2.2.1.2.2.1; omega) u (by omega), k.1, k.2.1, k.2.2.1, k.2.2.2]
    unfold st_X8_digest_6
    rw [show 57 + (4 * u + 1) = 58 + 4 * u by omega, show 57 + (4 * u + 2) = 59 + 4 * u by omega, show 57 + (4 * u + 3) = 60 + 4 * u by omega]
  unfold f_X7_digest f_X8_digest
  rw [q1, q2, q3, q4, q5, q6]
theorem eq_cheapest (a1 a2 : Int32) (x : XV) (h : PV) (d : PV) (o : PV) (p : PV) (t : TV) (w : WV) (g : GV) (e : EV) (m : MV) (hI : Inv x h o p t m) : (f_X7_cheapest h.hb h.ha h.hr h.nS h.fS a1 a2) = (f_X8_cheapest m.wf a1 a2) ∧ Inv (x.k0, x.k1, x.abv, x.blw, g_X7_cheapest_0_12 x.rb h.nS a1 a2, x.rn, x.rf) h o p t (m.txd, m.abv, m.blw, m.atp, m.stp, m.nbr, m.bmy, m.hsh, m.wf, m.kp, m.tx, g_X8_cheapest_2 m.wf m.ss a1 a2, m.ti, m.pp, m.hh, m.bb, m.al, m.sx) := by
  obtain ⟨⟨i1, i2, i3, i4, i5, i6, i7⟩, ⟨t1, t2, t3, t4⟩, ⟨⟨l1, l2, l3, l4, l5, l6, l7, l8, l9⟩, ⟨w0, w1, w2, w3⟩, ⟨c0, c1, c2, c3⟩, ⟨n0, n1, n2, n3⟩, ⟨m0, m1, m2, m3⟩, ⟨u0, u1, u2, u3⟩⟩, o1, p1⟩ := id hI
  have hw0 := w0
  by_cases z1 : p_X7_within a1 0 (h.nS - 1)
  · have y1 : p_X8_in a1.toInt64 0 ((m.wf 0) - 1).toInt64 := (has_iff hw0 a1).mpr z1
    by_cases z2 : p_X7_within a2 0 1
    · have y2 : p_X8_in a2.toInt64 0 1 := (in_wi a2 0 1).mpr z2
      simp only [f_X7_cheapest, g_X7_cheapest_0_12, f_X8_cheapest, g_X8_cheapest_2, if_pos z1, if_pos y1, if_pos z2, if_pos y2, ch_loop hI.2.2.1 z1, ite_self]
      exact ⟨trivial, hI⟩
    · have y2 : ¬ p_X8_in a2.toInt64 0 1 := mt (in_wi a2 0 1).mp z2
      simp only [f_X7_cheapest, g_X7_cheapest_0_12, f_X8_cheapest, g_X8_cheapest_2, if_pos z1, if_pos y1, if_neg z2, if_neg y2]
      exact ⟨trivial, inv_bad hI⟩
  · have y1 : ¬ p_X8_in a1.toInt64 0 ((m.wf 0) - 1).toInt64 := mt (has_iff hw0 a1).mp z1
    simp only [f_X7_cheapest, g_X7_cheapest_0_12, f_X8_cheapest, g_X8_cheapest_2, if_neg z1, if_neg y1]
    exact ⟨trivial, inv_bad hI⟩
theorem eq_cuts (a1 a2 a3 : Int32) (x : XV) (h : PV) (d : PV) (o : PV) (p : PV) (t : TV) (w : WV) (g : GV) (e : EV) (m : MV) (hI : Inv x h o p t m) : (f_X7_cuts h.hb h.ha h.hr a1 a2 a3) = (f_X8_cuts m.wf a1 a2 a3) ∧ Inv (x.k0, x.k1, x.abv, x.blw, g_X7_cuts_0_12 x.rb a1 a2 a3, x.rn, x.rf) h o p t (m.txd, m.abv, m.blw, m.atp, m.stp, m.nbr, m.bmy, m.hsh, m.wf, m.kp, m.tx, g_X8_cuts_2 m.ss a1 a2 a3, m.ti, m.pp, m.hh, m.bb, m.al, m.sx) := by
  obtain ⟨⟨i1, i2, i3, i4, i5, i6, i7⟩, ⟨t1, t2, t3, t4⟩, ⟨⟨l1, l2, l3, l4, l5, l6, l7, l8, l9⟩, ⟨w0, w1, w2, w3⟩, ⟨c0, c1, c2, c3⟩, ⟨n0, n1, n2, n3⟩, ⟨m0, m1, m2, m3⟩, ⟨u0, u1, u2, u3⟩⟩, o1, p1⟩ := id hI
  by_cases z1 : p_X7_within a1 0 5
  · have y1 : p_X8_in a1.toInt64 0 5 := (in_wi a1 0 5).mpr z1
    by_cases z2 : p_X7_within a2 2 60
    · have y2 : p_X8_in a2.toInt64 2 60 := (in_wi a2 2 60).mpr z2
      by_cases z3 : p_X7_within a3 0 1
      · have y3 : p_X8_in a3.toInt64 0 1 := (in_wi a3 0 1).mpr z3
        have hr := wi_rng (a := 2) (b := 60) (by decide) (by decide) z2
        simp only [f_X7_cuts, g_X7_cuts_0_12, f_X8_cuts, g_X8_cuts_2, if_pos z1, if_pos y1, if_pos z2, if_pos y2, if_pos z3, if_pos y3, cu_loop hI.2.2.1 a1 hr.1 hr.2, ite_self]
        exact ⟨trivial, hI⟩
      · have y3 : ¬ p_X8_in a3.toInt64 0 1 := mt (in_wi a3 0 1).mp z3
        simp only [f_X7_cuts, g_X7_cuts_0_12, f_X8_cuts, g_X8_cuts_2, if_pos z1, if_pos y1, if_pos z2, if_pos y2, if_neg z3, if_neg y3]
        exact ⟨trivial, inv_bad hI⟩
    · have y2 : ¬ p_X8_in a2.toInt64 2 60 := mt (in_wi a2 2 60).mp z2
      simp only [f_X7_cuts, g_X7_cuts_0_12, f_X8_cuts, g_X8_cuts_2, if_pos z1, if_pos y1, if_neg z2, if_neg y2]
      exact ⟨trivial, inv_bad hI⟩
  · have y1 : ¬ p_X8_in a1.toInt64 0 5 := mt (in_wi a1 0 5).mp z1
    simp only [f_X7_cuts, g_X7_cuts_0_12, f_X8_cuts, g_X8_cuts_2, if_neg z1, if_neg y1]
    exact ⟨trivial, inv_bad hI⟩
theorem eq_lines (a1 : Int32) (x : XV) (h : PV) (d : PV) (o : PV) (p : PV) (t : TV) (w : WV) (g : GV) (e : EV) (m : MV) (hI : Inv x h o p t m) : (f_X7_lines h.nC h.fC a1 h.nC.toNatClampNeg) = (f_X8_lines m.wf a1 h.nC.toNatClampNeg) ∧ Inv (x.k0, x.k1, x.abv, x.blw, g_X7_lines_0_12 x.rb a1, x.rn, x.rf) h o p t (m.txd, m.abv, m.blw, m.atp, m.stp, m.nbr, m.bmy, m.hsh, m.wf, m.kp, m.tx, g_X8_lines_2 m.ss a1, m.ti, m.pp, m.hh, m.bb, m.al, m.sx) := by
  obtain ⟨⟨i1, i2, i3, i4, i5, i6, i7⟩, ⟨t1, t2, t3, t4⟩, ⟨⟨l1, l2, l3, l4, l5, l6, l7, l8, l9⟩, ⟨w0, w1, w2, w3⟩, ⟨c0, c1, c2, c3⟩, ⟨n0, n1, n2, n3⟩, ⟨m0, m1, m2, m3⟩, ⟨u0, u1, u2, u3⟩⟩, o1, p1⟩ := id hI
  by_cases z1 : p_X7_within a1 0 2
  · have y1 : p_X8_in a1.toInt64 0 2 := (in_wi a1 0 2).mpr z1
    simp only [f_X7_lines, g_X7_lines_0_12, f_X8_lines, g_X8_lines_2, if_pos z1, if_pos y1, f_X0_leastLine, f_X0_greatestLine, ln_n hI.2.2.1.2.2.1 60, (ln_f hI.2.2.1.2.2.1 60 (by omega)).1, show itr (st_X0_greatestLine h.nC h.fC h.nC.toNatClampNeg) 60 0 none = itr (st_X0_greatestLine h.nC h.fC h.nC.toNatClampNeg) 60 (60 - 60) none from rfl, ln_l hI.2.2.1.2.2.1 60 (by omega), ite_self]
    exact ⟨trivial, hI⟩
  · have y1 : ¬ p_X8_in a1.toInt64 0 2 := mt (in_wi a1 0 2).mp z1
    simp only [f_X7_lines, g_X7_lines_0_12, f_X8_lines, g_X8_lines_2, if_neg z1, if_neg y1]
    exact ⟨trivial, inv_bad hI⟩
theorem eq_is (a1 : Int32) (x : XV) (h : PV) (d : PV) (o : PV) (p : PV) (t : TV) (w : WV) (g : GV) (e : EV) (m : MV) (hI : Inv x h o p t m) : (f_X7_is h.nS h.nN h.fN a1 h.nN.toNatClampNeg) = (f_X8_is m.wf a1 h.nN.toNatClampNeg) ∧ Inv (x.k0, x.k1, x.abv, x.blw, g_X7_is_0_12 x.rb h.nS a1, x.rn, x.rf) h o p t (m.txd, m.abv, m.blw, m.atp, m.stp, m.nbr, m.bmy, m.hsh, m.wf, m.kp, m.tx, g_X8_is_2 m.wf m.ss a1, m.ti, m.pp, m.hh, m.bb, m.al, m.sx) := by
  obtain ⟨⟨i1, i2, i3, i4, i5, i6, i7⟩, ⟨t1, t2, t3, t4⟩, ⟨⟨l1, l2, l3, l4, l5, l6, l7, l8, l9⟩, ⟨w0, w1, w2, w3⟩, ⟨c0, c1, c2, c3⟩, ⟨n0, n1, n2, n3⟩, ⟨m0, m1, m2, m3⟩, ⟨u0, u1, u2, u3⟩⟩, o1, p1⟩ := id hI
  have hw0 := w0
  by_cases z1 : p_X7_within a1 0 (h.nS - 1)
  · have y1 : p_X8_in a1.toInt64 0 ((m.wf 0) - 1).toInt64 := (has_iff hw0 a1).mpr z1
    simp only [f_X7_is, g_X7_is_0_12, f_X8_is, g_X8_is_2, if_pos z1, if_pos y1, skinds_eq hI.2.2.1.2.2.2.1]
    exact ⟨trivial, hI⟩
  · have y1 : ¬ p_X8_in a1.toInt64 0 ((m.wf 0) - 1).toInt64 := mt (has_iff hw0 a1).mp z1
    simp only [f_X7_is, g_X7_is_0_12, f_X8_is, g_X8_is_2, if_neg z1, if_neg y1]
    exact ⟨trivial, inv_bad hI⟩
theorem eq_kinds (a1 : Int32) (x : XV) (h : PV) (d : PV) (o : PV) (p : PV) (t : TV) (w : WV) (g : GV) (e : EV) (m : MV) (hI : Inv x h o p t m) : (f_X7_kinds h.nM h.fM a1 h.nM.toNatClampNeg) = (f_X8_kinds m.wf a1 h.nM.toNatClampNeg) ∧ Inv (x.k0, x.k1, x.abv, x.blw, g_X7_kinds_0_12 x.rb a1, x.rn, x.rf) h o p t (m.txd, m.abv, m.blw, m.atp, m.stp, m.nbr, m.bmy, m.hsh, m.wf, m.kp, m.tx, g_X8_kinds_2 m.ss a1, m.ti, m.pp, m.hh, m.bb, m.al, m.sx) := by
  obtain ⟨⟨i1, i2, i3, i4, i5, i6, i7⟩, ⟨t1, t2, t3, t4⟩, ⟨⟨l1, l2, l3, l4, l5, l6, l7, l8, l9⟩, ⟨w0, w1, w2, w3⟩, ⟨c0, c1, c2, c3⟩, ⟨n0, n1, n2, n3⟩, ⟨m0, m1, m2, m3⟩, ⟨u0, u1, u2, u3⟩⟩, o1, p1⟩ := id hI
  by_cases z1 : p_X7_within a1 0 1
  · have y1 : p_X8_in a1.toInt64 0 1 := (in_wi a1 0 1).mpr z1
    simp only [f_X7_kinds, g_X7_kinds_0_12, f_X8_kinds, g_X8_kinds_2, if_pos z1, if_pos y1, hkinds_eq hI.2.2.1.2.2.2.2.1]
    exact ⟨trivial, hI⟩
  · have y1 : ¬ p_X8_in a1.toInt64 0 1 := mt (in_wi a1 0 1).mp z1
    simp only [f_X7_kinds, g_X7_kinds_0_12, f_X8_kinds, g_X8_kinds_2, if_neg z1, if_neg y1]
    exact ⟨trivial, inv_bad hI⟩
theorem eq_nights (a1 a2 : Int32) (x : XV) (h : PV) (d : PV) (o : PV) (p : PV) (t : TV) (w : WV) (g : GV) (e : EV) (m : MV) (hI : Inv x h o p t m) : (f_X7_nights h.ln h.hb h.ha h.pu h.hr h.nS h.fS a1 a2) = (f_X8_nights m.wf a1 a2) ∧ Inv (x.k0, x.k1, x.abv, x.blw, g_X7_nights_0_12 x.rb a1 a2, x.rn, x.rf) h o p t (m.txd, m.abv, m.blw, m.atp, m.stp, m.nbr, m.bmy, m.hsh, m.wf, m.kp, m.tx, g_X8_nights_2 m.ss a1 a2, m.ti, m.pp, m.hh, m.bb, m.al, m.sx) := by
  obtain ⟨⟨i1, i2, i3, i4, i5, i6, i7⟩, ⟨t1, t2, t3, t4⟩, ⟨⟨l1, l2, l3, l4, l5, l6, l7, l8, l9⟩, ⟨w0, w1, w2, w3⟩, ⟨c0, c1, c2, c3⟩, ⟨n0, n1, n2, n3⟩, ⟨m0, m1, m2, m3⟩, ⟨u0, u1, u2, u3⟩⟩, o1, p1⟩ := id hI
  by_cases z1 : p_X7_within a1 0 999999
  · have y1 : p_X8_in a1.toInt64 0 999999 := (in_wi a1 0 999999).mpr z1
    by_cases z2 : p_X7_within a2 0 60
    · have y2 : p_X8_in a2.toInt64 0 60 := (in_wi a2 0 60).mpr z2
      have hl : itr (st_X7_nights h.ln h.hb h.ha h.hr h.nS h.fS) a2.toNatClampNeg 0 (a1.toNatClampNeg, h.pu, 0) = itr (st_X8_nights m.wf) a2.toNatClampNeg 0 (a1.toNatClampNeg, m.wf 14, 0) := by rw [← l4]; exact itr_congr _ _ _ fun u _ _ s => ni_step hI.2.2.1 u s
      simp only [f_X7_nights, g_X7_nights_0_12, f_X8_nights, g_X8_nights_2, if_pos z1, if_pos y1, if_pos z2, if_pos y2, hl]
      exact ⟨trivial, hI⟩
    · have y2 : ¬ p_X8_in a2.toInt64 0 60 := mt (in_wi a2 0 60).mp z2
      simp only [f_X7_nights, g_X7_nights_0_12, f_X8_nights, g_X8_nights_2, if_pos z1, if_pos y1, if_neg z2, if_neg y2]
      exact ⟨trivial, inv_bad hI⟩
  · have y1 : ¬ p_X8_in a1.toInt64 0 999999 := mt (in_wi a1 0 999999).mp z1
    simp only [f_X7_nights, g_X7_nights_0_12, f_X8_nights, g_X8_nights_2, if_neg z1, if_neg y1]
    exact ⟨trivial, inv_bad hI⟩
theorem eq_digest (x : XV) (h : PV) (d : PV) (o : PV) (p : PV) (t : TV) (w : WV) (g : GV) (e : EV) (m : MV) (hI : Inv x h o p t m) : (f_X7_digest x.abv x.blw h.ln h.hb h.ha h.pu h.hl h.sm h.hr h.nS h.fS h.nC h.fC h.nN h.fN h.nM h.fM h.nU t.tl h.nS.toNatClampNeg h.nC.toNatClampNeg h.nN.toNatClampNeg h.nM.toNatClampNeg) = (f_X8_digest m.txd m.abv m.blw m.wf h.nS.toNatClampNeg h.nC.toNatClampNeg h.nN.toNatClampNeg h.nM.toNatClampNeg) ∧ Inv x h o p t (m.txd, m.abv, m.blw, m.atp, m.stp, m.nbr, m.bmy, (31 * ((31 * (itr (st_X8_digest_6 m.wf) (4 * h.nM.toNatClampNeg) 0 (itr (st_X8_digest_5 m.wf) (4 * h.nN.toNatClampNeg) 0 (itr (st_X8_digest_4 m.wf) (2 * h.nC.toNatClampNeg) 0 (itr (st_X8_digest_3 m.wf) h.nS.toNatClampNeg 0 (itr (st_X8_digest_2 m.wf) 7 0 (itr (st_X8_digest_1 m.txd m.wf) 6 0 1579))))))) + m.abv)) + m.blw, m.wf, m.kp, m.tx, m.ss, m.ti, m.pp, m.hh, m.bb, m.al, m.sx) := by
  obtain ⟨⟨i1, i2, i3, i4, i5, i6, i7⟩, ⟨t1, t2, t3, t4⟩, ⟨⟨l1, l2, l3, l4, l5, l6, l7, l8, l9⟩, ⟨w0, w1, w2, w3⟩, ⟨c0, c1, c2, c3⟩, ⟨n0, n1, n2, n3⟩, ⟨m0, m1, m2, m3⟩, ⟨u0, u1, u2, u3⟩⟩, o1, p1⟩ := id hI
  refine ⟨?_, hI⟩
  rw [← i1, ← i2]; exact dg_eq hI.2.2.1 t1 _ _
