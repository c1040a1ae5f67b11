def ctB (b : Nat → Bool) : Nat → Nat
  | 0 => 0
  | n + 1 => ctB b n + (if b n = true then 1 else 0)
theorem ctB_le {b : Nat → Bool} : ∀ n, ctB b n ≤ n
  | 0 => Nat.le_refl 0
  | n + 1 => by
    have := ctB_le (b := b) n
    show ctB b n + (if b n = true then 1 else 0) ≤ n + 1
    split <;> omega
theorem ctB_cg {b c : Nat → Bool} : ∀ n, (∀ k, k < n → b k = c k) → ctB b n = ctB c n
  | 0, _ => rfl
  | n + 1, h => by
    show ctB b n + (if b n = true then 1 else 0) = ctB c n + (if c n = true then 1 else 0)
    rw [ctB_cg n (fun k hk => h k (by omega)), h n (by omega)]
theorem ctB_ex {b : Nat → Bool} : ∀ n, ctB b n = 0 ∨ ∃ k, k < n ∧ b k = true
  | 0 => Or.inl rfl
  | n + 1 => by
    by_cases z : b n = true
    · exact Or.inr ⟨n, by omega, z⟩
    · rcases ctB_ex (b := b) n with h | ⟨k, hk, hb⟩
      · left; show ctB b n + (if b n = true then 1 else 0) = 0; rw [if_neg z, h]
      · exact Or.inr ⟨k, by omega, hb⟩
theorem ma_in {an : Nat → Int32} {v : Nat} : ∀ u, itr (st_X0_mostAlike_in an v) u 0 1 = nI (ctB (fun k => decide (an k = an v)) u + 1)
  | 0 => by rw [itr_0]; rfl
  | u + 1 => by
    rw [itr_snoc, ma_in u, Nat.zero_add]
    show (if (an u) = (an v) then (nI (ctB (fun k => decide (an k = an v)) u + 1) + 1) else nI (ctB (fun k => decide (an k = an v)) u + 1)) = nI (ctB (fun k => decide (an k = an v)) u + (if decide (an u = an v) = true then 1 else 0) + 1)
    by_cases z : an u = an v
    · rw [if_pos z, if_pos (decide_eq_true z)]; exact nI_add _ 1
    · rw [if_neg z, if_neg (by rw [decide_eq_true_eq]; exact z)]
/-- the most of a row that are alike -/
def Mst (an : Nat → Int32) (c M : Nat) : Prop := M ≤ c ∧ (∀ v, ctB (fun k => decide (an k = v)) c ≤ M) ∧ (M = 0 ∨ ∃ v, ctB (fun k => decide (an k = v)) c = M)
theorem ma_out {an : Nat → Int32} : ∀ c, c ≤ 6 → ∃ M, itr (st_X0_mostAlike an) c 0 0 = nI M ∧ Mst an c M
  | 0, _ => ⟨0, by rw [itr_0]; rfl, Nat.le_refl 0, fun _ => Nat.le_refl 0, Or.inl rfl⟩
  | c + 1, hc => by
    obtain ⟨M, h1, h2, h3, h4⟩ := ma_out (an := an) c (by omega)
    have hle := ctB_le (b := fun k => decide (an k = an c)) c
    have e : ∀ v, ctB (fun k => decide (an k = v)) (c + 1) = ctB (fun k => decide (an k = v)) c + (if decide (an c = v) = true then 1 else 0) := fun v => rfl
    have es : ctB (fun k => decide (an k = an c)) (c + 1) = ctB (fun k => decide (an k = an c)) c + 1 := by rw [e, if_pos (decide_eq_true rfl)]
    rw [itr_snoc, h1, Nat.zero_add]
    unfold st_X0_mostAlike
    rw [ma_in]
    by_cases z : M < ctB (fun k => decide (an k = an c)) c + 1
    · rw [if_pos ((c_lt (nI_toInt (by omega)) (nI_toInt (by omega))).mpr z)]
      refine ⟨_, rfl, by omega, fun v => ?_, Or.inr ⟨an c, es⟩⟩
      by_cases y : an c = v
      · subst y; rw [es]; exact Nat.le_refl _
      · rw [e, if_neg (by rw [decide_eq_true_eq]; exact y)]; have := h3 v; omega
    · rw [if_neg (fun y => z ((c_lt (nI_toInt (by omega)) (nI_toInt (by omega))).mp y))]
      have hv : ∀ v, ctB (fun k => decide (an k = v)) (c + 1) ≤ M := fun v => by
        by_cases y : an c = v
        · subst y; rw [es]; omega
        · rw [e, if_neg (by rw [decide_eq_true_eq]; exact y)]; have := h3 v; omega
      refine ⟨M, rfl, by omega, hv, ?_⟩
      rcases h4 with h4 | ⟨v, h4⟩
      · exact Or.inl h4
      · refine Or.inr ⟨v, ?_⟩
        have a1 := hv v
        have a2 := e v
        by_cases y : decide (an c = v) = true
        · rw [if_pos y] at a2; omega
        · rw [if_neg y] at a2; omega
/-- a row put together out of those that are in a set -/
theorem pa_in {C : Nat → Prop} [∀ k, Decidable (C k)] {y : Nat → Int32} {g : Nat → Nat × (Nat → Int32) → Nat × (Nat → Int32)} (hg : ∀ k s, g k s = ((if C k then (s.1 + 1) else s.1), (if C k then (upd s.2 s.1 (y k)) else s.2))) (an : Nat → Int32) : ∀ n, (itr g n 0 (0, an)).1 ≤ n ∧ ∀ v, ctB (fun j => decide ((itr g n 0 (0, an)).2 j = v)) (itr g n 0 (0, an)).1 = ctB (fun k => decide (C k ∧ y k = v)) n
  | 0 => by rw [itr_0]; exact ⟨Nat.le_refl 0, fun _ => rfl⟩
  | n + 1 => by
    obtain ⟨h1, h2⟩ := pa_in hg an n
    rw [itr_snoc, hg, Nat.zero_add]
    revert h1 h2
    generalize itr g n 0 (0, an) = s
    intro h1 h2
    by_cases z : C n
    · simp only [if_pos z]
      refine ⟨by omega, fun v => ?_⟩
      show ctB (fun j => decide (upd s.2 s.1 (y n) j = v)) s.1 + (if decide (upd s.2 s.1 (y n) s.1 = v) = true then 1 else 0) = ctB (fun k => decide (C k ∧ y k = v)) n + (if decide (C n ∧ y n = v) = true then 1 else 0)
      rw [← h2 v, pk_us, ctB_cg (c := fun j => decide (s.2 j = v)) s.1 (fun k hk => by show decide (upd s.2 s.1 (y n) k = v) = decide (s.2 k = v); rw [pk_un (by omega)])]
      by_cases w : y n = v
      · rw [if_pos (decide_eq_true w), if_pos (decide_eq_true ⟨z, w⟩)]
      · rw [if_neg (by rw [decide_eq_true_eq]; exact w), if_neg (by rw [decide_eq_true_eq]; exact fun q => w q.2)]
    · simp only [if_neg z]
      refine ⟨by omega, fun v => ?_⟩
      show _ = ctB (fun k => decide (C k ∧ y k = v)) n + (if decide (C n ∧ y n = v) = true then 1 else 0)
      rw [h2 v, if_neg (by rw [decide_eq_true_eq]; exact fun q => z q.1), Nat.add_zero]
theorem six_in {y : Nat → Int32} {g : Nat → (Nat → Int32) → (Nat → Int32)} (hg : ∀ k s, g k s = upd s k (y k)) (sx : Nat → Int32) : ∀ n k, k < n → itr g n 0 sx k = y k
  | 0, k, hk => absurd hk (Nat.not_lt_zero k)
  | n + 1, k, hk => by
    rw [itr_snoc, hg, Nat.zero_add]
    by_cases z : k = n
    · subst z; rw [pk_us]
    · rw [pk_un z]; exact six_in hg sx n k (by omega)
theorem gr_in {sx : Nat → Int32} {se : Int32} {v : Nat} : ∀ u, u ≤ 6 → itr (st_X8_greatest_in sx se v) u 0 0 = nI (if p_X8_has se (nI v) then ctB (fun k => decide (p_X8_has se (nI k) ∧ sx k = sx v)) u else 0)
  | 0, _ => by rw [itr_0]; split <;> rfl
  | u + 1, hu => by
    rw [itr_snoc, gr_in u (by omega), Nat.zero_add]
    unfold st_X8_greatest_in
    by_cases z : p_X8_has se (nI v)
    · rw [if_pos z, if_pos z, if_pos z]
      show _ = nI (ctB (fun k => decide (p_X8_has se (nI k) ∧ sx k = sx v)) u + (if decide (p_X8_has se (nI u) ∧ sx u = sx v) = true then 1 else 0))
      by_cases y : p_X8_has se (nI u)
      · by_cases w : sx u = sx v
        · rw [if_pos y, if_pos w.symm, if_pos (decide_eq_true ⟨y, w⟩)]; exact nI_add _ 1
        · rw [if_pos y, if_neg (fun q => w q.symm), if_neg (by rw [decide_eq_true_eq]; exact fun q => w q.2)]; exact nI_add _ 0
      · rw [if_neg y, if_neg (by rw [decide_eq_true_eq]; exact fun q => y q.1)]; exact nI_add _ 0
    · rw [if_neg z, if_neg z, if_neg z]; exact nI_add 0 0
theorem gr_out {sx : Nat → Int32} {se : Int32} : ∀ n, n ≤ 6 → ∃ M, itr (st_X8_greatest sx se) n 0 0 = nI M ∧ M ≤ 6 ∧ (∀ k, k < n → p_X8_has se (nI k) → ctB (fun j => decide (p_X8_has se (nI j) ∧ sx j = sx k)) 6 ≤ M) ∧ (M = 0 ∨ ∃ v, ctB (fun j => decide (p_X8_has se (nI j) ∧ sx j = v)) 6 = M)
  | 0, _ => ⟨0, by rw [itr_0]; rfl, by omega, fun k hk => absurd hk (Nat.not_lt_zero k), Or.inl rfl⟩
  | n + 1, hn => by
    obtain ⟨M, h1, h2, h3, h4⟩ := gr_out (sx := sx) (se := se) n (by omega)
    have hle := ctB_le (b := fun j => decide (p_X8_has se (nI j) ∧ sx j = sx n)) 6
    rw [itr_snoc, h1, Nat.zero_add]
    unfold st_X8_greatest
    rw [gr_in 6 (by omega)]
    by_cases y : p_X8_has se (nI n)
    · rw [if_pos y]
      by_cases z : ctB (fun j => decide (p_X8_has se (nI j) ∧ sx j = sx n)) 6 ≤ M
      · rw [if_pos ((c_le (nI_toInt (by omega)) (nI_toInt (by omega))).mpr z)]
        refine ⟨M, rfl, h2, fun k hk hs => ?_, h4⟩
        by_cases w : k = n
        · subst w; exact z
        · exact h3 k (by omega) hs
      · rw [if_neg (fun q => z ((c_le (nI_toInt (by omega)) (nI_toInt (by omega))).mp q))]
        refine ⟨_, rfl, hle, fun k hk hs => ?_, Or.inr ⟨sx n, rfl⟩⟩
        by_cases w : k = n
        · subst w; exact Nat.le_refl _
        · have := h3 k (by omega) hs; omega
    · rw [if_neg y, if_pos ((c_le (nI_toInt (by omega)) (nI_toInt (by omega))).mpr (Nat.zero_le M))]
      refine ⟨M, rfl, h2, fun k hk hs => ?_, h4⟩
      by_cases w : k = n
      · subst w; exact absurd hs y
      · exact h3 k (by omega) hs
/-- both ways to tell the most that are alike -/
theorem alike_eq {bi : Int32} {y : Nat → Int32} {g : Nat → Nat × (Nat → Int32) → Nat × (Nat → Int32)} (hg : ∀ k s, g k s = ((if p_X8_has bi (nI k) then (s.1 + 1) else s.1), (if p_X8_has bi (nI k) then (upd s.2 s.1 (y k)) else s.2))) {q : Nat → (Nat → Int32) → (Nat → Int32)} {y' : Nat → Int32} (hq : ∀ k s, q k s = upd s k (y' k)) (hy : ∀ k, k < 6 → y k = y' k) (an sx : Nat → Int32) : ∃ M, M ≤ 6 ∧ itr (st_X0_mostAlike (itr g 6 0 (0, an)).2) (itr g 6 0 (0, an)).1 0 0 = nI M ∧ itr (st_X8_greatest (itr q 6 0 sx) bi) 6 0 0 = nI M := by
  obtain ⟨p1, p2⟩ := pa_in (C := fun k => p_X8_has bi (nI k)) hg an 6
  obtain ⟨M, a1, a2, a3, a4⟩ := ma_out (an := (itr g 6 0 (0, an)).2) (itr g 6 0 (0, an)).1 p1
  obtain ⟨N, b1, b2, b3, b4⟩ := gr_out (sx := itr q 6 0 sx) (se := bi) 6 (Nat.le_refl 6)
  have e : ∀ v, ctB (fun j => decide (p_X8_has bi (nI j) ∧ itr q 6 0 sx j = v)) 6 = ctB (fun k => decide (p_X8_has bi (nI k) ∧ y k = v)) 6 := fun v => ctB_cg 6 fun k hk => by
    show decide (p_X8_has bi (nI k) ∧ itr q 6 0 sx k = v) = decide (p_X8_has bi (nI k) ∧ y k = v)
    rw [six_in hq sx 6 k hk, hy k hk]
  have hMN : M ≤ N := by
    rcases a4 with h | ⟨v, h⟩
    · omega
    · rw [p2 v, ← e v] at h
      rcases ctB_ex (b := fun j => decide (p_X8_has bi (nI j) ∧ itr q 6 0 sx j = v)) 6 with z | ⟨k, hk, hb⟩
      · omega
      · have hb' := of_decide_eq_true hb
        have := b3 k hk hb'.1
        rw [hb'.2] at this; omega
  have hNM : N ≤ M := by
    rcases b4 with h | ⟨v, h⟩
    · omega
    · rw [e v, ← p2 v] at h; have := a3 v; omega
  have hE : N = M := by omega
  exact ⟨M, by omega, a1, by rw [b1, hE]⟩
theorem set_ok : ∀ n, n < 64 → ∀ t, t < 6 → (nI n ||| (1 <<< ((nI t) &&& 31))) = nI (n ||| (1 <<< t)) ∧ (n ||| (1 <<< t)) < 64 := by decide +kernel
theorem set_pos {s : Int32} (h : ∃ q, q < 64 ∧ s = nI q) : 0 < s ↔ ¬ s = 0 := by
  obtain ⟨q, hq, rfl⟩ := h
  have e0 : (0 : Int32) = nI 0 := rfl
  constructor
  · intro h z; rw [z] at h; exact absurd h (by decide)
  · intro h
    refine (nI_ltI (a := 0) (b := q) (by omega) (by omega)).mpr ?_
    by_cases z : q = 0
    · subst z; exact absurd rfl h
    · omega
theorem kinds_set {wf : Nat → Int32} {i : Int32} {c : Nat} : ∃ q, q < 64 ∧ itr (st_X8_kindsOf wf i c) 6 0 0 = nI q := by
  refine itr_inv (fun s => ∃ q, q < 64 ∧ s = nI q) 6 0 0 (fun v _ hv s hs => ?_) ⟨0, by omega, rfl⟩
  obtain ⟨q, hq, rfl⟩ := hs
  unfold st_X8_kindsOf
  split
  · exact ⟨_, (set_ok q hq v (by omega)).2, (set_ok q hq v (by omega)).1⟩
  · exact ⟨q, hq, Int32.or_zero⟩
theorem houses_set {wf : Nat → Int32} {i : Int32} {c : Nat} : ∃ q, q < 64 ∧ itr (st_X8_housesOf wf i c) 6 0 0 = nI q := by
  refine itr_inv (fun s => ∃ q, q < 64 ∧ s = nI q) 6 0 0 (fun v _ hv s hs => ?_) ⟨0, by omega, rfl⟩
  obtain ⟨q, hq, rfl⟩ := hs
  unfold st_X8_housesOf
  split
  · exact ⟨_, (set_ok q hq v (by omega)).2, (set_ok q hq v (by omega)).1⟩
  · exact ⟨q, hq, Int32.or_zero⟩
/-- the best of a row of trials, told with two beginnings -/
def Bst (s : Int32 × Int32) (t : Int32 × Int32) : Prop := s.1 = t.1 ∧ (s.2 = t.2 ∨ (s.2 = 7 ∧ t.2 = 1000000))
theorem bst_step {b1 l1 b2 l2 : Int32} {M u : Nat} (hM : M ≤ 6) (h : Bst (b1, l1) (b2, l2)) : Bst ((if l1 ≤ nI M then b1 else nI u), (if l1 ≤ nI M then l1 else nI M)) ((if l2 ≤ nI M then b2 else nI u), (if l2 ≤ nI M then l2 else nI M)) := by
  obtain ⟨h1, h2⟩ := h
  have h1 : b1 = b2 := h1
  subst h1
  rcases h2 with h2 | ⟨h2, h3⟩
  · have h2 : l1 = l2 := h2
    subst h2; exact ⟨rfl, Or.inl rfl⟩
  · have h2 : l1 = 7 := h2
    have h3 : l2 = 1000000 := h3
    subst h2; subst h3
    have a : ¬ (7 : Int32) ≤ nI M := fun z => by
      have := (nI_leI (a := 7) (b := M) (by omega) (by omega)).mp z; omega
    have b : ¬ (1000000 : Int32) ≤ nI M := fun z => by
      have := (nI_leI (a := 1000000) (b := M) (by omega) (by omega)).mp z; omega
    rw [if_neg a, if_neg a, if_neg b, if_neg b]; exact ⟨rfl, Or.inl rfl⟩
theorem look_loop {v : PV} {wf : Nat → Int32} (h : RP v wf) {i : Int32} (z : p_X7_within i 0 (v.nS - 1)) (bi av : Int32) (an sx : Nat → Int32) : (itr (st_X0_nextHour v.nS v.fS i bi) 24 0 ((-1), 7, av, an)).1 = (itr (st_X8_look wf bi i.toNatClampNeg) 24 0 ((-1), 1000000, sx)).1 := by
  refine (itr_rel (f := st_X0_nextHour v.nS v.fS i bi) (g := st_X8_look wf bi i.toNatClampNeg) (fun _ (s : Int32 × Int32 × Int32 × (Nat → Int32)) (t : Int32 × Int32 × (Nat → Int32)) => Bst (s.1, s.2.1) (t.1, t.2.1)) 24 0 ((-1), 7, av, an) ((-1), 1000000, sx) (fun u _ hu s t hs => ?_) ⟨rfl, Or.inr ⟨rfl, rfl⟩⟩).1
  obtain ⟨M, hM, e1, e2⟩ := alike_eq (bi := bi) (y := fun k => f_X1_shown (nI k) (f_X3_cell v.nS v.fS i 1) (nI u)) (y' := fun k => f_X8_showOf (nI k) (wf (6 + i.toNatClampNeg)) (nI u)) (g := st_X0_nextHour_in v.nS v.fS i bi u) (q := st_X8_look_in wf u i.toNatClampNeg) (fun k s => rfl) (fun k s => rfl) (fun k _ => by
    show f_X1_shown (nI k) (f_X3_cell v.nS v.fS i 1) (nI u) = f_X8_showOf (nI k) (wf (6 + i.toNatClampNeg)) (nI u)
    rw [show_eq, (str_cell h.2.1 z).2.1, rem_id (by rw [nI_toInt (by omega)]; omega) (by rw [nI_toInt (by omega)]; omega)]) s.2.2.2 t.2.2
  unfold st_X0_nextHour st_X8_look
  simp only [e1, e2]
  exact bst_step hM hs
theorem ask_loop (bi av : Int32) (an sx : Nat → Int32) : (itr (st_X0_nextQuestion bi) 200 0 ((-1), 7, av, an)).1 = (itr (st_X8_ask bi) 200 0 ((-1), 1000000, sx)).1 := by
  refine (itr_rel (f := st_X0_nextQuestion bi) (g := st_X8_ask bi) (fun _ (s : Int32 × Int32 × Int32 × (Nat → Int32)) (t : Int32 × Int32 × (Nat → Int32)) => Bst (s.1, s.2.1) (t.1, t.2.1)) 200 0 ((-1), 7, av, an) ((-1), 1000000, sx) (fun u _ hu s t hs => ?_) ⟨rfl, Or.inr ⟨rfl, rfl⟩⟩).1
  obtain ⟨M, hM, e1, e2⟩ := alike_eq (bi := bi) (y := fun k => f_X1_charged (nI k) (vv_rem (nI u) 100) ((nI u) / 100)) (y' := fun k => f_X8_chargeOf (nI k) (vv_rem (nI u) 100) ((nI u) / 100)) (g := st_X0_nextQuestion_in bi u) (q := st_X8_ask_in u) (fun k s => rfl) (fun k s => rfl) (fun k _ => charge_eq _ _ _) s.2.2.2 t.2.2
  unfold st_X0_nextQuestion st_X8_ask
  simp only [e1, e2]
  exact bst_step hM hs
theorem set_if {s : Int32} (h : ∃ q, q < 64 ∧ s = nI q) (a b : Int32) : (if 0 < s then a else b) = (if s = 0 then b else a) := by
  by_cases z : s = 0
  · rw [if_pos z, if_neg (fun y => (set_pos h).mp y z)]
  · rw [if_neg z, if_pos ((set_pos h).mpr z)]
theorem eq_look (a1 : Int32) (x : XV) (h : PV) (d : PV) (o : PV) (p : PV) (t : TV) (w : WV) (g : GV) (e : EV) (m : MV) (hI : Inv x h o p t m) : (f_X7_look h.nS h.fS h.nN h.fN g.av g.an a1 h.nN.toNatClampNeg) = (f_X8_look m.wf m.sx a1 h.nN.toNatClampNeg) ∧ Inv (x.k0, x.k1, x.abv, x.blw, g_X7_look_0_12 x.rb h.nS a1, x.rn, x.rf) h o p t (m.txd, m.abv, m.blw, m.atp, m.stp, m.nbr, m.bmy, m.hsh, m.wf, m.kp, m.tx, g_X8_look_2 m.wf m.ss a1 h.nN.toNatClampNeg, m.ti, m.pp, m.hh, m.bb, m.al, g_X8_look_3 m.wf m.sx a1 h.nN.toNatClampNeg) := by
  obtain ⟨⟨i1, i2, i3, i4, i5, i6, i7⟩, ⟨t1, t2, t3, t4⟩, ⟨⟨l1, l2, l3, l4, l5, l6, l7, l8, l9⟩, ⟨w0, w1, w2, w3⟩, ⟨c0, c1, c2, c3⟩, ⟨n0, n1, n2, n3⟩, ⟨m0, m1, m2, m3⟩, ⟨u0, u1, u2, u3⟩⟩, o1, p1⟩ := id hI
  have hw0 := w0
  by_cases z1 : p_X7_within a1 0 (h.nS - 1)
  · have y1 : p_X8_in a1.toInt64 0 ((m.wf 0) - 1).toInt64 := (has_iff hw0 a1).mpr z1
    simp only [f_X7_look, g_X7_look_0_12, g_X7_look_6_1, g_X7_look_7, f_X8_look, g_X8_look_2, g_X8_look_3, if_pos z1, if_pos y1, f_X0_nextHour, skinds_eq hI.2.2.1.2.2.2.1, look_loop hI.2.2.1 z1 _ g.av g.an m.sx, set_if kinds_set, ite_self]
    exact ⟨trivial, hI⟩
  · have y1 : ¬ p_X8_in a1.toInt64 0 ((m.wf 0) - 1).toInt64 := mt (has_iff hw0 a1).mp z1
    simp only [f_X7_look, g_X7_look_0_12, g_X7_look_6_1, g_X7_look_7, f_X8_look, g_X8_look_2, g_X8_look_3, if_neg z1, if_neg y1]
    exact ⟨trivial, inv_bad hI⟩
theorem eq_ask (a1 : Int32) (x : XV) (h : PV) (d : PV) (o : PV) (p : PV) (t : TV) (w : WV) (g : GV) (e : EV) (m : MV) (hI : Inv x h o p t m) : (f_X7_ask h.nM h.fM g.av g.an a1 h.nM.toNatClampNeg) = (f_X8_ask m.wf m.sx a1 h.nM.toNatClampNeg) ∧ Inv (x.k0, x.k1, x.abv, x.blw, g_X7_ask_0_12 x.rb a1, x.rn, x.rf) h o p t (m.txd, m.abv, m.blw, m.atp, m.stp, m.nbr, m.bmy, m.hsh, m.wf, m.kp, m.tx, g_X8_ask_2 m.wf m.ss a1 h.nM.toNatClampNeg, m.ti, m.pp, m.hh, m.bb, m.al, g_X8_ask_3 m.wf m.sx a1 h.nM.toNatClampNeg) := by
  obtain ⟨⟨i1, i2, i3, i4, i5, i6, i7⟩, ⟨t1, t2, t3, t4⟩, ⟨⟨l1, l2, l3, l4, l5, l6, l7, l8, l9⟩, ⟨w0, w1, w2, w3⟩, ⟨c0, c1, c2, c3⟩, ⟨n0, n1, n2, n3⟩, ⟨m0, m1, m2, m3⟩, ⟨u0, u1, u2, u3⟩⟩, o1, p1⟩ := id hI
  by_cases z1 : p_X7_within a1 0 1
  · have y1 : p_X8_in a1.toInt64 0 1 := (in_wi a1 0 1).mpr z1
    simp only [f_X7_ask, g_X7_ask_0_12, g_X7_ask_4_1, g_X7_ask_5, f_X8_ask, g_X8_ask_2, g_X8_ask_3, if_pos z1, if_pos y1, f_X0_nextQuestion, hkinds_eq hI.2.2.1.2.2.2.2.1, ask_loop _ g.av g.an m.sx, set_if houses_set, ite_self]
    exact ⟨trivial, hI⟩
  · have y1 : ¬ p_X8_in a1.toInt64 0 1 := mt (in_wi a1 0 1).mp z1
    simp only [f_X7_ask, g_X7_ask_0_12, g_X7_ask_4_1, g_X7_ask_5, f_X8_ask, g_X8_ask_2, g_X8_ask_3, if_neg z1, if_neg y1]
    exact ⟨trivial, inv_bad hI⟩
