theorem ctB_mono {F : Nat → Bool} {m : Nat} : ∀ n, m ≤ n → ctB F m ≤ ctB F n
  | 0, h => by rw [Nat.le_zero.mp h]; exact Nat.le_refl _
  | n + 1, h => by
    by_cases z : m = n + 1
    · rw [z]; exact Nat.le_refl _
    · have := ctB_mono (F := F) n (by omega : m ≤ n)
      show ctB F m ≤ ctB F n + (if F n = true then 1 else 0)
      omega
def stT (b : Bool) (v u : Nat) (s : Bool × Int32 × (Nat → Int32)) : Bool × Int32 × (Nat → Int32) := match b with
  | true => (true, (if (s.2.2 (bj v u) + 1) ≤ s.2.1 then s.2.1 else (s.2.2 (bj v u) + 1)), upd s.2.2 (bj v u) (s.2.2 (bj v u) + 1))
  | false => s
theorem tri_eq {wf : Nat → Int32} {v cC u : Nat} {s : Bool × Int32 × (Nat → Int32)} : st_X8_tries_in wf v cC u s = stT (itr (st_X8_fits wf (nI u)) cC 0 true) v u s := by
  unfold st_X8_tries_in
  generalize itr (st_X8_fits wf (nI u)) cC 0 true = b
  cases b with
  | true => rw [if_pos rfl, if_pos rfl, decide_eq_true rfl, Bool.or_true]; rfl
  | false => rw [if_neg (by decide), if_neg (by decide), decide_eq_false (by decide), Bool.or_false]; rfl
def TrI (F : Nat → Bool) (v n : Nat) (any0 : Bool) (s : Bool × Int32 × (Nat → Int32)) : Prop := s.1 = (any0 || decide (0 < ctB F n)) ∧ s.2.1 = nI (max (ctB F n - ctB F (min n v)) (if 0 < ctB F (min n v) then 1 else 0)) ∧ s.2.2 0 = nI (ctB F n - ctB F (min n v)) ∧ ∀ x, 1 ≤ x → x + n ≤ v → s.2.2 x = 0
theorem tr_step {F : Nat → Bool} {v n : Nat} {any0 : Bool} {s : Bool × Int32 × (Nat → Int32)} (hn : n < 60) (hv : v ≤ 60) (h : TrI F v n any0 s) : TrI F v (n + 1) any0 (stT (F n) v (1 + n) s) := by
  obtain ⟨h1, h2, h3, h4⟩ := h
  have ct : ctB F (n + 1) = ctB F n + (if F n = true then 1 else 0) := rfl
  have hle : ctB F n ≤ n := ctB_le n
  have hmono : ctB F (min n v) ≤ ctB F n := ctB_mono n (Nat.min_le_left n v)
  revert ct
  generalize F n = b
  intro ct
  cases b with
  | false =>
    have ct' : ctB F (n + 1) = ctB F n := by rw [ct, if_neg (by decide)]; rfl
    have cm : ctB F (min (n + 1) v) = ctB F (min n v) := by
      by_cases y : n < v
      · rw [Nat.min_eq_left (by omega : n + 1 ≤ v), Nat.min_eq_left (by omega : n ≤ v), ct']
      · rw [Nat.min_eq_right (by omega : v ≤ n + 1), Nat.min_eq_right (by omega : v ≤ n)]
    show TrI F v (n + 1) any0 s
    refine ⟨?_, ?_, ?_, fun x hx1 hx2 => h4 x hx1 (by omega)⟩
    · rw [ct']; exact h1
    · rw [ct', cm]; exact h2
    · rw [ct', cm]; exact h3
  | true =>
    have ct' : ctB F (n + 1) = ctB F n + 1 := by rw [ct, if_pos rfl]
    have c1 : 0 < ctB F (n + 1) := by omega
    have ht : true = (any0 || decide (0 < ctB F (n + 1))) := by rw [decide_eq_true c1, Bool.or_true]
    show TrI F v (n + 1) any0 (true, (if (s.2.2 (bj v (1 + n)) + 1) ≤ s.2.1 then s.2.1 else (s.2.2 (bj v (1 + n)) + 1)), upd s.2.2 (bj v (1 + n)) (s.2.2 (bj v (1 + n)) + 1))
    by_cases y : n < v
    · have e : bj v (1 + n) = v - n := by unfold bj; rw [if_neg (by omega)]; omega
      have m1 : min n v = n := Nat.min_eq_left (by omega)
      have m2 : min (n + 1) v = n + 1 := Nat.min_eq_left (by omega)
      rw [m1] at h2 h3
      rw [e, h4 (v - n) (by omega) (by omega)]
      refine ⟨ht, ?_, ?_, fun x hx1 hx2 => ?_⟩
      · show (if (0 + 1 : Int32) ≤ s.2.1 then s.2.1 else 0 + 1) = nI (max (ctB F (n + 1) - ctB F (min (n + 1) v)) (if 0 < ctB F (min (n + 1) v) then 1 else 0))
        rw [m2, if_pos c1, Nat.sub_self, h2, Nat.sub_self]
        by_cases w : 0 < ctB F n
        · rw [if_pos w]; decide
        · rw [if_neg w]; decide
      · show upd s.2.2 (v - n) (0 + 1) 0 = nI (ctB F (n + 1) - ctB F (min (n + 1) v))
        rw [m2, Nat.sub_self, pk_un (by omega), h3, Nat.sub_self]
      · show upd s.2.2 (v - n) (0 + 1) x = 0
        rw [pk_un (by omega)]; exact h4 x hx1 (by omega)
    · have e : bj v (1 + n) = 0 := by unfold bj; rw [if_pos (by omega)]
      have m1 : min n v = v := Nat.min_eq_right (by omega)
      have m2 : min (n + 1) v = v := Nat.min_eq_right (by omega)
      rw [m1] at h2 h3 hmono
      have ea : nI (ctB F n - ctB F v) + 1 = nI (ctB F n - ctB F v + 1) := nI_add _ 1
      have es : ctB F (n + 1) - ctB F v = ctB F n - ctB F v + 1 := by omega
      rw [e, h3, ea]
      refine ⟨ht, ?_, ?_, fun x hx1 hx2 => absurd hx2 (by omega)⟩
      · show (if nI (ctB F n - ctB F v + 1) ≤ s.2.1 then s.2.1 else nI (ctB F n - ctB F v + 1)) = nI (max (ctB F (n + 1) - ctB F (min (n + 1) v)) (if 0 < ctB F (min (n + 1) v) then 1 else 0))
        rw [m2, h2, es]
        have hc : (if 0 < ctB F v then 1 else 0) ≤ 1 := by split <;> omega
        have ha : ctB F n - ctB F v ≤ 60 := by omega
        revert hc ha
        generalize (if 0 < ctB F v then 1 else 0) = c
        generalize ctB F n - ctB F v = a
        intro hc ha
        by_cases w : a + 1 ≤ max a c
        · rw [if_pos ((c_le (nI_toInt (by omega)) (nI_toInt (by omega))).mpr w)]; congr 1; omega
        · rw [if_neg (fun q => w ((c_le (nI_toInt (by omega)) (nI_toInt (by omega))).mp q))]; congr 1; omega
      · show upd s.2.2 0 (nI (ctB F n - ctB F v + 1)) 0 = nI (ctB F (n + 1) - ctB F (min (n + 1) v))
        rw [pk_us, m2, es]
noncomputable def fB (wf : Nat → Int32) (cC k : Nat) : Bool := itr (st_X8_fits wf (nI (1 + k))) cC 0 true
theorem tr_in {wf : Nat → Int32} {v cC : Nat} (hv : v ≤ 60) (any0 : Bool) (al : Nat → Int32) : ∀ n, n ≤ 60 → TrI (fB wf cC) v n any0 (itr (st_X8_tries_in wf v cC) n 1 (any0, 0, (itr st_X8_tries_z 62 0 al)))
  | 0, _ => by
    have hz : ∀ x, x < 62 → itr st_X8_tries_z 62 0 al x = 0 := fun x hx => six_in (y := fun _ => 0) (fun _ _ => rfl) al 62 x hx
    rw [itr_0]
    refine ⟨?_, ?_, ?_, fun x _ hx => hz x (by omega)⟩
    · show any0 = (any0 || decide (0 < ctB (fB wf cC) 0)); rw [decide_eq_false (fun z : 0 < ctB (fB wf cC) 0 => absurd z (Nat.lt_irrefl 0)), Bool.or_false]
    · show (0 : Int32) = nI (max (0 - ctB (fB wf cC) (min 0 v)) (if 0 < ctB (fB wf cC) (min 0 v) then 1 else 0))
      rw [Nat.zero_min]; rfl
    · show itr st_X8_tries_z 62 0 al 0 = nI (0 - ctB (fB wf cC) (min 0 v))
      rw [hz 0 (by omega), Nat.zero_sub]; rfl
  | n + 1, hn => by
    rw [itr_snoc, tri_eq]
    exact tr_step (by omega) hv (tr_in hv any0 al n (by omega))
theorem tr_most {wf : Nat → Int32} {v cC : Nat} (hv : v ≤ 60) (any0 : Bool) (al : Nat → Int32) (hN : 0 < ctB (fB wf cC) 60) : (itr (st_X8_tries_in wf v cC) 60 1 (any0, 0, (itr st_X8_tries_z 62 0 al))).1 = true ∧ (itr (st_X8_tries_in wf v cC) 60 1 (any0, 0, (itr st_X8_tries_z 62 0 al))).2.1 = nI (max (ctB (fB wf cC) 60 - ctB (fB wf cC) v) 1) := by
  obtain ⟨h1, h2, -, -⟩ := tr_in (wf := wf) (cC := cC) hv any0 al 60 (by omega)
  refine ⟨by rw [h1, decide_eq_true hN, Bool.or_true], ?_⟩
  rw [h2, Nat.min_eq_right hv]
  congr 1
  have := ctB_mono (F := fB wf cC) 60 hv
  by_cases w : 0 < ctB (fB wf cC) v
  · rw [if_pos w]
  · rw [if_neg w]; omega
theorem ln_c {n : Int32} {a f : Nat → Int32} (h : RCm n a f) : ∀ k, itr (st_X0_linesThatFit n a n.toNatClampNeg) k 1 0 = nI (ctB (fB f n.toNatClampNeg) k)
  | 0 => by rw [itr_0]; rfl
  | k + 1 => by
    rw [itr_snoc, ln_c h k]
    unfold st_X0_linesThatFit; rw [fits_eq h]
    show (if fB f n.toNatClampNeg k = true then _ else _) = nI (ctB (fB f n.toNatClampNeg) k + (if fB f n.toNatClampNeg k = true then 1 else 0))
    by_cases z : fB f n.toNatClampNeg k = true
    · rw [if_pos z, if_pos z]; exact nI_add _ 1
    · rw [if_neg z, if_neg z]; rfl
def TrR (F : Nat → Bool) (N u : Nat) (s : Int32 × Int32 × Int32) (t : Int32 × Int32 × Bool × (Nat → Int32)) : Prop := ∃ f l : Nat, s.2.1 = t.1 ∧ s.2.2 = nI f ∧ t.2.1 = nI l ∧ 1 ≤ f ∧ (1 < f → s.1 = nI (N - ctB F (u - 1))) ∧ ((f = l ∧ f ≤ 60) ∨ (f = N + 1 ∧ l = 1000000))
theorem tries_eq {n : Int32} {a f : Nat → Int32} (h : RCm n a f) (al : Nat → Int32) : f_X0_nextLength n a n.toNatClampNeg = f_X8_tries f al n.toNatClampNeg := by
  unfold f_X0_nextLength f_X8_tries
  rw [ln_c h 60]
  have hN60 : ctB (fB f n.toNatClampNeg) 60 ≤ 60 := ctB_le 60
  by_cases hN : 0 < ctB (fB f n.toNatClampNeg) 60
  · have step : ∀ v, 1 ≤ v → v < 1 + 60 → ∀ (s : Int32 × Int32 × Int32) (t : Int32 × Int32 × Bool × (Nat → Int32)), TrR (fB f n.toNatClampNeg) (ctB (fB f n.toNatClampNeg) 60) v s t → TrR (fB f n.toNatClampNeg) (ctB (fB f n.toNatClampNeg) 60) (v + 1) (st_X0_nextLength n a n.toNatClampNeg v s) (st_X8_tries f n.toNatClampNeg v t) := by
      intro v hv1 hv2 s t hR
      obtain ⟨q, l, e1, e2, e3, e4, e5, e6⟩ := hR
      obtain ⟨k1, k2⟩ := tr_most (wf := f) (v := v) (cC := n.toNatClampNeg) (by omega) t.2.2.1 t.2.2.2 hN
      have hm := ctB_mono (F := fB f n.toNatClampNeg) 60 (by omega : v ≤ 60)
      have hs : ctB (fB f n.toNatClampNeg) v = ctB (fB f n.toNatClampNeg) (v - 1) + (if fB f n.toNatClampNeg (v - 1) = true then 1 else 0) := by
        have : ctB (fB f n.toNatClampNeg) (v - 1 + 1) = ctB (fB f n.toNatClampNeg) (v - 1) + (if fB f n.toNatClampNeg (v - 1) = true then 1 else 0) := rfl
        rwa [Nat.sub_add_cancel hv1] at this
      have hf : itr (st_X0_fits n a (nI v)) n.toNatClampNeg 0 true = fB f n.toNatClampNeg (v - 1) := by
        rw [fits_eq h]; unfold fB; rw [show 1 + (v - 1) = v by omega]
      have hM : max (ctB (fB f n.toNatClampNeg) 60 - ctB (fB f n.toNatClampNeg) v) 1 ≤ ctB (fB f n.toNatClampNeg) 60 := by omega
      unfold st_X0_nextLength st_X8_tries
      rw [hf, e2]
      simp only [k1, k2, e3, eq_self, if_true]
      revert hm hs hM hN hN60 e5 e6
      generalize ctB (fB f n.toNatClampNeg) 60 = N
      generalize hq1 : ctB (fB f n.toNatClampNeg) (v - 1) = Q
      generalize hvP : ctB (fB f n.toNatClampNeg) v = P
      intro hN60 hN e5 e6 hm hs hM
      by_cases y : q ≤ 1
      · have y1 : nI q ≤ (1 : Int32) := (nI_leI (a := q) (b := 1) (by omega) (by omega)).mpr y
        rw [if_pos y1]
        have hl : l = 1 ∧ q = 1 := by omega
        have w' := (nI_leI (a := l) (b := max (N - P) 1) (by omega) (by omega)).mpr (by omega)
        simp only [if_pos w']
        exact ⟨q, l, e1, e2, rfl, e4, fun w => absurd w (by omega), Or.inl (by omega)⟩
      · have y1 : ¬ nI q ≤ (1 : Int32) := fun w => y ((nI_leI (a := q) (b := 1) (by omega) (by omega)).mp w)
        rw [if_neg y1]
        have hb : (if fB f n.toNatClampNeg (v - 1) = true then (s.1 + (-1)) else s.1) = nI (N - P) := by
          rw [e5 (by omega)]
          by_cases w : fB f n.toNatClampNeg (v - 1) = true
          · rw [if_pos w] at hs
            rw [if_pos w, show N - Q = N - P + 1 by omega]; exact nI_m1 _
          · rw [if_neg w] at hs
            rw [if_neg w, show P = Q by omega]
        rw [hb]
        have hx : (if nI (N - P) < 1 then (1 : Int32) else nI (N - P)) = nI (max (N - P) 1) := by
          by_cases w : N - P < 1
          · have w1 : nI (N - P) < (1 : Int32) := (nI_ltI (a := N - P) (b := 1) (by omega) (by omega)).mpr w
            rw [if_pos w1, show max (N - P) 1 = 1 by omega]; rfl
          · have w1 : ¬ nI (N - P) < (1 : Int32) := fun w' => w ((nI_ltI (a := N - P) (b := 1) (by omega) (by omega)).mp w')
            rw [if_neg w1, show max (N - P) 1 = N - P by omega]
        rw [hx]
        rcases e6 with ⟨rfl, e6⟩ | ⟨rfl, rfl⟩
        · by_cases w : q ≤ max (N - P) 1
          · have w' := (nI_leI (a := q) (b := max (N - P) 1) (by omega) (by omega)).mpr w
            simp only [if_pos w']
            exact ⟨q, q, e1, rfl, rfl, e4, fun _ => by show nI (N - P) = nI (N - ctB (fB f n.toNatClampNeg) (v + 1 - 1)); rw [Nat.add_sub_cancel, hvP], Or.inl ⟨rfl, e6⟩⟩
          · have w' := mt (nI_leI (a := q) (b := max (N - P) 1) (by omega) (by omega)).mp w
            simp only [if_neg w']
            exact ⟨max (N - P) 1, max (N - P) 1, rfl, rfl, rfl, by omega, fun _ => by show nI (N - P) = nI (N - ctB (fB f n.toNatClampNeg) (v + 1 - 1)); rw [Nat.add_sub_cancel, hvP], Or.inl ⟨rfl, by omega⟩⟩
        · have w' := mt (nI_leI (a := N + 1) (b := max (N - P) 1) (by omega) (by omega)).mp (by omega)
          have w2 := mt (nI_leI (a := 1000000) (b := max (N - P) 1) (by omega) (by omega)).mp (by omega)
          simp only [if_neg w', if_neg w2]
          exact ⟨max (N - P) 1, max (N - P) 1, rfl, rfl, rfl, by omega, fun _ => by show nI (N - P) = nI (N - ctB (fB f n.toNatClampNeg) (v + 1 - 1)); rw [Nat.add_sub_cancel, hvP], Or.inl ⟨rfl, by omega⟩⟩
    obtain ⟨q, l, e, -⟩ := itr_rel (f := st_X0_nextLength n a n.toNatClampNeg) (g := st_X8_tries f n.toNatClampNeg) (TrR (fB f n.toNatClampNeg) (ctB (fB f n.toNatClampNeg) 60)) 60 1 (nI (ctB (fB f n.toNatClampNeg) 60), (-1), nI (ctB (fB f n.toNatClampNeg) 60) + 1) ((-1), 1000000, false, al) step ⟨ctB (fB f n.toNatClampNeg) 60 + 1, 1000000, rfl, nI_add _ 1, rfl, by omega, fun _ => rfl, Or.inr ⟨rfl, rfl⟩⟩
    exact e
  · have e0 : ctB (fB f n.toNatClampNeg) 60 = 0 := by omega
    rw [e0, itr_keep (f := st_X0_nextLength n a n.toNatClampNeg) 60 1 (fun v => if_pos (by decide))]
    refine ((itr_inv (f := st_X8_tries f n.toNatClampNeg) (fun t : Int32 × Int32 × Bool × (Nat → Int32) => t.1 = -1 ∧ t.2.2.1 = false) 60 1 ((-1), 1000000, false, al) (fun v _ hv t ht => ?_) ⟨rfl, rfl⟩).1).symm
    obtain ⟨k1, -, -, -⟩ := tr_in (wf := f) (v := v) (cC := n.toNatClampNeg) (by omega) t.2.2.1 t.2.2.2 60 (by omega)
    rw [e0, ht.2] at k1
    have k2 : (itr (st_X8_tries_in f v n.toNatClampNeg) 60 1 (t.2.2.1, 0, (itr st_X8_tries_z 62 0 t.2.2.2))).1 = false := by rw [ht.2, k1]; rfl
    unfold st_X8_tries
    simp only [k2]
    exact ⟨ht.1, trivial⟩
theorem eq_tries (x : XV) (h : PV) (d : PV) (o : PV) (p : PV) (t : TV) (w : WV) (g : GV) (e : EV) (m : MV) (hI : Inv x h o p t m) : (f_X0_nextLength h.nC h.fC h.nC.toNatClampNeg) = (f_X8_tries m.wf m.al h.nC.toNatClampNeg) ∧ Inv x h o p t (m.txd, m.abv, m.blw, m.atp, m.stp, m.nbr, m.bmy, m.hsh, m.wf, m.kp, m.tx, m.ss, m.ti, m.pp, m.hh, m.bb, (itr (st_X8_tries m.wf h.nC.toNatClampNeg) 60 1 ((-1), 1000000, false, m.al)).2.2.2, m.sx) := by
  obtain ⟨⟨i1, i2, i3, i4, i5, i6, i7⟩, ⟨t1, t2, t3, t4⟩, ⟨⟨l1, l2, l3, l4, l5, l6, l7, l8, l9⟩, ⟨w0, w1, w2, w3⟩, ⟨c0, c1, c2, c3⟩, ⟨n0, n1, n2, n3⟩, ⟨m0, m1, m2, m3⟩, ⟨u0, u1, u2, u3⟩⟩, o1, p1⟩ := id hI
  exact ⟨tries_eq hI.2.2.1.2.2.1 m.al, hI⟩
