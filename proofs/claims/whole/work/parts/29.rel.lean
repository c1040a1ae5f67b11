abbrev PV : Type := Int32 × Int32 × Int32 × Int32 × Int32 × Int32 × Int32 × Int32 × Int32 × Int32 × Int32 × Int32 × (Nat → Int32) × (Nat → Int32) × (Nat → Int32) × (Nat → Int32) × (Nat → Int32)
abbrev PV.ln (s : PV) : Int32 := s.1
abbrev PV.hb (s : PV) : Int32 := s.2.1
abbrev PV.ha (s : PV) : Int32 := s.2.2.1
abbrev PV.pu (s : PV) : Int32 := s.2.2.2.1
abbrev PV.hl (s : PV) : Int32 := s.2.2.2.2.1
abbrev PV.sm (s : PV) : Int32 := s.2.2.2.2.2.1
abbrev PV.hr (s : PV) : Int32 := s.2.2.2.2.2.2.1
abbrev PV.nS (s : PV) : Int32 := s.2.2.2.2.2.2.2.1
abbrev PV.nC (s : PV) : Int32 := s.2.2.2.2.2.2.2.2.1
abbrev PV.nN (s : PV) : Int32 := s.2.2.2.2.2.2.2.2.2.1
abbrev PV.nM (s : PV) : Int32 := s.2.2.2.2.2.2.2.2.2.2.1
abbrev PV.nU (s : PV) : Int32 := s.2.2.2.2.2.2.2.2.2.2.2.1
abbrev PV.fS (s : PV) : Nat → Int32 := s.2.2.2.2.2.2.2.2.2.2.2.2.1
abbrev PV.fC (s : PV) : Nat → Int32 := s.2.2.2.2.2.2.2.2.2.2.2.2.2.1
abbrev PV.fN (s : PV) : Nat → Int32 := s.2.2.2.2.2.2.2.2.2.2.2.2.2.2.1
abbrev PV.fM (s : PV) : Nat → Int32 := s.2.2.2.2.2.2.2.2.2.2.2.2.2.2.2.1
abbrev PV.fU (s : PV) : Nat → Int32 := s.2.2.2.2.2.2.2.2.2.2.2.2.2.2.2.2
abbrev PA : Type := Nat × Nat × Nat × Nat × Nat × Nat × Nat × Nat × Nat × Nat × Nat
abbrev PA.hP (s : PA) : Nat := s.1
abbrev PA.hS (s : PA) : Nat := s.2.1
abbrev PA.aS (s : PA) : Nat := s.2.2.1
abbrev PA.hC (s : PA) : Nat := s.2.2.2.1
abbrev PA.aC (s : PA) : Nat := s.2.2.2.2.1
abbrev PA.hN (s : PA) : Nat := s.2.2.2.2.2.1
abbrev PA.aN (s : PA) : Nat := s.2.2.2.2.2.2.1
abbrev PA.hM (s : PA) : Nat := s.2.2.2.2.2.2.2.1
abbrev PA.aM (s : PA) : Nat := s.2.2.2.2.2.2.2.2.1
abbrev PA.hU (s : PA) : Nat := s.2.2.2.2.2.2.2.2.2.1
abbrev PA.aU (s : PA) : Nat := s.2.2.2.2.2.2.2.2.2.2
abbrev AX : Type := Nat × Nat × Nat × Nat × Nat × Nat × Nat × Nat × Nat × Nat × Nat × Nat × Nat × Nat × Nat × Nat × Nat × Nat × Nat × Nat × Nat × Nat × Nat
abbrev AX.hX (s : AX) : Nat := s.1
abbrev AX.hE (s : AX) : Nat := s.2.1
abbrev AX.aE (s : AX) : Nat := s.2.2.1
abbrev AX.hW (s : AX) : Nat := s.2.2.2.1
abbrev AX.aW (s : AX) : Nat := s.2.2.2.2.1
abbrev AX.aQ (s : AX) : Nat := s.2.2.2.2.2.1
abbrev AX.aR (s : AX) : Nat := s.2.2.2.2.2.2.1
abbrev AX.hG (s : AX) : Nat := s.2.2.2.2.2.2.2.1
abbrev AX.aG (s : AX) : Nat := s.2.2.2.2.2.2.2.2.1
abbrev AX.hT (s : AX) : Nat := s.2.2.2.2.2.2.2.2.2.1
abbrev AX.aB (s : AX) : Nat := s.2.2.2.2.2.2.2.2.2.2.1
abbrev AX.aA (s : AX) : Nat := s.2.2.2.2.2.2.2.2.2.2.2.1
abbrev AX.qm (s : AX) : Nat := s.2.2.2.2.2.2.2.2.2.2.2.2.1
abbrev AX.qw (s : AX) : Nat := s.2.2.2.2.2.2.2.2.2.2.2.2.2.1
abbrev AX.qk (s : AX) : Nat := s.2.2.2.2.2.2.2.2.2.2.2.2.2.2.1
abbrev AX.qt (s : AX) : Nat := s.2.2.2.2.2.2.2.2.2.2.2.2.2.2.2.1
abbrev AX.qs (s : AX) : Nat := s.2.2.2.2.2.2.2.2.2.2.2.2.2.2.2.2.1
abbrev AX.qi (s : AX) : Nat := s.2.2.2.2.2.2.2.2.2.2.2.2.2.2.2.2.2.1
abbrev AX.qp (s : AX) : Nat := s.2.2.2.2.2.2.2.2.2.2.2.2.2.2.2.2.2.2.1
abbrev AX.qh (s : AX) : Nat := s.2.2.2.2.2.2.2.2.2.2.2.2.2.2.2.2.2.2.2.1
abbrev AX.qb (s : AX) : Nat := s.2.2.2.2.2.2.2.2.2.2.2.2.2.2.2.2.2.2.2.2.1
abbrev AX.qa (s : AX) : Nat := s.2.2.2.2.2.2.2.2.2.2.2.2.2.2.2.2.2.2.2.2.2.1
abbrev AX.q6 (s : AX) : Nat := s.2.2.2.2.2.2.2.2.2.2.2.2.2.2.2.2.2.2.2.2.2.2
abbrev XV : Type := Int32 × Int32 × Int64 × Int64 × Int32 × Int32 × Int32
abbrev XV.k0 (s : XV) : Int32 := s.1
abbrev XV.k1 (s : XV) : Int32 := s.2.1
abbrev XV.abv (s : XV) : Int64 := s.2.2.1
abbrev XV.blw (s : XV) : Int64 := s.2.2.2.1
abbrev XV.rb (s : XV) : Int32 := s.2.2.2.2.1
abbrev XV.rn (s : XV) : Int32 := s.2.2.2.2.2.1
abbrev XV.rf (s : XV) : Int32 := s.2.2.2.2.2.2
abbrev TV : Type := Int32 × Int32 × Int32 × Int32 × Int32 × (Nat → Int32)
abbrev TV.tl (s : TV) : Int32 := s.1
abbrev TV.ts (s : TV) : Int32 := s.2.1
abbrev TV.tn (s : TV) : Int32 := s.2.2.1
abbrev TV.tk (s : TV) : Int32 := s.2.2.2.1
abbrev TV.tm (s : TV) : Int32 := s.2.2.2.2.1
abbrev TV.by_ (s : TV) : Nat → Int32 := s.2.2.2.2.2
abbrev WV : Type := Int32 × Int32 × (Nat → Int32) × (Nat → Int32) × (Nat → Int32)
abbrev WV.bl (s : WV) : Int32 := s.1
abbrev WV.bh (s : WV) : Int32 := s.2.1
abbrev WV.cst (s : WV) : Nat → Int32 := s.2.2.1
abbrev WV.pt (s : WV) : Nat → Int32 := s.2.2.2.1
abbrev WV.bs (s : WV) : Nat → Int32 := s.2.2.2.2
abbrev GV : Type := Int32 × (Nat → Int32)
abbrev GV.av (s : GV) : Int32 := s.1
abbrev GV.an (s : GV) : Nat → Int32 := s.2
abbrev EV : Type := (Nat → Int32) × (Nat → Int32)
abbrev EV.tb (s : EV) : Nat → Int32 := s.1
abbrev EV.ta (s : EV) : Nat → Int32 := s.2
abbrev MV : Type := Int32 × Int64 × Int64 × Int32 × Int32 × Int32 × Int32 × Int64 × (Nat → Int32) × (Nat → Int32) × (Nat → Int32) × (Nat → Int32) × (Nat → Int32) × (Nat → Int32) × (Nat → Int32) × (Nat → Int32) × (Nat → Int32) × (Nat → Int32)
abbrev MV.txd (s : MV) : Int32 := s.1
abbrev MV.abv (s : MV) : Int64 := s.2.1
abbrev MV.blw (s : MV) : Int64 := s.2.2.1
abbrev MV.atp (s : MV) : Int32 := s.2.2.2.1
abbrev MV.stp (s : MV) : Int32 := s.2.2.2.2.1
abbrev MV.nbr (s : MV) : Int32 := s.2.2.2.2.2.1
abbrev MV.bmy (s : MV) : Int32 := s.2.2.2.2.2.2.1
abbrev MV.hsh (s : MV) : Int64 := s.2.2.2.2.2.2.2.1
abbrev MV.wf (s : MV) : Nat → Int32 := s.2.2.2.2.2.2.2.2.1
abbrev MV.kp (s : MV) : Nat → Int32 := s.2.2.2.2.2.2.2.2.2.1
abbrev MV.tx (s : MV) : Nat → Int32 := s.2.2.2.2.2.2.2.2.2.2.1
abbrev MV.ss (s : MV) : Nat → Int32 := s.2.2.2.2.2.2.2.2.2.2.2.1
abbrev MV.ti (s : MV) : Nat → Int32 := s.2.2.2.2.2.2.2.2.2.2.2.2.1
abbrev MV.pp (s : MV) : Nat → Int32 := s.2.2.2.2.2.2.2.2.2.2.2.2.2.1
abbrev MV.hh (s : MV) : Nat → Int32 := s.2.2.2.2.2.2.2.2.2.2.2.2.2.2.1
abbrev MV.bb (s : MV) : Nat → Int32 := s.2.2.2.2.2.2.2.2.2.2.2.2.2.2.2.1
abbrev MV.al (s : MV) : Nat → Int32 := s.2.2.2.2.2.2.2.2.2.2.2.2.2.2.2.2.1
abbrev MV.sx (s : MV) : Nat → Int32 := s.2.2.2.2.2.2.2.2.2.2.2.2.2.2.2.2.2
/-- a province and its rows -/
def pvW (K : vv_K) (a : PA) (v : PV) : va_W := [(a.hP, .inr (1, [.int v.ln, .int v.hb, .int v.ha, .int v.pu, .int v.hl, .int v.sm, .int v.hr, .ref a.hS, .ref a.hC, .ref a.hN, .ref a.hM, .ref a.hU])), (a.hS, .inr (2, [.ref a.aS, .int 5, .int v.nS])), (a.aS, .inl (K.2.1.1, 32, .inl v.fS)), (a.hC, .inr (2, [.ref a.aC, .int 6, .int v.nC])), (a.aC, .inl (K.2.1.1, 32, .inl v.fC)), (a.hN, .inr (2, [.ref a.aN, .int 6, .int v.nN])), (a.aN, .inl (K.2.1.1, 32, .inl v.fN)), (a.hM, .inr (2, [.ref a.aM, .int 6, .int v.nM])), (a.aM, .inl (K.2.1.1, 32, .inl v.fM)), (a.hU, .inr (2, [.ref a.aU, .int 8, .int v.nU])), (a.aU, .inl (K.2.1.1, 32, .inl v.fU))]
def rsW (K : vv_K) (A : AX) (t : TV) (w : WV) (g : GV) (e : EV) (m : MV) : va_W := [(A.hE, .inr (4, [.ref A.aE, .int t.tl, .int t.ts, .int t.tn, .int t.tk, .int t.tm])), (A.aE, .inl (K.2.1.2.1, 150, .inl t.by_)), (A.hW, .inr (3, [.ref A.aW, .ref A.aQ, .ref A.aR, .int w.bl, .int w.bh])), (A.aW, .inl (K.2.1.1, 25, .inl w.cst)), (A.aQ, .inl (K.2.1.1, 5, .inl w.pt)), (A.aR, .inl (K.2.1.1, 5, .inl w.bs)), (A.hG, .inr (0, [.ref A.aG, .int g.av])), (A.aG, .inl (K.2.1.1, 6, .inl g.an)), (A.hT, .inr (5, [.ref A.aB, .ref A.aA])), (A.aB, .inl (K.2.1.1, 36, .inl e.tb)), (A.aA, .inl (K.2.1.1, 36, .inl e.ta)), (A.qm, .inr (7, [.ref A.qw, .ref A.qk, .ref A.qt, .int m.txd, .long m.abv, .long m.blw, .ref A.qs, .int m.atp, .int m.stp, .int m.nbr, .ref A.qi, .ref A.qp, .ref A.qh, .ref A.qb, .int m.bmy, .ref A.qa, .ref A.q6, .long m.hsh])), (A.qw, .inl (K.2.1.1, 456, .inl m.wf)), (A.qk, .inl (K.2.1.2.2, 2, .inl m.kp)), (A.qt, .inl (K.2.1.1, 150, .inl m.tx)), (A.qs, .inl (K.2.1.1, 3, .inl m.ss)), (A.qi, .inl (K.2.1.1, 6, .inl m.ti)), (A.qp, .inl (K.2.1.1, 6, .inl m.pp)), (A.qh, .inl (K.2.1.1, 6, .inl m.hh)), (A.qb, .inl (K.2.1.1, 5, .inl m.bb)), (A.qa, .inl (K.2.1.1, 62, .inl m.al)), (A.q6, .inl (K.2.1.1, 6, .inl m.sx))]
def wld (K : vv_K) (A : AX) (ah ad ao ap : PA) (x : XV) (h d o p : PV) (t : TV) (w : WV) (g : GV) (e : EV) (m : MV) : va_W := (A.hX, .inr (6, [.ref ah.hP, .ref ad.hP, .ref ao.hP, .ref ap.hP, .int x.k0, .int x.k1, .ref A.hE, .ref A.hW, .ref A.hG, .ref A.hT, .long x.abv, .long x.blw, .int x.rb, .int x.rn, .int x.rf])) :: (pvW K ah h ++ (pvW K ad d ++ (pvW K ao o ++ (pvW K ap p ++ rsW K A t w g e m))))
/-- what a province of the class and a region of the reference's row have in common -/
def RSc (ln hb ha pu hl sm hr : Int32) (f : Nat → Int32) : Prop := ln = f 11 ∧ hb = f 12 ∧ ha = f 13 ∧ pu = f 14 ∧ hl = f 15 ∧ sm = f 16 ∧ hr = f 17 ∧ 1 ≤ ln.toInt ∧ ln.toInt ≤ 60
def RSt (n : Int32) (a f : Nat → Int32) : Prop := n = f 0 ∧ n.toInt = (n.toNatClampNeg : Int) ∧ n.toNatClampNeg ≤ 5 ∧ ∀ i, i < n.toNatClampNeg → a (4 * i + 0) = f (1 + i) ∧ a (4 * i + 1) = f (6 + i) ∧ 1 ≤ (f (6 + i)).toInt ∧ (f (6 + i)).toInt ≤ 60
def RCm (n : Int32) (a f : Nat → Int32) : Prop := n = f 18 ∧ n.toInt = (n.toNatClampNeg : Int) ∧ n.toNatClampNeg ≤ 6 ∧ ∀ i, i < n.toNatClampNeg → a (4 * i + 0) = f (19 + 2 * i) ∧ a (4 * i + 1) = f (20 + 2 * i)
def RNt (n : Int32) (a f : Nat → Int32) : Prop := n = f 31 ∧ n.toInt = (n.toNatClampNeg : Int) ∧ n.toNatClampNeg ≤ 6 ∧ ∀ i, i < n.toNatClampNeg → a (4 * i + 0) = f (32 + 4 * i) ∧ a (4 * i + 1) = f (33 + 4 * i) ∧ a (4 * i + 2) = f (34 + 4 * i) ∧ a (4 * i + 3) = f (35 + 4 * i) ∧ 0 ≤ (f (34 + 4 * i)).toInt ∧ (f (34 + 4 * i)).toInt ≤ 23
def RMk (n : Int32) (a f : Nat → Int32) : Prop := n = f 56 ∧ n.toInt = (n.toNatClampNeg : Int) ∧ n.toNatClampNeg ≤ 6 ∧ ∀ i, i < n.toNatClampNeg → a (4 * i + 0) = f (57 + 4 * i) ∧ a (4 * i + 1) = f (58 + 4 * i) ∧ a (4 * i + 2) = f (59 + 4 * i) ∧ a (4 * i + 3) = f (60 + 4 * i)
def RUn (n : Int32) (a f : Nat → Int32) : Prop := n = f 81 ∧ n.toInt = (n.toNatClampNeg : Int) ∧ n.toNatClampNeg ≤ 8 ∧ ∀ i, i < n.toNatClampNeg → a (4 * i + 0) = f (82 + 4 * i) ∧ a (4 * i + 1) = f (83 + 4 * i) ∧ a (4 * i + 2) = f (84 + 4 * i) ∧ a (4 * i + 3) = f (85 + 4 * i)
theorem RSc.cg {ln hb ha pu hl sm hr : Int32} {f g : Nat → Int32} (h : RSc ln hb ha pu hl sm hr f) (e : ∀ i, 11 ≤ i → i < 18 → g i = f i) : RSc ln hb ha pu hl sm hr g := by
  obtain ⟨h1, h2, h3, h4, h5, h6, h7, h8, h9⟩ := h
  exact ⟨h1.trans (e 11 (by omega) (by omega)).symm, h2.trans (e 12 (by omega) (by omega)).symm, h3.trans (e 13 (by omega) (by omega)).symm, h4.trans (e 14 (by omega) (by omega)).symm, h5.trans (e 15 (by omega) (by omega)).symm, h6.trans (e 16 (by omega) (by omega)).symm, h7.trans (e 17 (by omega) (by omega)).symm, h8, h9⟩
theorem RSt.cg {n : Int32} {a f g : Nat → Int32} (h : RSt n a f) (e : ∀ i, i < 11 → g i = f i) : RSt n a g := by
  obtain ⟨h1, h2, h3, h4⟩ := h
  refine ⟨h1.trans (e 0 (by omega)).symm, h2, h3, fun i hi => ?_⟩
  rw [e (1 + i) (by omega), e (6 + i) (by omega)]; exact h4 i hi
theorem RCm.cg {n : Int32} {a f g : Nat → Int32} (h : RCm n a f) (e : ∀ i, 18 ≤ i → i < 31 → g i = f i) : RCm n a g := by
  obtain ⟨h1, h2, h3, h4⟩ := h
  refine ⟨h1.trans (e 18 (by omega) (by omega)).symm, h2, h3, fun i hi => ?_⟩
  rw [e (19 + 2 * i) (by omega) (by omega), e (20 + 2 * i) (by omega) (by omega)]; exact h4 i hi
theorem RNt.cg {n : Int32} {a f g : Nat → Int32} (h : RNt n a f) (e : ∀ i, 31 ≤ i → i < 56 → g i = f i) : RNt n a g := by
  obtain ⟨h1, h2, h3, h4⟩ := h
  refine ⟨h1.trans (e 31 (by omega) (by omega)).symm, h2, h3, fun i hi => ?_⟩
  rw [e (32 + 4 * i) (by omega) (by omega), e (33 + 4 * i) (by omega) (by omega), e (34 + 4 * i) (by omega) (by omega), e (35 + 4 * i) (by omega) (by omega)]; exact h4 i hi
theorem RMk.cg {n : Int32} {a f g : Nat → Int32} (h : RMk n a f) (e : ∀ i, 56 ≤ i → i < 81 → g i = f i) : RMk n a g := by
  obtain ⟨h1, h2, h3, h4⟩ := h
  refine ⟨h1.trans (e 56 (by omega) (by omega)).symm, h2, h3, fun i hi => ?_⟩
  rw [e (57 + 4 * i) (by omega) (by omega), e (58 + 4 * i) (by omega) (by omega), e (59 + 4 * i) (by omega) (by omega), e (60 + 4 * i) (by omega) (by omega)]; exact h4 i hi
theorem RUn.cg {n : Int32} {a f g : Nat → Int32} (h : RUn n a f) (e : ∀ i, 81 ≤ i → i < 114 → g i = f i) : RUn n a g := by
  obtain ⟨h1, h2, h3, h4⟩ := h
  refine ⟨h1.trans (e 81 (by omega) (by omega)).symm, h2, h3, fun i hi => ?_⟩
  rw [e (82 + 4 * i) (by omega) (by omega), e (83 + 4 * i) (by omega) (by omega), e (84 + 4 * i) (by omega) (by omega), e (85 + 4 * i) (by omega) (by omega)]; exact h4 i hi
theorem RSt.zero {a f : Nat → Int32} (h : f 0 = 0) : RSt 0 a f := ⟨h.symm, rfl, by decide, fun i hi => absurd hi (Nat.not_lt_zero i)⟩
theorem RCm.zero {a f : Nat → Int32} (h : f 18 = 0) : RCm 0 a f := ⟨h.symm, rfl, by decide, fun i hi => absurd hi (Nat.not_lt_zero i)⟩
theorem RNt.zero {a f : Nat → Int32} (h : f 31 = 0) : RNt 0 a f := ⟨h.symm, rfl, by decide, fun i hi => absurd hi (Nat.not_lt_zero i)⟩
theorem RMk.zero {a f : Nat → Int32} (h : f 56 = 0) : RMk 0 a f := ⟨h.symm, rfl, by decide, fun i hi => absurd hi (Nat.not_lt_zero i)⟩
theorem RUn.zero {a f : Nat → Int32} (h : f 81 = 0) : RUn 0 a f := ⟨h.symm, rfl, by decide, fun i hi => absurd hi (Nat.not_lt_zero i)⟩
def RP (v : PV) (f : Nat → Int32) : Prop := RSc v.ln v.hb v.ha v.pu v.hl v.sm v.hr f ∧ RSt v.nS v.fS f ∧ RCm v.nC v.fC f ∧ RNt v.nN v.fN f ∧ RMk v.nM v.fM f ∧ RUn v.nU v.fU f
theorem RP.cg {v : PV} {f g : Nat → Int32} (h : RP v f) (e : ∀ i, i < 114 → g i = f i) : RP v g :=
  ⟨h.1.cg fun i _ hi => e i (by omega), h.2.1.cg fun i hi => e i (by omega), h.2.2.1.cg fun i _ hi => e i (by omega), h.2.2.2.1.cg fun i _ hi => e i (by omega), h.2.2.2.2.1.cg fun i _ hi => e i (by omega), h.2.2.2.2.2.cg fun i _ hi => e i (by omega)⟩
def IX (x : XV) (m : MV) : Prop := x.abv = m.abv ∧ x.blw = m.blw ∧ x.rb = m.ss 0 ∧ x.rn = m.ss 1 ∧ x.rf = m.ss 2 ∧ x.k0 = m.kp 0 ∧ x.k1 = m.kp 1
def IT (t : TV) (m : MV) : Prop := t.tl = m.txd ∧ t.tl.toInt = (t.tl.toNatClampNeg : Int) ∧ t.tl.toNatClampNeg ≤ 150 ∧ ∀ i, i < t.tl.toNatClampNeg → t.by_ i = m.tx i ∧ 0 ≤ (m.tx i).toInt ∧ (m.tx i).toInt ≤ 127
def Inv (x : XV) (h o p : PV) (t : TV) (m : MV) : Prop := IX x m ∧ IT t m ∧ RP h m.wf ∧ (¬ x.k0 = 0 → RP o (fun i => m.wf (114 + i))) ∧ (¬ x.k1 = 0 → RP p (fun i => m.wf (228 + i)))
/-- the worlds that belong together -/
def vI (K : vv_K) (hx hm : Nat) (ws : va_W) : Prop := ∃ (A : AX) (ah ad ao ap : PA) (x : XV) (h d o p : PV) (t : TV) (w : WV) (g : GV) (e : EV) (m : MV), hx = A.hX ∧ hm = A.qm ∧ ws = wld K A ah ad ao ap x h d o p t w g e m ∧ Inv x h o p t m
theorem inv_cnt {x : XV} {h o p : PV} {t : TV} {m : MV} (hI : Inv x h o p t m) : h.nS.toInt = (h.nS.toNatClampNeg : Int) ∧ h.nC.toInt = (h.nC.toNatClampNeg : Int) ∧ h.nN.toInt = (h.nN.toNatClampNeg : Int) ∧ h.nM.toInt = (h.nM.toNatClampNeg : Int) ∧ h.nU.toInt = (h.nU.toNatClampNeg : Int) ∧ h.nS.toNatClampNeg ≤ 5 ∧ h.nC.toNatClampNeg ≤ 6 ∧ h.nN.toNatClampNeg ≤ 6 ∧ h.nM.toNatClampNeg ≤ 6 ∧ h.nU.toNatClampNeg ≤ 8 ∧ (m.wf 0).toInt = (h.nS.toNatClampNeg : Int) ∧ (m.wf 18).toInt = (h.nC.toNatClampNeg : Int) ∧ (m.wf 31).toInt = (h.nN.toNatClampNeg : Int) ∧ (m.wf 56).toInt = (h.nM.toNatClampNeg : Int) ∧ (m.wf 81).toInt = (h.nU.toNatClampNeg : Int) ∧ t.tl.toInt = (t.tl.toNatClampNeg : Int) ∧ t.tl.toNatClampNeg ≤ 150 ∧ m.txd.toInt = (t.tl.toNatClampNeg : Int) := by
  obtain ⟨-, ⟨t1, t2, t3, -⟩, ⟨-, ⟨b1, c1, d1, -⟩, ⟨b2, c2, d2, -⟩, ⟨b3, c3, d3, -⟩, ⟨b4, c4, d4, -⟩, ⟨b5, c5, d5, -⟩⟩, -⟩ := hI
  exact ⟨c1, c2, c3, c4, c5, d1, d2, d3, d4, d5, b1 ▸ c1, b2 ▸ c2, b3 ▸ c3, b4 ▸ c4, b5 ▸ c5, t2, t3, t1 ▸ t2⟩
theorem inv_wf {x : XV} {h h' o p : PV} {t : TV} {m : MV} {f : Nat → Int32} (hI : Inv x h o p t m) (hr : RP h' f) (hs : ∀ i, 114 ≤ i → f i = m.wf i) : Inv x h' o p t (m.txd, m.abv, m.blw, m.atp, m.stp, m.nbr, m.bmy, m.hsh, f, m.kp, m.tx, m.ss, m.ti, m.pp, m.hh, m.bb, m.al, m.sx) := by
  obtain ⟨a, b, -, c, d⟩ := hI
  exact ⟨a, b, hr, fun hk => (c hk).cg fun i _ => hs _ (by omega), fun hk => (d hk).cg fun i _ => hs _ (by omega)⟩
/-! refusals, conditions -/
theorem in_wi (v lo hi : Int32) : p_X8_in v.toInt64 lo.toInt64 hi.toInt64 ↔ p_X7_within v lo hi := by
  show (¬ v.toInt64 < lo.toInt64 ∧ ¬ hi.toInt64 < v.toInt64) ↔ (¬ v < lo ∧ ¬ hi < v)
  rw [Int64.lt_iff_toInt_lt, Int64.lt_iff_toInt_lt, Int32.lt_iff_toInt_lt, Int32.lt_iff_toInt_lt, Int32.toInt_toInt64, Int32.toInt_toInt64, Int32.toInt_toInt64]
theorem inv_bad {x : XV} {h o p : PV} {t : TV} {m : MV} (hI : Inv x h o p t m) : Inv (x.k0, x.k1, x.abv, x.blw, x.rb + 1, x.rn, x.rf) h o p t (m.txd, m.abv, m.blw, m.atp, m.stp, m.nbr, m.bmy, m.hsh, m.wf, m.kp, m.tx, upd m.ss 0 (m.ss 0 + 1), m.ti, m.pp, m.hh, m.bb, m.al, m.sx) := by
  obtain ⟨⟨a1, a2, a3, a4, a5, a6, a7⟩, b⟩ := hI
  refine ⟨⟨a1, a2, ?_, ?_, ?_, a6, a7⟩, b⟩
  · show x.rb + 1 = upd m.ss 0 (m.ss 0 + 1) 0; rw [pk_us, a3]
  · show x.rn = upd m.ss 0 (m.ss 0 + 1) 1; rw [pk_un (by decide)]; exact a4
  · show x.rf = upd m.ss 0 (m.ss 0 + 1) 2; rw [pk_un (by decide)]; exact a5
theorem inv_no {x : XV} {h o p : PV} {t : TV} {m : MV} (hI : Inv x h o p t m) : Inv (x.k0, x.k1, x.abv, x.blw, x.rb, x.rn + 1, x.rf) h o p t (m.txd, m.abv, m.blw, m.atp, m.stp, m.nbr, m.bmy, m.hsh, m.wf, m.kp, m.tx, upd m.ss 1 (m.ss 1 + 1), m.ti, m.pp, m.hh, m.bb, m.al, m.sx) := by
  obtain ⟨⟨a1, a2, a3, a4, a5, a6, a7⟩, b⟩ := hI
  refine ⟨⟨a1, a2, ?_, ?_, ?_, a6, a7⟩, b⟩
  · show x.rb = upd m.ss 1 (m.ss 1 + 1) 0; rw [pk_un (by decide)]; exact a3
  · show x.rn + 1 = upd m.ss 1 (m.ss 1 + 1) 1; rw [pk_us, a4]
  · show x.rf = upd m.ss 1 (m.ss 1 + 1) 2; rw [pk_un (by decide)]; exact a5
theorem inv_full {x : XV} {h o p : PV} {t : TV} {m : MV} (hI : Inv x h o p t m) : Inv (x.k0, x.k1, x.abv, x.blw, x.rb, x.rn, x.rf + 1) h o p t (m.txd, m.abv, m.blw, m.atp, m.stp, m.nbr, m.bmy, m.hsh, m.wf, m.kp, m.tx, upd m.ss 2 (m.ss 2 + 1), m.ti, m.pp, m.hh, m.bb, m.al, m.sx) := by
  obtain ⟨⟨a1, a2, a3, a4, a5, a6, a7⟩, b⟩ := hI
  refine ⟨⟨a1, a2, ?_, ?_, ?_, a6, a7⟩, b⟩
  · show x.rb = upd m.ss 2 (m.ss 2 + 1) 0; rw [pk_un (by decide)]; exact a3
  · show x.rn = upd m.ss 2 (m.ss 2 + 1) 1; rw [pk_un (by decide)]; exact a4
  · show x.rf + 1 = upd m.ss 2 (m.ss 2 + 1) 2; rw [pk_us, a5]
