/-! THE CLAIM OUT OF ONE WALK OF THE LAW'S BODY. Your part is whole_start (and what it stands on); all else here is the same for every law, but numbers. -/
def R_law : String := "StringTollLaw"
def lw_P (b : Addr) (xs : List Int32) (args : Array Value) (s : State) : Prop := args = #[.ref b] ∧ s.IntsAt b xs ∧ xs.length ≤ 320 ∧ (Jvm.Cond.and given_1 narrow_1).before args s = true
def lw_Q (_ : Array Value) (s : State) (o : Outcome) (t : State) : Prop := o = .returned (some (.int 1)) ∧ Framed s o t [] 600000 7302250
def lw_Z (below : List Frame) (a : Array Value) (s : State) : State → Prop := fun t => ∃ o, t.status = .running ∧ Ended t below o ∧ lw_Q a s o t
/-- the law's own end, with 1 on the stack, nothing written that was there before, its room as the claim has it -/
theorem lw_ret {p : Program} {l : Launch} {e : Env} {s : State} {m : MethodId} {below : List Frame} {meth : Method} {c : Code} {b : Nat} (hx : p.tables.exec = Jvm.exec) (hb : c.code = code) (hr : meth.sig.returnType = ret) (hlocks : meth.locks = false) {pc : Nat} {H : Heap} {ls : Array Slot} (hdg : decode code pc = .ok (.ireturn, 1)) : W p l e room_1 s m #[Value.ref b] below meth c H [] 600000 7302250 (lw_Z below #[Value.ref b] s) (F0 m pc ls [.int 1]) := by
  intro T hT X
  obtain ⟨fs, hret, hrun, hended, hW, hframe⟩ := X.leave (v := some (.int 1)) (hlocks := hlocks) (fun h => by rw [hr] at h; cases h)
  have hmeth' : T.vm.method? m = some meth := X.method'
  refine ⟨T.setFrames fs, ?_, .returned (some (.int 1)), hrun, hended, rfl, ⟨_, rfl⟩, hW, hframe⟩
  jvm_step X.here [X.here.top, hx, hb, hdg, hmeth', hr, ret, narrow_b1]
  (try refine ⟨rfl, ?_⟩); (try refine ⟨rfl, ?_⟩)
  first | (intro acts; rw [hret _ acts rfl rfl rfl]) | rw [hret _ _ rfl rfl rfl]
  exact Steps.refl _
/-- what holds at the law's entry: the machine, the code, the tables' words (any of lw_tbl by 'hts w (by decide +kernel)'), the script of L ints xs at the cell b, what the Statement gives of the start (any of its parts by flat_of_before) -/
def lw_At (p : Program) (s : State) (m : MethodId) (meth : Method) (c : Code) (b L : Nat) (xs : Nat → Int32) : Prop :=
  p.tables.exec = Jvm.exec ∧ c.code = code ∧ meth.sig.returnType = ret ∧ c.maxLocals = 4 ∧ s.vm.findClass R_law = some m.cls ∧ (∀ w ∈ lw_tbl, w.before #[Value.ref b] s = true) ∧ va_X b L xs s s.heap ∧ b < s.heap.size ∧ meth.locks = false ∧ (Jvm.Cond.and given_1 narrow_1).before #[Value.ref b] s = true

/-! the law's loop -/
/-- a world in some order -/
def vv_J (I : va_W → Prop) (ws : va_W) : Prop := ∃ ws0 : va_W, ws0.Perm ws ∧ I ws0
theorem vv_perm {x : vv_X} {nL pc : Nat} {lv : List (Nat × Value)} {st : List Value} {ws ws' : va_W} (h : ws'.Perm ws) (k : vv_V x nL pc lv st ws') : vv_V x nL pc lv st ws := by
  obtain ⟨p, l, e, R, s, m, args, below, meth, c, K, A, Q, nc, ns⟩ := x
  intro H locs ls h1 h2 h3 h4
  have hm : ∀ (k : Nat) (q : Nat × va_E), ws'[k]? = some q → ∃ j : Nat, ws[j]? = some q := fun k q hq => List.mem_iff_getElem?.mp (h.mem_iff.mp (List.mem_of_getElem? hq))
  refine k H locs ls (fun k q hq => ?_) ⟨fun i j a b hi hj hab => ?_, fun k q hq => ?_⟩ h3 h4
  · obtain ⟨j, hj⟩ := hm k q hq
    exact h1 j q hj
  · have hp : ws.Pairwise (fun a b => a.1 ≠ b.1) := List.pairwise_iff_getElem.mpr fun i j hi hj hij z => by
      have := h2.1 i j ws[i] ws[j] (List.getElem?_eq_getElem hi) (List.getElem?_eq_getElem hj) z
      omega
    have hp2 : ws'.Pairwise (fun a b => a.1 ≠ b.1) := (h.pairwise_iff (fun z w => z w.symm)).mpr hp
    have hp3 := List.pairwise_iff_getElem.mp hp2
    obtain ⟨hi1, hi2⟩ := List.getElem?_eq_some_iff.mp hi
    obtain ⟨hj1, hj2⟩ := List.getElem?_eq_some_iff.mp hj
    rcases Nat.lt_trichotomy i j with z | z | z
    · exact absurd (by rw [hi2, hj2]; exact hab) (hp3 i j hi1 hj1 z)
    · exact z
    · exact absurd (by rw [hi2, hj2]; exact hab.symm) (hp3 j i hj1 hi1 z)
  · obtain ⟨j, hj⟩ := hm k q hq
    exact h2.2 j q hj
/-- one pair of calls, the class's and the reference's: from every world with I they answer alike, and I holds again -/
def simI (l : Launch) (K : vv_K) (I : va_W → Prop) (hx hm : Nat) (yx : MethodName) (cx : ByteArray) (nx : Nat) (ym : MethodName) (cm : ByteArray) (nm : Nat) (As : List Value) : Prop := ∀ ws : va_W, I ws → ∃ (r : Int32) (d1 d2 q1 q2 : Nat) (f1 f2 : List Value) (i1 i2 : List Nat) (w1 w1' w2 w2' : va_W), d1 ≤ 50 ∧ d2 ≤ 50 ∧
  vv_C l K d1 yx cx nx (some .int) (.ref hx :: As) w1 (some (.int r)) w1' ∧ i1.map (fun i => ws[i]?) = w1.map some ∧ va_nd i1 = true ∧ w1'.map Prod.fst = w1.map Prod.fst ∧ ws[q1]? = some (hx, .inr (6, f1)) ∧
  vv_C l K d2 ym cm nm (some .int) (.ref hm :: As) w2 (some (.int r)) w2' ∧ i2.map (fun i => (vv_up ws i1 w1')[i]?) = w2.map some ∧ va_nd i2 = true ∧ w2'.map Prod.fst = w2.map Prod.fst ∧ (vv_up ws i1 w1')[q2]? = some (hm, .inr (7, f2)) ∧ vv_J I (vv_up (vv_up ws i1 w1') i2 w2')
def simL (l : Launch) (K : vv_K) (I : va_W → Prop) (hx hm : Nat) (yx : MethodName) (cx : ByteArray) (nx : Nat) (ym : MethodName) (cm : ByteArray) (nm : Nat) (As : List Value) : Prop := ∀ ws : va_W, I ws → ∃ (r : Int64) (d1 d2 q1 q2 : Nat) (f1 f2 : List Value) (i1 i2 : List Nat) (w1 w1' w2 w2' : va_W), d1 ≤ 50 ∧ d2 ≤ 50 ∧
  vv_C l K d1 yx cx nx (some .long) (.ref hx :: As) w1 (some (.long r)) w1' ∧ i1.map (fun i => ws[i]?) = w1.map some ∧ va_nd i1 = true ∧ w1'.map Prod.fst = w1.map Prod.fst ∧ ws[q1]? = some (hx, .inr (6, f1)) ∧
  vv_C l K d2 ym cm nm (some .long) (.ref hm :: As) w2 (some (.long r)) w2' ∧ i2.map (fun i => (vv_up ws i1 w1')[i]?) = w2.map some ∧ va_nd i2 = true ∧ w2'.map Prod.fst = w2.map Prod.fst ∧ (vv_up ws i1 w1')[q2]? = some (hm, .inr (7, f2)) ∧ vv_J I (vv_up (vv_up ws i1 w1') i2 w2')
/-- the script, and how the law ends -/
def vv_sc (x : vv_X) (b L : Nat) (xs : Nat → Int32) : Prop := match x with
  | (_, _, _, R, s, _, args, below, meth, _, _, A, Q, nc, ns) => va_X b L xs s s.heap ∧ b < s.heap.size ∧ (A = fun q => s.heap.size ≤ q) ∧ Q = lw_Z below #[Value.ref b] s ∧ args = #[Value.ref b] ∧ R = room_1 ∧ meth.sig.returnType = ret ∧ nc = 600000 ∧ ns = 7302250
section VVL
variable {x : vv_X} {cc : ByteArray} {nL pc d b L : Nat} {xs : Nat → Int32} {own : String} {lv : List (Nat × Value)} {st : List Value} {ws : va_W}
theorem vv_sld {i : Int32} {j : Nat} (F : vv_F x cc nL own d) (hs : vv_sc x b L xs) (dg : decode cc pc = .ok (.iaload, 1)) (hi : vp_in i L ∧ i.toNatClampNeg = j) (k : vv_V x nL (pc + 1) lv (.int (xs j) :: st) ws) : vv_V x nL pc lv (.int i :: .ref b :: st) ws := by
  obtain ⟨p, l, e, R, s, m, args, below, meth, c, K, A, Q, nc, ns⟩ := x
  intro H locs ls h1 h2 h3 h4
  obtain ⟨s1, s2, s3, -⟩ := hs
  obtain ⟨hi, rfl⟩ := hi
  subst s3
  exact va_sld F.1 F.2.1 s1 s2 (Nat.not_le.mpr s2) h3 hi dg (k H locs ls h1 h2 h3 h4)
theorem vv_slen (F : vv_F x cc nL own d) (hs : vv_sc x b L xs) (dg : decode cc pc = .ok (.arraylength, 1)) (k : vv_V x nL (pc + 1) lv (.int (nI L) :: st) ws) : vv_V x nL pc lv (.ref b :: st) ws := by
  obtain ⟨p, l, e, R, s, m, args, below, meth, c, K, A, Q, nc, ns⟩ := x
  intro H locs ls h1 h2 h3 h4
  obtain ⟨s1, s2, s3, -⟩ := hs
  subst s3
  exact va_slen F.1 F.2.1 s1 s2 (Nat.not_le.mpr s2) h3 dg (k H locs ls h1 h2 h3 h4)
theorem vv_lret1 (F : vv_F x code nL own d) (hs : vv_sc x b L xs) (dg : decode code pc = .ok (.ireturn, 1)) : vv_V x nL pc lv [.int 1] ws := by
  obtain ⟨p, l, e, R, s, m, args, below, meth, c, K, A, Q, nc, ns⟩ := x
  intro H locs ls h1 h2 h3 h4
  obtain ⟨s1, s2, s3, s4, s5, s6, s7, s8, s9⟩ := hs
  subst s3; subst s4; subst s5; subst s6; subst s8; subst s9
  refine va_forget (fun q hq => h3.2.2 q hq) ?_
  exact lw_ret F.1 F.2.1 s7 F.2.2.2.2.2.2.2.1 dg
end VVL
theorem nI_5 (u : Nat) : nI u + Int32.ofInt 5 = nI (u + 5) := nI_add u 5
theorem law_t1 {L u : Nat} (hL : L ≤ 320) (h : L ≤ u) (hu : u ≤ 325) : nI L - 5 < nI u := by
  rw [Int32.lt_iff_toInt_lt]
  have e5 : (5 : Int32).toInt = 5 := rfl
  have h1 := nI_toInt (n := L) (by omega)
  have h2 := nI_toInt (n := u) (by omega)
  rw [ti_sub (by omega) (by omega), h1, h2, e5]; omega
theorem law_t2 {L u : Nat} (hL : L ≤ 320) (hu : u ≤ 325) (h : ¬ nI L - 5 < nI u) : u + 5 ≤ L := by
  rw [Int32.lt_iff_toInt_lt] at h
  have e5 : (5 : Int32).toInt = 5 := rfl
  have h1 := nI_toInt (n := L) (by omega)
  have h2 := nI_toInt (n := u) (by omega)
  rw [ti_sub (by omega) (by omega), h1, h2, e5] at h; omega
set_option maxHeartbeats 4000000 in
theorem law_loop {x : vv_X} {b L : Nat} {xs : Nat → Int32} {hx hm : Nat} {I : va_W → Prop} (hL : L ≤ 320) (F : vv_F x code 4 R_law 100) (hs : vv_sc x b L xs) (s0 : ∀ a1 a2 : Int32, simI (vv_l x) (vv_k x) I hx hm yX7_province cX7_province 4 yX8_province cX8_province 4 [.int a1, .int a2]) (s1 : ∀ a1 a2 : Int32, simI (vv_l x) (vv_k x) I hx hm yX7_house cX7_house 4 yX8_house cX8_house 4 [.int a1, .int a2]) (s2 : ∀ a1 a2 : Int32, simI (vv_l x) (vv_k x) I hx hm yX7_string cX7_string 3 yX8_string cX8_string 3 [.int a1, .int a2]) (s3 : ∀ a1 : Int32, simI (vv_l x) (vv_k x) I hx hm yX7_type cX7_type 2 yX8_type cX8_type 2 [.int a1]) (s4 : simI (vv_l x) (vv_k x) I hx hm yX7_clear cX7_clear 2 yX8_clear cX8_clear 2 []) (s5 : simI (vv_l x) (vv_k x) I hx hm yX7_read cX7_read 3 yX8_read cX8_read 3 []) (s6 : ∀ a1 : Int32, simI (vv_l x) (vv_k x) I hx hm yX7_sends cX7_sends 2 yX8_sends cX8_sends 2 [.int a1]) (s7 : ∀ a1 : Int32, simI (vv_l x) (vv_k x) I hx hm yX7_waits cX7_waits 2 yX8_waits cX8_waits 2 [.int a1]) (s8 : simI (vv_l x) (vv_k x) I hx hm yX7_undo cX7_undo 1 yX8_undo cX8_undo 2 []) (s9 : ∀ a1 a2 : Int32, simI (vv_l x) (vv_k x) I hx hm yX7_of cX7_of 3 yX8_of cX8_of 3 [.int a1, .int a2]) (s10 : ∀ a1 : Int32, simI (vv_l x) (vv_k x) I hx hm yX7_now cX7_now 2 yX8_now cX8_now 2 [.int a1]) (s11 : ∀ a1 a2 a3 : Int32, simI (vv_l x) (vv_k x) I hx hm yX7_asks cX7_asks 4 yX8_asks cX8_asks 4 [.int a1, .int a2, .int a3]) (s12 : ∀ a1 a2 : Int32, simI (vv_l x) (vv_k x) I hx hm yX7_cheapest cX7_cheapest 7 yX8_cheapest cX8_cheapest 7 [.int a1, .int a2]) (s13 : ∀ a1 a2 a3 : Int32, simI (vv_l x) (vv_k x) I hx hm yX7_cuts cX7_cuts 8 yX8_cuts cX8_cuts 8 [.int a1, .int a2, .int a3]) (s14 : ∀ a1 : Int32, simI (vv_l x) (vv_k x) I hx hm yX7_row cX7_row 2 yX8_row cX8_row 3 [.int a1]) (s15 : ∀ a1 a2 : Int32, simI (vv_l x) (vv_k x) I hx hm yX7_came cX7_came 3 yX8_came cX8_came 3 [.int a1, .int a2]) (s16 : ∀ a1 : Int32, simI (vv_l x) (vv_k x) I hx hm yX7_lines cX7_lines 2 yX8_lines cX8_lines 6 [.int a1]) (s17 : simI (vv_l x) (vv_k x) I hx hm yX7_tries cX7_tries 1 yX8_tries cX8_tries 8 []) (s18 : ∀ a1 a2 a3 a4 : Int32, simI (vv_l x) (vv_k x) I hx hm yX7_note cX7_note 5 yX8_note cX8_note 6 [.int a1, .int a2, .int a3, .int a4]) (s19 : ∀ a1 a2 a3 a4 : Int32, simI (vv_l x) (vv_k x) I hx hm yX7_mark cX7_mark 5 yX8_mark cX8_mark 6 [.int a1, .int a2, .int a3, .int a4]) (s20 : ∀ a1 : Int32, simI (vv_l x) (vv_k x) I hx hm yX7_forget cX7_forget 4 yX8_forget cX8_forget 4 [.int a1]) (s21 : ∀ a1 : Int32, simI (vv_l x) (vv_k x) I hx hm yX7_is cX7_is 2 yX8_is cX8_is 2 [.int a1]) (s22 : ∀ a1 : Int32, simI (vv_l x) (vv_k x) I hx hm yX7_look cX7_look 2 yX8_look cX8_look 7 [.int a1]) (s23 : ∀ a1 : Int32, simI (vv_l x) (vv_k x) I hx hm yX7_kinds cX7_kinds 2 yX8_kinds cX8_kinds 2 [.int a1]) (s24 : ∀ a1 : Int32, simI (vv_l x) (vv_k x) I hx hm yX7_ask cX7_ask 2 yX8_ask cX8_ask 7 [.int a1]) (s25 : ∀ a1 : Int32, simI (vv_l x) (vv_k x) I hx hm yX7_ends cX7_ends 3 yX8_ends cX8_ends 5 [.int a1]) (s26 : ∀ a1 : Int32, simI (vv_l x) (vv_k x) I hx hm yX7_scissors cX7_scissors 5 yX8_scissors cX8_scissors 10 [.int a1]) (s27 : ∀ a1 a2 : Int32, simI (vv_l x) (vv_k x) I hx hm yX7_nights cX7_nights 9 yX8_nights cX8_nights 11 [.int a1, .int a2]) (s28 : ∀ a1 : Int32, simL (vv_l x) (vv_k x) I hx hm yX7_part cX7_part 2 yX8_part cX8_part 2 [.int a1]) (s29 : ∀ a1 : Int32, simI (vv_l x) (vv_k x) I hx hm yX7_image cX7_image 2 yX8_image cX8_image 2 [.int a1]) (s30 : ∀ a1 : Int32, simI (vv_l x) (vv_k x) I hx hm yX7_from cX7_from 2 yX8_from cX8_from 2 [.int a1]) (s31 : ∀ a1 : Int32, simI (vv_l x) (vv_k x) I hx hm yX7_status cX7_status 2 yX8_status cX8_status 2 [.int a1]) (s32 : ∀ a1 : Int32, simI (vv_l x) (vv_k x) I hx hm yX7_count cX7_count 2 yX8_count cX8_count 2 [.int a1]) (s33 : simL (vv_l x) (vv_k x) I hx hm yX7_digest cX7_digest 4 yX8_digest cX8_digest 2 []) : ∀ (n u : Nat) (ws : va_W), L ≤ u + n → u ≤ 325 → vv_J I ws → vv_V x 4 18 [(3, .int (nI u)), (0, .ref b), (1, .ref hx), (2, .ref hm)] [] ws := by
  intro n
  induction n with
  | zero =>
    intro u ws hu hu2 hI
    refine vv_iload_n F dL_law_18 rfl rfl ?_
    refine vv_aload_n F dL_law_19 rfl rfl ?_
    refine vv_slen F hs dL_law_20 ?_
    refine vv_iconst (v := 5) F dL_law_21 (by decide) ?_
    refine vv_isub F dL_law_22 ?_
    refine vv_icmp_gt (tgt := 1094) F dL_law_23 (by decide) (fun h => ?_) (fun h => absurd (law_t1 hL (by omega) hu2) h)
    refine vv_iconst (v := 1) F dL_law_1094 (by decide) ?_
    exact vv_lret1 F hs dL_law_1095
  | succ n ih =>
    intro u ws1 hu hu2 hI1
    obtain ⟨ws, hpm, hI⟩ := hI1
    refine vv_perm hpm ?_
    refine vv_iload_n F dL_law_18 rfl rfl ?_
    refine vv_aload_n F dL_law_19 rfl rfl ?_
    refine vv_slen F hs dL_law_20 ?_
    refine vv_iconst (v := 5) F dL_law_21 (by decide) ?_
    refine vv_isub F dL_law_22 ?_
    refine vv_icmp_gt (tgt := 1094) F dL_law_23 (by decide) (fun h => ?_) (fun h => ?_)
    · refine vv_iconst (v := 1) F dL_law_1094 (by decide) ?_
      exact vv_lret1 F hs dL_law_1095
    · have hb5 : u + 5 ≤ L := law_t2 hL hu2 h
      refine vv_aload_n F dL_law_26 rfl rfl ?_
      refine vv_iload_n F dL_law_27 rfl rfl ?_
      refine vv_sld F hs dL_law_28 (vv_ixP (j := u) (nI_toInt (n := u) (by omega)) (by omega)) ?_
      refine vv_bipush (v := 63) F dL_law_29 (by decide) ?_
      refine vv_iand F dL_law_31 ?_
      by_cases e0 : (xs u &&& 63) = 0
      · refine vv_tabIn (tgt := 184) (off := 152) F dL_law_32 (by rw [e0]; decide) (by rw [e0]; decide) (by rw [e0]; rfl) (by decide) ?_
        obtain ⟨r, d1, d2, q1, q2, f1, f2, i1, i2, w1, w1', w2, w2', hd1, hd2, c1, m1, n1, p1, g1, c2, m2, n2, p2, g2, hI2⟩ := s0 (xs (u + 1)) (xs (u + 2)) ws hI
        refine vv_aload_n F dL_law_184 rfl rfl ?_
        refine vv_aload_n F dL_law_185 rfl rfl ?_
        refine vv_iload_n F dL_law_186 rfl rfl ?_
        refine vv_iconst (v := 1) F dL_law_187 (by decide) ?_
        refine vv_iadd F dL_law_188 ?_
        refine vv_sld F hs dL_law_189 (vv_ixP (j := u + 1) (nn_add (nI_toInt (n := u) (by omega)) (by decide : (1 : Int32).toInt = ((1 : Nat) : Int)) (by omega)) (by omega)) ?_
        refine vv_aload_n F dL_law_190 rfl rfl ?_
        refine vv_iload_n F dL_law_191 rfl rfl ?_
        refine vv_iconst (v := 2) F dL_law_192 (by decide) ?_
        refine vv_iadd F dL_law_193 ?_
        refine vv_sld F hs dL_law_194 (vv_ixP (j := u + 2) (nn_add (nI_toInt (n := u) (by omega)) (by decide : (2 : Int32).toInt = ((2 : Nat) : Int)) (by omega)) (by omega)) ?_
        refine vv_callV (As := [.int (xs (u + 1)), .int (xs (u + 2))]) (rest := []) i1 q1 F c1 mv_L_13 dL_law_195 (by omega) rfl rfl (Nat.le_of_ble_eq_true rfl) m1 n1 p1 g1 rfl ?_
        refine vv_aload_n F dL_law_198 rfl rfl ?_
        refine vv_aload_n F dL_law_199 rfl rfl ?_
        refine vv_iload_n F dL_law_200 rfl rfl ?_
        refine vv_iconst (v := 1) F dL_law_201 (by decide) ?_
        refine vv_iadd F dL_law_202 ?_
        refine vv_sld F hs dL_law_203 (vv_ixP (j := u + 1) (nn_add (nI_toInt (n := u) (by omega)) (by decide : (1 : Int32).toInt = ((1 : Nat) : Int)) (by omega)) (by omega)) ?_
        refine vv_aload_n F dL_law_204 rfl rfl ?_
        refine vv_iload_n F dL_law_205 rfl rfl ?_
        refine vv_iconst (v := 2) F dL_law_206 (by decide) ?_
        refine vv_iadd F dL_law_207 ?_
        refine vv_sld F hs dL_law_208 (vv_ixP (j := u + 2) (nn_add (nI_toInt (n := u) (by omega)) (by decide : (2 : Int32).toInt = ((2 : Nat) : Int)) (by omega)) (by omega)) ?_
        refine vv_callV (As := [.int (xs (u + 1)), .int (xs (u + 2))]) (rest := [.int r]) i2 q2 F c2 mv_L_17 dL_law_209 (by omega) rfl rfl (Nat.le_of_ble_eq_true rfl) m2 n2 p2 g2 rfl ?_
        refine vv_icmp_eq (tgt := 1088) F dL_law_212 (by decide) (fun _ => ?_) (fun z => absurd rfl z)
        refine vv_iinc (v := nI (u + 5)) (lv' := [(3, .int (nI (u + 5))), (0, .ref b), (1, .ref hx), (2, .ref hm)]) 0 F dL_law_1088 rfl (nI_5 u) (by decide) rfl ?_
        refine vv_goto (tgt := 18) F dL_law_1091 (by decide) ?_
        exact ih (u + 5) _ (by omega) (by omega) hI2
      · have _ := 0
        by_cases e1 : (xs u &&& 63) = 1
        · refine vv_tabIn (tgt := 217) (off := 185) F dL_law_32 (by rw [e1]; decide) (by rw [e1]; decide) (by rw [e1]; rfl) (by decide) ?_
          obtain ⟨r, d1, d2, q1, q2, f1, f2, i1, i2, w1, w1', w2, w2', hd1, hd2, c1, m1, n1, p1, g1, c2, m2, n2, p2, g2, hI2⟩ := s1 (xs (u + 1)) (xs (u + 2)) ws hI
          refine vv_aload_n F dL_law_217 rfl rfl ?_
          refine vv_aload_n F dL_law_218 rfl rfl ?_
          refine vv_iload_n F dL_law_219 rfl rfl ?_
          refine vv_iconst (v := 1) F dL_law_220 (by decide) ?_
          refine vv_iadd F dL_law_221 ?_
          refine vv_sld F hs dL_law_222 (vv_ixP (j := u + 1) (nn_add (nI_toInt (n := u) (by omega)) (by decide : (1 : Int32).toInt = ((1 : Nat) : Int)) (by omega)) (by omega)) ?_
          refine vv_aload_n F dL_law_223 rfl rfl ?_
          refine vv_iload_n F dL_law_224 rfl rfl ?_
          refine vv_iconst (v := 2) F dL_law_225 (by decide) ?_
          refine vv_iadd F dL_law_226 ?_
          refine vv_sld F hs dL_law_227 (vv_ixP (j := u + 2) (nn_add (nI_toInt (n := u) (by omega)) (by decide : (2 : Int32).toInt = ((2 : Nat) : Int)) (by omega)) (by omega)) ?_
          refine vv_callV (As := [.int (xs (u + 1)), .int (xs (u + 2))]) (rest := []) i1 q1 F c1 mv_L_18 dL_law_228 (by omega) rfl rfl (Nat.le_of_ble_eq_true rfl) m1 n1 p1 g1 rfl ?_
          refine vv_aload_n F dL_law_231 rfl rfl ?_
          refine vv_aload_n F dL_law_232 rfl rfl ?_
          refine vv_iload_n F dL_law_233 rfl rfl ?_
          refine vv_iconst (v := 1) F dL_law_234 (by decide) ?_
          refine vv_iadd F dL_law_235 ?_
          refine vv_sld F hs dL_law_236 (vv_ixP (j := u + 1) (nn_add (nI_toInt (n := u) (by omega)) (by decide : (1 : Int32).toInt = ((1 : Nat) : Int)) (by omega)) (by omega)) ?_
          refine vv_aload_n F dL_law_237 rfl rfl ?_
          refine vv_iload_n F dL_law_238 rfl rfl ?_
          refine vv_iconst (v := 2) F dL_law_239 (by decide) ?_
          refine vv_iadd F dL_law_240 ?_
          refine vv_sld F hs dL_law_241 (vv_ixP (j := u + 2) (nn_add (nI_toInt (n := u) (by omega)) (by decide : (2 : Int32).toInt = ((2 : Nat) : Int)) (by omega)) (by omega)) ?_
          refine vv_callV (As := [.int (xs (u + 1)), .int (xs (u + 2))]) (rest := [.int r]) i2 q2 F c2 mv_L_21 dL_law_242 (by omega) rfl rfl (Nat.le_of_ble_eq_true rfl) m2 n2 p2 g2 rfl ?_
          refine vv_icmp_eq (tgt := 1088) F dL_law_245 (by decide) (fun _ => ?_) (fun z => absurd rfl z)
          refine vv_iinc (v := nI (u + 5)) (lv' := [(3, .int (nI (u + 5))), (0, .ref b), (1, .ref hx), (2, .ref hm)]) 0 F dL_law_1088 rfl (nI_5 u) (by decide) rfl ?_
          refine vv_goto (tgt := 18) F dL_law_1091 (by decide) ?_
          exact ih (u + 5) _ (by omega) (by omega) hI2
        · have _ := 0
          by_cases e2 : (xs u &&& 63) = 2
          · refine vv_tabIn (tgt := 250) (off := 218) F dL_law_32 (by rw [e2]; decide) (by rw [e2]; decide) (by rw [e2]; rfl) (by decide) ?_
            obtain ⟨r, d1, d2, q1, q2, f1, f2, i1, i2, w1, w1', w2, w2', hd1, hd2, c1, m1, n1, p1, g1, c2, m2, n2, p2, g2, hI2⟩ := s2 (xs (u + 1)) (xs (u + 2)) ws hI
            refine vv_aload_n F dL_law_250 rfl rfl ?_
            refine vv_aload_n F dL_law_251 rfl rfl ?_
            refine vv_iload_n F dL_law_252 rfl rfl ?_
            refine vv_iconst (v := 1) F dL_law_253 (by decide) ?_
            refine vv_iadd F dL_law_254 ?_
            refine vv_sld F hs dL_law_255 (vv_ixP (j := u + 1) (nn_add (nI_toInt (n := u) (by omega)) (by decide : (1 : Int32).toInt = ((1 : Nat) : Int)) (by omega)) (by omega)) ?_
            refine vv_aload_n F dL_law_256 rfl rfl ?_
            refine vv_iload_n F dL_law_257 rfl rfl ?_
            refine vv_iconst (v := 2) F dL_law_258 (by decide) ?_
            refine vv_iadd F dL_law_259 ?_
            refine vv_sld F hs dL_law_260 (vv_ixP (j := u + 2) (nn_add (nI_toInt (n := u) (by omega)) (by decide : (2 : Int32).toInt = ((2 : Nat) : Int)) (by omega)) (by omega)) ?_
            refine vv_callV (As := [.int (xs (u + 1)), .int (xs (u + 2))]) (rest := []) i1 q1 F c1 mv_L_22 dL_law_261 (by omega) rfl rfl (Nat.le_of_ble_eq_true rfl) m1 n1 p1 g1 rfl ?_
            refine vv_aload_n F dL_law_264 rfl rfl ?_
            refine vv_aload_n F dL_law_265 rfl rfl ?_
            refine vv_iload_n F dL_law_266 rfl rfl ?_
            refine vv_iconst (v := 1) F dL_law_267 (by decide) ?_
            refine vv_iadd F dL_law_268 ?_
            refine vv_sld F hs dL_law_269 (vv_ixP (j := u + 1) (nn_add (nI_toInt (n := u) (by omega)) (by decide : (1 : Int32).toInt = ((1 : Nat) : Int)) (by omega)) (by omega)) ?_
            refine vv_aload_n F dL_law_270 rfl rfl ?_
            refine vv_iload_n F dL_law_271 rfl rfl ?_
            refine vv_iconst (v := 2) F dL_law_272 (by decide) ?_
            refine vv_iadd F dL_law_273 ?_
            refine vv_sld F hs dL_law_274 (vv_ixP (j := u + 2) (nn_add (nI_toInt (n := u) (by omega)) (by decide : (2 : Int32).toInt = ((2 : Nat) : Int)) (by omega)) (by omega)) ?_
            refine vv_callV (As := [.int (xs (u + 1)), .int (xs (u + 2))]) (rest := [.int r]) i2 q2 F c2 mv_L_25 dL_law_275 (by omega) rfl rfl (Nat.le_of_ble_eq_true rfl) m2 n2 p2 g2 rfl ?_
            refine vv_icmp_eq (tgt := 1088) F dL_law_278 (by decide) (fun _ => ?_) (fun z => absurd rfl z)
            refine vv_iinc (v := nI (u + 5)) (lv' := [(3, .int (nI (u + 5))), (0, .ref b), (1, .ref hx), (2, .ref hm)]) 0 F dL_law_1088 rfl (nI_5 u) (by decide) rfl ?_
            refine vv_goto (tgt := 18) F dL_law_1091 (by decide) ?_
            exact ih (u + 5) _ (by omega) (by omega) hI2
          · have _ := 0
            by_cases e3 : (xs u &&& 63) = 3
            · refine vv_tabIn (tgt := 283) (off := 251) F dL_law_32 (by rw [e3]; decide) (by rw [e3]; decide) (by rw [e3]; rfl) (by decide) ?_
              obtain ⟨r, d1, d2, q1, q2, f1, f2, i1, i2, w1, w1', w2, w2', hd1, hd2, c1, m1, n1, p1, g1, c2, m2, n2, p2, g2, hI2⟩ := s3 (xs (u + 1)) ws hI
              refine vv_aload_n F dL_law_283 rfl rfl ?_
              refine vv_aload_n F dL_law_284 rfl rfl ?_
              refine vv_iload_n F dL_law_285 rfl rfl ?_
              refine vv_iconst (v := 1) F dL_law_286 (by decide) ?_
              refine vv_iadd F dL_law_287 ?_
              refine vv_sld F hs dL_law_288 (vv_ixP (j := u + 1) (nn_add (nI_toInt (n := u) (by omega)) (by decide : (1 : Int32).toInt = ((1 : Nat) : Int)) (by omega)) (by omega)) ?_
              refine vv_callV (As := [.int (xs (u + 1))]) (rest := []) i1 q1 F c1 mv_L_26 dL_law_289 (by omega) rfl rfl (Nat.le_of_ble_eq_true rfl) m1 n1 p1 g1 rfl ?_
              refine vv_aload_n F dL_law_292 rfl rfl ?_
              refine vv_aload_n F dL_law_293 rfl rfl ?_
              refine vv_iload_n F dL_law_294 rfl rfl ?_
              refine vv_iconst (v := 1) F dL_law_295 (by decide) ?_
              refine vv_iadd F dL_law_296 ?_
              refine vv_sld F hs dL_law_297 (vv_ixP (j := u + 1) (nn_add (nI_toInt (n := u) (by omega)) (by decide : (1 : Int32).toInt = ((1 : Nat) : Int)) (by omega)) (by omega)) ?_
              refine vv_callV (As := [.int (xs (u + 1))]) (rest := [.int r]) i2 q2 F c2 mv_L_30 dL_law_298 (by omega) rfl rfl (Nat.le_of_ble_eq_true rfl) m2 n2 p2 g2 rfl ?_
              refine vv_icmp_eq (tgt := 1088) F dL_law_301 (by decide) (fun _ => ?_) (fun z => absurd rfl z)
              refine vv_iinc (v := nI (u + 5)) (lv' := [(3, .int (nI (u + 5))), (0, .ref b), (1, .ref hx), (2, .ref hm)]) 0 F dL_law_1088 rfl (nI_5 u) (by decide) rfl ?_
              refine vv_goto (tgt := 18) F dL_law_1091 (by decide) ?_
              exact ih (u + 5) _ (by omega) (by omega) hI2
            · have _ := 0
              by_cases e4 : (xs u &&& 63) = 4
              · refine vv_tabIn (tgt := 306) (off := 274) F dL_law_32 (by rw [e4]; decide) (by rw [e4]; decide) (by rw [e4]; rfl) (by decide) ?_
                obtain ⟨r, d1, d2, q1, q2, f1, f2, i1, i2, w1, w1', w2, w2', hd1, hd2, c1, m1, n1, p1, g1, c2, m2, n2, p2, g2, hI2⟩ := s4 ws hI
                refine vv_aload_n F dL_law_306 rfl rfl ?_
                refine vv_callV (As := []) (rest := []) i1 q1 F c1 mv_L_31 dL_law_307 (by omega) rfl rfl (Nat.le_of_ble_eq_true rfl) m1 n1 p1 g1 rfl ?_
                refine vv_aload_n F dL_law_310 rfl rfl ?_
                refine vv_callV (As := []) (rest := [.int r]) i2 q2 F c2 mv_L_35 dL_law_311 (by omega) rfl rfl (Nat.le_of_ble_eq_true rfl) m2 n2 p2 g2 rfl ?_
                refine vv_icmp_eq (tgt := 1088) F dL_law_314 (by decide) (fun _ => ?_) (fun z => absurd rfl z)
                refine vv_iinc (v := nI (u + 5)) (lv' := [(3, .int (nI (u + 5))), (0, .ref b), (1, .ref hx), (2, .ref hm)]) 0 F dL_law_1088 rfl (nI_5 u) (by decide) rfl ?_
                refine vv_goto (tgt := 18) F dL_law_1091 (by decide) ?_
                exact ih (u + 5) _ (by omega) (by omega) hI2
              · have _ := 0
                by_cases e5 : (xs u &&& 63) = 5
                · refine vv_tabIn (tgt := 319) (off := 287) F dL_law_32 (by rw [e5]; decide) (by rw [e5]; decide) (by rw [e5]; rfl) (by decide) ?_
                  obtain ⟨r, d1, d2, q1, q2, f1, f2, i1, i2, w1, w1', w2, w2', hd1, hd2, c1, m1, n1, p1, g1, c2, m2, n2, p2, g2, hI2⟩ := s5 ws hI
                  refine vv_aload_n F dL_law_319 rfl rfl ?_
                  refine vv_callV (As := []) (rest := []) i1 q1 F c1 mv_L_36 dL_law_320 (by omega) rfl rfl (Nat.le_of_ble_eq_true rfl) m1 n1 p1 g1 rfl ?_
                  refine vv_aload_n F dL_law_323 rfl rfl ?_
                  refine vv_callV (As := []) (rest := [.int r]) i2 q2 F c2 mv_L_39 dL_law_324 (by omega) rfl rfl (Nat.le_of_ble_eq_true rfl) m2 n2 p2 g2 rfl ?_
                  refine vv_icmp_eq (tgt := 1088) F dL_law_327 (by decide) (fun _ => ?_) (fun z => absurd rfl z)
                  refine vv_iinc (v := nI (u + 5)) (lv' := [(3, .int (nI (u + 5))), (0, .ref b), (1, .ref hx), (2, .ref hm)]) 0 F dL_law_1088 rfl (nI_5 u) (by decide) rfl ?_
                  refine vv_goto (tgt := 18) F dL_law_1091 (by decide) ?_
                  exact ih (u + 5) _ (by omega) (by omega) hI2
                · have _ := 0
                  by_cases e6 : (xs u &&& 63) = 6
                  · refine vv_tabIn (tgt := 332) (off := 300) F dL_law_32 (by rw [e6]; decide) (by rw [e6]; decide) (by rw [e6]; rfl) (by decide) ?_
                    obtain ⟨r, d1, d2, q1, q2, f1, f2, i1, i2, w1, w1', w2, w2', hd1, hd2, c1, m1, n1, p1, g1, c2, m2, n2, p2, g2, hI2⟩ := s6 (xs (u + 1)) ws hI
                    refine vv_aload_n F dL_law_332 rfl rfl ?_
                    refine vv_aload_n F dL_law_333 rfl rfl ?_
                    refine vv_iload_n F dL_law_334 rfl rfl ?_
                    refine vv_iconst (v := 1) F dL_law_335 (by decide) ?_
                    refine vv_iadd F dL_law_336 ?_
                    refine vv_sld F hs dL_law_337 (vv_ixP (j := u + 1) (nn_add (nI_toInt (n := u) (by omega)) (by decide : (1 : Int32).toInt = ((1 : Nat) : Int)) (by omega)) (by omega)) ?_
                    refine vv_callV (As := [.int (xs (u + 1))]) (rest := []) i1 q1 F c1 mv_L_40 dL_law_338 (by omega) rfl rfl (Nat.le_of_ble_eq_true rfl) m1 n1 p1 g1 rfl ?_
                    refine vv_aload_n F dL_law_341 rfl rfl ?_
                    refine vv_aload_n F dL_law_342 rfl rfl ?_
                    refine vv_iload_n F dL_law_343 rfl rfl ?_
                    refine vv_iconst (v := 1) F dL_law_344 (by decide) ?_
                    refine vv_iadd F dL_law_345 ?_
                    refine vv_sld F hs dL_law_346 (vv_ixP (j := u + 1) (nn_add (nI_toInt (n := u) (by omega)) (by decide : (1 : Int32).toInt = ((1 : Nat) : Int)) (by omega)) (by omega)) ?_
                    refine vv_callV (As := [.int (xs (u + 1))]) (rest := [.int r]) i2 q2 F c2 mv_L_43 dL_law_347 (by omega) rfl rfl (Nat.le_of_ble_eq_true rfl) m2 n2 p2 g2 rfl ?_
                    refine vv_icmp_eq (tgt := 1088) F dL_law_350 (by decide) (fun _ => ?_) (fun z => absurd rfl z)
                    refine vv_iinc (v := nI (u + 5)) (lv' := [(3, .int (nI (u + 5))), (0, .ref b), (1, .ref hx), (2, .ref hm)]) 0 F dL_law_1088 rfl (nI_5 u) (by decide) rfl ?_
                    refine vv_goto (tgt := 18) F dL_law_1091 (by decide) ?_
                    exact ih (u + 5) _ (by omega) (by omega) hI2
                  · have _ := 0
                    by_cases e7 : (xs u &&& 63) = 7
                    · refine vv_tabIn (tgt := 355) (off := 323) F dL_law_32 (by rw [e7]; decide) (by rw [e7]; decide) (by rw [e7]; rfl) (by decide) ?_
                      obtain ⟨r, d1, d2, q1, q2, f1, f2, i1, i2, w1, w1', w2, w2', hd1, hd2, c1, m1, n1, p1, g1, c2, m2, n2, p2, g2, hI2⟩ := s7 (xs (u + 1)) ws hI
                      refine vv_aload_n F dL_law_355 rfl rfl ?_
                      refine vv_aload_n F dL_law_356 rfl rfl ?_
                      refine vv_iload_n F dL_law_357 rfl rfl ?_
                      refine vv_iconst (v := 1) F dL_law_358 (by decide) ?_
                      refine vv_iadd F dL_law_359 ?_
                      refine vv_sld F hs dL_law_360 (vv_ixP (j := u + 1) (nn_add (nI_toInt (n := u) (by omega)) (by decide : (1 : Int32).toInt = ((1 : Nat) : Int)) (by omega)) (by omega)) ?_
                      refine vv_callV (As := [.int (xs (u + 1))]) (rest := []) i1 q1 F c1 mv_L_44 dL_law_361 (by omega) rfl rfl (Nat.le_of_ble_eq_true rfl) m1 n1 p1 g1 rfl ?_
                      refine vv_aload_n F dL_law_364 rfl rfl ?_
                      refine vv_aload_n F dL_law_365 rfl rfl ?_
                      refine vv_iload_n F dL_law_366 rfl rfl ?_
                      refine vv_iconst (v := 1) F dL_law_367 (by decide) ?_
                      refine vv_iadd F dL_law_368 ?_
                      refine vv_sld F hs dL_law_369 (vv_ixP (j := u + 1) (nn_add (nI_toInt (n := u) (by omega)) (by decide : (1 : Int32).toInt = ((1 : Nat) : Int)) (by omega)) (by omega)) ?_
                      refine vv_callV (As := [.int (xs (u + 1))]) (rest := [.int r]) i2 q2 F c2 mv_L_47 dL_law_370 (by omega) rfl rfl (Nat.le_of_ble_eq_true rfl) m2 n2 p2 g2 rfl ?_
                      refine vv_icmp_eq (tgt := 1088) F dL_law_373 (by decide) (fun _ => ?_) (fun z => absurd rfl z)
                      refine vv_iinc (v := nI (u + 5)) (lv' := [(3, .int (nI (u + 5))), (0, .ref b), (1, .ref hx), (2, .ref hm)]) 0 F dL_law_1088 rfl (nI_5 u) (by decide) rfl ?_
                      refine vv_goto (tgt := 18) F dL_law_1091 (by decide) ?_
                      exact ih (u + 5) _ (by omega) (by omega) hI2
                    · have _ := 0
                      by_cases e8 : (xs u &&& 63) = 8
                      · refine vv_tabIn (tgt := 378) (off := 346) F dL_law_32 (by rw [e8]; decide) (by rw [e8]; decide) (by rw [e8]; rfl) (by decide) ?_
                        obtain ⟨r, d1, d2, q1, q2, f1, f2, i1, i2, w1, w1', w2, w2', hd1, hd2, c1, m1, n1, p1, g1, c2, m2, n2, p2, g2, hI2⟩ := s8 ws hI
                        refine vv_aload_n F dL_law_378 rfl rfl ?_
                        refine vv_callV (As := []) (rest := []) i1 q1 F c1 mv_L_48 dL_law_379 (by omega) rfl rfl (Nat.le_of_ble_eq_true rfl) m1 n1 p1 g1 rfl ?_
                        refine vv_aload_n F dL_law_382 rfl rfl ?_
                        refine vv_callV (As := []) (rest := [.int r]) i2 q2 F c2 mv_L_51 dL_law_383 (by omega) rfl rfl (Nat.le_of_ble_eq_true rfl) m2 n2 p2 g2 rfl ?_
                        refine vv_icmp_eq (tgt := 1088) F dL_law_386 (by decide) (fun _ => ?_) (fun z => absurd rfl z)
                        refine vv_iinc (v := nI (u + 5)) (lv' := [(3, .int (nI (u + 5))), (0, .ref b), (1, .ref hx), (2, .ref hm)]) 0 F dL_law_1088 rfl (nI_5 u) (by decide) rfl ?_
                        refine vv_goto (tgt := 18) F dL_law_1091 (by decide) ?_
                        exact ih (u + 5) _ (by omega) (by omega) hI2
                      · have _ := 0
                        by_cases e9 : (xs u &&& 63) = 9
                        · refine vv_tabIn (tgt := 391) (off := 359) F dL_law_32 (by rw [e9]; decide) (by rw [e9]; decide) (by rw [e9]; rfl) (by decide) ?_
                          obtain ⟨r, d1, d2, q1, q2, f1, f2, i1, i2, w1, w1', w2, w2', hd1, hd2, c1, m1, n1, p1, g1, c2, m2, n2, p2, g2, hI2⟩ := s9 (xs (u + 1)) (xs (u + 2)) ws hI
                          refine vv_aload_n F dL_law_391 rfl rfl ?_
                          refine vv_aload_n F dL_law_392 rfl rfl ?_
                          refine vv_iload_n F dL_law_393 rfl rfl ?_
                          refine vv_iconst (v := 1) F dL_law_394 (by decide) ?_
                          refine vv_iadd F dL_law_395 ?_
                          refine vv_sld F hs dL_law_396 (vv_ixP (j := u + 1) (nn_add (nI_toInt (n := u) (by omega)) (by decide : (1 : Int32).toInt = ((1 : Nat) : Int)) (by omega)) (by omega)) ?_
                          refine vv_aload_n F dL_law_397 rfl rfl ?_
                          refine vv_iload_n F dL_law_398 rfl rfl ?_
                          refine vv_iconst (v := 2) F dL_law_399 (by decide) ?_
                          refine vv_iadd F dL_law_400 ?_
                          refine vv_sld F hs dL_law_401 (vv_ixP (j := u + 2) (nn_add (nI_toInt (n := u) (by omega)) (by decide : (2 : Int32).toInt = ((2 : Nat) : Int)) (by omega)) (by omega)) ?_
                          refine vv_callV (As := [.int (xs (u + 1)), .int (xs (u + 2))]) (rest := []) i1 q1 F c1 mv_L_52 dL_law_402 (by omega) rfl rfl (Nat.le_of_ble_eq_true rfl) m1 n1 p1 g1 rfl ?_
                          refine vv_aload_n F dL_law_405 rfl rfl ?_
                          refine vv_aload_n F dL_law_406 rfl rfl ?_
                          refine vv_iload_n F dL_law_407 rfl rfl ?_
                          refine vv_iconst (v := 1) F dL_law_408 (by decide) ?_
                          refine vv_iadd F dL_law_409 ?_
                          refine vv_sld F hs dL_law_410 (vv_ixP (j := u + 1) (nn_add (nI_toInt (n := u) (by omega)) (by decide : (1 : Int32).toInt = ((1 : Nat) : Int)) (by omega)) (by omega)) ?_
                          refine vv_aload_n F dL_law_411 rfl rfl ?_
                          refine vv_iload_n F dL_law_412 rfl rfl ?_
                          refine vv_iconst (v := 2) F dL_law_413 (by decide) ?_
                          refine vv_iadd F dL_law_414 ?_
                          refine vv_sld F hs dL_law_415 (vv_ixP (j := u + 2) (nn_add (nI_toInt (n := u) (by omega)) (by decide : (2 : Int32).toInt = ((2 : Nat) : Int)) (by omega)) (by omega)) ?_
                          refine vv_callV (As := [.int (xs (u + 1)), .int (xs (u + 2))]) (rest := [.int r]) i2 q2 F c2 mv_L_55 dL_law_416 (by omega) rfl rfl (Nat.le_of_ble_eq_true rfl) m2 n2 p2 g2 rfl ?_
                          refine vv_icmp_eq (tgt := 1088) F dL_law_419 (by decide) (fun _ => ?_) (fun z => absurd rfl z)
                          refine vv_iinc (v := nI (u + 5)) (lv' := [(3, .int (nI (u + 5))), (0, .ref b), (1, .ref hx), (2, .ref hm)]) 0 F dL_law_1088 rfl (nI_5 u) (by decide) rfl ?_
                          refine vv_goto (tgt := 18) F dL_law_1091 (by decide) ?_
                          exact ih (u + 5) _ (by omega) (by omega) hI2
                        · have _ := 0
                          by_cases e10 : (xs u &&& 63) = 10
                          · refine vv_tabIn (tgt := 424) (off := 392) F dL_law_32 (by rw [e10]; decide) (by rw [e10]; decide) (by rw [e10]; rfl) (by decide) ?_
                            obtain ⟨r, d1, d2, q1, q2, f1, f2, i1, i2, w1, w1', w2, w2', hd1, hd2, c1, m1, n1, p1, g1, c2, m2, n2, p2, g2, hI2⟩ := s10 (xs (u + 1)) ws hI
                            refine vv_aload_n F dL_law_424 rfl rfl ?_
                            refine vv_aload_n F dL_law_425 rfl rfl ?_
                            refine vv_iload_n F dL_law_426 rfl rfl ?_
                            refine vv_iconst (v := 1) F dL_law_427 (by decide) ?_
                            refine vv_iadd F dL_law_428 ?_
                            refine vv_sld F hs dL_law_429 (vv_ixP (j := u + 1) (nn_add (nI_toInt (n := u) (by omega)) (by decide : (1 : Int32).toInt = ((1 : Nat) : Int)) (by omega)) (by omega)) ?_
                            refine vv_callV (As := [.int (xs (u + 1))]) (rest := []) i1 q1 F c1 mv_L_56 dL_law_430 (by omega) rfl rfl (Nat.le_of_ble_eq_true rfl) m1 n1 p1 g1 rfl ?_
                            refine vv_aload_n F dL_law_433 rfl rfl ?_
                            refine vv_aload_n F dL_law_434 rfl rfl ?_
                            refine vv_iload_n F dL_law_435 rfl rfl ?_
                            refine vv_iconst (v := 1) F dL_law_436 (by decide) ?_
                            refine vv_iadd F dL_law_437 ?_
                            refine vv_sld F hs dL_law_438 (vv_ixP (j := u + 1) (nn_add (nI_toInt (n := u) (by omega)) (by decide : (1 : Int32).toInt = ((1 : Nat) : Int)) (by omega)) (by omega)) ?_
                            refine vv_callV (As := [.int (xs (u + 1))]) (rest := [.int r]) i2 q2 F c2 mv_L_59 dL_law_439 (by omega) rfl rfl (Nat.le_of_ble_eq_true rfl) m2 n2 p2 g2 rfl ?_
                            refine vv_icmp_eq (tgt := 1088) F dL_law_442 (by decide) (fun _ => ?_) (fun z => absurd rfl z)
                            refine vv_iinc (v := nI (u + 5)) (lv' := [(3, .int (nI (u + 5))), (0, .ref b), (1, .ref hx), (2, .ref hm)]) 0 F dL_law_1088 rfl (nI_5 u) (by decide) rfl ?_
                            refine vv_goto (tgt := 18) F dL_law_1091 (by decide) ?_
                            exact ih (u + 5) _ (by omega) (by omega) hI2
                          · have _ := 0
                            by_cases e11 : (xs u &&& 63) = 11
                            · refine vv_tabIn (tgt := 447) (off := 415) F dL_law_32 (by rw [e11]; decide) (by rw [e11]; decide) (by rw [e11]; rfl) (by decide) ?_
                              obtain ⟨r, d1, d2, q1, q2, f1, f2, i1, i2, w1, w1', w2, w2', hd1, hd2, c1, m1, n1, p1, g1, c2, m2, n2, p2, g2, hI2⟩ := s11 (xs (u + 1)) (xs (u + 2)) (xs (u + 3)) ws hI
                              refine vv_aload_n F dL_law_447 rfl rfl ?_
                              refine vv_aload_n F dL_law_448 rfl rfl ?_
                              refine vv_iload_n F dL_law_449 rfl rfl ?_
                              refine vv_iconst (v := 1) F dL_law_450 (by decide) ?_
                              refine vv_iadd F dL_law_451 ?_
                              refine vv_sld F hs dL_law_452 (vv_ixP (j := u + 1) (nn_add (nI_toInt (n := u) (by omega)) (by decide : (1 : Int32).toInt = ((1 : Nat) : Int)) (by omega)) (by omega)) ?_
                              refine vv_aload_n F dL_law_453 rfl rfl ?_
                              refine vv_iload_n F dL_law_454 rfl rfl ?_
                              refine vv_iconst (v := 2) F dL_law_455 (by decide) ?_
                              refine vv_iadd F dL_law_456 ?_
                              refine vv_sld F hs dL_law_457 (vv_ixP (j := u + 2) (nn_add (nI_toInt (n := u) (by omega)) (by decide : (2 : Int32).toInt = ((2 : Nat) : Int)) (by omega)) (by omega)) ?_
                              refine vv_aload_n F dL_law_458 rfl rfl ?_
                              refine vv_iload_n F dL_law_459 rfl rfl ?_
                              refine vv_iconst (v := 3) F dL_law_460 (by decide) ?_
                              refine vv_iadd F dL_law_461 ?_
                              refine vv_sld F hs dL_law_462 (vv_ixP (j := u + 3) (nn_add (nI_toInt (n := u) (by omega)) (by decide : (3 : Int32).toInt = ((3 : Nat) : Int)) (by omega)) (by omega)) ?_
                              refine vv_callV (As := [.int (xs (u + 1)), .int (xs (u + 2)), .int (xs (u + 3))]) (rest := []) i1 q1 F c1 mv_L_60 dL_law_463 (by omega) rfl rfl (Nat.le_of_ble_eq_true rfl) m1 n1 p1 g1 rfl ?_
                              refine vv_aload_n F dL_law_466 rfl rfl ?_
                              refine vv_aload_n F dL_law_467 rfl rfl ?_
                              refine vv_iload_n F dL_law_468 rfl rfl ?_
                              refine vv_iconst (v := 1) F dL_law_469 (by decide) ?_
                              refine vv_iadd F dL_law_470 ?_
                              refine vv_sld F hs dL_law_471 (vv_ixP (j := u + 1) (nn_add (nI_toInt (n := u) (by omega)) (by decide : (1 : Int32).toInt = ((1 : Nat) : Int)) (by omega)) (by omega)) ?_
                              refine vv_aload_n F dL_law_472 rfl rfl ?_
                              refine vv_iload_n F dL_law_473 rfl rfl ?_
                              refine vv_iconst (v := 2) F dL_law_474 (by decide) ?_
                              refine vv_iadd F dL_law_475 ?_
                              refine vv_sld F hs dL_law_476 (vv_ixP (j := u + 2) (nn_add (nI_toInt (n := u) (by omega)) (by decide : (2 : Int32).toInt = ((2 : Nat) : Int)) (by omega)) (by omega)) ?_
                              refine vv_aload_n F dL_law_477 rfl rfl ?_
                              refine vv_iload_n F dL_law_478 rfl rfl ?_
                              refine vv_iconst (v := 3) F dL_law_479 (by decide) ?_
                              refine vv_iadd F dL_law_480 ?_
                              refine vv_sld F hs dL_law_481 (vv_ixP (j := u + 3) (nn_add (nI_toInt (n := u) (by omega)) (by decide : (3 : Int32).toInt = ((3 : Nat) : Int)) (by omega)) (by omega)) ?_
                              refine vv_callV (As := [.int (xs (u + 1)), .int (xs (u + 2)), .int (xs (u + 3))]) (rest := [.int r]) i2 q2 F c2 mv_L_64 dL_law_482 (by omega) rfl rfl (Nat.le_of_ble_eq_true rfl) m2 n2 p2 g2 rfl ?_
                              refine vv_icmp_eq (tgt := 1088) F dL_law_485 (by decide) (fun _ => ?_) (fun z => absurd rfl z)
                              refine vv_iinc (v := nI (u + 5)) (lv' := [(3, .int (nI (u + 5))), (0, .ref b), (1, .ref hx), (2, .ref hm)]) 0 F dL_law_1088 rfl (nI_5 u) (by decide) rfl ?_
                              refine vv_goto (tgt := 18) F dL_law_1091 (by decide) ?_
                              exact ih (u + 5) _ (by omega) (by omega) hI2
                            · have _ := 0
                              by_cases e12 : (xs u &&& 63) = 12
                              · refine vv_tabIn (tgt := 490) (off := 458) F dL_law_32 (by rw [e12]; decide) (by rw [e12]; decide) (by rw [e12]; rfl) (by decide) ?_
                                obtain ⟨r, d1, d2, q1, q2, f1, f2, i1, i2, w1, w1', w2, w2', hd1, hd2, c1, m1, n1, p1, g1, c2, m2, n2, p2, g2, hI2⟩ := s12 (xs (u + 1)) (xs (u + 2)) ws hI
                                refine vv_aload_n F dL_law_490 rfl rfl ?_
                                refine vv_aload_n F dL_law_491 rfl rfl ?_
                                refine vv_iload_n F dL_law_492 rfl rfl ?_
                                refine vv_iconst (v := 1) F dL_law_493 (by decide) ?_
                                refine vv_iadd F dL_law_494 ?_
                                refine vv_sld F hs dL_law_495 (vv_ixP (j := u + 1) (nn_add (nI_toInt (n := u) (by omega)) (by decide : (1 : Int32).toInt = ((1 : Nat) : Int)) (by omega)) (by omega)) ?_
                                refine vv_aload_n F dL_law_496 rfl rfl ?_
                                refine vv_iload_n F dL_law_497 rfl rfl ?_
                                refine vv_iconst (v := 2) F dL_law_498 (by decide) ?_
                                refine vv_iadd F dL_law_499 ?_
                                refine vv_sld F hs dL_law_500 (vv_ixP (j := u + 2) (nn_add (nI_toInt (n := u) (by omega)) (by decide : (2 : Int32).toInt = ((2 : Nat) : Int)) (by omega)) (by omega)) ?_
                                refine vv_callV (As := [.int (xs (u + 1)), .int (xs (u + 2))]) (rest := []) i1 q1 F c1 mv_L_65 dL_law_501 (by omega) rfl rfl (Nat.le_of_ble_eq_true rfl) m1 n1 p1 g1 rfl ?_
                                refine vv_aload_n F dL_law_504 rfl rfl ?_
                                refine vv_aload_n F dL_law_505 rfl rfl ?_
                                refine vv_iload_n F dL_law_506 rfl rfl ?_
                                refine vv_iconst (v := 1) F dL_law_507 (by decide) ?_
                                refine vv_iadd F dL_law_508 ?_
                                refine vv_sld F hs dL_law_509 (vv_ixP (j := u + 1) (nn_add (nI_toInt (n := u) (by omega)) (by decide : (1 : Int32).toInt = ((1 : Nat) : Int)) (by omega)) (by omega)) ?_
                                refine vv_aload_n F dL_law_510 rfl rfl ?_
                                refine vv_iload_n F dL_law_511 rfl rfl ?_
                                refine vv_iconst (v := 2) F dL_law_512 (by decide) ?_
                                refine vv_iadd F dL_law_513 ?_
                                refine vv_sld F hs dL_law_514 (vv_ixP (j := u + 2) (nn_add (nI_toInt (n := u) (by omega)) (by decide : (2 : Int32).toInt = ((2 : Nat) : Int)) (by omega)) (by omega)) ?_
                                refine vv_callV (As := [.int (xs (u + 1)), .int (xs (u + 2))]) (rest := [.int r]) i2 q2 F c2 mv_L_68 dL_law_515 (by omega) rfl rfl (Nat.le_of_ble_eq_true rfl) m2 n2 p2 g2 rfl ?_
                                refine vv_icmp_eq (tgt := 1088) F dL_law_518 (by decide) (fun _ => ?_) (fun z => absurd rfl z)
                                refine vv_iinc (v := nI (u + 5)) (lv' := [(3, .int (nI (u + 5))), (0, .ref b), (1, .ref hx), (2, .ref hm)]) 0 F dL_law_1088 rfl (nI_5 u) (by decide) rfl ?_
                                refine vv_goto (tgt := 18) F dL_law_1091 (by decide) ?_
                                exact ih (u + 5) _ (by omega) (by omega) hI2
                              · have _ := 0
                                by_cases e13 : (xs u &&& 63) = 13
                                · refine vv_tabIn (tgt := 523) (off := 491) F dL_law_32 (by rw [e13]; decide) (by rw [e13]; decide) (by rw [e13]; rfl) (by decide) ?_
                                  obtain ⟨r, d1, d2, q1, q2, f1, f2, i1, i2, w1, w1', w2, w2', hd1, hd2, c1, m1, n1, p1, g1, c2, m2, n2, p2, g2, hI2⟩ := s13 (xs (u + 1)) (xs (u + 2)) (xs (u + 3)) ws hI
                                  refine vv_aload_n F dL_law_523 rfl rfl ?_
                                  refine vv_aload_n F dL_law_524 rfl rfl ?_
                                  refine vv_iload_n F dL_law_525 rfl rfl ?_
                                  refine vv_iconst (v := 1) F dL_law_526 (by decide) ?_
                                  refine vv_iadd F dL_law_527 ?_
                                  refine vv_sld F hs dL_law_528 (vv_ixP (j := u + 1) (nn_add (nI_toInt (n := u) (by omega)) (by decide : (1 : Int32).toInt = ((1 : Nat) : Int)) (by omega)) (by omega)) ?_
                                  refine vv_aload_n F dL_law_529 rfl rfl ?_
                                  refine vv_iload_n F dL_law_530 rfl rfl ?_
                                  refine vv_iconst (v := 2) F dL_law_531 (by decide) ?_
                                  refine vv_iadd F dL_law_532 ?_
                                  refine vv_sld F hs dL_law_533 (vv_ixP (j := u + 2) (nn_add (nI_toInt (n := u) (by omega)) (by decide : (2 : Int32).toInt = ((2 : Nat) : Int)) (by omega)) (by omega)) ?_
                                  refine vv_aload_n F dL_law_534 rfl rfl ?_
                                  refine vv_iload_n F dL_law_535 rfl rfl ?_
                                  refine vv_iconst (v := 3) F dL_law_536 (by decide) ?_
                                  refine vv_iadd F dL_law_537 ?_
                                  refine vv_sld F hs dL_law_538 (vv_ixP (j := u + 3) (nn_add (nI_toInt (n := u) (by omega)) (by decide : (3 : Int32).toInt = ((3 : Nat) : Int)) (by omega)) (by omega)) ?_
                                  refine vv_callV (As := [.int (xs (u + 1)), .int (xs (u + 2)), .int (xs (u + 3))]) (rest := []) i1 q1 F c1 mv_L_69 dL_law_539 (by omega) rfl rfl (Nat.le_of_ble_eq_true rfl) m1 n1 p1 g1 rfl ?_
                                  refine vv_aload_n F dL_law_542 rfl rfl ?_
                                  refine vv_aload_n F dL_law_543 rfl rfl ?_
                                  refine vv_iload_n F dL_law_544 rfl rfl ?_
                                  refine vv_iconst (v := 1) F dL_law_545 (by decide) ?_
                                  refine vv_iadd F dL_law_546 ?_
                                  refine vv_sld F hs dL_law_547 (vv_ixP (j := u + 1) (nn_add (nI_toInt (n := u) (by omega)) (by decide : (1 : Int32).toInt = ((1 : Nat) : Int)) (by omega)) (by omega)) ?_
                                  refine vv_aload_n F dL_law_548 rfl rfl ?_
                                  refine vv_iload_n F dL_law_549 rfl rfl ?_
                                  refine vv_iconst (v := 2) F dL_law_550 (by decide) ?_
                                  refine vv_iadd F dL_law_551 ?_
                                  refine vv_sld F hs dL_law_552 (vv_ixP (j := u + 2) (nn_add (nI_toInt (n := u) (by omega)) (by decide : (2 : Int32).toInt = ((2 : Nat) : Int)) (by omega)) (by omega)) ?_
                                  refine vv_aload_n F dL_law_553 rfl rfl ?_
                                  refine vv_iload_n F dL_law_554 rfl rfl ?_
                                  refine vv_iconst (v := 3) F dL_law_555 (by decide) ?_
                                  refine vv_iadd F dL_law_556 ?_
                                  refine vv_sld F hs dL_law_557 (vv_ixP (j := u + 3) (nn_add (nI_toInt (n := u) (by omega)) (by decide : (3 : Int32).toInt = ((3 : Nat) : Int)) (by omega)) (by omega)) ?_
                                  refine vv_callV (As := [.int (xs (u + 1)), .int (xs (u + 2)), .int (xs (u + 3))]) (rest := [.int r]) i2 q2 F c2 mv_L_72 dL_law_558 (by omega) rfl rfl (Nat.le_of_ble_eq_true rfl) m2 n2 p2 g2 rfl ?_
                                  refine vv_icmp_eq (tgt := 1088) F dL_law_561 (by decide) (fun _ => ?_) (fun z => absurd rfl z)
                                  refine vv_iinc (v := nI (u + 5)) (lv' := [(3, .int (nI (u + 5))), (0, .ref b), (1, .ref hx), (2, .ref hm)]) 0 F dL_law_1088 rfl (nI_5 u) (by decide) rfl ?_
                                  refine vv_goto (tgt := 18) F dL_law_1091 (by decide) ?_
                                  exact ih (u + 5) _ (by omega) (by omega) hI2
                                · have _ := 0
                                  by_cases e14 : (xs u &&& 63) = 14
                                  · refine vv_tabIn (tgt := 566) (off := 534) F dL_law_32 (by rw [e14]; decide) (by rw [e14]; decide) (by rw [e14]; rfl) (by decide) ?_
                                    obtain ⟨r, d1, d2, q1, q2, f1, f2, i1, i2, w1, w1', w2, w2', hd1, hd2, c1, m1, n1, p1, g1, c2, m2, n2, p2, g2, hI2⟩ := s14 (xs (u + 1)) ws hI
                                    refine vv_aload_n F dL_law_566 rfl rfl ?_
                                    refine vv_aload_n F dL_law_567 rfl rfl ?_
                                    refine vv_iload_n F dL_law_568 rfl rfl ?_
                                    refine vv_iconst (v := 1) F dL_law_569 (by decide) ?_
                                    refine vv_iadd F dL_law_570 ?_
                                    refine vv_sld F hs dL_law_571 (vv_ixP (j := u + 1) (nn_add (nI_toInt (n := u) (by omega)) (by decide : (1 : Int32).toInt = ((1 : Nat) : Int)) (by omega)) (by omega)) ?_
                                    refine vv_callV (As := [.int (xs (u + 1))]) (rest := []) i1 q1 F c1 mv_L_73 dL_law_572 (by omega) rfl rfl (Nat.le_of_ble_eq_true rfl) m1 n1 p1 g1 rfl ?_
                                    refine vv_aload_n F dL_law_575 rfl rfl ?_
                                    refine vv_aload_n F dL_law_576 rfl rfl ?_
                                    refine vv_iload_n F dL_law_577 rfl rfl ?_
                                    refine vv_iconst (v := 1) F dL_law_578 (by decide) ?_
                                    refine vv_iadd F dL_law_579 ?_
                                    refine vv_sld F hs dL_law_580 (vv_ixP (j := u + 1) (nn_add (nI_toInt (n := u) (by omega)) (by decide : (1 : Int32).toInt = ((1 : Nat) : Int)) (by omega)) (by omega)) ?_
                                    refine vv_callV (As := [.int (xs (u + 1))]) (rest := [.int r]) i2 q2 F c2 mv_L_76 dL_law_581 (by omega) rfl rfl (Nat.le_of_ble_eq_true rfl) m2 n2 p2 g2 rfl ?_
                                    refine vv_icmp_eq (tgt := 1088) F dL_law_584 (by decide) (fun _ => ?_) (fun z => absurd rfl z)
                                    refine vv_iinc (v := nI (u + 5)) (lv' := [(3, .int (nI (u + 5))), (0, .ref b), (1, .ref hx), (2, .ref hm)]) 0 F dL_law_1088 rfl (nI_5 u) (by decide) rfl ?_
                                    refine vv_goto (tgt := 18) F dL_law_1091 (by decide) ?_
                                    exact ih (u + 5) _ (by omega) (by omega) hI2
                                  · have _ := 0
                                    by_cases e15 : (xs u &&& 63) = 15
                                    · refine vv_tabIn (tgt := 589) (off := 557) F dL_law_32 (by rw [e15]; decide) (by rw [e15]; decide) (by rw [e15]; rfl) (by decide) ?_
                                      obtain ⟨r, d1, d2, q1, q2, f1, f2, i1, i2, w1, w1', w2, w2', hd1, hd2, c1, m1, n1, p1, g1, c2, m2, n2, p2, g2, hI2⟩ := s15 (xs (u + 1)) (xs (u + 2)) ws hI
                                      refine vv_aload_n F dL_law_589 rfl rfl ?_
                                      refine vv_aload_n F dL_law_590 rfl rfl ?_
                                      refine vv_iload_n F dL_law_591 rfl rfl ?_
                                      refine vv_iconst (v := 1) F dL_law_592 (by decide) ?_
                                      refine vv_iadd F dL_law_593 ?_
                                      refine vv_sld F hs dL_law_594 (vv_ixP (j := u + 1) (nn_add (nI_toInt (n := u) (by omega)) (by decide : (1 : Int32).toInt = ((1 : Nat) : Int)) (by omega)) (by omega)) ?_
                                      refine vv_aload_n F dL_law_595 rfl rfl ?_
                                      refine vv_iload_n F dL_law_596 rfl rfl ?_
                                      refine vv_iconst (v := 2) F dL_law_597 (by decide) ?_
                                      refine vv_iadd F dL_law_598 ?_
                                      refine vv_sld F hs dL_law_599 (vv_ixP (j := u + 2) (nn_add (nI_toInt (n := u) (by omega)) (by decide : (2 : Int32).toInt = ((2 : Nat) : Int)) (by omega)) (by omega)) ?_
                                      refine vv_callV (As := [.int (xs (u + 1)), .int (xs (u + 2))]) (rest := []) i1 q1 F c1 mv_L_77 dL_law_600 (by omega) rfl rfl (Nat.le_of_ble_eq_true rfl) m1 n1 p1 g1 rfl ?_
                                      refine vv_aload_n F dL_law_603 rfl rfl ?_
                                      refine vv_aload_n F dL_law_604 rfl rfl ?_
                                      refine vv_iload_n F dL_law_605 rfl rfl ?_
                                      refine vv_iconst (v := 1) F dL_law_606 (by decide) ?_
                                      refine vv_iadd F dL_law_607 ?_
                                      refine vv_sld F hs dL_law_608 (vv_ixP (j := u + 1) (nn_add (nI_toInt (n := u) (by omega)) (by decide : (1 : Int32).toInt = ((1 : Nat) : Int)) (by omega)) (by omega)) ?_
                                      refine vv_aload_n F dL_law_609 rfl rfl ?_
                                      refine vv_iload_n F dL_law_610 rfl rfl ?_
                                      refine vv_iconst (v := 2) F dL_law_611 (by decide) ?_
                                      refine vv_iadd F dL_law_612 ?_
                                      refine vv_sld F hs dL_law_613 (vv_ixP (j := u + 2) (nn_add (nI_toInt (n := u) (by omega)) (by decide : (2 : Int32).toInt = ((2 : Nat) : Int)) (by omega)) (by omega)) ?_
                                      refine vv_callV (As := [.int (xs (u + 1)), .int (xs (u + 2))]) (rest := [.int r]) i2 q2 F c2 mv_L_80 dL_law_614 (by omega) rfl rfl (Nat.le_of_ble_eq_true rfl) m2 n2 p2 g2 rfl ?_
                                      refine vv_icmp_eq (tgt := 1088) F dL_law_617 (by decide) (fun _ => ?_) (fun z => absurd rfl z)
                                      refine vv_iinc (v := nI (u + 5)) (lv' := [(3, .int (nI (u + 5))), (0, .ref b), (1, .ref hx), (2, .ref hm)]) 0 F dL_law_1088 rfl (nI_5 u) (by decide) rfl ?_
                                      refine vv_goto (tgt := 18) F dL_law_1091 (by decide) ?_
                                      exact ih (u + 5) _ (by omega) (by omega) hI2
                                    · have _ := 0
                                      by_cases e16 : (xs u &&& 63) = 16
                                      · refine vv_tabIn (tgt := 622) (off := 590) F dL_law_32 (by rw [e16]; decide) (by rw [e16]; decide) (by rw [e16]; rfl) (by decide) ?_
                                        obtain ⟨r, d1, d2, q1, q2, f1, f2, i1, i2, w1, w1', w2, w2', hd1, hd2, c1, m1, n1, p1, g1, c2, m2, n2, p2, g2, hI2⟩ := s16 (xs (u + 1)) ws hI
                                        refine vv_aload_n F dL_law_622 rfl rfl ?_
                                        refine vv_aload_n F dL_law_623 rfl rfl ?_
                                        refine vv_iload_n F dL_law_624 rfl rfl ?_
                                        refine vv_iconst (v := 1) F dL_law_625 (by decide) ?_
                                        refine vv_iadd F dL_law_626 ?_
                                        refine vv_sld F hs dL_law_627 (vv_ixP (j := u + 1) (nn_add (nI_toInt (n := u) (by omega)) (by decide : (1 : Int32).toInt = ((1 : Nat) : Int)) (by omega)) (by omega)) ?_
                                        refine vv_callV (As := [.int (xs (u + 1))]) (rest := []) i1 q1 F c1 mv_L_81 dL_law_628 (by omega) rfl rfl (Nat.le_of_ble_eq_true rfl) m1 n1 p1 g1 rfl ?_
                                        refine vv_aload_n F dL_law_631 rfl rfl ?_
                                        refine vv_aload_n F dL_law_632 rfl rfl ?_
                                        refine vv_iload_n F dL_law_633 rfl rfl ?_
                                        refine vv_iconst (v := 1) F dL_law_634 (by decide) ?_
                                        refine vv_iadd F dL_law_635 ?_
                                        refine vv_sld F hs dL_law_636 (vv_ixP (j := u + 1) (nn_add (nI_toInt (n := u) (by omega)) (by decide : (1 : Int32).toInt = ((1 : Nat) : Int)) (by omega)) (by omega)) ?_
                                        refine vv_callV (As := [.int (xs (u + 1))]) (rest := [.int r]) i2 q2 F c2 mv_L_84 dL_law_637 (by omega) rfl rfl (Nat.le_of_ble_eq_true rfl) m2 n2 p2 g2 rfl ?_
                                        refine vv_icmp_eq (tgt := 1088) F dL_law_640 (by decide) (fun _ => ?_) (fun z => absurd rfl z)
                                        refine vv_iinc (v := nI (u + 5)) (lv' := [(3, .int (nI (u + 5))), (0, .ref b), (1, .ref hx), (2, .ref hm)]) 0 F dL_law_1088 rfl (nI_5 u) (by decide) rfl ?_
                                        refine vv_goto (tgt := 18) F dL_law_1091 (by decide) ?_
                                        exact ih (u + 5) _ (by omega) (by omega) hI2
                                      · have _ := 0
                                        by_cases e17 : (xs u &&& 63) = 17
                                        · refine vv_tabIn (tgt := 645) (off := 613) F dL_law_32 (by rw [e17]; decide) (by rw [e17]; decide) (by rw [e17]; rfl) (by decide) ?_
                                          obtain ⟨r, d1, d2, q1, q2, f1, f2, i1, i2, w1, w1', w2, w2', hd1, hd2, c1, m1, n1, p1, g1, c2, m2, n2, p2, g2, hI2⟩ := s17 ws hI
                                          refine vv_aload_n F dL_law_645 rfl rfl ?_
                                          refine vv_callV (As := []) (rest := []) i1 q1 F c1 mv_L_85 dL_law_646 (by omega) rfl rfl (Nat.le_of_ble_eq_true rfl) m1 n1 p1 g1 rfl ?_
                                          refine vv_aload_n F dL_law_649 rfl rfl ?_
                                          refine vv_callV (As := []) (rest := [.int r]) i2 q2 F c2 mv_L_88 dL_law_650 (by omega) rfl rfl (Nat.le_of_ble_eq_true rfl) m2 n2 p2 g2 rfl ?_
                                          refine vv_icmp_eq (tgt := 1088) F dL_law_653 (by decide) (fun _ => ?_) (fun z => absurd rfl z)
                                          refine vv_iinc (v := nI (u + 5)) (lv' := [(3, .int (nI (u + 5))), (0, .ref b), (1, .ref hx), (2, .ref hm)]) 0 F dL_law_1088 rfl (nI_5 u) (by decide) rfl ?_
                                          refine vv_goto (tgt := 18) F dL_law_1091 (by decide) ?_
                                          exact ih (u + 5) _ (by omega) (by omega) hI2
                                        · have _ := 0
                                          by_cases e18 : (xs u &&& 63) = 18
                                          · refine vv_tabIn (tgt := 658) (off := 626) F dL_law_32 (by rw [e18]; decide) (by rw [e18]; decide) (by rw [e18]; rfl) (by decide) ?_
                                            obtain ⟨r, d1, d2, q1, q2, f1, f2, i1, i2, w1, w1', w2, w2', hd1, hd2, c1, m1, n1, p1, g1, c2, m2, n2, p2, g2, hI2⟩ := s18 (xs (u + 1)) (xs (u + 2)) (xs (u + 3)) (xs (u + 4)) ws hI
                                            refine vv_aload_n F dL_law_658 rfl rfl ?_
                                            refine vv_aload_n F dL_law_659 rfl rfl ?_
                                            refine vv_iload_n F dL_law_660 rfl rfl ?_
                                            refine vv_iconst (v := 1) F dL_law_661 (by decide) ?_
                                            refine vv_iadd F dL_law_662 ?_
                                            refine vv_sld F hs dL_law_663 (vv_ixP (j := u + 1) (nn_add (nI_toInt (n := u) (by omega)) (by decide : (1 : Int32).toInt = ((1 : Nat) : Int)) (by omega)) (by omega)) ?_
                                            refine vv_aload_n F dL_law_664 rfl rfl ?_
                                            refine vv_iload_n F dL_law_665 rfl rfl ?_
                                            refine vv_iconst (v := 2) F dL_law_666 (by decide) ?_
                                            refine vv_iadd F dL_law_667 ?_
                                            refine vv_sld F hs dL_law_668 (vv_ixP (j := u + 2) (nn_add (nI_toInt (n := u) (by omega)) (by decide : (2 : Int32).toInt = ((2 : Nat) : Int)) (by omega)) (by omega)) ?_
                                            refine vv_aload_n F dL_law_669 rfl rfl ?_
                                            refine vv_iload_n F dL_law_670 rfl rfl ?_
                                            refine vv_iconst (v := 3) F dL_law_671 (by decide) ?_
                                            refine vv_iadd F dL_law_672 ?_
                                            refine vv_sld F hs dL_law_673 (vv_ixP (j := u + 3) (nn_add (nI_toInt (n := u) (by omega)) (by decide : (3 : Int32).toInt = ((3 : Nat) : Int)) (by omega)) (by omega)) ?_
                                            refine vv_aload_n F dL_law_674 rfl rfl ?_
                                            refine vv_iload_n F dL_law_675 rfl rfl ?_
                                            refine vv_iconst (v := 4) F dL_law_676 (by decide) ?_
                                            refine vv_iadd F dL_law_677 ?_
                                            refine vv_sld F hs dL_law_678 (vv_ixP (j := u + 4) (nn_add (nI_toInt (n := u) (by omega)) (by decide : (4 : Int32).toInt = ((4 : Nat) : Int)) (by omega)) (by omega)) ?_
                                            refine vv_callV (As := [.int (xs (u + 1)), .int (xs (u + 2)), .int (xs (u + 3)), .int (xs (u + 4))]) (rest := []) i1 q1 F c1 mv_L_89 dL_law_679 (by omega) rfl rfl (Nat.le_of_ble_eq_true rfl) m1 n1 p1 g1 rfl ?_
                                            refine vv_aload_n F dL_law_682 rfl rfl ?_
                                            refine vv_aload_n F dL_law_683 rfl rfl ?_
                                            refine vv_iload_n F dL_law_684 rfl rfl ?_
                                            refine vv_iconst (v := 1) F dL_law_685 (by decide) ?_
                                            refine vv_iadd F dL_law_686 ?_
                                            refine vv_sld F hs dL_law_687 (vv_ixP (j := u + 1) (nn_add (nI_toInt (n := u) (by omega)) (by decide : (1 : Int32).toInt = ((1 : Nat) : Int)) (by omega)) (by omega)) ?_
                                            refine vv_aload_n F dL_law_688 rfl rfl ?_
                                            refine vv_iload_n F dL_law_689 rfl rfl ?_
                                            refine vv_iconst (v := 2) F dL_law_690 (by decide) ?_
                                            refine vv_iadd F dL_law_691 ?_
                                            refine vv_sld F hs dL_law_692 (vv_ixP (j := u + 2) (nn_add (nI_toInt (n := u) (by omega)) (by decide : (2 : Int32).toInt = ((2 : Nat) : Int)) (by omega)) (by omega)) ?_
                                            refine vv_aload_n F dL_law_693 rfl rfl ?_
                                            refine vv_iload_n F dL_law_694 rfl rfl ?_
                                            refine vv_iconst (v := 3) F dL_law_695 (by decide) ?_
                                            refine vv_iadd F dL_law_696 ?_
                                            refine vv_sld F hs dL_law_697 (vv_ixP (j := u + 3) (nn_add (nI_toInt (n := u) (by omega)) (by decide : (3 : Int32).toInt = ((3 : Nat) : Int)) (by omega)) (by omega)) ?_
                                            refine vv_aload_n F dL_law_698 rfl rfl ?_
                                            refine vv_iload_n F dL_law_699 rfl rfl ?_
                                            refine vv_iconst (v := 4) F dL_law_700 (by decide) ?_
                                            refine vv_iadd F dL_law_701 ?_
                                            refine vv_sld F hs dL_law_702 (vv_ixP (j := u + 4) (nn_add (nI_toInt (n := u) (by omega)) (by decide : (4 : Int32).toInt = ((4 : Nat) : Int)) (by omega)) (by omega)) ?_
                                            refine vv_callV (As := [.int (xs (u + 1)), .int (xs (u + 2)), .int (xs (u + 3)), .int (xs (u + 4))]) (rest := [.int r]) i2 q2 F c2 mv_L_93 dL_law_703 (by omega) rfl rfl (Nat.le_of_ble_eq_true rfl) m2 n2 p2 g2 rfl ?_
                                            refine vv_icmp_eq (tgt := 1088) F dL_law_706 (by decide) (fun _ => ?_) (fun z => absurd rfl z)
                                            refine vv_iinc (v := nI (u + 5)) (lv' := [(3, .int (nI (u + 5))), (0, .ref b), (1, .ref hx), (2, .ref hm)]) 0 F dL_law_1088 rfl (nI_5 u) (by decide) rfl ?_
                                            refine vv_goto (tgt := 18) F dL_law_1091 (by decide) ?_
                                            exact ih (u + 5) _ (by omega) (by omega) hI2
                                          · have _ := 0
                                            by_cases e19 : (xs u &&& 63) = 19
                                            · refine vv_tabIn (tgt := 711) (off := 679) F dL_law_32 (by rw [e19]; decide) (by rw [e19]; decide) (by rw [e19]; rfl) (by decide) ?_
                                              obtain ⟨r, d1, d2, q1, q2, f1, f2, i1, i2, w1, w1', w2, w2', hd1, hd2, c1, m1, n1, p1, g1, c2, m2, n2, p2, g2, hI2⟩ := s19 (xs (u + 1)) (xs (u + 2)) (xs (u + 3)) (xs (u + 4)) ws hI
                                              refine vv_aload_n F dL_law_711 rfl rfl ?_
                                              refine vv_aload_n F dL_law_712 rfl rfl ?_
                                              refine vv_iload_n F dL_law_713 rfl rfl ?_
                                              refine vv_iconst (v := 1) F dL_law_714 (by decide) ?_
                                              refine vv_iadd F dL_law_715 ?_
                                              refine vv_sld F hs dL_law_716 (vv_ixP (j := u + 1) (nn_add (nI_toInt (n := u) (by omega)) (by decide : (1 : Int32).toInt = ((1 : Nat) : Int)) (by omega)) (by omega)) ?_
                                              refine vv_aload_n F dL_law_717 rfl rfl ?_
                                              refine vv_iload_n F dL_law_718 rfl rfl ?_
                                              refine vv_iconst (v := 2) F dL_law_719 (by decide) ?_
                                              refine vv_iadd F dL_law_720 ?_
                                              refine vv_sld F hs dL_law_721 (vv_ixP (j := u + 2) (nn_add (nI_toInt (n := u) (by omega)) (by decide : (2 : Int32).toInt = ((2 : Nat) : Int)) (by omega)) (by omega)) ?_
                                              refine vv_aload_n F dL_law_722 rfl rfl ?_
                                              refine vv_iload_n F dL_law_723 rfl rfl ?_
                                              refine vv_iconst (v := 3) F dL_law_724 (by decide) ?_
                                              refine vv_iadd F dL_law_725 ?_
                                              refine vv_sld F hs dL_law_726 (vv_ixP (j := u + 3) (nn_add (nI_toInt (n := u) (by omega)) (by decide : (3 : Int32).toInt = ((3 : Nat) : Int)) (by omega)) (by omega)) ?_
                                              refine vv_aload_n F dL_law_727 rfl rfl ?_
                                              refine vv_iload_n F dL_law_728 rfl rfl ?_
                                              refine vv_iconst (v := 4) F dL_law_729 (by decide) ?_
                                              refine vv_iadd F dL_law_730 ?_
                                              refine vv_sld F hs dL_law_731 (vv_ixP (j := u + 4) (nn_add (nI_toInt (n := u) (by omega)) (by decide : (4 : Int32).toInt = ((4 : Nat) : Int)) (by omega)) (by omega)) ?_
                                              refine vv_callV (As := [.int (xs (u + 1)), .int (xs (u + 2)), .int (xs (u + 3)), .int (xs (u + 4))]) (rest := []) i1 q1 F c1 mv_L_94 dL_law_732 (by omega) rfl rfl (Nat.le_of_ble_eq_true rfl) m1 n1 p1 g1 rfl ?_
                                              refine vv_aload_n F dL_law_735 rfl rfl ?_
                                              refine vv_aload_n F dL_law_736 rfl rfl ?_
                                              refine vv_iload_n F dL_law_737 rfl rfl ?_
                                              refine vv_iconst (v := 1) F dL_law_738 (by decide) ?_
                                              refine vv_iadd F dL_law_739 ?_
                                              refine vv_sld F hs dL_law_740 (vv_ixP (j := u + 1) (nn_add (nI_toInt (n := u) (by omega)) (by decide : (1 : Int32).toInt = ((1 : Nat) : Int)) (by omega)) (by omega)) ?_
                                              refine vv_aload_n F dL_law_741 rfl rfl ?_
                                              refine vv_iload_n F dL_law_742 rfl rfl ?_
                                              refine vv_iconst (v := 2) F dL_law_743 (by decide) ?_
                                              refine vv_iadd F dL_law_744 ?_
                                              refine vv_sld F hs dL_law_745 (vv_ixP (j := u + 2) (nn_add (nI_toInt (n := u) (by omega)) (by decide : (2 : Int32).toInt = ((2 : Nat) : Int)) (by omega)) (by omega)) ?_
                                              refine vv_aload_n F dL_law_746 rfl rfl ?_
                                              refine vv_iload_n F dL_law_747 rfl rfl ?_
                                              refine vv_iconst (v := 3) F dL_law_748 (by decide) ?_
                                              refine vv_iadd F dL_law_749 ?_
                                              refine vv_sld F hs dL_law_750 (vv_ixP (j := u + 3) (nn_add (nI_toInt (n := u) (by omega)) (by decide : (3 : Int32).toInt = ((3 : Nat) : Int)) (by omega)) (by omega)) ?_
                                              refine vv_aload_n F dL_law_751 rfl rfl ?_
                                              refine vv_iload_n F dL_law_752 rfl rfl ?_
                                              refine vv_iconst (v := 4) F dL_law_753 (by decide) ?_
                                              refine vv_iadd F dL_law_754 ?_
                                              refine vv_sld F hs dL_law_755 (vv_ixP (j := u + 4) (nn_add (nI_toInt (n := u) (by omega)) (by decide : (4 : Int32).toInt = ((4 : Nat) : Int)) (by omega)) (by omega)) ?_
                                              refine vv_callV (As := [.int (xs (u + 1)), .int (xs (u + 2)), .int (xs (u + 3)), .int (xs (u + 4))]) (rest := [.int r]) i2 q2 F c2 mv_L_97 dL_law_756 (by omega) rfl rfl (Nat.le_of_ble_eq_true rfl) m2 n2 p2 g2 rfl ?_
                                              refine vv_icmp_eq (tgt := 1088) F dL_law_759 (by decide) (fun _ => ?_) (fun z => absurd rfl z)
                                              refine vv_iinc (v := nI (u + 5)) (lv' := [(3, .int (nI (u + 5))), (0, .ref b), (1, .ref hx), (2, .ref hm)]) 0 F dL_law_1088 rfl (nI_5 u) (by decide) rfl ?_
                                              refine vv_goto (tgt := 18) F dL_law_1091 (by decide) ?_
                                              exact ih (u + 5) _ (by omega) (by omega) hI2
                                            · have _ := 0
                                              by_cases e20 : (xs u &&& 63) = 20
                                              · refine vv_tabIn (tgt := 764) (off := 732) F dL_law_32 (by rw [e20]; decide) (by rw [e20]; decide) (by rw [e20]; rfl) (by decide) ?_
                                                obtain ⟨r, d1, d2, q1, q2, f1, f2, i1, i2, w1, w1', w2, w2', hd1, hd2, c1, m1, n1, p1, g1, c2, m2, n2, p2, g2, hI2⟩ := s20 (xs (u + 1)) ws hI
                                                refine vv_aload_n F dL_law_764 rfl rfl ?_
                                                refine vv_aload_n F dL_law_765 rfl rfl ?_
                                                refine vv_iload_n F dL_law_766 rfl rfl ?_
                                                refine vv_iconst (v := 1) F dL_law_767 (by decide) ?_
                                                refine vv_iadd F dL_law_768 ?_
                                                refine vv_sld F hs dL_law_769 (vv_ixP (j := u + 1) (nn_add (nI_toInt (n := u) (by omega)) (by decide : (1 : Int32).toInt = ((1 : Nat) : Int)) (by omega)) (by omega)) ?_
                                                refine vv_callV (As := [.int (xs (u + 1))]) (rest := []) i1 q1 F c1 mv_L_98 dL_law_770 (by omega) rfl rfl (Nat.le_of_ble_eq_true rfl) m1 n1 p1 g1 rfl ?_
                                                refine vv_aload_n F dL_law_773 rfl rfl ?_
                                                refine vv_aload_n F dL_law_774 rfl rfl ?_
                                                refine vv_iload_n F dL_law_775 rfl rfl ?_
                                                refine vv_iconst (v := 1) F dL_law_776 (by decide) ?_
                                                refine vv_iadd F dL_law_777 ?_
                                                refine vv_sld F hs dL_law_778 (vv_ixP (j := u + 1) (nn_add (nI_toInt (n := u) (by omega)) (by decide : (1 : Int32).toInt = ((1 : Nat) : Int)) (by omega)) (by omega)) ?_
                                                refine vv_callV (As := [.int (xs (u + 1))]) (rest := [.int r]) i2 q2 F c2 mv_L_101 dL_law_779 (by omega) rfl rfl (Nat.le_of_ble_eq_true rfl) m2 n2 p2 g2 rfl ?_
                                                refine vv_icmp_eq (tgt := 1088) F dL_law_782 (by decide) (fun _ => ?_) (fun z => absurd rfl z)
                                                refine vv_iinc (v := nI (u + 5)) (lv' := [(3, .int (nI (u + 5))), (0, .ref b), (1, .ref hx), (2, .ref hm)]) 0 F dL_law_1088 rfl (nI_5 u) (by decide) rfl ?_
                                                refine vv_goto (tgt := 18) F dL_law_1091 (by decide) ?_
                                                exact ih (u + 5) _ (by omega) (by omega) hI2
                                              · have _ := 0
                                                by_cases e21 : (xs u &&& 63) = 21
                                                · refine vv_tabIn (tgt := 787) (off := 755) F dL_law_32 (by rw [e21]; decide) (by rw [e21]; decide) (by rw [e21]; rfl) (by decide) ?_
                                                  obtain ⟨r, d1, d2, q1, q2, f1, f2, i1, i2, w1, w1', w2, w2', hd1, hd2, c1, m1, n1, p1, g1, c2, m2, n2, p2, g2, hI2⟩ := s21 (xs (u + 1)) ws hI
                                                  refine vv_aload_n F dL_law_787 rfl rfl ?_
                                                  refine vv_aload_n F dL_law_788 rfl rfl ?_
                                                  refine vv_iload_n F dL_law_789 rfl rfl ?_
                                                  refine vv_iconst (v := 1) F dL_law_790 (by decide) ?_
                                                  refine vv_iadd F dL_law_791 ?_
                                                  refine vv_sld F hs dL_law_792 (vv_ixP (j := u + 1) (nn_add (nI_toInt (n := u) (by omega)) (by decide : (1 : Int32).toInt = ((1 : Nat) : Int)) (by omega)) (by omega)) ?_
                                                  refine vv_callV (As := [.int (xs (u + 1))]) (rest := []) i1 q1 F c1 mv_L_102 dL_law_793 (by omega) rfl rfl (Nat.le_of_ble_eq_true rfl) m1 n1 p1 g1 rfl ?_
                                                  refine vv_aload_n F dL_law_796 rfl rfl ?_
                                                  refine vv_aload_n F dL_law_797 rfl rfl ?_
                                                  refine vv_iload_n F dL_law_798 rfl rfl ?_
                                                  refine vv_iconst (v := 1) F dL_law_799 (by decide) ?_
                                                  refine vv_iadd F dL_law_800 ?_
                                                  refine vv_sld F hs dL_law_801 (vv_ixP (j := u + 1) (nn_add (nI_toInt (n := u) (by omega)) (by decide : (1 : Int32).toInt = ((1 : Nat) : Int)) (by omega)) (by omega)) ?_
                                                  refine vv_callV (As := [.int (xs (u + 1))]) (rest := [.int r]) i2 q2 F c2 mv_L_105 dL_law_802 (by omega) rfl rfl (Nat.le_of_ble_eq_true rfl) m2 n2 p2 g2 rfl ?_
                                                  refine vv_icmp_eq (tgt := 1088) F dL_law_805 (by decide) (fun _ => ?_) (fun z => absurd rfl z)
                                                  refine vv_iinc (v := nI (u + 5)) (lv' := [(3, .int (nI (u + 5))), (0, .ref b), (1, .ref hx), (2, .ref hm)]) 0 F dL_law_1088 rfl (nI_5 u) (by decide) rfl ?_
                                                  refine vv_goto (tgt := 18) F dL_law_1091 (by decide) ?_
                                                  exact ih (u + 5) _ (by omega) (by omega) hI2
                                                · have _ := 0
                                                  by_cases e22 : (xs u &&& 63) = 22
                                                  · refine vv_tabIn (tgt := 810) (off := 778) F dL_law_32 (by rw [e22]; decide) (by rw [e22]; decide) (by rw [e22]; rfl) (by decide) ?_
                                                    obtain ⟨r, d1, d2, q1, q2, f1, f2, i1, i2, w1, w1', w2, w2', hd1, hd2, c1, m1, n1, p1, g1, c2, m2, n2, p2, g2, hI2⟩ := s22 (xs (u + 1)) ws hI
                                                    refine vv_aload_n F dL_law_810 rfl rfl ?_
                                                    refine vv_aload_n F dL_law_811 rfl rfl ?_
                                                    refine vv_iload_n F dL_law_812 rfl rfl ?_
                                                    refine vv_iconst (v := 1) F dL_law_813 (by decide) ?_
                                                    refine vv_iadd F dL_law_814 ?_
                                                    refine vv_sld F hs dL_law_815 (vv_ixP (j := u + 1) (nn_add (nI_toInt (n := u) (by omega)) (by decide : (1 : Int32).toInt = ((1 : Nat) : Int)) (by omega)) (by omega)) ?_
                                                    refine vv_callV (As := [.int (xs (u + 1))]) (rest := []) i1 q1 F c1 mv_L_106 dL_law_816 (by omega) rfl rfl (Nat.le_of_ble_eq_true rfl) m1 n1 p1 g1 rfl ?_
                                                    refine vv_aload_n F dL_law_819 rfl rfl ?_
                                                    refine vv_aload_n F dL_law_820 rfl rfl ?_
                                                    refine vv_iload_n F dL_law_821 rfl rfl ?_
                                                    refine vv_iconst (v := 1) F dL_law_822 (by decide) ?_
                                                    refine vv_iadd F dL_law_823 ?_
                                                    refine vv_sld F hs dL_law_824 (vv_ixP (j := u + 1) (nn_add (nI_toInt (n := u) (by omega)) (by decide : (1 : Int32).toInt = ((1 : Nat) : Int)) (by omega)) (by omega)) ?_
                                                    refine vv_callV (As := [.int (xs (u + 1))]) (rest := [.int r]) i2 q2 F c2 mv_L_109 dL_law_825 (by omega) rfl rfl (Nat.le_of_ble_eq_true rfl) m2 n2 p2 g2 rfl ?_
                                                    refine vv_icmp_eq (tgt := 1088) F dL_law_828 (by decide) (fun _ => ?_) (fun z => absurd rfl z)
                                                    refine vv_iinc (v := nI (u + 5)) (lv' := [(3, .int (nI (u + 5))), (0, .ref b), (1, .ref hx), (2, .ref hm)]) 0 F dL_law_1088 rfl (nI_5 u) (by decide) rfl ?_
                                                    refine vv_goto (tgt := 18) F dL_law_1091 (by decide) ?_
                                                    exact ih (u + 5) _ (by omega) (by omega) hI2
                                                  · have _ := 0
                                                    by_cases e23 : (xs u &&& 63) = 23
                                                    · refine vv_tabIn (tgt := 833) (off := 801) F dL_law_32 (by rw [e23]; decide) (by rw [e23]; decide) (by rw [e23]; rfl) (by decide) ?_
                                                      obtain ⟨r, d1, d2, q1, q2, f1, f2, i1, i2, w1, w1', w2, w2', hd1, hd2, c1, m1, n1, p1, g1, c2, m2, n2, p2, g2, hI2⟩ := s23 (xs (u + 1)) ws hI
                                                      refine vv_aload_n F dL_law_833 rfl rfl ?_
                                                      refine vv_aload_n F dL_law_834 rfl rfl ?_
                                                      refine vv_iload_n F dL_law_835 rfl rfl ?_
                                                      refine vv_iconst (v := 1) F dL_law_836 (by decide) ?_
                                                      refine vv_iadd F dL_law_837 ?_
                                                      refine vv_sld F hs dL_law_838 (vv_ixP (j := u + 1) (nn_add (nI_toInt (n := u) (by omega)) (by decide : (1 : Int32).toInt = ((1 : Nat) : Int)) (by omega)) (by omega)) ?_
                                                      refine vv_callV (As := [.int (xs (u + 1))]) (rest := []) i1 q1 F c1 mv_L_110 dL_law_839 (by omega) rfl rfl (Nat.le_of_ble_eq_true rfl) m1 n1 p1 g1 rfl ?_
                                                      refine vv_aload_n F dL_law_842 rfl rfl ?_
                                                      refine vv_aload_n F dL_law_843 rfl rfl ?_
                                                      refine vv_iload_n F dL_law_844 rfl rfl ?_
                                                      refine vv_iconst (v := 1) F dL_law_845 (by decide) ?_
                                                      refine vv_iadd F dL_law_846 ?_
                                                      refine vv_sld F hs dL_law_847 (vv_ixP (j := u + 1) (nn_add (nI_toInt (n := u) (by omega)) (by decide : (1 : Int32).toInt = ((1 : Nat) : Int)) (by omega)) (by omega)) ?_
                                                      refine vv_callV (As := [.int (xs (u + 1))]) (rest := [.int r]) i2 q2 F c2 mv_L_113 dL_law_848 (by omega) rfl rfl (Nat.le_of_ble_eq_true rfl) m2 n2 p2 g2 rfl ?_
                                                      refine vv_icmp_eq (tgt := 1088) F dL_law_851 (by decide) (fun _ => ?_) (fun z => absurd rfl z)
                                                      refine vv_iinc (v := nI (u + 5)) (lv' := [(3, .int (nI (u + 5))), (0, .ref b), (1, .ref hx), (2, .ref hm)]) 0 F dL_law_1088 rfl (nI_5 u) (by decide) rfl ?_
                                                      refine vv_goto (tgt := 18) F dL_law_1091 (by decide) ?_
                                                      exact ih (u + 5) _ (by omega) (by omega) hI2
                                                    · have _ := 0
                                                      by_cases e24 : (xs u &&& 63) = 24
                                                      · refine vv_tabIn (tgt := 856) (off := 824) F dL_law_32 (by rw [e24]; decide) (by rw [e24]; decide) (by rw [e24]; rfl) (by decide) ?_
                                                        obtain ⟨r, d1, d2, q1, q2, f1, f2, i1, i2, w1, w1', w2, w2', hd1, hd2, c1, m1, n1, p1, g1, c2, m2, n2, p2, g2, hI2⟩ := s24 (xs (u + 1)) ws hI
                                                        refine vv_aload_n F dL_law_856 rfl rfl ?_
                                                        refine vv_aload_n F dL_law_857 rfl rfl ?_
                                                        refine vv_iload_n F dL_law_858 rfl rfl ?_
                                                        refine vv_iconst (v := 1) F dL_law_859 (by decide) ?_
                                                        refine vv_iadd F dL_law_860 ?_
                                                        refine vv_sld F hs dL_law_861 (vv_ixP (j := u + 1) (nn_add (nI_toInt (n := u) (by omega)) (by decide : (1 : Int32).toInt = ((1 : Nat) : Int)) (by omega)) (by omega)) ?_
                                                        refine vv_callV (As := [.int (xs (u + 1))]) (rest := []) i1 q1 F c1 mv_L_114 dL_law_862 (by omega) rfl rfl (Nat.le_of_ble_eq_true rfl) m1 n1 p1 g1 rfl ?_
                                                        refine vv_aload_n F dL_law_865 rfl rfl ?_
                                                        refine vv_aload_n F dL_law_866 rfl rfl ?_
                                                        refine vv_iload_n F dL_law_867 rfl rfl ?_
                                                        refine vv_iconst (v := 1) F dL_law_868 (by decide) ?_
                                                        refine vv_iadd F dL_law_869 ?_
                                                        refine vv_sld F hs dL_law_870 (vv_ixP (j := u + 1) (nn_add (nI_toInt (n := u) (by omega)) (by decide : (1 : Int32).toInt = ((1 : Nat) : Int)) (by omega)) (by omega)) ?_
                                                        refine vv_callV (As := [.int (xs (u + 1))]) (rest := [.int r]) i2 q2 F c2 mv_L_117 dL_law_871 (by omega) rfl rfl (Nat.le_of_ble_eq_true rfl) m2 n2 p2 g2 rfl ?_
                                                        refine vv_icmp_eq (tgt := 1088) F dL_law_874 (by decide) (fun _ => ?_) (fun z => absurd rfl z)
                                                        refine vv_iinc (v := nI (u + 5)) (lv' := [(3, .int (nI (u + 5))), (0, .ref b), (1, .ref hx), (2, .ref hm)]) 0 F dL_law_1088 rfl (nI_5 u) (by decide) rfl ?_
                                                        refine vv_goto (tgt := 18) F dL_law_1091 (by decide) ?_
                                                        exact ih (u + 5) _ (by omega) (by omega) hI2
                                                      · have _ := 0
                                                        by_cases e25 : (xs u &&& 63) = 25
                                                        · refine vv_tabIn (tgt := 879) (off := 847) F dL_law_32 (by rw [e25]; decide) (by rw [e25]; decide) (by rw [e25]; rfl) (by decide) ?_
                                                          obtain ⟨r, d1, d2, q1, q2, f1, f2, i1, i2, w1, w1', w2, w2', hd1, hd2, c1, m1, n1, p1, g1, c2, m2, n2, p2, g2, hI2⟩ := s25 (xs (u + 1)) ws hI
                                                          refine vv_aload_n F dL_law_879 rfl rfl ?_
                                                          refine vv_aload_n F dL_law_880 rfl rfl ?_
                                                          refine vv_iload_n F dL_law_881 rfl rfl ?_
                                                          refine vv_iconst (v := 1) F dL_law_882 (by decide) ?_
                                                          refine vv_iadd F dL_law_883 ?_
                                                          refine vv_sld F hs dL_law_884 (vv_ixP (j := u + 1) (nn_add (nI_toInt (n := u) (by omega)) (by decide : (1 : Int32).toInt = ((1 : Nat) : Int)) (by omega)) (by omega)) ?_
                                                          refine vv_callV (As := [.int (xs (u + 1))]) (rest := []) i1 q1 F c1 mv_L_118 dL_law_885 (by omega) rfl rfl (Nat.le_of_ble_eq_true rfl) m1 n1 p1 g1 rfl ?_
                                                          refine vv_aload_n F dL_law_888 rfl rfl ?_
                                                          refine vv_aload_n F dL_law_889 rfl rfl ?_
                                                          refine vv_iload_n F dL_law_890 rfl rfl ?_
                                                          refine vv_iconst (v := 1) F dL_law_891 (by decide) ?_
                                                          refine vv_iadd F dL_law_892 ?_
                                                          refine vv_sld F hs dL_law_893 (vv_ixP (j := u + 1) (nn_add (nI_toInt (n := u) (by omega)) (by decide : (1 : Int32).toInt = ((1 : Nat) : Int)) (by omega)) (by omega)) ?_
                                                          refine vv_callV (As := [.int (xs (u + 1))]) (rest := [.int r]) i2 q2 F c2 mv_L_121 dL_law_894 (by omega) rfl rfl (Nat.le_of_ble_eq_true rfl) m2 n2 p2 g2 rfl ?_
                                                          refine vv_icmp_eq (tgt := 1088) F dL_law_897 (by decide) (fun _ => ?_) (fun z => absurd rfl z)
                                                          refine vv_iinc (v := nI (u + 5)) (lv' := [(3, .int (nI (u + 5))), (0, .ref b), (1, .ref hx), (2, .ref hm)]) 0 F dL_law_1088 rfl (nI_5 u) (by decide) rfl ?_
                                                          refine vv_goto (tgt := 18) F dL_law_1091 (by decide) ?_
                                                          exact ih (u + 5) _ (by omega) (by omega) hI2
                                                        · have _ := 0
                                                          by_cases e26 : (xs u &&& 63) = 26
                                                          · refine vv_tabIn (tgt := 902) (off := 870) F dL_law_32 (by rw [e26]; decide) (by rw [e26]; decide) (by rw [e26]; rfl) (by decide) ?_
                                                            obtain ⟨r, d1, d2, q1, q2, f1, f2, i1, i2, w1, w1', w2, w2', hd1, hd2, c1, m1, n1, p1, g1, c2, m2, n2, p2, g2, hI2⟩ := s26 (xs (u + 1)) ws hI
                                                            refine vv_aload_n F dL_law_902 rfl rfl ?_
                                                            refine vv_aload_n F dL_law_903 rfl rfl ?_
                                                            refine vv_iload_n F dL_law_904 rfl rfl ?_
                                                            refine vv_iconst (v := 1) F dL_law_905 (by decide) ?_
                                                            refine vv_iadd F dL_law_906 ?_
                                                            refine vv_sld F hs dL_law_907 (vv_ixP (j := u + 1) (nn_add (nI_toInt (n := u) (by omega)) (by decide : (1 : Int32).toInt = ((1 : Nat) : Int)) (by omega)) (by omega)) ?_
                                                            refine vv_callV (As := [.int (xs (u + 1))]) (rest := []) i1 q1 F c1 mv_L_122 dL_law_908 (by omega) rfl rfl (Nat.le_of_ble_eq_true rfl) m1 n1 p1 g1 rfl ?_
                                                            refine vv_aload_n F dL_law_911 rfl rfl ?_
                                                            refine vv_aload_n F dL_law_912 rfl rfl ?_
                                                            refine vv_iload_n F dL_law_913 rfl rfl ?_
                                                            refine vv_iconst (v := 1) F dL_law_914 (by decide) ?_
                                                            refine vv_iadd F dL_law_915 ?_
                                                            refine vv_sld F hs dL_law_916 (vv_ixP (j := u + 1) (nn_add (nI_toInt (n := u) (by omega)) (by decide : (1 : Int32).toInt = ((1 : Nat) : Int)) (by omega)) (by omega)) ?_
                                                            refine vv_callV (As := [.int (xs (u + 1))]) (rest := [.int r]) i2 q2 F c2 mv_L_125 dL_law_917 (by omega) rfl rfl (Nat.le_of_ble_eq_true rfl) m2 n2 p2 g2 rfl ?_
                                                            refine vv_icmp_eq (tgt := 1088) F dL_law_920 (by decide) (fun _ => ?_) (fun z => absurd rfl z)
                                                            refine vv_iinc (v := nI (u + 5)) (lv' := [(3, .int (nI (u + 5))), (0, .ref b), (1, .ref hx), (2, .ref hm)]) 0 F dL_law_1088 rfl (nI_5 u) (by decide) rfl ?_
                                                            refine vv_goto (tgt := 18) F dL_law_1091 (by decide) ?_
                                                            exact ih (u + 5) _ (by omega) (by omega) hI2
                                                          · have _ := 0
                                                            by_cases e27 : (xs u &&& 63) = 27
                                                            · refine vv_tabIn (tgt := 925) (off := 893) F dL_law_32 (by rw [e27]; decide) (by rw [e27]; decide) (by rw [e27]; rfl) (by decide) ?_
                                                              obtain ⟨r, d1, d2, q1, q2, f1, f2, i1, i2, w1, w1', w2, w2', hd1, hd2, c1, m1, n1, p1, g1, c2, m2, n2, p2, g2, hI2⟩ := s27 (xs (u + 1)) (xs (u + 2)) ws hI
                                                              refine vv_aload_n F dL_law_925 rfl rfl ?_
                                                              refine vv_aload_n F dL_law_926 rfl rfl ?_
                                                              refine vv_iload_n F dL_law_927 rfl rfl ?_
                                                              refine vv_iconst (v := 1) F dL_law_928 (by decide) ?_
                                                              refine vv_iadd F dL_law_929 ?_
                                                              refine vv_sld F hs dL_law_930 (vv_ixP (j := u + 1) (nn_add (nI_toInt (n := u) (by omega)) (by decide : (1 : Int32).toInt = ((1 : Nat) : Int)) (by omega)) (by omega)) ?_
                                                              refine vv_aload_n F dL_law_931 rfl rfl ?_
                                                              refine vv_iload_n F dL_law_932 rfl rfl ?_
                                                              refine vv_iconst (v := 2) F dL_law_933 (by decide) ?_
                                                              refine vv_iadd F dL_law_934 ?_
                                                              refine vv_sld F hs dL_law_935 (vv_ixP (j := u + 2) (nn_add (nI_toInt (n := u) (by omega)) (by decide : (2 : Int32).toInt = ((2 : Nat) : Int)) (by omega)) (by omega)) ?_
                                                              refine vv_callV (As := [.int (xs (u + 1)), .int (xs (u + 2))]) (rest := []) i1 q1 F c1 mv_L_126 dL_law_936 (by omega) rfl rfl (Nat.le_of_ble_eq_true rfl) m1 n1 p1 g1 rfl ?_
                                                              refine vv_aload_n F dL_law_939 rfl rfl ?_
                                                              refine vv_aload_n F dL_law_940 rfl rfl ?_
                                                              refine vv_iload_n F dL_law_941 rfl rfl ?_
                                                              refine vv_iconst (v := 1) F dL_law_942 (by decide) ?_
                                                              refine vv_iadd F dL_law_943 ?_
                                                              refine vv_sld F hs dL_law_944 (vv_ixP (j := u + 1) (nn_add (nI_toInt (n := u) (by omega)) (by decide : (1 : Int32).toInt = ((1 : Nat) : Int)) (by omega)) (by omega)) ?_
                                                              refine vv_aload_n F dL_law_945 rfl rfl ?_
                                                              refine vv_iload_n F dL_law_946 rfl rfl ?_
                                                              refine vv_iconst (v := 2) F dL_law_947 (by decide) ?_
                                                              refine vv_iadd F dL_law_948 ?_
                                                              refine vv_sld F hs dL_law_949 (vv_ixP (j := u + 2) (nn_add (nI_toInt (n := u) (by omega)) (by decide : (2 : Int32).toInt = ((2 : Nat) : Int)) (by omega)) (by omega)) ?_
                                                              refine vv_callV (As := [.int (xs (u + 1)), .int (xs (u + 2))]) (rest := [.int r]) i2 q2 F c2 mv_L_129 dL_law_950 (by omega) rfl rfl (Nat.le_of_ble_eq_true rfl) m2 n2 p2 g2 rfl ?_
                                                              refine vv_icmp_eq (tgt := 1088) F dL_law_953 (by decide) (fun _ => ?_) (fun z => absurd rfl z)
                                                              refine vv_iinc (v := nI (u + 5)) (lv' := [(3, .int (nI (u + 5))), (0, .ref b), (1, .ref hx), (2, .ref hm)]) 0 F dL_law_1088 rfl (nI_5 u) (by decide) rfl ?_
                                                              refine vv_goto (tgt := 18) F dL_law_1091 (by decide) ?_
                                                              exact ih (u + 5) _ (by omega) (by omega) hI2
                                                            · have _ := 0
                                                              by_cases e28 : (xs u &&& 63) = 28
                                                              · refine vv_tabIn (tgt := 958) (off := 926) F dL_law_32 (by rw [e28]; decide) (by rw [e28]; decide) (by rw [e28]; rfl) (by decide) ?_
                                                                obtain ⟨r, d1, d2, q1, q2, f1, f2, i1, i2, w1, w1', w2, w2', hd1, hd2, c1, m1, n1, p1, g1, c2, m2, n2, p2, g2, hI2⟩ := s28 (xs (u + 1)) ws hI
                                                                refine vv_aload_n F dL_law_958 rfl rfl ?_
                                                                refine vv_aload_n F dL_law_959 rfl rfl ?_
                                                                refine vv_iload_n F dL_law_960 rfl rfl ?_
                                                                refine vv_iconst (v := 1) F dL_law_961 (by decide) ?_
                                                                refine vv_iadd F dL_law_962 ?_
                                                                refine vv_sld F hs dL_law_963 (vv_ixP (j := u + 1) (nn_add (nI_toInt (n := u) (by omega)) (by decide : (1 : Int32).toInt = ((1 : Nat) : Int)) (by omega)) (by omega)) ?_
                                                                refine vv_callV (As := [.int (xs (u + 1))]) (rest := []) i1 q1 F c1 mv_L_130 dL_law_964 (by omega) rfl rfl (Nat.le_of_ble_eq_true rfl) m1 n1 p1 g1 rfl ?_
                                                                refine vv_aload_n F dL_law_967 rfl rfl ?_
                                                                refine vv_aload_n F dL_law_968 rfl rfl ?_
                                                                refine vv_iload_n F dL_law_969 rfl rfl ?_
                                                                refine vv_iconst (v := 1) F dL_law_970 (by decide) ?_
                                                                refine vv_iadd F dL_law_971 ?_
                                                                refine vv_sld F hs dL_law_972 (vv_ixP (j := u + 1) (nn_add (nI_toInt (n := u) (by omega)) (by decide : (1 : Int32).toInt = ((1 : Nat) : Int)) (by omega)) (by omega)) ?_
                                                                refine vv_callV (As := [.int (xs (u + 1))]) (rest := [.long r]) i2 q2 F c2 mv_L_134 dL_law_973 (by omega) rfl rfl (Nat.le_of_ble_eq_true rfl) m2 n2 p2 g2 rfl ?_
                                                                refine vv_lcmp_eq (tgt := 1088) F dL_law_976 dL_law_977 (by decide) (fun _ => ?_) (fun z => absurd rfl z)
                                                                refine vv_iinc (v := nI (u + 5)) (lv' := [(3, .int (nI (u + 5))), (0, .ref b), (1, .ref hx), (2, .ref hm)]) 0 F dL_law_1088 rfl (nI_5 u) (by decide) rfl ?_
                                                                refine vv_goto (tgt := 18) F dL_law_1091 (by decide) ?_
                                                                exact ih (u + 5) _ (by omega) (by omega) hI2
                                                              · have _ := 0
                                                                by_cases e29 : (xs u &&& 63) = 29
                                                                · refine vv_tabIn (tgt := 982) (off := 950) F dL_law_32 (by rw [e29]; decide) (by rw [e29]; decide) (by rw [e29]; rfl) (by decide) ?_
                                                                  obtain ⟨r, d1, d2, q1, q2, f1, f2, i1, i2, w1, w1', w2, w2', hd1, hd2, c1, m1, n1, p1, g1, c2, m2, n2, p2, g2, hI2⟩ := s29 (xs (u + 1)) ws hI
                                                                  refine vv_aload_n F dL_law_982 rfl rfl ?_
                                                                  refine vv_aload_n F dL_law_983 rfl rfl ?_
                                                                  refine vv_iload_n F dL_law_984 rfl rfl ?_
                                                                  refine vv_iconst (v := 1) F dL_law_985 (by decide) ?_
                                                                  refine vv_iadd F dL_law_986 ?_
                                                                  refine vv_sld F hs dL_law_987 (vv_ixP (j := u + 1) (nn_add (nI_toInt (n := u) (by omega)) (by decide : (1 : Int32).toInt = ((1 : Nat) : Int)) (by omega)) (by omega)) ?_
                                                                  refine vv_callV (As := [.int (xs (u + 1))]) (rest := []) i1 q1 F c1 mv_L_135 dL_law_988 (by omega) rfl rfl (Nat.le_of_ble_eq_true rfl) m1 n1 p1 g1 rfl ?_
                                                                  refine vv_aload_n F dL_law_991 rfl rfl ?_
                                                                  refine vv_aload_n F dL_law_992 rfl rfl ?_
                                                                  refine vv_iload_n F dL_law_993 rfl rfl ?_
                                                                  refine vv_iconst (v := 1) F dL_law_994 (by decide) ?_
                                                                  refine vv_iadd F dL_law_995 ?_
                                                                  refine vv_sld F hs dL_law_996 (vv_ixP (j := u + 1) (nn_add (nI_toInt (n := u) (by omega)) (by decide : (1 : Int32).toInt = ((1 : Nat) : Int)) (by omega)) (by omega)) ?_
                                                                  refine vv_callV (As := [.int (xs (u + 1))]) (rest := [.int r]) i2 q2 F c2 mv_L_138 dL_law_997 (by omega) rfl rfl (Nat.le_of_ble_eq_true rfl) m2 n2 p2 g2 rfl ?_
                                                                  refine vv_icmp_eq (tgt := 1088) F dL_law_1000 (by decide) (fun _ => ?_) (fun z => absurd rfl z)
                                                                  refine vv_iinc (v := nI (u + 5)) (lv' := [(3, .int (nI (u + 5))), (0, .ref b), (1, .ref hx), (2, .ref hm)]) 0 F dL_law_1088 rfl (nI_5 u) (by decide) rfl ?_
                                                                  refine vv_goto (tgt := 18) F dL_law_1091 (by decide) ?_
                                                                  exact ih (u + 5) _ (by omega) (by omega) hI2
                                                                · have _ := 0
                                                                  by_cases e30 : (xs u &&& 63) = 30
                                                                  · refine vv_tabIn (tgt := 1005) (off := 973) F dL_law_32 (by rw [e30]; decide) (by rw [e30]; decide) (by rw [e30]; rfl) (by decide) ?_
                                                                    obtain ⟨r, d1, d2, q1, q2, f1, f2, i1, i2, w1, w1', w2, w2', hd1, hd2, c1, m1, n1, p1, g1, c2, m2, n2, p2, g2, hI2⟩ := s30 (xs (u + 1)) ws hI
                                                                    refine vv_aload_n F dL_law_1005 rfl rfl ?_
                                                                    refine vv_aload_n F dL_law_1006 rfl rfl ?_
                                                                    refine vv_iload_n F dL_law_1007 rfl rfl ?_
                                                                    refine vv_iconst (v := 1) F dL_law_1008 (by decide) ?_
                                                                    refine vv_iadd F dL_law_1009 ?_
                                                                    refine vv_sld F hs dL_law_1010 (vv_ixP (j := u + 1) (nn_add (nI_toInt (n := u) (by omega)) (by decide : (1 : Int32).toInt = ((1 : Nat) : Int)) (by omega)) (by omega)) ?_
                                                                    refine vv_callV (As := [.int (xs (u + 1))]) (rest := []) i1 q1 F c1 mv_L_139 dL_law_1011 (by omega) rfl rfl (Nat.le_of_ble_eq_true rfl) m1 n1 p1 g1 rfl ?_
                                                                    refine vv_aload_n F dL_law_1014 rfl rfl ?_
                                                                    refine vv_aload_n F dL_law_1015 rfl rfl ?_
                                                                    refine vv_iload_n F dL_law_1016 rfl rfl ?_
                                                                    refine vv_iconst (v := 1) F dL_law_1017 (by decide) ?_
                                                                    refine vv_iadd F dL_law_1018 ?_
                                                                    refine vv_sld F hs dL_law_1019 (vv_ixP (j := u + 1) (nn_add (nI_toInt (n := u) (by omega)) (by decide : (1 : Int32).toInt = ((1 : Nat) : Int)) (by omega)) (by omega)) ?_
                                                                    refine vv_callV (As := [.int (xs (u + 1))]) (rest := [.int r]) i2 q2 F c2 mv_L_142 dL_law_1020 (by omega) rfl rfl (Nat.le_of_ble_eq_true rfl) m2 n2 p2 g2 rfl ?_
                                                                    refine vv_icmp_eq (tgt := 1088) F dL_law_1023 (by decide) (fun _ => ?_) (fun z => absurd rfl z)
                                                                    refine vv_iinc (v := nI (u + 5)) (lv' := [(3, .int (nI (u + 5))), (0, .ref b), (1, .ref hx), (2, .ref hm)]) 0 F dL_law_1088 rfl (nI_5 u) (by decide) rfl ?_
                                                                    refine vv_goto (tgt := 18) F dL_law_1091 (by decide) ?_
                                                                    exact ih (u + 5) _ (by omega) (by omega) hI2
                                                                  · have _ := 0
                                                                    by_cases e31 : (xs u &&& 63) = 31
                                                                    · refine vv_tabIn (tgt := 1028) (off := 996) F dL_law_32 (by rw [e31]; decide) (by rw [e31]; decide) (by rw [e31]; rfl) (by decide) ?_
                                                                      obtain ⟨r, d1, d2, q1, q2, f1, f2, i1, i2, w1, w1', w2, w2', hd1, hd2, c1, m1, n1, p1, g1, c2, m2, n2, p2, g2, hI2⟩ := s31 (xs (u + 1)) ws hI
                                                                      refine vv_aload_n F dL_law_1028 rfl rfl ?_
                                                                      refine vv_aload_n F dL_law_1029 rfl rfl ?_
                                                                      refine vv_iload_n F dL_law_1030 rfl rfl ?_
                                                                      refine vv_iconst (v := 1) F dL_law_1031 (by decide) ?_
                                                                      refine vv_iadd F dL_law_1032 ?_
                                                                      refine vv_sld F hs dL_law_1033 (vv_ixP (j := u + 1) (nn_add (nI_toInt (n := u) (by omega)) (by decide : (1 : Int32).toInt = ((1 : Nat) : Int)) (by omega)) (by omega)) ?_
                                                                      refine vv_callV (As := [.int (xs (u + 1))]) (rest := []) i1 q1 F c1 mv_L_143 dL_law_1034 (by omega) rfl rfl (Nat.le_of_ble_eq_true rfl) m1 n1 p1 g1 rfl ?_
                                                                      refine vv_aload_n F dL_law_1037 rfl rfl ?_
                                                                      refine vv_aload_n F dL_law_1038 rfl rfl ?_
                                                                      refine vv_iload_n F dL_law_1039 rfl rfl ?_
                                                                      refine vv_iconst (v := 1) F dL_law_1040 (by decide) ?_
                                                                      refine vv_iadd F dL_law_1041 ?_
                                                                      refine vv_sld F hs dL_law_1042 (vv_ixP (j := u + 1) (nn_add (nI_toInt (n := u) (by omega)) (by decide : (1 : Int32).toInt = ((1 : Nat) : Int)) (by omega)) (by omega)) ?_
                                                                      refine vv_callV (As := [.int (xs (u + 1))]) (rest := [.int r]) i2 q2 F c2 mv_L_146 dL_law_1043 (by omega) rfl rfl (Nat.le_of_ble_eq_true rfl) m2 n2 p2 g2 rfl ?_
                                                                      refine vv_icmp_eq (tgt := 1088) F dL_law_1046 (by decide) (fun _ => ?_) (fun z => absurd rfl z)
                                                                      refine vv_iinc (v := nI (u + 5)) (lv' := [(3, .int (nI (u + 5))), (0, .ref b), (1, .ref hx), (2, .ref hm)]) 0 F dL_law_1088 rfl (nI_5 u) (by decide) rfl ?_
                                                                      refine vv_goto (tgt := 18) F dL_law_1091 (by decide) ?_
                                                                      exact ih (u + 5) _ (by omega) (by omega) hI2
                                                                    · have _ := 0
                                                                      by_cases e32 : (xs u &&& 63) = 32
                                                                      · refine vv_tabIn (tgt := 1051) (off := 1019) F dL_law_32 (by rw [e32]; decide) (by rw [e32]; decide) (by rw [e32]; rfl) (by decide) ?_
                                                                        obtain ⟨r, d1, d2, q1, q2, f1, f2, i1, i2, w1, w1', w2, w2', hd1, hd2, c1, m1, n1, p1, g1, c2, m2, n2, p2, g2, hI2⟩ := s32 (xs (u + 1)) ws hI
                                                                        refine vv_aload_n F dL_law_1051 rfl rfl ?_
                                                                        refine vv_aload_n F dL_law_1052 rfl rfl ?_
                                                                        refine vv_iload_n F dL_law_1053 rfl rfl ?_
                                                                        refine vv_iconst (v := 1) F dL_law_1054 (by decide) ?_
                                                                        refine vv_iadd F dL_law_1055 ?_
                                                                        refine vv_sld F hs dL_law_1056 (vv_ixP (j := u + 1) (nn_add (nI_toInt (n := u) (by omega)) (by decide : (1 : Int32).toInt = ((1 : Nat) : Int)) (by omega)) (by omega)) ?_
                                                                        refine vv_callV (As := [.int (xs (u + 1))]) (rest := []) i1 q1 F c1 mv_L_147 dL_law_1057 (by omega) rfl rfl (Nat.le_of_ble_eq_true rfl) m1 n1 p1 g1 rfl ?_
                                                                        refine vv_aload_n F dL_law_1060 rfl rfl ?_
                                                                        refine vv_aload_n F dL_law_1061 rfl rfl ?_
                                                                        refine vv_iload_n F dL_law_1062 rfl rfl ?_
                                                                        refine vv_iconst (v := 1) F dL_law_1063 (by decide) ?_
                                                                        refine vv_iadd F dL_law_1064 ?_
                                                                        refine vv_sld F hs dL_law_1065 (vv_ixP (j := u + 1) (nn_add (nI_toInt (n := u) (by omega)) (by decide : (1 : Int32).toInt = ((1 : Nat) : Int)) (by omega)) (by omega)) ?_
                                                                        refine vv_callV (As := [.int (xs (u + 1))]) (rest := [.int r]) i2 q2 F c2 mv_L_150 dL_law_1066 (by omega) rfl rfl (Nat.le_of_ble_eq_true rfl) m2 n2 p2 g2 rfl ?_
                                                                        refine vv_icmp_eq (tgt := 1088) F dL_law_1069 (by decide) (fun _ => ?_) (fun z => absurd rfl z)
                                                                        refine vv_iinc (v := nI (u + 5)) (lv' := [(3, .int (nI (u + 5))), (0, .ref b), (1, .ref hx), (2, .ref hm)]) 0 F dL_law_1088 rfl (nI_5 u) (by decide) rfl ?_
                                                                        refine vv_goto (tgt := 18) F dL_law_1091 (by decide) ?_
                                                                        exact ih (u + 5) _ (by omega) (by omega) hI2
                                                                      · have _ := 0
                                                                        by_cases e33 : (xs u &&& 63) = 33
                                                                        · refine vv_tabIn (tgt := 1074) (off := 1042) F dL_law_32 (by rw [e33]; decide) (by rw [e33]; decide) (by rw [e33]; rfl) (by decide) ?_
                                                                          obtain ⟨r, d1, d2, q1, q2, f1, f2, i1, i2, w1, w1', w2, w2', hd1, hd2, c1, m1, n1, p1, g1, c2, m2, n2, p2, g2, hI2⟩ := s33 ws hI
                                                                          refine vv_aload_n F dL_law_1074 rfl rfl ?_
                                                                          refine vv_callV (As := []) (rest := []) i1 q1 F c1 mv_L_151 dL_law_1075 (by omega) rfl rfl (Nat.le_of_ble_eq_true rfl) m1 n1 p1 g1 rfl ?_
                                                                          refine vv_aload_n F dL_law_1078 rfl rfl ?_
                                                                          refine vv_callV (As := []) (rest := [.long r]) i2 q2 F c2 mv_L_155 dL_law_1079 (by omega) rfl rfl (Nat.le_of_ble_eq_true rfl) m2 n2 p2 g2 rfl ?_
                                                                          refine vv_lcmp_eq (tgt := 1088) F dL_law_1082 dL_law_1083 (by decide) (fun _ => ?_) (fun z => absurd rfl z)
                                                                          refine vv_iinc (v := nI (u + 5)) (lv' := [(3, .int (nI (u + 5))), (0, .ref b), (1, .ref hx), (2, .ref hm)]) 0 F dL_law_1088 rfl (nI_5 u) (by decide) rfl ?_
                                                                          refine vv_goto (tgt := 18) F dL_law_1091 (by decide) ?_
                                                                          exact ih (u + 5) _ (by omega) (by omega) hI2
                                                                        · have _ := 0
                                                                          have e0i : ¬ (xs u &&& 63).toInt = 0 := vv_ne e0
                                                                          have e1i : ¬ (xs u &&& 63).toInt = 1 := vv_ne e1
                                                                          have e2i : ¬ (xs u &&& 63).toInt = 2 := vv_ne e2
                                                                          have e3i : ¬ (xs u &&& 63).toInt = 3 := vv_ne e3
                                                                          have e4i : ¬ (xs u &&& 63).toInt = 4 := vv_ne e4
                                                                          have e5i : ¬ (xs u &&& 63).toInt = 5 := vv_ne e5
                                                                          have e6i : ¬ (xs u &&& 63).toInt = 6 := vv_ne e6
                                                                          have e7i : ¬ (xs u &&& 63).toInt = 7 := vv_ne e7
                                                                          have e8i : ¬ (xs u &&& 63).toInt = 8 := vv_ne e8
                                                                          have e9i : ¬ (xs u &&& 63).toInt = 9 := vv_ne e9
                                                                          have e10i : ¬ (xs u &&& 63).toInt = 10 := vv_ne e10
                                                                          have e11i : ¬ (xs u &&& 63).toInt = 11 := vv_ne e11
                                                                          have e12i : ¬ (xs u &&& 63).toInt = 12 := vv_ne e12
                                                                          have e13i : ¬ (xs u &&& 63).toInt = 13 := vv_ne e13
                                                                          have e14i : ¬ (xs u &&& 63).toInt = 14 := vv_ne e14
                                                                          have e15i : ¬ (xs u &&& 63).toInt = 15 := vv_ne e15
                                                                          have e16i : ¬ (xs u &&& 63).toInt = 16 := vv_ne e16
                                                                          have e17i : ¬ (xs u &&& 63).toInt = 17 := vv_ne e17
                                                                          have e18i : ¬ (xs u &&& 63).toInt = 18 := vv_ne e18
                                                                          have e19i : ¬ (xs u &&& 63).toInt = 19 := vv_ne e19
                                                                          have e20i : ¬ (xs u &&& 63).toInt = 20 := vv_ne e20
                                                                          have e21i : ¬ (xs u &&& 63).toInt = 21 := vv_ne e21
                                                                          have e22i : ¬ (xs u &&& 63).toInt = 22 := vv_ne e22
                                                                          have e23i : ¬ (xs u &&& 63).toInt = 23 := vv_ne e23
                                                                          have e24i : ¬ (xs u &&& 63).toInt = 24 := vv_ne e24
                                                                          have e25i : ¬ (xs u &&& 63).toInt = 25 := vv_ne e25
                                                                          have e26i : ¬ (xs u &&& 63).toInt = 26 := vv_ne e26
                                                                          have e27i : ¬ (xs u &&& 63).toInt = 27 := vv_ne e27
                                                                          have e28i : ¬ (xs u &&& 63).toInt = 28 := vv_ne e28
                                                                          have e29i : ¬ (xs u &&& 63).toInt = 29 := vv_ne e29
                                                                          have e30i : ¬ (xs u &&& 63).toInt = 30 := vv_ne e30
                                                                          have e31i : ¬ (xs u &&& 63).toInt = 31 := vv_ne e31
                                                                          have e32i : ¬ (xs u &&& 63).toInt = 32 := vv_ne e32
                                                                          have e33i : ¬ (xs u &&& 63).toInt = 33 := vv_ne e33
                                                                          refine vv_tabOut (tgt := 1088) F dL_law_32 (by omega) (by decide) ?_
                                                                          refine vv_iinc (v := nI (u + 5)) (lv' := [(3, .int (nI (u + 5))), (0, .ref b), (1, .ref hx), (2, .ref hm)]) 0 F dL_law_1088 rfl (nI_5 u) (by decide) rfl ?_
                                                                          refine vv_goto (tgt := 18) F dL_law_1091 (by decide) ?_
                                                                          exact ih (u + 5) _ (by omega) (by omega) ⟨ws, List.Perm.refl _, hI⟩
