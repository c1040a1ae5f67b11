/-! making cells: the ambient with its counts of new cells and slots -/
def vv_al (X : Nat → Nat → vv_X) : Prop := ∃ (p : Program) (l : Launch) (e : Env) (R : Room) (s : State) (m : MethodId) (args : Array Value) (below : List Frame) (meth : Method) (c : Code) (K : vv_K) (A : Nat → Prop) (Q : State → Prop), X = fun a b => (p, l, e, R, s, m, args, below, meth, c, K, A, Q, a, b)
def vv_in (x : vv_X) : Prop := match x with
  | (_, _, _, _, _, _, _, _, meth, _, _, _, _, _, _) => meth.name = "<init>"
section VVA
variable {X : Nat → Nat → vv_X} {K : vv_K} {cc : ByteArray} {nL pc d a b : Nat} {own : String} {lv : List (Nat × Value)} {st rest : List Value} {ws ws' wr : va_W}
theorem vv_newaI {n : Int32} (N : Nat) (hX : vv_al X) (hKX : ∀ a b, vv_k (X a b) = K) (F : vv_F (X a b) cc nL own d) (F2 : vv_F (X (a + 1) (b + N)) cc nL own d) (hw : Cond.arrayClass .int ∈ vv_gw) (hn : ¬ n < 0) (hN : n.toNatClampNeg = N) (hby : N * componentBytes .int ≤ 536870912) (dg : decode cc pc = .ok (.newarray .int, 2)) (k : ∀ q : Nat, vv_V (X (a + 1) (b + N)) nL (pc + 2) lv (.ref q :: st) (ws ++ [(q, .inl (K.2.1.1, N, .inl (fun _ => 0)))])) : vv_V (X a b) nL pc lv (.int n :: st) ws := by
  obtain ⟨p, l, e, R, s, m, args, below, meth, c, K', A, Q, rfl⟩ := hX
  obtain rfl : K' = K := hKX 0 0
  intro H locs ls h1 h2 h3 h4
  obtain ⟨hx, hb, hml, hown, hts, hAb, hA, hlk, hfr, hlo, hnc, hns⟩ := F
  refine va_newa (atype := .int) (ty := .int) hx hb (hts _ hw) rfl hAb.1 h1 h2 h3 hA (a0 := (N, .inl (fun _ => 0))) (fun cA => rfl) hn hN hby F2.2.2.2.2.2.2.2.2.2.2.1 F2.2.2.2.2.2.2.2.2.2.2.2 dg (fun q cA H1 g0 g1 g2 g3 => ?_)
  have e1 : s.vm.findClass _ = some cA := (g0.2 3 (cA, .int) rfl).2
  have e2 : s.vm.findClass _ = some _ := (hAb.1.2 0 _ rfl).2
  obtain rfl := Option.some.inj (e2.symm.trans e1)
  exact k q H1 locs ls g1 g2 g3 h4
theorem vv_newaB {n : Int32} (N : Nat) (hX : vv_al X) (hKX : ∀ a b, vv_k (X a b) = K) (F : vv_F (X a b) cc nL own d) (F2 : vv_F (X (a + 1) (b + N)) cc nL own d) (hw : Cond.arrayClass .byte ∈ vv_gw) (hn : ¬ n < 0) (hN : n.toNatClampNeg = N) (hby : N * componentBytes .byte ≤ 536870912) (dg : decode cc pc = .ok (.newarray .byte, 2)) (k : ∀ q : Nat, vv_V (X (a + 1) (b + N)) nL (pc + 2) lv (.ref q :: st) (ws ++ [(q, .inl (K.2.1.2.1, N, .inl (fun _ => 0)))])) : vv_V (X a b) nL pc lv (.int n :: st) ws := by
  obtain ⟨p, l, e, R, s, m, args, below, meth, c, K', A, Q, rfl⟩ := hX
  obtain rfl : K' = K := hKX 0 0
  intro H locs ls h1 h2 h3 h4
  obtain ⟨hx, hb, hml, hown, hts, hAb, hA, hlk, hfr, hlo, hnc, hns⟩ := F
  refine va_newa (atype := .byte) (ty := .byte) hx hb (hts _ hw) rfl hAb.1 h1 h2 h3 hA (a0 := (N, .inl (fun _ => 0))) (fun cA => rfl) hn hN hby F2.2.2.2.2.2.2.2.2.2.2.1 F2.2.2.2.2.2.2.2.2.2.2.2 dg (fun q cA H1 g0 g1 g2 g3 => ?_)
  have e1 : s.vm.findClass _ = some cA := (g0.2 3 (cA, .byte) rfl).2
  have e2 : s.vm.findClass _ = some _ := (hAb.1.2 1 _ rfl).2
  obtain rfl := Option.some.inj (e2.symm.trans e1)
  exact k q H1 locs ls g1 g2 g3 h4
theorem vv_newaZ {n : Int32} (N : Nat) (hX : vv_al X) (hKX : ∀ a b, vv_k (X a b) = K) (F : vv_F (X a b) cc nL own d) (F2 : vv_F (X (a + 1) (b + N)) cc nL own d) (hw : Cond.arrayClass .boolean ∈ vv_gw) (hn : ¬ n < 0) (hN : n.toNatClampNeg = N) (hby : N * componentBytes .boolean ≤ 536870912) (dg : decode cc pc = .ok (.newarray .boolean, 2)) (k : ∀ q : Nat, vv_V (X (a + 1) (b + N)) nL (pc + 2) lv (.ref q :: st) (ws ++ [(q, .inl (K.2.1.2.2, N, .inl (fun _ => 0)))])) : vv_V (X a b) nL pc lv (.int n :: st) ws := by
  obtain ⟨p, l, e, R, s, m, args, below, meth, c, K', A, Q, rfl⟩ := hX
  obtain rfl : K' = K := hKX 0 0
  intro H locs ls h1 h2 h3 h4
  obtain ⟨hx, hb, hml, hown, hts, hAb, hA, hlk, hfr, hlo, hnc, hns⟩ := F
  refine va_newa (atype := .boolean) (ty := .boolean) hx hb (hts _ hw) rfl hAb.1 h1 h2 h3 hA (a0 := (N, .inl (fun _ => 0))) (fun cA => rfl) hn hN hby F2.2.2.2.2.2.2.2.2.2.2.1 F2.2.2.2.2.2.2.2.2.2.2.2 dg (fun q cA H1 g0 g1 g2 g3 => ?_)
  have e1 : s.vm.findClass _ = some cA := (g0.2 3 (cA, .boolean) rfl).2
  have e2 : s.vm.findClass _ = some _ := (hAb.1.2 2 _ rfl).2
  obtain rfl := Option.some.inj (e2.symm.trans e1)
  exact k q H1 locs ls g1 g2 g3 h4
theorem vv_new {C : String} {T : u_T} {N ci index : Nat} {fs : List Value} (ty : Nat → FieldType) (hX : vv_al X) (F : vv_F (X a b) cc nL own d) (F2 : vv_F (X (a + 1) (b + N)) cc nL own d) (hc : vv_CL[ci]? = some (C, T, N)) (hin : ∀ w ∈ u_ws C T N, w ∈ vv_gw) (hty : ∀ k, k < N → parseFieldDescriptor (T k).2.2.1 = some (ty k)) (hcl : Cond.classLink own index C ∈ vv_gw) (hinst : Cond.instantiable C N ∈ vv_gw) (hini : Cond.initialized C ∈ vv_gw) (hfs : ∀ j, j < N → defaultValue (ty j) = vp_V fs j) (dg : decode cc pc = .ok (.new index, 3)) (k : ∀ q : Nat, vv_V (X (a + 1) (b + N)) nL (pc + 3) lv (.ref q :: st) (ws ++ [(q, .inr (ci, fs))])) : vv_V (X a b) nL pc lv st ws := by
  obtain ⟨p, l, e, R, s, m, args, below, meth, c, K', A, Q, rfl⟩ := hX
  intro H locs ls h1 h2 h3 h4
  obtain ⟨hx, hb, hml, hown, hts, hAb, hA, hlk, hfr, hlo, hnc, hns⟩ := F
  exact va_new (C := C) (T := T) (N := N) hx hb hts hin ty hty hown (hts _ hcl) (hts _ hinst) (hts _ hini) hAb.1 h1 h2 h3 hA hc hfs F2.2.2.2.2.2.2.2.2.2.2.1 F2.2.2.2.2.2.2.2.2.2.2.2 dg (fun q H1 g1 g2 g3 => k q H1 locs ls g1 g2 g3 h4)
theorem vv_objI {x : vv_X} {idx q : Nat} (F : vv_F x cc nL own d) (hl : Cond.methodLink own idx Lib.objectInit ∈ vv_gw) (hi : Cond.instanceMethod Lib.objectInit ∈ vv_gw) (hco : Cond.code Lib.objectInit ⟨#[0xb1]⟩ 1 none ∈ vv_gw) (hd1 : 1 ≤ d) (hrs : (st.map fun v => v.category).sum ≤ 8) (dg : decode cc pc = .ok (.invokespecial idx, 3)) (k : vv_V x nL (pc + 3) lv st ws) : vv_V x nL pc lv (.ref q :: st) ws := by
  obtain ⟨p, l, e, R, s, m, args, below, meth, c, K, A, Q, nc, ns⟩ := x
  intro H locs ls h1 h2 h3 h4
  obtain ⟨hx, hb, hml, hown, hts, hAb, hA, hlk, hfr, hlo, hnc, hns⟩ := F
  have hz : 2 * (F0 m pc ls (.ref q :: st)).monitorRoom + (st.map fun v => v.category).sum + 12 ≤ R.locals := by
    have := lv_room (m := m) (pc := pc) (ls := ls) (rest := (.ref q :: st)) (st := st) hrs
    omega
  exact W.objInit hx hb hown (hts _ hl) (hts _ hi) (hts _ hco) rfl (h4.1.trans hml.symm) rfl dg (by omega) hz (k H locs ls h1 h2 h3 h4)
theorem vv_putF {x : vv_X} {index ci k0 q : Nat} {ty : FieldType} {fs : List Value} {v : Value} (q0 : Nat) (F : vv_F x cc nL own d) (hI : vv_in x) (fl : vv_fl own index ci k0 ty false) (hdecl : ∀ (C : String) (T : u_T) (N : Nat), vv_CL[ci]? = some (C, T, N) → (T k0).1 = own) (hnest : ∀ (n de host : String), ¬ Cond.fieldLinkNest own index own n de host ∈ vv_nest) (dg : decode cc pc = .ok (.putfield index, 3)) (he : ws[q0]? = some (q, .inr (ci, fs))) (hn : narrow ty v = v) (hfit : fits ty v = true) (hl0 : k0 < fs.length) (hw : ws.set q0 (q, .inr (ci, fs.set k0 v)) = ws') (k : vv_V x nL (pc + 3) lv st ws') : vv_V x nL pc lv (v :: .ref q :: st) ws := by
  obtain ⟨p, l, e, R, s, m, args, below, meth, c, K, A, Q, nc, ns⟩ := x
  intro H locs ls h1 h2 h3 h4
  obtain ⟨C, T, N, ty0, hc, hk, hin, hty, hnm, hd, hfin, hl | ⟨host, hl⟩⟩ := fl
  · exact va_putF (D := K.1) (ci := ci) (v := v) (ty := ty) (C := C) (T := T) (N := N) F.1 F.2.1 F.2.2.2.2.1 hin ty0 hty hnm F.2.2.2.1 F.2.2.2.2.2.1.1 h1 h2 h3 q0 he hc k0 hk (F.2.2.2.2.1 _ hl) (fun _ h9 => h9) hfin hI (hdecl C T N hc) hd hn hfit hl0 dg (fun H locs h1 h2 h3 => k H locs ls (hw ▸ h1) (hw ▸ h2) h3 h4)
  · rw [hdecl C T N hc] at hl
    exact absurd hl (hnest _ _ _)
def vv_rmI (d mc ms : Nat) : Room := { frames := d, cells := mc, slots := ms, locals := 60 * d }
def vv_QI (K : vv_K) (A : Nat → Prop) (n : Nat) (W' : List Nat → va_W) : Array Value → State → Outcome → State → Prop := fun _ st oc t => (oc = .returned none ∧ ∃ as : List Nat, as.length = n ∧ va_P K.1 vv_CL (W' as) t.heap ∧ va_D A (W' as)) ∧ va_F A st t
/-- a constructor's contract: it makes n cells; W' says what the cells are, by the new addresses -/
def vv_CI (l : Launch) (K : vv_K) (d mc ms : Nat) (y : MethodName) (cc : ByteArray) (nL : Nat) (as : List Value) (wc : va_W) (n : Nat) (W' : List Nat → va_W) : Prop :=
  ∀ sz : Nat, Met l y (.code y cc nL none :: vv_gw) (vv_rmI d mc ms) (va_Pc as (fun U => U.heap.size = sz ∧ va_P K.1 vv_CL wc U.heap ∧ vv_A K (va_A wc sz) U U.heap ∧ va_D (fun _ => True) wc)) (vv_QI K (va_A wc sz) n W') mc ms (va_A wc sz)
def vv_RI (X : Nat → Nat → vv_X) (mc ms n : Nat) (W' : List Nat → va_W) : Prop := match X 0 0 with
  | (_, _, _, _, s, _, args, below, meth, _, K, A, Q, _, _) => meth.sig.returnType = none ∧ Q = MQ below (vv_QI K A n W') args s mc ms A
theorem vv_CI.of {l : Launch} {mc ms n : Nat} {y : MethodName} {as : List Value} {wc : va_W} {W' : List Nat → va_W} (hy : plainName y.cls = true) (hs : (lg_sl as).length ≤ nL) (hlv : lv_args 0 as = lv) (hnm : y.name = "<init>")
    (body : ∀ X : Nat → Nat → vv_X, vv_al X → (∀ a b, vv_l (X a b) = l) → (∀ a b, vv_k (X a b) = K) → (∀ a b, a ≤ mc → b ≤ ms → vv_F (X a b) cc nL y.cls d) → (∀ a b, vv_in (X a b)) → vv_RI X mc ms n W' → vv_V (X 0 0) nL 0 lv [] wc) : vv_CI l K d mc ms y cc nL as wc n W' := by
  intro sz
  refine Met.ofW (cc := cc) (maxL := nL) (ret := none) hy rfl ?_
  intro p e s m args below meth c s₁ B hml hv
  obtain ⟨rfl, hsz, hP, hAb, hD0⟩ := hv
  have hts := atoms_spec (ws := .code y cc nL none :: vv_gw) B.pre
  have hown : s.vm.findClass y.cls = some m.cls := findClass_of_methodNamed B.named
  have hin : meth.name = "<init>" := (name_of_methodNamed B.named B.method).1.trans hnm
  subst hsz
  have hD := hD0.self (sz := s.heap.size)
  have K0 := body (fun a b => (p, l, e, (headSpec (.code y cc nL none :: vv_gw) (vv_rmI d mc ms)).room, s, m, as.toArray, below, meth, c, K, va_A wc s.heap.size, MQ below (vv_QI K (va_A wc s.heap.size) n W') as.toArray s mc ms (va_A wc s.heap.size), a, b)) ⟨_, _, _, _, _, _, _, _, _, _, _, _, _, rfl⟩ (fun _ _ => rfl) (fun _ _ => rfl)
    (fun a b ha hb => ⟨B.exec, B.bytes, hml, hown, fun w hw => hts w (List.mem_cons_of_mem _ hw), hAb, fun q h => Or.inr h, B.notSynchronized, Nat.le_refl _, Nat.le_refl _, ha, hb⟩) (fun _ _ => hin) ⟨B.returns, rfl⟩
  rw [lg_entry_eq]
  exact K0 s.heap [] _ hP hD va_S.rf (hlv ▸ lv_entry as hs)
theorem vv_vretI {mc ms n : Nat} {W' : List Nat → va_W} (as : List Nat) (hX : vv_al X) (F : vv_F (X mc ms) cc nL own d) (hR : vv_RI X mc ms n W') (dg : decode cc pc = .ok (.return_, 1)) (has : as.length = n) (hw : W' as = ws) : vv_V (X mc ms) nL pc lv [] ws := by
  obtain ⟨p, l, e, R, s, m, args, below, meth, c, K', A, Q, rfl⟩ := hX
  intro H locs ls h1 h2 h3 h4
  obtain ⟨hret, hQ⟩ := hR
  subst hQ
  exact W.vret F.1 F.2.1 hret (fun t ht hW => ⟨⟨rfl, as, has, by rw [ht, hw]; exact h1, by rw [hw]; exact h2⟩, h3.F ht⟩) h3.2.2 dg (hlocks := F.2.2.2.2.2.2.2.1)
def vv_mi (own : String) (index : Nat) (y : MethodName) (cc : ByteArray) (nL n : Nat) : Prop := y.name = "<init>" ∧ (Cond.methodLink own index y ∈ vv_gw ∨ ∃ host, Cond.methodLinkNest own index y host ∈ vv_nest) ∧ Cond.instanceMethod y ∈ vv_gw ∧ Cond.initialized y.cls ∈ vv_gw ∧ Cond.code y cc nL none ∈ vv_gw ∧ (y.cls ≠ "java/lang/invoke/MethodHandle" ∧ y.cls ≠ "java/lang/invoke/VarHandle" ∧ (parseMethodDescriptor y.desc).map (fun d => d.parameters.length) = some n) ∧ nL ≤ 40
theorem vv_callI {l : Launch} {index nL' dc n mc ms nn q : Nat} {e0 : va_E} {y : MethodName} {cc' : ByteArray} {As : List Value} {W' : List Nat → va_W} (i0 : Nat) (isR : List Nat) (hX : vv_al X) (hlX : ∀ a b, vv_l (X a b) = l) (hKX : ∀ a b, vv_k (X a b) = K) (F : vv_F (X a b) cc nL own d) (F2 : vv_F (X (a + mc) (b + ms)) cc nL own d) (hC : vv_CI l K dc mc ms y cc' nL' (.ref q :: As) [(q, e0)] nn W') (mi : vv_mi own index y cc' nL' n) (dg : decode cc pc = .ok (.invokespecial index, 3)) (hdc : dc + 1 ≤ d) (hn : As.length = n) (hst : st = As.reverse ++ .ref q :: rest) (hrs : (rest.map fun v => v.category).sum ≤ 8) (his : [i0].map (fun i => ws[i]?) = [(q, e0)].map some) (hisR : isR.map (fun i => ws[i]?) = wr.map some) (hnd : va_nd isR = true) (hdis : ∀ i ∈ isR, i ∉ [i0])
    (k : ∀ as : List Nat, as.length = nn → vv_V (X (a + mc) (b + ms)) nL (pc + 3) lv rest (wr ++ W' as)) : vv_V (X a b) nL pc lv st ws := by
  obtain ⟨p, l', e, R, s, m, args, below, meth, c, K', A, Q, rfl⟩ := hX
  obtain rfl : l' = l := hlX 0 0
  obtain rfl : K' = K := hKX 0 0
  intro H locs ls h1 h2 h3 h4
  obtain ⟨hnm, hl, hi, hini, hco, hd, h40⟩ := mi
  obtain ⟨hx, hb, hml, hown, hts, hAb, hA, hlk, hfr, hlo, hnc, hns⟩ := F
  have hG := vv_goodC hco
  have hFc := va_free h2 h3 hA [i0] his
  have hP9 := h1.sub [i0] (vv_fm his)
  have hD9 := h2.sub [i0] rfl his
  have pre : ∀ U : State, U.heap = H → s.WarmedH U.vm → (va_Pc (.ref q :: As) (fun U => U.heap.size = H.size ∧ va_P K'.1 vv_CL [(q, e0)] U.heap ∧ vv_A K' (va_A [(q, e0)] H.size) U U.heap ∧ va_D (fun _ => True) [(q, e0)])) (Value.ref q :: As).toArray U := fun U hU hW => ⟨rfl, by rw [hU], by rw [hU]; exact hP9, vv_A.go (A := A) (by rw [hU]; exact h3.2.1) hW hFc hAb, hD9.weaken (fun _ _ _ _ => trivial)⟩
  have hRm : (vv_rmI dc mc ms).frames + 1 ≤ R.frames ∧ 8 + (nL' + 11) + (vv_rmI dc mc ms).locals ≤ R.locals := ⟨by show dc + 1 ≤ R.frames; omega, by show 8 + (nL' + 11) + 60 * dc ≤ R.locals; omega⟩
  subst hst
  have back : va_Run p l' e R s m args below meth c H locs a b mc ms (F0 m pc ls (As.reverse ++ .ref q :: rest)) rest (vv_QI K' (va_A [(q, e0)] H.size) nn W' (Value.ref q :: As).toArray) (va_A [(q, e0)] H.size) → W p l' e R s m args below meth c H locs a b Q (F0 m pc ls (As.reverse ++ .ref q :: rest)) := by
    intro hr T hT XX
    obtain ⟨v, st₀, t, T', L, h0, X', hL, e1, e2, ⟨⟨hv, as, has, hP1, hD1⟩, hz, hk⟩, stp⟩ := hr T hT XX
    cases hv
    rw [h0] at hz hk
    obtain ⟨j1, j2⟩ := va_join (wr := wr) (w1 := W' as) (H1 := t.heap) h1 h2 [i0] isR his hisR hnd hdis hk hFc hP1 hD1
    obtain ⟨t2, a1, b1⟩ := k as has T'.heap (locs ++ L) ls (by rw [e1]; exact j1) j2
      ⟨Nat.le_trans h3.1 (by rw [e1]; exact hz), fun q g1 g2 => by rw [e1, hk q (Nat.lt_of_lt_of_le g1 h3.1) (fun z => g2 (hFc q z))]; exact h3.2.1 q g1 g2, fun q hq => by
        rcases List.mem_append.mp hq with h | h
        · exact h3.2.2 q h
        · exact hFc _ (hL q h)⟩ h4 T' rfl X'
    exact ⟨t2, stp t2 a1, b1⟩
  rcases hl with hl | ⟨host, hl⟩
  · exact back (va_runI (As := As) (rest := rest) (g := F0 m pc ls (As.reverse ++ .ref q :: rest)) (b := q) ⟨hx, hb, hml, hown, hts⟩ (hC H.size) ⟨callB_of n hts hG rfl rfl rfl (hts _ hini) (hts _ hl) hd hRm, hnm, hts _ hi⟩ ⟨vv_blind, pre⟩ rfl hn h4.1 rfl (lv_room hrs) dg ⟨F2.2.2.2.2.2.2.2.2.2.2.1, F2.2.2.2.2.2.2.2.2.2.2.2⟩)
  · exact back (va_runIN (As := As) (rest := rest) (g := F0 m pc ls (As.reverse ++ .ref q :: rest)) (b := q) (host := host) ⟨hx, hb, hml, hown, hts⟩ (hC H.size) ⟨va_cnB n hts hG rfl rfl rfl (hAb.2.1 _ hl) (hts _ hini) hd hRm, hnm, hts _ hi⟩ ⟨vv_blind, pre⟩ rfl hn h4.1 rfl (lv_room hrs) dg ⟨F2.2.2.2.2.2.2.2.2.2.2.1, F2.2.2.2.2.2.2.2.2.2.2.2⟩)
end VVA
theorem vv_nest_own : ∀ w ∈ vv_nest, (match w with | .fieldLinkNest o _ r _ _ _ => decide (o = r) | _ => false) = false := by decide +kernel
theorem ob_i : Cond.instanceMethod Lib.objectInit ∈ vv_gw := vv_t1 (List.mem_of_getElem? (i := 22) rfl) rfl
theorem ob_c : Cond.code Lib.objectInit ⟨#[0xb1]⟩ 1 none ∈ vv_gw := vv_t1 (List.mem_of_getElem? (i := 23) rfl) rfl
theorem ol_X7 : Cond.methodLink RX7 1 Lib.objectInit ∈ vv_gw := vv_t1 (List.mem_of_getElem? (i := 21) rfl) rfl
theorem mi_X7_9 : vv_mi RX7 9 yX2_init cX2_init 1 0 := ⟨rfl, Or.inr ⟨"StringToll", List.mem_of_getElem? (i := 0) rfl⟩, vv_t1 (List.mem_of_getElem? (i := 27) rfl) rfl, vv_t1 (List.mem_of_getElem? (i := 2) rfl) rfl, vv_t1 (List.mem_of_getElem? (i := 28) rfl) rfl, ⟨by decide, by decide, by decide +kernel⟩, by decide⟩
theorem mi_X7_27 : vv_mi RX7 27 yX5_init cX5_init 1 0 := ⟨rfl, Or.inr ⟨"StringToll", List.mem_of_getElem? (i := 24) rfl⟩, vv_t1 (List.mem_of_getElem? (i := 113) rfl) rfl, vv_t1 (List.mem_of_getElem? (i := 5) rfl) rfl, vv_t1 (List.mem_of_getElem? (i := 114) rfl) rfl, ⟨by decide, by decide, by decide +kernel⟩, by decide⟩
theorem mi_X7_34 : vv_mi RX7 34 yX4_init cX4_init 1 0 := ⟨rfl, Or.inr ⟨"StringToll", List.mem_of_getElem? (i := 26) rfl⟩, vv_t1 (List.mem_of_getElem? (i := 140) rfl) rfl, vv_t1 (List.mem_of_getElem? (i := 6) rfl) rfl, vv_t1 (List.mem_of_getElem? (i := 141) rfl) rfl, ⟨by decide, by decide, by decide +kernel⟩, by decide⟩
theorem mi_X7_41 : vv_mi RX7 41 yX0_init cX0_init 1 0 := ⟨rfl, Or.inr ⟨"StringToll", List.mem_of_getElem? (i := 29) rfl⟩, vv_t1 (List.mem_of_getElem? (i := 164) rfl) rfl, vv_t1 (List.mem_of_getElem? (i := 7) rfl) rfl, vv_t1 (List.mem_of_getElem? (i := 165) rfl) rfl, ⟨by decide, by decide, by decide +kernel⟩, by decide⟩
theorem mi_X7_48 : vv_mi RX7 48 yX6_init cX6_init 1 0 := ⟨rfl, Or.inr ⟨"StringToll", List.mem_of_getElem? (i := 30) rfl⟩, vv_t1 (List.mem_of_getElem? (i := 177) rfl) rfl, vv_t1 (List.mem_of_getElem? (i := 8) rfl) rfl, vv_t1 (List.mem_of_getElem? (i := 178) rfl) rfl, ⟨by decide, by decide, by decide +kernel⟩, by decide⟩
theorem ol_X0 : Cond.methodLink RX0 3 Lib.objectInit ∈ vv_gw := vv_t1 (List.mem_of_getElem? (i := 166) rfl) rfl
theorem ol_X2 : Cond.methodLink RX2 3 Lib.objectInit ∈ vv_gw := vv_t1 (List.mem_of_getElem? (i := 29) rfl) rfl
theorem mi_X2_20 : vv_mi RX2 20 yX3_init cX3_init 2 1 := ⟨rfl, Or.inl (vv_t1 (List.mem_of_getElem? (i := 32) rfl) rfl), vv_t1 (List.mem_of_getElem? (i := 33) rfl) rfl, vv_t1 (List.mem_of_getElem? (i := 3) rfl) rfl, vv_t1 (List.mem_of_getElem? (i := 34) rfl) rfl, ⟨by decide, by decide, by decide +kernel⟩, by decide⟩
theorem ol_X3 : Cond.methodLink RX3 1 Lib.objectInit ∈ vv_gw := vv_t1 (List.mem_of_getElem? (i := 35) rfl) rfl
theorem ol_X4 : Cond.methodLink RX4 3 Lib.objectInit ∈ vv_gw := vv_t1 (List.mem_of_getElem? (i := 142) rfl) rfl
theorem ol_X5 : Cond.methodLink RX5 3 Lib.objectInit ∈ vv_gw := vv_t1 (List.mem_of_getElem? (i := 115) rfl) rfl
theorem ol_X6 : Cond.methodLink RX6 3 Lib.objectInit ∈ vv_gw := vv_t1 (List.mem_of_getElem? (i := 179) rfl) rfl
theorem mi_L_9 : vv_mi RL 9 yX7_init cX7_init 1 0 := ⟨rfl, Or.inl (vv_t1 (List.mem_of_getElem? (i := 18) rfl) rfl), vv_t1 (List.mem_of_getElem? (i := 19) rfl) rfl, vv_t1 (List.mem_of_getElem? (i := 1) rfl) rfl, vv_t1 (List.mem_of_getElem? (i := 20) rfl) rfl, ⟨by decide, by decide, by decide +kernel⟩, by decide⟩
theorem mi_L_12 : vv_mi RL 12 yX8_init cX8_init 1 0 := ⟨rfl, Or.inl (vv_t4 (List.mem_of_getElem? (i := 50) rfl) rfl), vv_t4 (List.mem_of_getElem? (i := 51) rfl) rfl, vv_t1 (List.mem_of_getElem? (i := 9) rfl) rfl, vv_t4 (List.mem_of_getElem? (i := 52) rfl) rfl, ⟨by decide, by decide, by decide +kernel⟩, by decide⟩
theorem ol_X8 : Cond.methodLink RX8 1 Lib.objectInit ∈ vv_gw := vv_t4 (List.mem_of_getElem? (i := 53) rfl) rfl
theorem ini_L : Cond.initialized RL ∈ vv_gw := vv_t1 (List.mem_of_getElem? (i := 0) rfl) rfl
theorem ini_X7 : Cond.initialized RX7 ∈ vv_gw := vv_t1 (List.mem_of_getElem? (i := 1) rfl) rfl
theorem ini_X2 : Cond.initialized RX2 ∈ vv_gw := vv_t1 (List.mem_of_getElem? (i := 2) rfl) rfl
theorem ini_X3 : Cond.initialized RX3 ∈ vv_gw := vv_t1 (List.mem_of_getElem? (i := 3) rfl) rfl
theorem ini_X5 : Cond.initialized RX5 ∈ vv_gw := vv_t1 (List.mem_of_getElem? (i := 5) rfl) rfl
theorem ini_X4 : Cond.initialized RX4 ∈ vv_gw := vv_t1 (List.mem_of_getElem? (i := 6) rfl) rfl
theorem ini_X0 : Cond.initialized RX0 ∈ vv_gw := vv_t1 (List.mem_of_getElem? (i := 7) rfl) rfl
theorem ini_X6 : Cond.initialized RX6 ∈ vv_gw := vv_t1 (List.mem_of_getElem? (i := 8) rfl) rfl
theorem ini_X8 : Cond.initialized RX8 ∈ vv_gw := vv_t1 (List.mem_of_getElem? (i := 9) rfl) rfl
theorem ini_X1 : Cond.initialized RX1 ∈ vv_gw := vv_t1 (List.mem_of_getElem? (i := 10) rfl) rfl
theorem cn_L_7 : Cond.classLink RL 7 RX7 ∈ vv_gw := vv_t1 (List.mem_of_getElem? (i := 16) rfl) rfl
theorem in_X7 : Cond.instantiable RX7 15 ∈ vv_gw := vv_t1 (List.mem_of_getElem? (i := 17) rfl) rfl
theorem cn_X7_7 : Cond.classLink RX7 7 RX2 ∈ vv_gw := vv_t1 (List.mem_of_getElem? (i := 24) rfl) rfl
theorem in_X2 : Cond.instantiable RX2 12 ∈ vv_gw := vv_t1 (List.mem_of_getElem? (i := 25) rfl) rfl
theorem cn_X2_18 : Cond.classLink RX2 18 RX3 ∈ vv_gw := vv_t1 (List.mem_of_getElem? (i := 30) rfl) rfl
theorem in_X3 : Cond.instantiable RX3 3 ∈ vv_gw := vv_t1 (List.mem_of_getElem? (i := 31) rfl) rfl
theorem ar_int : Cond.arrayClass .int ∈ vv_gw := vv_t1 (List.mem_of_getElem? (i := 55) rfl) rfl
theorem cn_X7_25 : Cond.classLink RX7 25 RX5 ∈ vv_gw := vv_t1 (List.mem_of_getElem? (i := 110) rfl) rfl
theorem in_X5 : Cond.instantiable RX5 6 ∈ vv_gw := vv_t1 (List.mem_of_getElem? (i := 111) rfl) rfl
theorem ar_byte : Cond.arrayClass .byte ∈ vv_gw := vv_t1 (List.mem_of_getElem? (i := 136) rfl) rfl
theorem cn_X7_32 : Cond.classLink RX7 32 RX4 ∈ vv_gw := vv_t1 (List.mem_of_getElem? (i := 137) rfl) rfl
theorem in_X4 : Cond.instantiable RX4 5 ∈ vv_gw := vv_t1 (List.mem_of_getElem? (i := 138) rfl) rfl
theorem cn_X7_39 : Cond.classLink RX7 39 RX0 ∈ vv_gw := vv_t1 (List.mem_of_getElem? (i := 161) rfl) rfl
theorem in_X0 : Cond.instantiable RX0 2 ∈ vv_gw := vv_t1 (List.mem_of_getElem? (i := 162) rfl) rfl
theorem cn_X7_46 : Cond.classLink RX7 46 RX6 ∈ vv_gw := vv_t1 (List.mem_of_getElem? (i := 174) rfl) rfl
theorem in_X6 : Cond.instantiable RX6 2 ∈ vv_gw := vv_t1 (List.mem_of_getElem? (i := 175) rfl) rfl
theorem cn_L_10 : Cond.classLink RL 10 RX8 ∈ vv_gw := vv_t4 (List.mem_of_getElem? (i := 48) rfl) rfl
theorem in_X8 : Cond.instantiable RX8 18 ∈ vv_gw := vv_t4 (List.mem_of_getElem? (i := 49) rfl) rfl
theorem ar_boolean : Cond.arrayClass .boolean ∈ vv_gw := vv_t4 (List.mem_of_getElem? (i := 113) rfl) rfl
theorem nn_own {o n de host : String} {i : Nat} : ¬ Cond.fieldLinkNest o i o n de host ∈ vv_nest := fun h => by have := vv_nest_own _ h; simp at this
