/-! worlds that change at places; contracts; the start of a method, its ends, its calls -/
def vv_up : va_W → List Nat → va_W → va_W
  | ws, i :: is, c :: cs => vv_up (ws.set i c) is cs
  | ws, _, _ => ws
theorem vv_up_get : ∀ (is : List Nat) (cs ws : va_W) (k : Nat) (q : Nat × va_E), (vv_up ws is cs)[k]? = some q → (∃ j : Nat, is[j]? = some k ∧ cs[j]? = some q) ∨ (ws[k]? = some q ∧ ∀ (j : Nat) (c : Nat × va_E), is[j]? = some k → cs[j]? = some c → False)
  | [], cs, ws, k, q, h => Or.inr ⟨by simpa [vv_up] using h, fun j c hj _ => by simp at hj⟩
  | i :: is, [], ws, k, q, h => Or.inr ⟨by simpa [vv_up] using h, fun j c _ hc => by simp at hc⟩
  | i :: is, c :: cs, ws, k, q, h => by
    rcases vv_up_get is cs (ws.set i c) k q h with ⟨j, h1, h2⟩ | ⟨h1, h2⟩
    · exact Or.inl ⟨j + 1, by simpa using h1, by simpa using h2⟩
    · by_cases hk : i = k
      · subst hk
        by_cases hl : i < ws.length
        · rw [List.getElem?_set_self hl] at h1
          exact Or.inl ⟨0, rfl, h1⟩
        · rw [List.getElem?_eq_none (by rw [List.length_set]; omega)] at h1
          cases h1
      · rw [List.getElem?_set_ne hk] at h1
        refine Or.inr ⟨h1, fun j c' hj hc => ?_⟩
        cases j with
        | zero => exact hk (Option.some.inj hj)
        | succ j => exact h2 j c' (by simpa using hj) (by simpa using hc)
theorem vv_at {ws wc : va_W} {is : List Nat} (his : is.map (fun i => ws[i]?) = wc.map some) {j i : Nat} (hj : is[j]? = some i) : ∃ q, wc[j]? = some q ∧ ws[i]? = some q := by
  have h1 : (is.map (fun i => ws[i]?))[j]? = some (ws[i]?) := by rw [List.getElem?_map, hj]; rfl
  rw [his, List.getElem?_map] at h1
  cases hw : wc[j]? with
  | none => rw [hw] at h1; cases h1
  | some q => rw [hw] at h1; exact ⟨q, rfl, (Option.some.inj h1).symm⟩
theorem vv_ta {ws wc : va_W} {is : List Nat} (his : is.map (fun i => ws[i]?) = wc.map some) {j : Nat} {q : Nat × va_E} (hj : wc[j]? = some q) : ∃ i, is[j]? = some i ∧ ws[i]? = some q := by
  have h1 : (wc.map some)[j]? = some (some q) := by rw [List.getElem?_map, hj]; rfl
  rw [← his, List.getElem?_map] at h1
  cases hi : is[j]? with
  | none => rw [hi] at h1; cases h1
  | some i => rw [hi] at h1; exact ⟨i, rfl, Option.some.inj h1⟩
theorem vv_fst {wc wc' : va_W} (hf : wc'.map Prod.fst = wc.map Prod.fst) {j : Nat} {q q' : Nat × va_E} (h : wc[j]? = some q) (h' : wc'[j]? = some q') : q'.1 = q.1 := by
  have h1 : (wc'.map Prod.fst)[j]? = some q'.1 := by rw [List.getElem?_map, h']; rfl
  rw [hf, List.getElem?_map, h] at h1
  exact (Option.some.inj h1).symm
theorem vv_up_fst {ws wc wc' : va_W} {is : List Nat} (his : is.map (fun i => ws[i]?) = wc.map some) (hf : wc'.map Prod.fst = wc.map Prod.fst) {k : Nat} {q : Nat × va_E} (h : (vv_up ws is wc')[k]? = some q) : ∃ q0, ws[k]? = some q0 ∧ q0.1 = q.1 := by
  rcases vv_up_get is wc' ws k q h with ⟨j, h1, h2⟩ | ⟨h1, -⟩
  · obtain ⟨q0, h3, h4⟩ := vv_at his h1
    exact ⟨q0, h4, (vv_fst hf h3 h2).symm⟩
  · exact ⟨q, h1, rfl⟩
theorem vv_up_D {A : Nat → Prop} {ws wc wc' : va_W} {is : List Nat} (hD : va_D A ws) (his : is.map (fun i => ws[i]?) = wc.map some) (hf : wc'.map Prod.fst = wc.map Prod.fst) : va_D A (vv_up ws is wc') := by
  refine ⟨fun i j a b hi hj hab => ?_, fun k q hk => ?_⟩
  · obtain ⟨a0, h1, h2⟩ := vv_up_fst his hf hi
    obtain ⟨b0, h3, h4⟩ := vv_up_fst his hf hj
    exact hD.1 i j a0 b0 h1 h3 (h2.trans (hab.trans h4.symm))
  · obtain ⟨q0, h1, h2⟩ := vv_up_fst his hf hk
    rw [← h2]
    exact hD.2 k q0 h1
theorem vv_up_P {D : va_G} {cl : List vw_C} {A : Nat → Prop} {ws wc wc' : va_W} {is : List Nat} {H H1 : Heap} (hP : va_P D cl ws H) (hD : va_D A ws) (his : is.map (fun i => ws[i]?) = wc.map some) (hf : wc'.map Prod.fst = wc.map Prod.fst) (hk : ∀ q : Nat, q < H.size → ¬ va_A wc H.size q → H1[q]? = H[q]?) (hP1 : va_P D cl wc' H1) : va_P D cl (vv_up ws is wc') H1 := by
  intro k q hq
  rcases vv_up_get is wc' ws k q hq with ⟨j, h1, h2⟩ | ⟨h1, h2⟩
  · exact hP1 j q h2
  · have hl := (hP k q h1).lt
    refine (hP k q h1).kept (hk q.1 hl fun hA => ?_)
    rcases hA with ⟨j, e, hj⟩ | hA
    · obtain ⟨i, h3, h4⟩ := vv_ta his hj
      have := hD.1 k i q (q.1, e) h1 h4 rfl
      subst this
      have hjl : j < wc'.length := by
        have h5 := (List.getElem?_eq_some_iff.mp hj).1
        have h6 := congrArg List.length hf
        simp only [List.length_map] at h6
        omega
      exact h2 j _ h3 (List.getElem?_eq_getElem hjl)
    · omega
theorem vv_fm {ws wc : va_W} {is : List Nat} (his : is.map (fun i => ws[i]?) = wc.map some) : is.filterMap (fun i => ws[i]?) = wc := by
  have h1 : is.filterMap (fun i => ws[i]?) = (is.map (fun i => ws[i]?)).filterMap id := by rw [List.filterMap_map]; rfl
  rw [h1, his, List.filterMap_map]
  have h2 : (id ∘ some : (Nat × va_E) → Option (Nat × va_E)) = some := rfl
  rw [h2, List.filterMap_some]
/-- A METHOD'S CONTRACT: from the cells wc, with the arguments as, it answers r, and its cells are wc'; nothing else changes, nothing is made; d frames are room enough -/
def vv_Q (K : vv_K) (A : Nat → Prop) (r : Option Value) (wc' : va_W) : Array Value → State → Outcome → State → Prop := fun _ st oc t => (oc = .returned r ∧ va_P K.1 vv_CL wc' t.heap ∧ va_D A wc') ∧ va_F A st t
def vv_C (l : Launch) (K : vv_K) (d : Nat) (y : MethodName) (cc : ByteArray) (nL : Nat) (ret : Option FieldType) (as : List Value) (wc : va_W) (r : Option Value) (wc' : va_W) : Prop :=
  ∀ sz : Nat, Met l y (.code y cc nL ret :: vv_gw) (vv_rm d) (va_Pc as (fun U => U.heap.size = sz ∧ va_P K.1 vv_CL wc U.heap ∧ vv_A K (va_A wc sz) U U.heap ∧ va_D (fun _ => True) wc)) (vv_Q K (va_A wc sz) r wc') 0 0 (va_A wc sz)
/-- how the walk ends -/
def vv_R (x : vv_X) (ret : Option FieldType) (r : Option Value) (wc' : va_W) : Prop := match x with
  | (_, _, _, _, s, _, args, below, meth, _, K, A, Q, nc, ns) => meth.sig.returnType = ret ∧ nc = 0 ∧ ns = 0 ∧ Q = MQ below (vv_Q K A r wc') args s 0 0 A
theorem vv_C.of {l : Launch} {K : vv_K} {d : Nat} {y : MethodName} {cc : ByteArray} {nL : Nat} {ret : Option FieldType} {as : List Value} {lv : List (Nat × Value)} {wc : va_W} {r : Option Value} {wc' : va_W} (hy : plainName y.cls = true) (hs : (lg_sl as).length ≤ nL) (hlv : lv_args 0 as = lv)
    (body : ∀ x : vv_X, vv_l x = l → vv_k x = K → vv_F x cc nL y.cls d → vv_R x ret r wc' → vv_V x nL 0 lv [] wc) : vv_C l K d y cc nL ret as wc r wc' := by
  intro sz
  refine Met.ofW (cc := cc) (maxL := nL) (ret := ret) hy rfl ?_
  intro p e s m args below meth c s₁ B hml hv
  obtain ⟨rfl, hsz, hP, hAb, hD0⟩ := hv
  have hts := atoms_spec (ws := .code y cc nL ret :: vv_gw) B.pre
  have hown : s.vm.findClass y.cls = some m.cls := findClass_of_methodNamed B.named
  subst hsz
  have hD := hD0.self (sz := s.heap.size)
  have K0 := body (p, l, e, (headSpec (.code y cc nL ret :: vv_gw) (vv_rm d)).room, s, m, as.toArray, below, meth, c, K, va_A wc s.heap.size, MQ below (vv_Q K (va_A wc s.heap.size) r wc') as.toArray s 0 0 (va_A wc s.heap.size), 0, 0) rfl rfl
    ⟨B.exec, B.bytes, hml, hown, fun w hw => hts w (List.mem_cons_of_mem _ hw), hAb, fun q h => Or.inr h, B.notSynchronized, Nat.le_refl _, Nat.le_refl _, Nat.le_refl _, Nat.le_refl _⟩ ⟨B.returns, rfl, rfl, rfl⟩
  rw [lg_entry_eq]
  exact K0 s.heap [] _ hP hD va_S.rf (hlv ▸ lv_entry as hs)
section VVS
variable {x : vv_X} {cc : ByteArray} {nL pc d : Nat} {own : String} {lv lv' : List (Nat × Value)} {st rest : List Value} {ws ws' wc wc' : va_W} {r : Option Value}
theorem vv_iret {v : Int32} (F : vv_F x cc nL own d) (hR : vv_R x (some .int) r wc') (dg : decode cc pc = .ok (.ireturn, 1)) (hr : r = some (.int v)) (hw : wc' = ws) : vv_V x nL pc lv [.int v] ws := by
  obtain ⟨p, l, e, R, s, m, args, below, meth, c, K, A, Q, nc, ns⟩ := x
  intro H locs ls h1 h2 h3 h4
  obtain ⟨hret, hc, hs, hQ⟩ := hR
  subst hc; subst hs; subst hQ; subst hr; subst hw
  exact W.iret F.1 F.2.1 hret (fun t ht hW => ⟨⟨rfl, by rw [ht]; exact h1, h2⟩, h3.F ht⟩) h3.2.2 dg (hlocks := F.2.2.2.2.2.2.2.1)
theorem vv_zret {v : Int32} {ty : FieldType} (F : vv_F x cc nL own d) (hR : vv_R x (some ty) r wc') (dg : decode cc pc = .ok (.ireturn, 1)) (hn : narrow ty (.int v) = .int v) (hr : r = some (.int v)) (hw : wc' = ws) : vv_V x nL pc lv [.int v] ws := by
  obtain ⟨p, l, e, R, s, m, args, below, meth, c, K, A, Q, nc, ns⟩ := x
  intro H locs ls h1 h2 h3 h4
  obtain ⟨hret, hc, hs, hQ⟩ := hR
  subst hc; subst hs; subst hQ; subst hr; subst hw
  exact W.zret F.1 F.2.1 hret hn (fun t ht hW => ⟨⟨rfl, by rw [ht]; exact h1, h2⟩, h3.F ht⟩) h3.2.2 dg (hlocks := F.2.2.2.2.2.2.2.1)
theorem vv_lret {v : Int64} (F : vv_F x cc nL own d) (hR : vv_R x (some .long) r wc') (dg : decode cc pc = .ok (.lreturn, 1)) (hr : r = some (.long v)) (hw : wc' = ws) : vv_V x nL pc lv [.long v] ws := by
  obtain ⟨p, l, e, R, s, m, args, below, meth, c, K, A, Q, nc, ns⟩ := x
  intro H locs ls h1 h2 h3 h4
  obtain ⟨hret, hc, hs, hQ⟩ := hR
  subst hc; subst hs; subst hQ; subst hr; subst hw
  exact W.lret F.1 F.2.1 hret (fun t ht hW => ⟨⟨rfl, by rw [ht]; exact h1, h2⟩, h3.F ht⟩) h3.2.2 dg (hlocks := F.2.2.2.2.2.2.2.1)
theorem vv_vret (F : vv_F x cc nL own d) (hR : vv_R x none r wc') (dg : decode cc pc = .ok (.return_, 1)) (hr : r = none) (hw : wc' = ws) : vv_V x nL pc lv [] ws := by
  obtain ⟨p, l, e, R, s, m, args, below, meth, c, K, A, Q, nc, ns⟩ := x
  intro H locs ls h1 h2 h3 h4
  obtain ⟨hret, hc, hs, hQ⟩ := hR
  subst hc; subst hs; subst hQ; subst hr; subst hw
  exact W.vret F.1 F.2.1 hret (fun t ht hW => ⟨⟨rfl, by rw [ht]; exact h1, h2⟩, h3.F ht⟩) h3.2.2 dg (hlocks := F.2.2.2.2.2.2.2.1)
/-- entry 'index' of class own is the method y, an instance's, of the class at ci, with n arguments -/
def vv_mv (own : String) (index ci : Nat) (y : MethodName) (cc : ByteArray) (nL : Nat) (ret : Option FieldType) (n : Nat) : Prop := ∃ (T : u_T) (N : Nat), vv_CL[ci]? = some (y.cls, T, N) ∧ (Cond.methodLink own index y ∈ vv_gw ∨ ∃ host, Cond.methodLinkNest own index y host ∈ vv_nest) ∧ Cond.instanceMethod y ∈ vv_gw ∧ Cond.selects y.cls y y ∈ vv_gw ∧ Cond.initialized y.cls ∈ vv_gw ∧ Cond.code y cc nL ret ∈ vv_gw ∧ (y.cls ≠ "java/lang/invoke/MethodHandle" ∧ y.cls ≠ "java/lang/invoke/VarHandle" ∧ (parseMethodDescriptor y.desc).map (fun d => d.parameters.length) = some n) ∧ nL ≤ 40
def vv_ms (own : String) (index : Nat) (y : MethodName) (cc : ByteArray) (nL : Nat) (ret : Option FieldType) (n : Nat) : Prop := (Cond.methodLink own index y ∈ vv_gw ∨ ∃ host, Cond.methodLinkNest own index y host ∈ vv_nest) ∧ Cond.static y ∈ vv_gw ∧ Cond.initialized y.cls ∈ vv_gw ∧ Cond.code y cc nL ret ∈ vv_gw ∧ (y.cls ≠ "java/lang/invoke/MethodHandle" ∧ y.cls ≠ "java/lang/invoke/VarHandle" ∧ (parseMethodDescriptor y.desc).map (fun d => d.parameters.length) = some n) ∧ nL ≤ 40
theorem vv_goodC {y : MethodName} {cc : ByteArray} {nL : Nat} {ret : Option FieldType} (hco : Cond.code y cc nL ret ∈ vv_gw) : GoodIn vv_gw (.code y cc nL ret :: vv_gw) := fun w hw => by
  rcases List.mem_cons.mp hw with rfl | hw
  · exact ⟨hco, good_of_word (vv_gw_good hco)⟩
  · exact ⟨hw, good_of_word (vv_gw_good hw)⟩
theorem vv_blind {K : vv_K} {as : List Value} {sz : Nat} : FrameBlind (va_Pc as (fun U => U.heap.size = sz ∧ va_P K.1 vv_CL wc U.heap ∧ vv_A K (va_A wc sz) U U.heap ∧ va_D (fun _ => True) wc)) := fun a U g mk q => by
  obtain ⟨q0, q1, qP, qA, qD⟩ := q
  exact ⟨q0, q1, qP, vv_A.same (U := U) (U' := U.calling g mk a) rfl rfl qA, qD⟩
theorem vv_back {p : Program} {l : Launch} {e : Env} {R : Room} {s : State} {m : MethodId} {args a : Array Value} {below : List Frame} {meth : Method} {c : Code} {H : Heap} {locs : List Loc} {nc ns : Nat} {Q : State → Prop} {K : vv_K} {A : Nat → Prop} {ls : Array Slot} {is : List Nat}
    (hr : va_Run p l e R s m args below meth c H locs nc ns 0 0 (F0 m pc ls st) rest (vv_Q K (va_A wc H.size) r wc' a) (va_A wc H.size)) (h1 : va_P K.1 vv_CL ws H) (h2 : va_D A ws) (h3 : va_S A s.heap H locs) (hFc : ∀ q, va_A wc H.size q → A q) (his : is.map (fun i => ws[i]?) = wc.map some) (hf : wc'.map Prod.fst = wc.map Prod.fst)
    (k : ∀ (H1 : Heap) (locs1 : List Loc), va_P K.1 vv_CL (vv_up ws is wc') H1 → va_D A (vv_up ws is wc') → va_S A s.heap H1 locs1 → W p l e R s m args below meth c H1 locs1 nc ns Q (F0 m (pc + 3) ls (r.toList ++ rest))) : W p l e R s m args below meth c H locs nc ns Q (F0 m pc ls st) := by
  intro T hT X
  obtain ⟨v, st₀, t, T', L, h0, X', hL, e1, e2, ⟨⟨hv, hP1, hD1⟩, hz, hk⟩, stp⟩ := hr T hT X
  cases hv
  rw [h0] at hz hk
  obtain ⟨t2, a1, b1⟩ := k T'.heap (locs ++ L) (by rw [e1]; exact vv_up_P h1 h2 his hf hk hP1) (vv_up_D h2 his hf)
    ⟨Nat.le_trans h3.1 (by rw [e1]; exact hz), fun q g1 g2 => by rw [e1, hk q (Nat.lt_of_lt_of_le g1 h3.1) (fun z => g2 (hFc q z))]; exact h3.2.1 q g1 g2, fun q hq => by
      rcases List.mem_append.mp hq with h | h
      · exact h3.2.2 q h
      · exact hFc _ (hL q h)⟩ T' rfl X'
  exact ⟨t2, stp t2 a1, b1⟩
theorem vv_callV {index ci nL' dc n b : Nat} {y : MethodName} {cc' : ByteArray} {ret : Option FieldType} {As : List Value} {fs : List Value} (is : List Nat) (q0 : Nat) (F : vv_F x cc nL own d) (hC : vv_C (vv_l x) (vv_k x) dc y cc' nL' ret (.ref b :: As) wc r wc') (mv : vv_mv own index ci y cc' nL' ret n) (dg : decode cc pc = .ok (.invokevirtual index, 3)) (hdc : dc + 1 ≤ d) (hn : As.length = n) (hst : st = As.reverse ++ .ref b :: rest) (hrs : (rest.map fun v => v.category).sum ≤ 8) (his : is.map (fun i => ws[i]?) = wc.map some) (hnd : va_nd is = true) (hf : wc'.map Prod.fst = wc.map Prod.fst) (hre : ws[q0]? = some (b, .inr (ci, fs))) (hw : vv_up ws is wc' = ws')
    (k : vv_V x nL (pc + 3) lv (r.toList ++ rest) ws') : vv_V x nL pc lv st ws := by
  obtain ⟨p, l, e, R, s, m, args, below, meth, c, K, A, Q, nc, ns⟩ := x
  intro H locs ls h1 h2 h3 h4
  obtain ⟨T, N, hcl, hl, hi, hse, hini, hco, hd, h40⟩ := mv
  obtain ⟨hx, hb, hml, hown, hts, hAb, hA, hlk, hfr, hlo, hnc, hns⟩ := F
  have hG := vv_goodC hco
  have hFc := va_free h2 h3 hA is his
  have hP9 := h1.sub is (vv_fm his)
  have hD9 := h2.sub is hnd his
  have pre : ∀ U : State, U.heap = H → s.WarmedH U.vm → (va_Pc (.ref b :: As) (fun U => U.heap.size = H.size ∧ va_P K.1 vv_CL wc U.heap ∧ vv_A K (va_A wc H.size) U U.heap ∧ va_D (fun _ => True) wc)) (Value.ref b :: As).toArray U := fun U hU hW => ⟨rfl, by rw [hU], by rw [hU]; exact hP9, vv_A.go (A := A) (by rw [hU]; exact h3.2.1) hW hFc hAb, hD9.weaken (fun _ _ _ _ => trivial)⟩
  have hRm : (vv_rm dc).frames + 1 ≤ R.frames ∧ 8 + (nL' + 11) + (vv_rm dc).locals ≤ R.locals := ⟨by show dc + 1 ≤ R.frames; omega, by show 8 + (nL' + 11) + 60 * dc ≤ R.locals; omega⟩
  subst hst
  subst hw
  rcases hl with hl | ⟨host, hl⟩
  · exact vv_back (va_runV (As := As) (rest := rest) (g := F0 m pc ls (As.reverse ++ .ref b :: rest)) (C := y.cls) (b := b) ⟨hx, hb, hml, hown, hts⟩ (hC H.size) ⟨callB_of n hts hG rfl rfl rfl (hts _ hini) (hts _ hl) hd hRm, hts _ hi, hts _ hse⟩ ⟨vv_blind, va_recv hAb.1 h1 hcl hre, pre⟩ rfl hn h4.1 rfl (lv_room hrs) dg ⟨hnc, hns⟩) h1 h2 h3 hFc his hf (fun H1 locs1 g1 g2 g3 => k H1 locs1 ls g1 g2 g3 h4)
  · exact vv_back (va_runVN (As := As) (rest := rest) (g := F0 m pc ls (As.reverse ++ .ref b :: rest)) (C := y.cls) (b := b) (host := host) ⟨hx, hb, hml, hown, hts⟩ (hC H.size) ⟨va_cnB n hts hG rfl rfl rfl (hAb.2.1 _ hl) (hts _ hini) hd hRm, hts _ hi, hts _ hse⟩ ⟨vv_blind, va_recv hAb.1 h1 hcl hre, pre⟩ rfl hn h4.1 rfl (lv_room hrs) dg ⟨hnc, hns⟩) h1 h2 h3 hFc his hf (fun H1 locs1 g1 g2 g3 => k H1 locs1 ls g1 g2 g3 h4)
theorem vv_callS {index nL' dc n : Nat} {y : MethodName} {cc' : ByteArray} {ret : Option FieldType} {As : List Value} (is : List Nat) (F : vv_F x cc nL own d) (hC : vv_C (vv_l x) (vv_k x) dc y cc' nL' ret As wc r wc') (ms : vv_ms own index y cc' nL' ret n) (dg : decode cc pc = .ok (.invokestatic index, 3)) (hdc : dc + 1 ≤ d) (hn : As.length = n) (hst : st = As.reverse ++ rest) (hrs : (rest.map fun v => v.category).sum ≤ 8) (his : is.map (fun i => ws[i]?) = wc.map some) (hnd : va_nd is = true) (hf : wc'.map Prod.fst = wc.map Prod.fst) (hw : vv_up ws is wc' = ws')
    (k : vv_V x nL (pc + 3) lv (r.toList ++ rest) ws') : vv_V x nL pc lv st ws := by
  obtain ⟨p, l, e, R, s, m, args, below, meth, c, K, A, Q, nc, ns⟩ := x
  intro H locs ls h1 h2 h3 h4
  obtain ⟨hl, hsta, hini, hco, hd, h40⟩ := ms
  obtain ⟨hx, hb, hml, hown, hts, hAb, hA, hlk, hfr, hlo, hnc, hns⟩ := F
  have hG := vv_goodC hco
  have hFc := va_free h2 h3 hA is his
  have hP9 := h1.sub is (vv_fm his)
  have hD9 := h2.sub is hnd his
  have pre : ∀ U : State, U.heap = H → s.WarmedH U.vm → (va_Pc As (fun U => U.heap.size = H.size ∧ va_P K.1 vv_CL wc U.heap ∧ vv_A K (va_A wc H.size) U U.heap ∧ va_D (fun _ => True) wc)) As.toArray U := fun U hU hW => ⟨rfl, by rw [hU], by rw [hU]; exact hP9, vv_A.go (A := A) (by rw [hU]; exact h3.2.1) hW hFc hAb, hD9.weaken (fun _ _ _ _ => trivial)⟩
  have hRm : (vv_rm dc).frames + 1 ≤ R.frames ∧ 8 + (nL' + 11) + (vv_rm dc).locals ≤ R.locals := ⟨by show dc + 1 ≤ R.frames; omega, by show 8 + (nL' + 11) + 60 * dc ≤ R.locals; omega⟩
  subst hst
  subst hw
  rcases hl with hl | ⟨host, hl⟩
  · exact vv_back (va_runS (As := As) (rest := rest) (g := F0 m pc ls (As.reverse ++ rest)) ⟨hx, hb, hml, hown, hts⟩ (hC H.size) ⟨callB_of n hts hG rfl rfl rfl (hts _ hini) (hts _ hl) hd hRm, hts _ hsta⟩ ⟨vv_blind, pre⟩ rfl hn h4.1 rfl (lv_room hrs) dg ⟨hnc, hns⟩) h1 h2 h3 hFc his hf (fun H1 locs1 g1 g2 g3 => k H1 locs1 ls g1 g2 g3 h4)
  · exact vv_back (va_runSN (As := As) (rest := rest) (g := F0 m pc ls (As.reverse ++ rest)) (host := host) ⟨hx, hb, hml, hown, hts⟩ (hC H.size) ⟨va_cnB n hts hG rfl rfl rfl (hAb.2.1 _ hl) (hts _ hini) hd hRm, hts _ hsta, trivial⟩ ⟨vv_blind, pre⟩ rfl hn h4.1 rfl (lv_room hrs) dg ⟨hnc, hns⟩) h1 h2 h3 hFc his hf (fun H1 locs1 g1 g2 g3 => k H1 locs1 ls g1 g2 g3 h4)
/-- Math.max, Math.min -/
theorem vv_mmax {index : Nat} {a b : Int32} (F : vv_F x cc nL own d) (hl : Cond.methodLink own index Lib.Math.max.name ∈ vv_gw) (h2 : Cond.static Lib.Math.max.name ∈ vv_gw) (h3 : Cond.initialized "java/lang/Math" ∈ vv_gw) (h4 : Cond.code Lib.Math.max.name Lib.Math.max.code 2 (some .int) ∈ vv_gw) (hd : 1 ≤ d) (hrs : (st.map fun v => v.category).sum ≤ 8) (dg : decode cc pc = .ok (.invokestatic index, 3)) (k : vv_V x nL (pc + 3) lv (.int (if a < b then b else a) :: st) ws) : vv_V x nL pc lv (.int b :: .int a :: st) ws := by
  obtain ⟨p, l, e, R, s, m, args, below, meth, c, K, A, Q, nc, ns⟩ := x
  intro H locs ls g1 g2 g3 g4
  obtain ⟨hx, hb, hml, hown, hts, hAb, hA, hlk, hfr, hlo, hnc, hns⟩ := F
  exact va_mmax hx hb (hml.trans g4.1.symm) hown (hts _ hl) (hts _ h2) (hts _ h3) (hts _ h4) (by omega) (by omega) hnc hns dg (k H locs ls g1 g2 g3 g4)
theorem vv_mmin {index : Nat} {a b : Int32} (F : vv_F x cc nL own d) (hl : Cond.methodLink own index Lib.Math.min.name ∈ vv_gw) (h2 : Cond.static Lib.Math.min.name ∈ vv_gw) (h3 : Cond.initialized "java/lang/Math" ∈ vv_gw) (h4 : Cond.code Lib.Math.min.name Lib.Math.min.code 2 (some .int) ∈ vv_gw) (hd : 1 ≤ d) (hrs : (st.map fun v => v.category).sum ≤ 8) (dg : decode cc pc = .ok (.invokestatic index, 3)) (k : vv_V x nL (pc + 3) lv (.int (if b < a then b else a) :: st) ws) : vv_V x nL pc lv (.int b :: .int a :: st) ws := by
  obtain ⟨p, l, e, R, s, m, args, below, meth, c, K, A, Q, nc, ns⟩ := x
  intro H locs ls g1 g2 g3 g4
  obtain ⟨hx, hb, hml, hown, hts, hAb, hA, hlk, hfr, hlo, hnc, hns⟩ := F
  exact va_mmin hx hb (hml.trans g4.1.symm) hown (hts _ hl) (hts _ h2) (hts _ h3) (hts _ h4) (by omega) (by omega) hnc hns dg (k H locs ls g1 g2 g3 g4)
/-- arraycopy of a whole int row onto another from place 0 on -/
theorem vv_copyi {index a a0 n0 n1 n : Nat} {f g : Nat → Int32} {nn : Int32} (q0 q1 : Nat) (F : vv_F x cc nL own d) (hl : Cond.methodLink own index arraycopyName ∈ vv_gw) (k2 : Cond.native arraycopyName ∈ vv_gw) (k3 : Cond.static arraycopyName ∈ vv_gw) (k4 : Cond.initialized "java/lang/System" ∈ vv_gw) (hd : 1 ≤ d) (hrs : (st.map fun v => v.category).sum ≤ 8) (ha0 : ws[q0]? = some (a0, .inl ((vv_k x).2.1.1, n0, .inl f))) (ha1 : ws[q1]? = some (a, .inl ((vv_k x).2.1.1, n1, .inl g))) (hn0 : ¬ nn < 0) (hn : nn.toNatClampNeg = n) (hb0 : n ≤ n0) (hb1 : n ≤ n1) (dg : decode cc pc = .ok (.invokestatic index, 3)) (hw : ws.set q1 (a, .inl ((vv_k x).2.1.1, n1, .inl (va_cpy f g 0 0 n))) = ws') (k : vv_V x nL (pc + 3) lv st ws') : vv_V x nL pc lv (.int nn :: .int 0 :: .ref a :: .int 0 :: .ref a0 :: st) ws := by
  obtain ⟨p, l, e, R, s, m, args, below, meth, c, K, A, Q, nc, ns⟩ := x
  intro H locs ls g1 g2 g3 g4
  obtain ⟨hx, hb, hml, hown, hts, hAb, hA, hlk, hfr, hlo, hnc, hns⟩ := F
  subst hn
  subst hw
  have z0 : (0 : Int32).toNatClampNeg = 0 := rfl
  have z1 : nativeFrameWords "java/lang/System" "arraycopy" 5 + 11 ≤ 40 := by decide +kernel
  have z2 : (st.map fun v => v.category).sum + (nativeFrameWords "java/lang/System" "arraycopy" 5 + 11) ≤ R.locals := by omega
  have z3 : 1 ≤ R.frames := by omega
  exact va_copyi hx hb (hml.trans g4.1.symm) hown (hts _ hl) (hts _ k2) (hts _ k3) (hts _ k4) hAb.1 g1 g2 g3 q0 q1 0 0 ha0 ha1 rfl rfl rfl (sp := 0) (dp := 0) (n := nn) (by decide) (by decide) hn0 (by rw [z0]; omega) (by rw [z0]; omega) (fun i _ => rfl) z3 z2 dg (fun H1 locs1 e1 e2 e3 => k H1 locs1 ls e1 e2 e3 g4)
end VVS
