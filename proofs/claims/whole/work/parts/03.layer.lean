/-! THE LAYER vv_: the walk's ambient (program, state, frame below, tables ..) is one tuple; a rule an instruction; a contract 'vv_C' says what a method answers and what its cells are behind it -/
theorem vv_ixP {x : Int32} {n j : Nat} (h : x.toInt = (j : Int)) (hn : j < n) : vp_in x n ∧ x.toNatClampNeg = j := by
  have h1 : x.toNatClampNeg = j := by
    rw [Int32.toNatClampNeg, h]; exact Int.toNat_natCast j
  exact ⟨vp_in_iff.mpr ⟨by omega, by omega⟩, h1⟩
def vv_gw : List Cond := lw_tbl.filter goodWord
theorem vv_gw_of {w : Cond} (h : w ∈ lw_tbl) (g : goodWord w = true) : w ∈ vv_gw := List.mem_filter.mpr ⟨h, g⟩
theorem vv_gw_good {w : Cond} (h : w ∈ vv_gw) : goodWord w = true := (List.mem_filter.mp h).2
theorem vv_gw_tbl {w : Cond} (h : w ∈ vv_gw) : w ∈ lw_tbl := (List.mem_filter.mp h).1
/-- the classes whose objects the worlds hold: Guess 0, Province 1, Records 2, RowSearch 3, Text 4, TwoEnds 5, StringToll 6, the reference 7 -/
abbrev vv_CL : List vw_C := [(RX0, TX0, 2), (RX2, TX2, 12), (RX3, TX3, 3), (RX4, TX4, 5), (RX5, TX5, 6), (RX6, TX6, 2), (RX7, TX7, 15), (RX8, TX8, 18)]
/-- classes and slots; the array classes of int, byte, boolean; the String constants and their bytes -/
abbrev vv_K : Type := va_G × (ClassId × ClassId × ClassId) × ((Nat → Nat) × (Nat → Nat))
abbrev vv_ty (K : vv_K) : List (ClassId × FieldType) := [(K.2.1.1, .int), (K.2.1.2.1, .byte), (K.2.1.2.2, .boolean)]

def vv_nest : List Cond := [(Jvm.Cond.methodLinkNest "StringToll" (9 : Nat) ({ cls := "StringToll$Province", name := "<init>", desc := "()V" } : Jvm.MethodName) "StringToll"), (Jvm.Cond.fieldLinkNest "StringToll$RowSearch" (27 : Nat) "StringToll$Records" "size" "I" "StringToll"), (Jvm.Cond.fieldLinkNest "StringToll" (72 : Nat) "StringToll$Records" "size" "I" "StringToll"), (Jvm.Cond.fieldLinkNest "StringToll$TwoEnds" (38 : Nat) "StringToll$Records" "size" "I" "StringToll"), (Jvm.Cond.fieldLinkNest "StringToll$Text" (90 : Nat) "StringToll$Records" "size" "I" "StringToll"), (Jvm.Cond.fieldLinkNest "StringToll$Province" (61 : Nat) "StringToll$Records" "size" "I" "StringToll"), (Jvm.Cond.fieldLinkNest "StringToll$Guess" (74 : Nat) "StringToll$Records" "size" "I" "StringToll"), (Jvm.Cond.fieldLinkNest "StringToll" (232 : Nat) "StringToll$Province" "line" "I" "StringToll"), (Jvm.Cond.fieldLinkNest "StringToll$RowSearch" (43 : Nat) "StringToll$Province" "purse" "I" "StringToll"), (Jvm.Cond.fieldLinkNest "StringToll$Text" (111 : Nat) "StringToll$Province" "purse" "I" "StringToll"), (Jvm.Cond.fieldLinkNest "StringToll" (131 : Nat) "StringToll$Province" "purse" "I" "StringToll"), (Jvm.Cond.fieldLinkNest "StringToll$TwoEnds" (28 : Nat) "StringToll$Province" "hour" "I" "StringToll"), (Jvm.Cond.fieldLinkNest "StringToll" (124 : Nat) "StringToll$Province" "hour" "I" "StringToll"), (Jvm.Cond.fieldLinkNest "StringToll$RowSearch" (21 : Nat) "StringToll$Province" "strings" "LStringToll$Records;" "StringToll"), (Jvm.Cond.fieldLinkNest "StringToll" (68 : Nat) "StringToll$Province" "strings" "LStringToll$Records;" "StringToll"), (Jvm.Cond.fieldLinkNest "StringToll$TwoEnds" (34 : Nat) "StringToll$Province" "strings" "LStringToll$Records;" "StringToll"), (Jvm.Cond.fieldLinkNest "StringToll$Text" (71 : Nat) "StringToll$Province" "strings" "LStringToll$Records;" "StringToll"), (Jvm.Cond.fieldLinkNest "StringToll$Guess" (70 : Nat) "StringToll$Province" "came" "LStringToll$Records;" "StringToll"), (Jvm.Cond.fieldLinkNest "StringToll" (185 : Nat) "StringToll$Province" "came" "LStringToll$Records;" "StringToll"), (Jvm.Cond.fieldLinkNest "StringToll$Guess" (85 : Nat) "StringToll$Province" "notes" "LStringToll$Records;" "StringToll"), (Jvm.Cond.fieldLinkNest "StringToll" (204 : Nat) "StringToll$Province" "notes" "LStringToll$Records;" "StringToll"), (Jvm.Cond.fieldLinkNest "StringToll$Guess" (88 : Nat) "StringToll$Province" "marks" "LStringToll$Records;" "StringToll"), (Jvm.Cond.fieldLinkNest "StringToll" (207 : Nat) "StringToll$Province" "marks" "LStringToll$Records;" "StringToll"), (Jvm.Cond.fieldLinkNest "StringToll" (95 : Nat) "StringToll$Province" "past" "LStringToll$Records;" "StringToll"), (Jvm.Cond.methodLinkNest "StringToll" (27 : Nat) ({ cls := "StringToll$Text", name := "<init>", desc := "()V" } : Jvm.MethodName) "StringToll"), (Jvm.Cond.fieldLinkNest "StringToll" (114 : Nat) "StringToll$Text" "length" "I" "StringToll"), (Jvm.Cond.methodLinkNest "StringToll" (34 : Nat) ({ cls := "StringToll$RowSearch", name := "<init>", desc := "()V" } : Jvm.MethodName) "StringToll"), (Jvm.Cond.fieldLinkNest "StringToll" (176 : Nat) "StringToll$RowSearch" "bestLength" "I" "StringToll"), (Jvm.Cond.fieldLinkNest "StringToll" (173 : Nat) "StringToll$RowSearch" "bestHaul" "I" "StringToll"), (Jvm.Cond.methodLinkNest "StringToll" (41 : Nat) ({ cls := "StringToll$Guess", name := "<init>", desc := "()V" } : Jvm.MethodName) "StringToll"), (Jvm.Cond.methodLinkNest "StringToll" (48 : Nat) ({ cls := "StringToll$TwoEnds", name := "<init>", desc := "()V" } : Jvm.MethodName) "StringToll"), (Jvm.Cond.methodLinkNest "StringToll$Kinds" (11 : Nat) ({ cls := "StringToll", name := "within", desc := "(III)Z" } : Jvm.MethodName) "StringToll"), (Jvm.Cond.methodLinkNest "StringToll$Text" (19 : Nat) ({ cls := "StringToll", name := "within", desc := "(III)Z" } : Jvm.MethodName) "StringToll"), (Jvm.Cond.methodLinkNest "StringToll$Province" (64 : Nat) ({ cls := "StringToll", name := "within", desc := "(III)Z" } : Jvm.MethodName) "StringToll"), (Jvm.Cond.methodLinkNest "StringToll$RowSearch" (55 : Nat) ({ cls := "StringToll", name := "within", desc := "(III)Z" } : Jvm.MethodName) "StringToll"), (Jvm.Cond.methodLinkNest "StringToll$Guess" (91 : Nat) ({ cls := "StringToll", name := "within", desc := "(III)Z" } : Jvm.MethodName) "StringToll")]
def vv_isNest : Cond → Bool
  | .fieldLinkNest .. => true
  | .methodLinkNest .. => true
  | _ => false
theorem vv_nest_ok : ∀ w ∈ vv_nest, vv_isNest w = true := by decide +kernel
theorem vv_nest_in : ∀ w ∈ vv_nest, w ∈ lw_tbl := by decide +kernel
theorem vv_nest_warm {w : Cond} (h : vv_isNest w = true) {s U : State} (hW : s.WarmedH U.vm) (hZ : va_Nw w s) : va_Nw w U := by
  cases w with
  | fieldLinkNest a i b n d h => exact va_Nw.warmF hW hZ
  | methodLinkNest a i x h => exact va_Nw.warmM hW hZ
  | _ => cases h
theorem vv_nest_tab {w : Cond} (h : vv_isNest w = true) : w.onTables = true := by
  cases w with
  | fieldLinkNest a i b n d h => rfl
  | methodLinkNest a i x h => rfl
  | _ => cases h

/-- the six words of the text: 0 province (entry 46), 1 house (entry 64), 2 string (entry 69), 3 purse (entry 83), 4 send (entry 88), 5 wait (entry 97) -/
def vv_sk : List (Nat × String) := [(46, "province"), (64, "house"), (69, "string"), (83, "purse"), (88, "send"), (97, "wait")]
def vv_sl : List Nat := [8, 5, 6, 5, 4, 4]
def vv_sb : List (List Int32) := [[112, 114, 111, 118, 105, 110, 99, 101], [104, 111, 117, 115, 101], [115, 116, 114, 105, 110, 103], [112, 117, 114, 115, 101], [115, 101, 110, 100], [119, 97, 105, 116]]
def vv_S (K : vv_K) (A : Nat → Prop) (U : State) (H : Heap) : Prop :=
  vk_S 6 vv_sl vv_sb K.2.2.1 K.2.2.2 A U H ∧ (∀ (i : Nat) (q : Nat × String), vv_sk[i]? = some q → vk_R RX5 q.1 q.2 (K.2.2.1 i) U) ∧ va_Z "java/lang/String" "COMPACT_STRINGS" "Z" (.int 1) A U H ∧ va_Zq "jdk/internal/util/Preconditions" "SIOOBE_FORMATTER" "Ljava/util/function/BiFunction;" A U H
/-- what every method is told of the tables and of the constants -/
def vv_A (K : vv_K) (A : Nat → Prop) (U : State) (H : Heap) : Prop := va_K K.1 vv_CL (vv_ty K) U ∧ (∀ w ∈ vv_nest, va_Nw w U) ∧ vv_S K A U H
theorem vv_A.go {K : vv_K} {A B : Nat → Prop} {s U : State} {H : Heap} (hk : ∀ q : Nat, q < s.heap.size → ¬ A q → H[q]? = s.heap[q]?) (hW : s.WarmedH U.vm) (hAB : ∀ q, B q → A q) (h : vv_A K A s s.heap) : vv_A K B U H :=
  ⟨va_K.moved hW.alike h.1, fun w hw => vv_nest_warm (vv_nest_ok w hw) hW (h.2.1 w hw),
   ((h.2.2.1.kept hk).narrow hAB).moved hW.alike, fun i q hq => (h.2.2.2.1 i q hq).warm hW, ((h.2.2.2.2.1.kept hk).narrow hAB).moved hW.alike, ((h.2.2.2.2.2.kept hk).narrow hAB).moved hW.alike⟩
theorem vv_A.same {K : vv_K} {A : Nat → Prop} {U U' : State} (hv : U.vm = U'.vm) (hh : U'.heap = U.heap) (h : vv_A K A U U.heap) : vv_A K A U' U'.heap := by
  have ha : U.vm.Alike U'.vm := by rw [hv]; exact Vm.Alike.refl _
  rw [hh]
  exact ⟨va_K.moved ha h.1, fun w hw => va_Nw.same (vv_nest_tab (vv_nest_ok w hw)) hv (h.2.1 w hw), h.2.2.1.moved ha, fun i q hq => (h.2.2.2.1 i q hq).same hv.symm, h.2.2.2.2.1.moved ha, h.2.2.2.2.2.moved ha⟩
/-- the ambient -/
abbrev vv_X : Type := Program × Launch × Env × Room × State × MethodId × Array Value × List Frame × Method × Code × vv_K × (Nat → Prop) × (State → Prop) × Nat × Nat
def vv_V (x : vv_X) (nL pc : Nat) (lv : List (Nat × Value)) (st : List Value) (ws : va_W) : Prop := match x with
  | (p, l, e, R, s, m, args, below, meth, c, K, A, Q, nc, ns) => ∀ (H : Heap) (locs : List Loc) (ls : Array Slot), va_P K.1 vv_CL ws H → va_D A ws → va_S A s.heap H locs → lv_has ls nL lv → W p l e R s m args below meth c H locs nc ns Q (F0 m pc ls st)
def vv_F (x : vv_X) (cc : ByteArray) (nL : Nat) (own : String) (d : Nat) : Prop := match x with
  | (p, _, _, R, s, m, args, _, meth, c, K, A, _, nc, ns) => p.tables.exec = Jvm.exec ∧ c.code = cc ∧ c.maxLocals = nL ∧ s.vm.findClass own = some m.cls ∧ (∀ w ∈ vv_gw, w.before args s = true) ∧ vv_A K A s s.heap ∧ (∀ q, s.heap.size ≤ q → A q) ∧ meth.locks = false ∧ d ≤ R.frames ∧ 60 * d ≤ R.locals ∧ nc ≤ R.cells ∧ ns ≤ R.slots
abbrev vv_l (x : vv_X) : Launch := x.2.1
abbrev vv_k (x : vv_X) : vv_K := x.2.2.2.2.2.2.2.2.2.2.1
def vv_rm (d : Nat) : Room := { frames := d, cells := 0, slots := 0, locals := 60 * d }
def vv_g (lv : List (Nat × Value)) (i : Nat) : Option Value := (lv.find? (fun q => q.1 == i)).map Prod.snd
theorem vv_g_at {ls : Array Slot} {nL : Nat} {lv : List (Nat × Value)} {i : Nat} {v : Value} (h : lv_has ls nL lv) (hg : vv_g lv i = some v) : ls[i]? = some (.val v) := by
  unfold vv_g at hg
  cases hf : lv.find? (fun q => q.1 == i) with
  | none => rw [hf] at hg; cases hg
  | some q =>
    rw [hf] at hg
    cases hg
    have h1 := List.find?_some hf
    have h2 := h.2.2 q (List.mem_of_find?_eq_some hf)
    simp only [beq_iff_eq] at h1
    rw [← h1]; exact h2
section VVR
variable {x : vv_X} {cc : ByteArray} {nL pc d : Nat} {own : String} {lv lv' : List (Nat × Value)} {st : List Value} {ws ws' : va_W}

theorem vv_iconst {n : Int} {v : Int32} (F : vv_F x cc nL own d) (dg : decode cc pc = .ok (.iconst n, 1)) (hv : Int32.ofInt n = v) (k : vv_V x nL (pc + 1) lv (.int v :: st) ws) : vv_V x nL pc lv st ws := by
  obtain ⟨p, l, e, R, s, m, args, below, meth, c, K, A, Q, nc, ns⟩ := x
  intro H locs ls h1 h2 h3 h4
  exact lv_iconst F.1 F.2.1 dg hv (k H locs ls h1 h2 h3 h4)
theorem vv_bipush {n : Int} {v : Int32} (F : vv_F x cc nL own d) (dg : decode cc pc = .ok (.bipush n, 2)) (hv : (Int8.ofInt n).toInt32 = v) (k : vv_V x nL (pc + 2) lv (.int v :: st) ws) : vv_V x nL pc lv st ws := by
  obtain ⟨p, l, e, R, s, m, args, below, meth, c, K, A, Q, nc, ns⟩ := x
  intro H locs ls h1 h2 h3 h4
  exact lv_bipush F.1 F.2.1 dg hv (k H locs ls h1 h2 h3 h4)
theorem vv_sipush {n : Int} {v : Int32} (F : vv_F x cc nL own d) (dg : decode cc pc = .ok (.sipush n, 3)) (hv : (Int16.ofInt n).toInt32 = v) (k : vv_V x nL (pc + 3) lv (.int v :: st) ws) : vv_V x nL pc lv st ws := by
  obtain ⟨p, l, e, R, s, m, args, below, meth, c, K, A, Q, nc, ns⟩ := x
  intro H locs ls h1 h2 h3 h4
  exact lv_sipush F.1 F.2.1 dg hv (k H locs ls h1 h2 h3 h4)
theorem vv_lconst {n : Fin 2} {v : Int64} (F : vv_F x cc nL own d) (dg : decode cc pc = .ok (.lconst n, 1)) (hv : Int64.ofNat (n : Nat) = v) (k : vv_V x nL (pc + 1) lv (.long v :: st) ws) : vv_V x nL pc lv st ws := by
  obtain ⟨p, l, e, R, s, m, args, below, meth, c, K, A, Q, nc, ns⟩ := x
  intro H locs ls h1 h2 h3 h4
  exact lv_lconst F.1 F.2.1 dg hv (k H locs ls h1 h2 h3 h4)
theorem vv_iload_n {k0 : Fin 4} {i : Nat} {v : Int32} (F : vv_F x cc nL own d) (dg : decode cc pc = .ok (.iload_n k0, 1)) (hi : (k0 : Nat) = i) (hg : vv_g lv i = some (.int v)) (k : vv_V x nL (pc + 1) lv (.int v :: st) ws) : vv_V x nL pc lv st ws := by
  obtain ⟨p, l, e, R, s, m, args, below, meth, c, K, A, Q, nc, ns⟩ := x
  intro H locs ls h1 h2 h3 h4
  exact lv_iload_n F.1 F.2.1 dg hi (vv_g_at h4 hg) (k H locs ls h1 h2 h3 h4)
theorem vv_iload {i : Nat} {v : Int32} (F : vv_F x cc nL own d) (dg : decode cc pc = .ok (.iload i, 2)) (hg : vv_g lv i = some (.int v)) (k : vv_V x nL (pc + 2) lv (.int v :: st) ws) : vv_V x nL pc lv st ws := by
  obtain ⟨p, l, e, R, s, m, args, below, meth, c, K, A, Q, nc, ns⟩ := x
  intro H locs ls h1 h2 h3 h4
  exact lv_iload F.1 F.2.1 dg (vv_g_at h4 hg) (k H locs ls h1 h2 h3 h4)
theorem vv_istore_n {k0 : Fin 4} {i : Nat} {v : Int32} (F : vv_F x cc nL own d) (dg : decode cc pc = .ok (.istore_n k0, 1)) (hi : (k0 : Nat) = i) (hn : i < nL) (hl : (i, Value.int v) :: lv.filter (fun q => !(q.1 == i) && !(q.1 + 1 == i && q.2.category == 2)) = lv') (k : vv_V x nL (pc + 1) lv' st ws) : vv_V x nL pc lv (.int v :: st) ws := by
  obtain ⟨p, l, e, R, s, m, args, below, meth, c, K, A, Q, nc, ns⟩ := x
  intro H locs ls h1 h2 h3 h4
  exact lv_istore_n F.1 F.2.1 dg hi h4 hn hl (fun ls h4 => (k H locs ls h1 h2 h3 h4))
theorem vv_istore {i : Nat} {v : Int32} (F : vv_F x cc nL own d) (dg : decode cc pc = .ok (.istore i, 2)) (hn : i < nL) (hl : (i, Value.int v) :: lv.filter (fun q => !(q.1 == i) && !(q.1 + 1 == i && q.2.category == 2)) = lv') (k : vv_V x nL (pc + 2) lv' st ws) : vv_V x nL pc lv (.int v :: st) ws := by
  obtain ⟨p, l, e, R, s, m, args, below, meth, c, K, A, Q, nc, ns⟩ := x
  intro H locs ls h1 h2 h3 h4
  exact lv_istore F.1 F.2.1 dg h4 hn hl (fun ls h4 => (k H locs ls h1 h2 h3 h4))
theorem vv_lload_n {k0 : Fin 4} {i : Nat} {v : Int64} (F : vv_F x cc nL own d) (dg : decode cc pc = .ok (.lload_n k0, 1)) (hi : (k0 : Nat) = i) (hg : vv_g lv i = some (.long v)) (k : vv_V x nL (pc + 1) lv (.long v :: st) ws) : vv_V x nL pc lv st ws := by
  obtain ⟨p, l, e, R, s, m, args, below, meth, c, K, A, Q, nc, ns⟩ := x
  intro H locs ls h1 h2 h3 h4
  exact lv_lload_n F.1 F.2.1 dg hi (vv_g_at h4 hg) (k H locs ls h1 h2 h3 h4)
theorem vv_lload {i : Nat} {v : Int64} (F : vv_F x cc nL own d) (dg : decode cc pc = .ok (.lload i, 2)) (hg : vv_g lv i = some (.long v)) (k : vv_V x nL (pc + 2) lv (.long v :: st) ws) : vv_V x nL pc lv st ws := by
  obtain ⟨p, l, e, R, s, m, args, below, meth, c, K, A, Q, nc, ns⟩ := x
  intro H locs ls h1 h2 h3 h4
  exact lv_lload F.1 F.2.1 dg (vv_g_at h4 hg) (k H locs ls h1 h2 h3 h4)
theorem vv_lstore_n {k0 : Fin 4} {i : Nat} {v : Int64} (F : vv_F x cc nL own d) (dg : decode cc pc = .ok (.lstore_n k0, 1)) (hi : (k0 : Nat) = i) (hn : i + 1 < nL) (hl : (i, Value.long v) :: lv.filter (fun q => !(q.1 == i) && (!(q.1 == i + 1) && !(q.1 + 1 == i && q.2.category == 2))) = lv') (k : vv_V x nL (pc + 1) lv' st ws) : vv_V x nL pc lv (.long v :: st) ws := by
  obtain ⟨p, l, e, R, s, m, args, below, meth, c, K, A, Q, nc, ns⟩ := x
  intro H locs ls h1 h2 h3 h4
  exact lv_lstore_n F.1 F.2.1 dg hi h4 hn hl (fun ls h4 => (k H locs ls h1 h2 h3 h4))
theorem vv_lstore {i : Nat} {v : Int64} (F : vv_F x cc nL own d) (dg : decode cc pc = .ok (.lstore i, 2)) (hn : i + 1 < nL) (hl : (i, Value.long v) :: lv.filter (fun q => !(q.1 == i) && (!(q.1 == i + 1) && !(q.1 + 1 == i && q.2.category == 2))) = lv') (k : vv_V x nL (pc + 2) lv' st ws) : vv_V x nL pc lv (.long v :: st) ws := by
  obtain ⟨p, l, e, R, s, m, args, below, meth, c, K, A, Q, nc, ns⟩ := x
  intro H locs ls h1 h2 h3 h4
  exact lv_lstore F.1 F.2.1 dg h4 hn hl (fun ls h4 => (k H locs ls h1 h2 h3 h4))
theorem vv_aload_n {k0 : Fin 4} {i : Nat} {v : Nat} (F : vv_F x cc nL own d) (dg : decode cc pc = .ok (.aload_n k0, 1)) (hi : (k0 : Nat) = i) (hg : vv_g lv i = some (.ref v)) (k : vv_V x nL (pc + 1) lv (.ref v :: st) ws) : vv_V x nL pc lv st ws := by
  obtain ⟨p, l, e, R, s, m, args, below, meth, c, K, A, Q, nc, ns⟩ := x
  intro H locs ls h1 h2 h3 h4
  exact lv_aload_n F.1 F.2.1 dg hi (vv_g_at h4 hg) (k H locs ls h1 h2 h3 h4)
theorem vv_aload {i : Nat} {v : Nat} (F : vv_F x cc nL own d) (dg : decode cc pc = .ok (.aload i, 2)) (hg : vv_g lv i = some (.ref v)) (k : vv_V x nL (pc + 2) lv (.ref v :: st) ws) : vv_V x nL pc lv st ws := by
  obtain ⟨p, l, e, R, s, m, args, below, meth, c, K, A, Q, nc, ns⟩ := x
  intro H locs ls h1 h2 h3 h4
  exact lv_aload F.1 F.2.1 dg (vv_g_at h4 hg) (k H locs ls h1 h2 h3 h4)
theorem vv_astore_n {k0 : Fin 4} {i : Nat} {v : Nat} (F : vv_F x cc nL own d) (dg : decode cc pc = .ok (.astore_n k0, 1)) (hi : (k0 : Nat) = i) (hn : i < nL) (hl : (i, Value.ref v) :: lv.filter (fun q => !(q.1 == i) && !(q.1 + 1 == i && q.2.category == 2)) = lv') (k : vv_V x nL (pc + 1) lv' st ws) : vv_V x nL pc lv (.ref v :: st) ws := by
  obtain ⟨p, l, e, R, s, m, args, below, meth, c, K, A, Q, nc, ns⟩ := x
  intro H locs ls h1 h2 h3 h4
  exact lv_astore_n F.1 F.2.1 dg hi h4 hn hl (fun ls h4 => (k H locs ls h1 h2 h3 h4))
theorem vv_astore {i : Nat} {v : Nat} (F : vv_F x cc nL own d) (dg : decode cc pc = .ok (.astore i, 2)) (hn : i < nL) (hl : (i, Value.ref v) :: lv.filter (fun q => !(q.1 == i) && !(q.1 + 1 == i && q.2.category == 2)) = lv') (k : vv_V x nL (pc + 2) lv' st ws) : vv_V x nL pc lv (.ref v :: st) ws := by
  obtain ⟨p, l, e, R, s, m, args, below, meth, c, K, A, Q, nc, ns⟩ := x
  intro H locs ls h1 h2 h3 h4
  exact lv_astore F.1 F.2.1 dg h4 hn hl (fun ls h4 => (k H locs ls h1 h2 h3 h4))
theorem vv_iinc {i : Nat} {n : Int} {a v : Int32} (k0 : Nat) (F : vv_F x cc nL own d) (dg : decode cc pc = .ok (.iinc i n, 3)) (hk : lv[k0]? = some (i, .int a)) (hv : a + Int32.ofInt n = v) (hn : i < nL) (hl : (i, Value.int v) :: lv.filter (fun q => !(q.1 == i) && !(q.1 + 1 == i && q.2.category == 2)) = lv') (k : vv_V x nL (pc + 3) lv' st ws) : vv_V x nL pc lv st ws := by
  obtain ⟨p, l, e, R, s, m, args, below, meth, c, K, A, Q, nc, ns⟩ := x
  intro H locs ls h1 h2 h3 h4
  exact lv_iinc F.1 F.2.1 dg h4 hk hv hn hl (fun ls h4 => (k H locs ls h1 h2 h3 h4))
theorem vv_iadd {a b : Int32} (F : vv_F x cc nL own d) (dg : decode cc pc = .ok (.iadd, 1)) (k : vv_V x nL (pc + 1) lv (.int (a + b) :: st) ws) : vv_V x nL pc lv (.int b :: .int a :: st) ws := by
  obtain ⟨p, l, e, R, s, m, args, below, meth, c, K, A, Q, nc, ns⟩ := x
  intro H locs ls h1 h2 h3 h4
  exact lv_iadd F.1 F.2.1 dg (k H locs ls h1 h2 h3 h4)
theorem vv_isub {a b : Int32} (F : vv_F x cc nL own d) (dg : decode cc pc = .ok (.isub, 1)) (k : vv_V x nL (pc + 1) lv (.int (a - b) :: st) ws) : vv_V x nL pc lv (.int b :: .int a :: st) ws := by
  obtain ⟨p, l, e, R, s, m, args, below, meth, c, K, A, Q, nc, ns⟩ := x
  intro H locs ls h1 h2 h3 h4
  exact lv_isub F.1 F.2.1 dg (k H locs ls h1 h2 h3 h4)
theorem vv_imul {a b : Int32} (F : vv_F x cc nL own d) (dg : decode cc pc = .ok (.imul, 1)) (k : vv_V x nL (pc + 1) lv (.int (a * b) :: st) ws) : vv_V x nL pc lv (.int b :: .int a :: st) ws := by
  obtain ⟨p, l, e, R, s, m, args, below, meth, c, K, A, Q, nc, ns⟩ := x
  intro H locs ls h1 h2 h3 h4
  exact lv_imul F.1 F.2.1 dg (k H locs ls h1 h2 h3 h4)
theorem vv_iand {a b : Int32} (F : vv_F x cc nL own d) (dg : decode cc pc = .ok (.iand, 1)) (k : vv_V x nL (pc + 1) lv (.int (a &&& b) :: st) ws) : vv_V x nL pc lv (.int b :: .int a :: st) ws := by
  obtain ⟨p, l, e, R, s, m, args, below, meth, c, K, A, Q, nc, ns⟩ := x
  intro H locs ls h1 h2 h3 h4
  exact lv_iand F.1 F.2.1 dg (k H locs ls h1 h2 h3 h4)
theorem vv_ior {a b : Int32} (F : vv_F x cc nL own d) (dg : decode cc pc = .ok (.ior, 1)) (k : vv_V x nL (pc + 1) lv (.int (a ||| b) :: st) ws) : vv_V x nL pc lv (.int b :: .int a :: st) ws := by
  obtain ⟨p, l, e, R, s, m, args, below, meth, c, K, A, Q, nc, ns⟩ := x
  intro H locs ls h1 h2 h3 h4
  exact lv_ior F.1 F.2.1 dg (k H locs ls h1 h2 h3 h4)
theorem vv_ishl {a b : Int32} (F : vv_F x cc nL own d) (dg : decode cc pc = .ok (.ishl, 1)) (k : vv_V x nL (pc + 1) lv (.int (a <<< (b &&& 31)) :: st) ws) : vv_V x nL pc lv (.int b :: .int a :: st) ws := by
  obtain ⟨p, l, e, R, s, m, args, below, meth, c, K, A, Q, nc, ns⟩ := x
  intro H locs ls h1 h2 h3 h4
  exact lv_ishl F.1 F.2.1 dg (k H locs ls h1 h2 h3 h4)
theorem vv_ishr {a b : Int32} (F : vv_F x cc nL own d) (dg : decode cc pc = .ok (.ishr, 1)) (k : vv_V x nL (pc + 1) lv (.int (a >>> (b &&& 31)) :: st) ws) : vv_V x nL pc lv (.int b :: .int a :: st) ws := by
  obtain ⟨p, l, e, R, s, m, args, below, meth, c, K, A, Q, nc, ns⟩ := x
  intro H locs ls h1 h2 h3 h4
  exact lv_ishr F.1 F.2.1 dg (k H locs ls h1 h2 h3 h4)
theorem vv_idiv {a b : Int32} (F : vv_F x cc nL own d) (dg : decode cc pc = .ok (.idiv, 1)) (hne : ¬ b = 0) (k : vv_V x nL (pc + 1) lv (.int (a / b) :: st) ws) : vv_V x nL pc lv (.int b :: .int a :: st) ws := by
  obtain ⟨p, l, e, R, s, m, args, below, meth, c, K, A, Q, nc, ns⟩ := x
  intro H locs ls h1 h2 h3 h4
  exact lv_idiv F.1 F.2.1 dg hne (k H locs ls h1 h2 h3 h4)
theorem vv_irem {a b : Int32} (F : vv_F x cc nL own d) (dg : decode cc pc = .ok (.irem, 1)) (hne : ¬ b = 0) (k : vv_V x nL (pc + 1) lv (.int (a - a / b * b) :: st) ws) : vv_V x nL pc lv (.int b :: .int a :: st) ws := by
  obtain ⟨p, l, e, R, s, m, args, below, meth, c, K, A, Q, nc, ns⟩ := x
  intro H locs ls h1 h2 h3 h4
  exact lv_irem F.1 F.2.1 dg hne (k H locs ls h1 h2 h3 h4)
theorem vv_ladd {a b : Int64} (F : vv_F x cc nL own d) (dg : decode cc pc = .ok (.ladd, 1)) (k : vv_V x nL (pc + 1) lv (.long (a + b) :: st) ws) : vv_V x nL pc lv (.long b :: .long a :: st) ws := by
  obtain ⟨p, l, e, R, s, m, args, below, meth, c, K, A, Q, nc, ns⟩ := x
  intro H locs ls h1 h2 h3 h4
  exact lv_ladd F.1 F.2.1 dg (k H locs ls h1 h2 h3 h4)
theorem vv_lsub {a b : Int64} (F : vv_F x cc nL own d) (dg : decode cc pc = .ok (.lsub, 1)) (k : vv_V x nL (pc + 1) lv (.long (a - b) :: st) ws) : vv_V x nL pc lv (.long b :: .long a :: st) ws := by
  obtain ⟨p, l, e, R, s, m, args, below, meth, c, K, A, Q, nc, ns⟩ := x
  intro H locs ls h1 h2 h3 h4
  exact lv_lsub F.1 F.2.1 dg (k H locs ls h1 h2 h3 h4)
theorem vv_lmul {a b : Int64} (F : vv_F x cc nL own d) (dg : decode cc pc = .ok (.lmul, 1)) (k : vv_V x nL (pc + 1) lv (.long (a * b) :: st) ws) : vv_V x nL pc lv (.long b :: .long a :: st) ws := by
  obtain ⟨p, l, e, R, s, m, args, below, meth, c, K, A, Q, nc, ns⟩ := x
  intro H locs ls h1 h2 h3 h4
  exact lv_lmul F.1 F.2.1 dg (k H locs ls h1 h2 h3 h4)
theorem vv_ldiv {a b : Int64} (F : vv_F x cc nL own d) (dg : decode cc pc = .ok (.ldiv, 1)) (hne : ¬ b = 0) (k : vv_V x nL (pc + 1) lv (.long (a / b) :: st) ws) : vv_V x nL pc lv (.long b :: .long a :: st) ws := by
  obtain ⟨p, l, e, R, s, m, args, below, meth, c, K, A, Q, nc, ns⟩ := x
  intro H locs ls h1 h2 h3 h4
  exact lv_ldiv F.1 F.2.1 dg hne (k H locs ls h1 h2 h3 h4)
theorem vv_lrem {a b : Int64} (F : vv_F x cc nL own d) (dg : decode cc pc = .ok (.lrem, 1)) (hne : ¬ b = 0) (k : vv_V x nL (pc + 1) lv (.long (a - a / b * b) :: st) ws) : vv_V x nL pc lv (.long b :: .long a :: st) ws := by
  obtain ⟨p, l, e, R, s, m, args, below, meth, c, K, A, Q, nc, ns⟩ := x
  intro H locs ls h1 h2 h3 h4
  exact lv_lrem F.1 F.2.1 dg hne (k H locs ls h1 h2 h3 h4)
theorem vv_i2l {a : Int32} (F : vv_F x cc nL own d) (dg : decode cc pc = .ok (.i2l, 1)) (k : vv_V x nL (pc + 1) lv (.long a.toInt64 :: st) ws) : vv_V x nL pc lv (.int a :: st) ws := by
  obtain ⟨p, l, e, R, s, m, args, below, meth, c, K, A, Q, nc, ns⟩ := x
  intro H locs ls h1 h2 h3 h4
  exact lv_i2l F.1 F.2.1 dg rfl (k H locs ls h1 h2 h3 h4)
theorem vv_l2i {a : Int64} (F : vv_F x cc nL own d) (dg : decode cc pc = .ok (.l2i, 1)) (k : vv_V x nL (pc + 1) lv (.int a.toInt32 :: st) ws) : vv_V x nL pc lv (.long a :: st) ws := by
  obtain ⟨p, l, e, R, s, m, args, below, meth, c, K, A, Q, nc, ns⟩ := x
  intro H locs ls h1 h2 h3 h4
  exact lv_l2i F.1 F.2.1 dg rfl (k H locs ls h1 h2 h3 h4)
theorem vv_i2b {a : Int32} (F : vv_F x cc nL own d) (dg : decode cc pc = .ok (.i2b, 1)) (k : vv_V x nL (pc + 1) lv (.int a.toInt8.toInt32 :: st) ws) : vv_V x nL pc lv (.int a :: st) ws := by
  obtain ⟨p, l, e, R, s, m, args, below, meth, c, K, A, Q, nc, ns⟩ := x
  intro H locs ls h1 h2 h3 h4
  exact lv_i2b F.1 F.2.1 dg rfl (k H locs ls h1 h2 h3 h4)
theorem vv_dup {va : Value} (F : vv_F x cc nL own d) (dg : decode cc pc = .ok (.dup, 1)) (hva : va.category = 1) (k : vv_V x nL (pc + 1) lv (va :: va :: st) ws) : vv_V x nL pc lv (va :: st) ws := by
  obtain ⟨p, l, e, R, s, m, args, below, meth, c, K, A, Q, nc, ns⟩ := x
  intro H locs ls h1 h2 h3 h4
  exact lv_dup F.1 F.2.1 dg hva (k H locs ls h1 h2 h3 h4)
theorem vv_pop {va : Value} (F : vv_F x cc nL own d) (dg : decode cc pc = .ok (.pop, 1)) (hva : va.category = 1) (k : vv_V x nL (pc + 1) lv st ws) : vv_V x nL pc lv (va :: st) ws := by
  obtain ⟨p, l, e, R, s, m, args, below, meth, c, K, A, Q, nc, ns⟩ := x
  intro H locs ls h1 h2 h3 h4
  exact lv_pop F.1 F.2.1 dg hva (k H locs ls h1 h2 h3 h4)
theorem vv_dup2_11 {va vb : Value} (F : vv_F x cc nL own d) (dg : decode cc pc = .ok (.dup2, 1)) (hva : va.category = 1) (hvb : vb.category = 1) (k : vv_V x nL (pc + 1) lv (va :: vb :: va :: vb :: st) ws) : vv_V x nL pc lv (va :: vb :: st) ws := by
  obtain ⟨p, l, e, R, s, m, args, below, meth, c, K, A, Q, nc, ns⟩ := x
  intro H locs ls h1 h2 h3 h4
  exact lv_dup2_11 F.1 F.2.1 dg hva hvb (k H locs ls h1 h2 h3 h4)
theorem vv_lcmp {a b : Int64} (F : vv_F x cc nL own d) (dg : decode cc pc = .ok (.lcmp, 1)) (k : vv_V x nL (pc + 1) lv (.int (lg_cmp a b) :: st) ws) : vv_V x nL pc lv (.long b :: .long a :: st) ws := by
  obtain ⟨p, l, e, R, s, m, args, below, meth, c, K, A, Q, nc, ns⟩ := x
  intro H locs ls h1 h2 h3 h4
  exact W.lcmp F.1 F.2.1 dg (k H locs ls h1 h2 h3 h4)
theorem vv_if_eq {a : Int32} {off : Int} {tgt : Nat} (F : vv_F x cc nL own d) (dg : decode cc pc = .ok (.ifCond .eq off, 3)) (ht : (pc : Int) + off = (tgt : Int)) (kt : a = 0 → vv_V x nL tgt lv st ws) (kf : ¬ a = 0 → vv_V x nL (pc + 3) lv st ws) : vv_V x nL pc lv (.int a :: st) ws := by
  obtain ⟨p, l, e, R, s, m, args, below, meth, c, K, A, Q, nc, ns⟩ := x
  intro H locs ls h1 h2 h3 h4
  exact lv_if_eq F.1 F.2.1 dg ht (fun z => kt z H locs ls h1 h2 h3 h4) (fun z => kf z H locs ls h1 h2 h3 h4)
theorem vv_if_ne {a : Int32} {off : Int} {tgt : Nat} (F : vv_F x cc nL own d) (dg : decode cc pc = .ok (.ifCond .ne off, 3)) (ht : (pc : Int) + off = (tgt : Int)) (kt : ¬ a = 0 → vv_V x nL tgt lv st ws) (kf : a = 0 → vv_V x nL (pc + 3) lv st ws) : vv_V x nL pc lv (.int a :: st) ws := by
  obtain ⟨p, l, e, R, s, m, args, below, meth, c, K, A, Q, nc, ns⟩ := x
  intro H locs ls h1 h2 h3 h4
  exact lv_if_ne F.1 F.2.1 dg ht (fun z => kt z H locs ls h1 h2 h3 h4) (fun z => kf z H locs ls h1 h2 h3 h4)
theorem vv_if_lt {a : Int32} {off : Int} {tgt : Nat} (F : vv_F x cc nL own d) (dg : decode cc pc = .ok (.ifCond .lt off, 3)) (ht : (pc : Int) + off = (tgt : Int)) (kt : a < 0 → vv_V x nL tgt lv st ws) (kf : ¬ a < 0 → vv_V x nL (pc + 3) lv st ws) : vv_V x nL pc lv (.int a :: st) ws := by
  obtain ⟨p, l, e, R, s, m, args, below, meth, c, K, A, Q, nc, ns⟩ := x
  intro H locs ls h1 h2 h3 h4
  exact lv_if_lt F.1 F.2.1 dg ht (fun z => kt z H locs ls h1 h2 h3 h4) (fun z => kf z H locs ls h1 h2 h3 h4)
theorem vv_if_ge {a : Int32} {off : Int} {tgt : Nat} (F : vv_F x cc nL own d) (dg : decode cc pc = .ok (.ifCond .ge off, 3)) (ht : (pc : Int) + off = (tgt : Int)) (kt : 0 ≤ a → vv_V x nL tgt lv st ws) (kf : ¬ 0 ≤ a → vv_V x nL (pc + 3) lv st ws) : vv_V x nL pc lv (.int a :: st) ws := by
  obtain ⟨p, l, e, R, s, m, args, below, meth, c, K, A, Q, nc, ns⟩ := x
  intro H locs ls h1 h2 h3 h4
  exact lv_if_ge F.1 F.2.1 dg ht (fun z => kt z H locs ls h1 h2 h3 h4) (fun z => kf z H locs ls h1 h2 h3 h4)
theorem vv_if_gt {a : Int32} {off : Int} {tgt : Nat} (F : vv_F x cc nL own d) (dg : decode cc pc = .ok (.ifCond .gt off, 3)) (ht : (pc : Int) + off = (tgt : Int)) (kt : 0 < a → vv_V x nL tgt lv st ws) (kf : ¬ 0 < a → vv_V x nL (pc + 3) lv st ws) : vv_V x nL pc lv (.int a :: st) ws := by
  obtain ⟨p, l, e, R, s, m, args, below, meth, c, K, A, Q, nc, ns⟩ := x
  intro H locs ls h1 h2 h3 h4
  exact lv_if_gt F.1 F.2.1 dg ht (fun z => kt z H locs ls h1 h2 h3 h4) (fun z => kf z H locs ls h1 h2 h3 h4)
theorem vv_if_le {a : Int32} {off : Int} {tgt : Nat} (F : vv_F x cc nL own d) (dg : decode cc pc = .ok (.ifCond .le off, 3)) (ht : (pc : Int) + off = (tgt : Int)) (kt : a ≤ 0 → vv_V x nL tgt lv st ws) (kf : ¬ a ≤ 0 → vv_V x nL (pc + 3) lv st ws) : vv_V x nL pc lv (.int a :: st) ws := by
  obtain ⟨p, l, e, R, s, m, args, below, meth, c, K, A, Q, nc, ns⟩ := x
  intro H locs ls h1 h2 h3 h4
  exact lv_if_le F.1 F.2.1 dg ht (fun z => kt z H locs ls h1 h2 h3 h4) (fun z => kf z H locs ls h1 h2 h3 h4)
theorem vv_icmp_eq {a b : Int32} {off : Int} {tgt : Nat} (F : vv_F x cc nL own d) (dg : decode cc pc = .ok (.if_icmp .eq off, 3)) (ht : (pc : Int) + off = (tgt : Int)) (kt : a = b → vv_V x nL tgt lv st ws) (kf : ¬ a = b → vv_V x nL (pc + 3) lv st ws) : vv_V x nL pc lv (.int b :: .int a :: st) ws := by
  obtain ⟨p, l, e, R, s, m, args, below, meth, c, K, A, Q, nc, ns⟩ := x
  intro H locs ls h1 h2 h3 h4
  exact lv_icmp_eq F.1 F.2.1 dg ht (fun z => kt z H locs ls h1 h2 h3 h4) (fun z => kf z H locs ls h1 h2 h3 h4)
theorem vv_icmp_ne {a b : Int32} {off : Int} {tgt : Nat} (F : vv_F x cc nL own d) (dg : decode cc pc = .ok (.if_icmp .ne off, 3)) (ht : (pc : Int) + off = (tgt : Int)) (kt : ¬ a = b → vv_V x nL tgt lv st ws) (kf : a = b → vv_V x nL (pc + 3) lv st ws) : vv_V x nL pc lv (.int b :: .int a :: st) ws := by
  obtain ⟨p, l, e, R, s, m, args, below, meth, c, K, A, Q, nc, ns⟩ := x
  intro H locs ls h1 h2 h3 h4
  exact lv_icmp_ne F.1 F.2.1 dg ht (fun z => kt z H locs ls h1 h2 h3 h4) (fun z => kf z H locs ls h1 h2 h3 h4)
theorem vv_icmp_lt {a b : Int32} {off : Int} {tgt : Nat} (F : vv_F x cc nL own d) (dg : decode cc pc = .ok (.if_icmp .lt off, 3)) (ht : (pc : Int) + off = (tgt : Int)) (kt : a < b → vv_V x nL tgt lv st ws) (kf : ¬ a < b → vv_V x nL (pc + 3) lv st ws) : vv_V x nL pc lv (.int b :: .int a :: st) ws := by
  obtain ⟨p, l, e, R, s, m, args, below, meth, c, K, A, Q, nc, ns⟩ := x
  intro H locs ls h1 h2 h3 h4
  exact lv_icmp_lt F.1 F.2.1 dg ht (fun z => kt z H locs ls h1 h2 h3 h4) (fun z => kf z H locs ls h1 h2 h3 h4)
theorem vv_icmp_ge {a b : Int32} {off : Int} {tgt : Nat} (F : vv_F x cc nL own d) (dg : decode cc pc = .ok (.if_icmp .ge off, 3)) (ht : (pc : Int) + off = (tgt : Int)) (kt : b ≤ a → vv_V x nL tgt lv st ws) (kf : ¬ b ≤ a → vv_V x nL (pc + 3) lv st ws) : vv_V x nL pc lv (.int b :: .int a :: st) ws := by
  obtain ⟨p, l, e, R, s, m, args, below, meth, c, K, A, Q, nc, ns⟩ := x
  intro H locs ls h1 h2 h3 h4
  exact lv_icmp_ge F.1 F.2.1 dg ht (fun z => kt z H locs ls h1 h2 h3 h4) (fun z => kf z H locs ls h1 h2 h3 h4)
theorem vv_icmp_gt {a b : Int32} {off : Int} {tgt : Nat} (F : vv_F x cc nL own d) (dg : decode cc pc = .ok (.if_icmp .gt off, 3)) (ht : (pc : Int) + off = (tgt : Int)) (kt : b < a → vv_V x nL tgt lv st ws) (kf : ¬ b < a → vv_V x nL (pc + 3) lv st ws) : vv_V x nL pc lv (.int b :: .int a :: st) ws := by
  obtain ⟨p, l, e, R, s, m, args, below, meth, c, K, A, Q, nc, ns⟩ := x
  intro H locs ls h1 h2 h3 h4
  exact lv_icmp_gt F.1 F.2.1 dg ht (fun z => kt z H locs ls h1 h2 h3 h4) (fun z => kf z H locs ls h1 h2 h3 h4)
theorem vv_icmp_le {a b : Int32} {off : Int} {tgt : Nat} (F : vv_F x cc nL own d) (dg : decode cc pc = .ok (.if_icmp .le off, 3)) (ht : (pc : Int) + off = (tgt : Int)) (kt : a ≤ b → vv_V x nL tgt lv st ws) (kf : ¬ a ≤ b → vv_V x nL (pc + 3) lv st ws) : vv_V x nL pc lv (.int b :: .int a :: st) ws := by
  obtain ⟨p, l, e, R, s, m, args, below, meth, c, K, A, Q, nc, ns⟩ := x
  intro H locs ls h1 h2 h3 h4
  exact lv_icmp_le F.1 F.2.1 dg ht (fun z => kt z H locs ls h1 h2 h3 h4) (fun z => kf z H locs ls h1 h2 h3 h4)
theorem vv_goto {off : Int} {tgt : Nat} (F : vv_F x cc nL own d) (dg : decode cc pc = .ok (.goto off, 3)) (ht : (pc : Int) + off = (tgt : Int)) (k : vv_V x nL tgt lv st ws) : vv_V x nL pc lv st ws := by
  obtain ⟨p, l, e, R, s, m, args, below, meth, c, K, A, Q, nc, ns⟩ := x
  intro H locs ls h1 h2 h3 h4
  exact lv_goto F.1 F.2.1 dg ht (k H locs ls h1 h2 h3 h4)
theorem vv_ldc {index : Nat} {v : Int32} (F : vv_F x cc nL own d) (hc : Cond.constant own index v ∈ vv_gw) (dg : decode cc pc = .ok (.ldc index, 2)) (k : vv_V x nL (pc + 2) lv (.int v :: st) ws) : vv_V x nL pc lv st ws := by
  obtain ⟨p, l, e, R, s, m, args, below, meth, c, K, A, Q, nc, ns⟩ := x
  intro H locs ls h1 h2 h3 h4
  exact lv_ldc F.1 F.2.1 F.2.2.2.1 (F.2.2.2.2.1 _ hc) dg (k H locs ls h1 h2 h3 h4)
theorem vv_ldc2 {index : Nat} {v : Int64} (F : vv_F x cc nL own d) (hc : Cond.constantLong own index v ∈ vv_gw) (dg : decode cc pc = .ok (.ldc2_w index, 3)) (k : vv_V x nL (pc + 3) lv (.long v :: st) ws) : vv_V x nL pc lv st ws := by
  obtain ⟨p, l, e, R, s, m, args, below, meth, c, K, A, Q, nc, ns⟩ := x
  intro H locs ls h1 h2 h3 h4
  exact lv_ldc2 F.1 F.2.1 F.2.2.2.1 (F.2.2.2.2.1 _ hc) dg (k H locs ls h1 h2 h3 h4)
theorem vv_tabOut {dflt lo hi : Int} {offs : Array Int} {len : Nat} {a : Int32} {tgt : Nat} (F : vv_F x cc nL own d) (dg : decode cc pc = .ok (.tableswitch dflt lo hi offs, len)) (h : a.toInt < lo ∨ hi < a.toInt) (ht : (pc : Int) + dflt = (tgt : Int)) (k : vv_V x nL tgt lv st ws) : vv_V x nL pc lv (.int a :: st) ws := by
  obtain ⟨p, l, e, R, s, m, args, below, meth, c, K, A, Q, nc, ns⟩ := x
  intro H locs ls h1 h2 h3 h4
  exact lv_tableOut F.1 F.2.1 dg h ht (k H locs ls h1 h2 h3 h4)
theorem vv_tabIn {dflt lo hi : Int} {offs : Array Int} {len : Nat} {a : Int32} {off : Int} {tgt : Nat} (F : vv_F x cc nL own d) (dg : decode cc pc = .ok (.tableswitch dflt lo hi offs, len)) (g1 : ¬ a.toInt < lo) (g2 : ¬ hi < a.toInt) (ho : offs[(a.toInt - lo).toNat]? = some off) (ht : (pc : Int) + off = (tgt : Int)) (k : vv_V x nL tgt lv st ws) : vv_V x nL pc lv (.int a :: st) ws := by
  obtain ⟨p, l, e, R, s, m, args, below, meth, c, K, A, Q, nc, ns⟩ := x
  intro H locs ls h1 h2 h3 h4
  exact lv_tableIn F.1 F.2.1 dg g1 g2 ho ht (k H locs ls h1 h2 h3 h4)
theorem vv_lv (ks : List Nat) (hl : lv_pick lv ks = lv') (k : vv_V x nL pc lv' st ws) : vv_V x nL pc lv st ws := by
  obtain ⟨p, l, e, R, s, m, args, below, meth, c, K, A, Q, nc, ns⟩ := x
  intro H locs ls h1 h2 h3 h4
  exact k H locs ls h1 h2 h3 (lv_sub h4 ks hl)
/-- entry 'index' of class own is the field k of the class at ci, of type ty; wr: it may be written by any method -/
def vv_fl (own : String) (index ci k : Nat) (ty : FieldType) (wr : Bool) : Prop := ∃ (C : String) (T : u_T) (N : Nat) (ty0 : Nat → FieldType), vv_CL[ci]? = some (C, T, N) ∧ k < N ∧ (∀ w ∈ u_ws C T N, w ∈ vv_gw) ∧ (∀ k, k < N → parseFieldDescriptor (T k).2.2.1 = some (ty0 k)) ∧ (∀ a, a < N → ∀ b, b < N → a ≠ b → (T a).2.1 ≠ (T b).2.1) ∧ parseFieldDescriptor (T k).2.2.1 = some ty ∧ (T k).2.2.2 = !wr ∧ (Cond.fieldLink own index (T k).1 (T k).2.1 (T k).2.2.1 ∈ vv_gw ∨ ∃ host, Cond.fieldLinkNest own index (T k).1 (T k).2.1 (T k).2.2.1 host ∈ vv_nest)
theorem vv_get {index ci k0 a : Nat} {ty : FieldType} {wr : Bool} {fs : List Value} {v : Value} (q0 : Nat) (F : vv_F x cc nL own d) (fl : vv_fl own index ci k0 ty wr) (dg : decode cc pc = .ok (.getfield index, 3)) (he : ws[q0]? = some (a, .inr (ci, fs))) (hv : fs[k0]? = some v) (k : vv_V x nL (pc + 3) lv (v :: st) ws) : vv_V x nL pc lv (.ref a :: st) ws := by
  obtain ⟨p, l, e, R, s, m, args, below, meth, c, K, A, Q, nc, ns⟩ := x
  intro H locs ls h1 h2 h3 h4
  obtain ⟨C, T, N, ty0, hc, hk, hin, hty, hnm, hd, hfin, hl | ⟨host, hl⟩⟩ := fl
  · exact va_get (D := K.1) (ci := ci) (v := v) (C := C) (T := T) (N := N) F.1 F.2.1 F.2.2.2.2.1 hin F.2.2.2.1 F.2.2.2.2.2.1.1 h1 q0 he hc k0 hk (F.2.2.2.2.1 _ hl) (fun _ h9 => h9) hv dg (k H locs ls h1 h2 h3 h4)
  · exact va_getN (D := K.1) (ci := ci) (v := v) (C := C) (T := T) (N := N) F.1 F.2.1 F.2.2.2.2.1 hin F.2.2.2.1 F.2.2.2.2.2.1.1 h1 q0 he hc k0 hk (va_Nw.use rfl (F.2.2.2.2.2.1.2.1 _ hl)) (fun _ h9 => h9) hv dg (k H locs ls h1 h2 h3 h4)
theorem vv_put {index ci k0 a : Nat} {ty : FieldType} {fs : List Value} {v : Value} (q0 : Nat) (F : vv_F x cc nL own d) (fl : vv_fl own index ci k0 ty true) (dg : decode cc pc = .ok (.putfield index, 3)) (he : ws[q0]? = some (a, .inr (ci, fs))) (hn : narrow ty v = v) (hfit : fits ty v = true) (hl0 : k0 < fs.length) (hw : ws.set q0 (a, .inr (ci, fs.set k0 v)) = ws') (k : vv_V x nL (pc + 3) lv st ws') : vv_V x nL pc lv (v :: .ref a :: st) ws := by
  obtain ⟨p, l, e, R, s, m, args, below, meth, c, K, A, Q, nc, ns⟩ := x
  intro H locs ls h1 h2 h3 h4
  obtain ⟨C, T, N, ty0, hc, hk, hin, hty, hnm, hd, hfin, hl | ⟨host, hl⟩⟩ := fl
  · exact va_put (D := K.1) (ci := ci) (v := v) (ty := ty) (C := C) (T := T) (N := N) F.1 F.2.1 F.2.2.2.2.1 hin ty0 hty hnm F.2.2.2.1 F.2.2.2.2.2.1.1 h1 h2 h3 q0 he hc k0 hk (F.2.2.2.2.1 _ hl) (fun _ h9 => h9) hfin hd hn hfit hl0 dg (fun H locs h1 h2 h3 => k H locs ls (hw ▸ h1) (hw ▸ h2) h3 h4)
  · exact va_putN (D := K.1) (ci := ci) (v := v) (ty := ty) (C := C) (T := T) (N := N) F.1 F.2.1 F.2.2.2.2.1 hin ty0 hty hnm F.2.2.2.1 F.2.2.2.2.2.1.1 h1 h2 h3 q0 he hc k0 hk (va_Nw.use rfl (F.2.2.2.2.2.1.2.1 _ hl)) (fun _ h9 => h9) hfin hd hn hfit hl0 dg (fun H locs h1 h2 h3 => k H locs ls (hw ▸ h1) (hw ▸ h2) h3 h4)
theorem vv_iald {n a : Nat} {f : Nat → Int32} {i : Int32} {j : Nat} (q0 : Nat) (F : vv_F x cc nL own d) (dg : decode cc pc = .ok (.iaload, 1)) (ha : ws[q0]? = some (a, .inl ((vv_k x).2.1.1, n, .inl f))) (hi : vp_in i n ∧ i.toNatClampNeg = j) (k : vv_V x nL (pc + 1) lv (.int (f j) :: st) ws) : vv_V x nL pc lv (.int i :: .ref a :: st) ws := by
  obtain ⟨p, l, e, R, s, m, args, below, meth, c, K, A, Q, nc, ns⟩ := x
  intro H locs ls h1 h2 h3 h4
  obtain ⟨hi, rfl⟩ := hi
  exact va_iald F.1 F.2.1 F.2.2.2.2.2.1.1 h1 q0 0 ha rfl hi dg (k H locs ls h1 h2 h3 h4)
theorem vv_bald {n a : Nat} {f : Nat → Int32} {i : Int32} {j : Nat} (q0 : Nat) (F : vv_F x cc nL own d) (dg : decode cc pc = .ok (.baload, 1)) (ha : ws[q0]? = some (a, .inl ((vv_k x).2.1.2.1, n, .inl f))) (hi : vp_in i n ∧ i.toNatClampNeg = j) (k : vv_V x nL (pc + 1) lv (.int (f j) :: st) ws) : vv_V x nL pc lv (.int i :: .ref a :: st) ws := by
  obtain ⟨p, l, e, R, s, m, args, below, meth, c, K, A, Q, nc, ns⟩ := x
  intro H locs ls h1 h2 h3 h4
  obtain ⟨hi, rfl⟩ := hi
  exact va_bald F.1 F.2.1 F.2.2.2.2.2.1.1 h1 q0 1 ha rfl hi dg (k H locs ls h1 h2 h3 h4)
theorem vv_zald {n a : Nat} {f : Nat → Int32} {i : Int32} {j : Nat} (q0 : Nat) (F : vv_F x cc nL own d) (dg : decode cc pc = .ok (.baload, 1)) (ha : ws[q0]? = some (a, .inl ((vv_k x).2.1.2.2, n, .inl f))) (hi : vp_in i n ∧ i.toNatClampNeg = j) (k : vv_V x nL (pc + 1) lv (.int (f j) :: st) ws) : vv_V x nL pc lv (.int i :: .ref a :: st) ws := by
  obtain ⟨p, l, e, R, s, m, args, below, meth, c, K, A, Q, nc, ns⟩ := x
  intro H locs ls h1 h2 h3 h4
  obtain ⟨hi, rfl⟩ := hi
  exact va_zald F.1 F.2.1 F.2.2.2.2.2.1.1 h1 q0 2 ha rfl hi dg (k H locs ls h1 h2 h3 h4)
theorem vv_iast {n a : Nat} {f : Nat → Int32} {i v : Int32} {j : Nat} (q0 : Nat) (F : vv_F x cc nL own d) (dg : decode cc pc = .ok (.iastore, 1)) (ha : ws[q0]? = some (a, .inl ((vv_k x).2.1.1, n, .inl f))) (hi : vp_in i n ∧ i.toNatClampNeg = j) (hw : ws.set q0 (a, .inl ((vv_k x).2.1.1, n, .inl (upd f j v))) = ws') (k : vv_V x nL (pc + 1) lv st ws') : vv_V x nL pc lv (.int v :: .int i :: .ref a :: st) ws := by
  obtain ⟨p, l, e, R, s, m, args, below, meth, c, K, A, Q, nc, ns⟩ := x
  intro H locs ls h1 h2 h3 h4
  obtain ⟨hi, rfl⟩ := hi
  exact va_iast F.1 F.2.1 F.2.2.2.2.2.1.1 h1 h2 h3 q0 0 ha rfl hi dg (fun H locs h1 h2 h3 => k H locs ls (hw ▸ h1) (hw ▸ h2) h3 h4)
theorem vv_bast {n a : Nat} {f : Nat → Int32} {i v : Int32} {j : Nat} (q0 : Nat) (F : vv_F x cc nL own d) (dg : decode cc pc = .ok (.bastore, 1)) (ha : ws[q0]? = some (a, .inl ((vv_k x).2.1.2.1, n, .inl f))) (hi : vp_in i n ∧ i.toNatClampNeg = j) (hw : ws.set q0 (a, .inl ((vv_k x).2.1.2.1, n, .inl (upd f j (vp_nar .byte v)))) = ws') (k : vv_V x nL (pc + 1) lv st ws') : vv_V x nL pc lv (.int v :: .int i :: .ref a :: st) ws := by
  obtain ⟨p, l, e, R, s, m, args, below, meth, c, K, A, Q, nc, ns⟩ := x
  intro H locs ls h1 h2 h3 h4
  obtain ⟨hi, rfl⟩ := hi
  exact va_bast F.1 F.2.1 F.2.2.2.2.2.1.1 h1 h2 h3 q0 1 ha rfl hi dg (fun H locs h1 h2 h3 => k H locs ls (hw ▸ h1) (hw ▸ h2) h3 h4)
theorem vv_zast {n a : Nat} {f : Nat → Int32} {i v : Int32} {j : Nat} (q0 : Nat) (F : vv_F x cc nL own d) (dg : decode cc pc = .ok (.bastore, 1)) (ha : ws[q0]? = some (a, .inl ((vv_k x).2.1.2.2, n, .inl f))) (hi : vp_in i n ∧ i.toNatClampNeg = j) (hw : ws.set q0 (a, .inl ((vv_k x).2.1.2.2, n, .inl (upd f j (vp_nar .boolean v)))) = ws') (k : vv_V x nL (pc + 1) lv st ws') : vv_V x nL pc lv (.int v :: .int i :: .ref a :: st) ws := by
  obtain ⟨p, l, e, R, s, m, args, below, meth, c, K, A, Q, nc, ns⟩ := x
  intro H locs ls h1 h2 h3 h4
  obtain ⟨hi, rfl⟩ := hi
  exact va_zast F.1 F.2.1 F.2.2.2.2.2.1.1 h1 h2 h3 q0 2 ha rfl hi dg (fun H locs h1 h2 h3 => k H locs ls (hw ▸ h1) (hw ▸ h2) h3 h4)
end VVR
