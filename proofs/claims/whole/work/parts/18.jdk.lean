/-! the JDK's own members over the six String constants -/
section VVK
variable {x : vv_X} {cc : ByteArray} {nL pc d : Nat} {own : String} {lv lv' : List (Nat × Value)} {st rest : List Value} {ws : va_W} {r : Option Value}
theorem vv_i2c {a : Int32} (F : vv_F x cc nL own d) (dg : decode cc pc = .ok (.i2c, 1)) (k : vv_V x nL (pc + 1) lv (.int (a.toUInt32 % 65536).toInt32 :: st) ws) : vv_V x nL pc lv (.int a :: st) ws := by
  obtain ⟨p, l, e, R, s, m, args, below, meth, c, K, A, Q, nc, ns⟩ := x
  intro H locs ls h1 h2 h3 h4
  exact lv_i2c F.1 F.2.1 dg rfl (k H locs ls h1 h2 h3 h4)
theorem vv_getKv {i index : Nat} (hi : i < 6) (F : vv_F x cc nL own d) (fl : Cond.fieldLink own index "java/lang/String" "value" "[B" ∈ vv_gw) (dg : decode cc pc = .ok (.getfield index, 3)) (k : vv_V x nL (pc + 3) lv (.ref ((vv_k x).2.2.2 i) :: st) ws) : vv_V x nL pc lv (.ref ((vv_k x).2.2.1 i) :: st) ws := by
  obtain ⟨p, l, e, R, s, m, args, below, meth, c, K, A, Q, nc, ns⟩ := x
  intro H locs ls h1 h2 h3 h4
  obtain ⟨hx, hb, hml, hown, hts, hAb, hA, hlk, hfr, hlo, hnc, hns⟩ := F
  exact vk_getf hx hb (hAb.2.2.1.1 i hi).2.2.1 h3 hown (hts _ fl) (fun _ h => h) dg (k H locs ls h1 h2 h3 h4)
theorem vv_getKc {i index : Nat} (hi : i < 6) (F : vv_F x cc nL own d) (fl : Cond.fieldLink own index "java/lang/String" "coder" "B" ∈ vv_gw) (dg : decode cc pc = .ok (.getfield index, 3)) (k : vv_V x nL (pc + 3) lv (.int 0 :: st) ws) : vv_V x nL pc lv (.ref ((vv_k x).2.2.1 i) :: st) ws := by
  obtain ⟨p, l, e, R, s, m, args, below, meth, c, K, A, Q, nc, ns⟩ := x
  intro H locs ls h1 h2 h3 h4
  obtain ⟨hx, hb, hml, hown, hts, hAb, hA, hlk, hfr, hlo, hnc, hns⟩ := F
  exact vk_getf hx hb (hAb.2.2.1.1 i hi).2.1 h3 hown (hts _ fl) (fun _ h => h) dg (k H locs ls h1 h2 h3 h4)
theorem vv_alenK {i : Nat} (hi : i < 6) (F : vv_F x cc nL own d) (dg : decode cc pc = .ok (.arraylength, 1)) (k : vv_V x nL (pc + 1) lv (.int (nI (vv_sl.getD i 0)) :: st) ws) : vv_V x nL pc lv (.ref ((vv_k x).2.2.2 i) :: st) ws := by
  obtain ⟨p, l, e, R, s, m, args, below, meth, c, K, A, Q, nc, ns⟩ := x
  intro H locs ls h1 h2 h3 h4
  obtain ⟨hx, hb, hml, hown, hts, hAb, hA, hlk, hfr, hlo, hnc, hns⟩ := F
  exact va_tlen hx hb (hAb.2.2.1.1 i hi).2.2.2 h3 rfl dg (k H locs ls h1 h2 h3 h4)
theorem vv_baldK {i j : Nat} {ix : Int32} (hi : i < 6) (F : vv_F x cc nL own d) (dg : decode cc pc = .ok (.baload, 1)) (hj : vp_in ix (vv_sl.getD i 0) ∧ ix.toNatClampNeg = j) (k : vv_V x nL (pc + 1) lv (.int ((vv_sb.getD i []).getD j 0) :: st) ws) : vv_V x nL pc lv (.int ix :: .ref ((vv_k x).2.2.2 i) :: st) ws := by
  obtain ⟨p, l, e, R, s, m, args, below, meth, c, K, A, Q, nc, ns⟩ := x
  intro H locs ls h1 h2 h3 h4
  obtain ⟨hx, hb, hml, hown, hts, hAb, hA, hlk, hfr, hlo, hnc, hns⟩ := F
  obtain ⟨hj, rfl⟩ := hj
  exact va_tb hx hb (hAb.2.2.1.1 i hi).2.2.2 h3 hj rfl dg (k H locs ls h1 h2 h3 h4)
theorem vv_getsC {index : Nat} (F : vv_F x cc nL own d) (fl : Cond.fieldLink own index "java/lang/String" "COMPACT_STRINGS" "Z" ∈ vv_gw) (dg : decode cc pc = .ok (.getstatic index, 3)) (k : vv_V x nL (pc + 3) lv (.int 1 :: st) ws) : vv_V x nL pc lv st ws := by
  obtain ⟨p, l, e, R, s, m, args, below, meth, c, K, A, Q, nc, ns⟩ := x
  intro H locs ls h1 h2 h3 h4
  obtain ⟨hx, hb, hml, hown, hts, hAb, hA, hlk, hfr, hlo, hnc, hns⟩ := F
  exact va_gets hx hb hAb.2.2.2.2.1 h3 hown (hts _ fl) (fun _ h => h) dg (k H locs ls h1 h2 h3 h4)
theorem vv_getsQ {index : Nat} (F : vv_F x cc nL own d) (fl : Cond.fieldLink own index "jdk/internal/util/Preconditions" "SIOOBE_FORMATTER" "Ljava/util/function/BiFunction;" ∈ vv_gw) (dg : decode cc pc = .ok (.getstatic index, 3)) (k0 : vv_V x nL (pc + 3) lv (.null :: st) ws) (k1 : ∀ t : Nat, vv_V x nL (pc + 3) lv (.ref t :: st) ws) : vv_V x nL pc lv st ws := by
  obtain ⟨p, l, e, R, s, m, args, below, meth, c, K, A, Q, nc, ns⟩ := x
  intro H locs ls h1 h2 h3 h4
  obtain ⟨hx, hb, hml, hown, hts, hAb, hA, hlk, hfr, hlo, hnc, hns⟩ := F
  rcases hAb.2.2.2.2.2 with hz | ⟨t, hz⟩
  · exact va_gets hx hb hz h3 hown (hts _ fl) (fun _ h => h) dg (k0 H locs ls h1 h2 h3 h4)
  · exact va_gets hx hb hz h3 hown (hts _ fl) (fun _ h => h) dg (k1 t H locs ls h1 h2 h3 h4)
theorem vv_ldcS {i index : Nat} {tx : String} (F : vv_F x cc nL RX5 d) (hs : vv_sk[i]? = some (index, tx)) (dg : decode cc pc = .ok (.ldc index, 2)) (k : vv_V x nL (pc + 2) lv (.ref ((vv_k x).2.2.1 i) :: st) ws) : vv_V x nL pc lv st ws := by
  obtain ⟨p, l, e, R, s, m, args, below, meth, c, K, A, Q, nc, ns⟩ := x
  intro H locs ls h1 h2 h3 h4
  obtain ⟨hx, hb, hml, hown, hts, hAb, hA, hlk, hfr, hlo, hnc, hns⟩ := F
  exact va_ldcS hx hb hown (hAb.2.2.2.1 i _ hs) dg (k H locs ls h1 h2 h3 h4)
def vv_mk (own : String) (index : Nat) (y : MethodName) (cc : ByteArray) (nL : Nat) (ret : Option FieldType) (n : Nat) : Prop := y.cls = "java/lang/String" ∧ Cond.methodLink own index y ∈ vv_gw ∧ Cond.instanceMethod y ∈ vv_gw ∧ Cond.selects y.cls y y ∈ vv_gw ∧ Cond.initialized y.cls ∈ vv_gw ∧ Cond.code y cc nL ret ∈ vv_gw ∧ (y.cls ≠ "java/lang/invoke/MethodHandle" ∧ y.cls ≠ "java/lang/invoke/VarHandle" ∧ (parseMethodDescriptor y.desc).map (fun d => d.parameters.length) = some n) ∧ nL ≤ 40
theorem vv_callVK {i index nL' dc n : Nat} {y : MethodName} {cc' : ByteArray} {ret : Option FieldType} {As : List Value} (hi : i < 6) (F : vv_F x cc nL own d) (hC : vv_C (vv_l x) (vv_k x) dc y cc' nL' ret (.ref ((vv_k x).2.2.1 i) :: As) [] r []) (mk : vv_mk own index y cc' nL' ret n) (dg : decode cc pc = .ok (.invokevirtual index, 3)) (hdc : dc + 1 ≤ d) (hn : As.length = n) (hst : st = As.reverse ++ .ref ((vv_k x).2.2.1 i) :: rest) (hrs : (rest.map fun v => v.category).sum ≤ 8) (k : vv_V x nL (pc + 3) lv (r.toList ++ rest) ws) : vv_V x nL pc lv st ws := by
  obtain ⟨p, l, e, R, s, m, args, below, meth, c, K, A, Q, nc, ns⟩ := x
  intro H locs ls h1 h2 h3 h4
  obtain ⟨hy, hl, hi', hse, hini, hco, hd, h40⟩ := mk
  obtain ⟨hx, hb, hml, hown, hts, hAb, hA, hlk, hfr, hlo, hnc, hns⟩ := F
  have hG := vv_goodC hco
  have his : ([] : List Nat).map (fun i => ws[i]?) = ([] : va_W).map some := rfl
  have hFc := va_free h2 h3 hA [] his
  have hP9 : va_P K.1 vv_CL [] H := fun k q h => by simp at h
  have hD9 : va_D (fun _ => True) [] := ⟨fun i j p q h => by simp at h, fun k q h => by simp at h⟩
  have pre : ∀ U : State, U.heap = H → s.WarmedH U.vm → (va_Pc (.ref (K.2.2.1 i) :: As) (fun U => U.heap.size = H.size ∧ va_P K.1 vv_CL [] U.heap ∧ vv_A K (va_A [] H.size) U U.heap ∧ va_D (fun _ => True) [])) (Value.ref (K.2.2.1 i) :: As).toArray U := fun U hU hW => ⟨rfl, by rw [hU], by rw [hU]; exact hP9, vv_A.go (A := A) (by rw [hU]; exact h3.2.1) hW hFc hAb, hD9⟩
  have hRm : (vv_rm dc).frames + 1 ≤ R.frames ∧ 8 + (nL' + 11) + (vv_rm dc).locals ≤ R.locals := ⟨by show dc + 1 ≤ R.frames; omega, by show 8 + (nL' + 11) + 60 * dc ≤ R.locals; omega⟩
  subst hst
  have hrec := vk_recv (i := i) hAb.2.2.1 hi h3
  rw [← hy] at hrec
  exact vv_back (is := []) (va_runV (As := As) (rest := rest) (g := F0 m pc ls (As.reverse ++ .ref (K.2.2.1 i) :: rest)) (C := y.cls) (b := K.2.2.1 i) ⟨hx, hb, hml, hown, hts⟩ (hC H.size) ⟨callB_of n hts hG rfl rfl rfl (hts _ hini) (hts _ hl) hd hRm, hts _ hi', hts _ hse⟩ ⟨vv_blind, hrec, pre⟩ rfl hn h4.1 rfl (lv_room hrs) dg ⟨hnc, hns⟩) h1 h2 h3 hFc his rfl (fun H1 locs1 g1 g2 g3 => k H1 locs1 ls g1 g2 g3 h4)
end VVK
theorem sl_ok : ∀ i, i < 6 → vv_sl.getD i 0 < 10 := by decide
theorem mk_X5_117 : vv_mk RX5 117 yJ0_length_8abf5 cJ0_length_8abf5 1 (some .int) 0 := ⟨rfl, vv_t2 (List.mem_of_getElem? (i := 89) rfl) rfl, vv_t2 (List.mem_of_getElem? (i := 90) rfl) rfl, vv_t2 (List.mem_of_getElem? (i := 91) rfl) rfl, vv_t1 (List.mem_of_getElem? (i := 11) rfl) rfl, vv_t2 (List.mem_of_getElem? (i := 92) rfl) rfl, ⟨by decide, by decide, by decide +kernel⟩, by decide⟩
theorem mk_X5_122 : vv_mk RX5 122 yJ0_charAt_5068e cJ0_charAt_5068e 2 (some .char) 1 := ⟨rfl, vv_t2 (List.mem_of_getElem? (i := 99) rfl) rfl, vv_t2 (List.mem_of_getElem? (i := 100) rfl) rfl, vv_t2 (List.mem_of_getElem? (i := 101) rfl) rfl, vv_t1 (List.mem_of_getElem? (i := 11) rfl) rfl, vv_t2 (List.mem_of_getElem? (i := 102) rfl) rfl, ⟨by decide, by decide, by decide +kernel⟩, by decide⟩
theorem mk_J0_335 : vv_mk RJ0 335 yJ0_coder_7d493 cJ0_coder_7d493 1 (some .byte) 0 := ⟨rfl, vv_t2 (List.mem_of_getElem? (i := 93) rfl) rfl, vv_t2 (List.mem_of_getElem? (i := 94) rfl) rfl, vv_t2 (List.mem_of_getElem? (i := 95) rfl) rfl, vv_t1 (List.mem_of_getElem? (i := 11) rfl) rfl, vv_t2 (List.mem_of_getElem? (i := 96) rfl) rfl, ⟨by decide, by decide, by decide +kernel⟩, by decide⟩
theorem mk_J0_492 : vv_mk RJ0 492 yJ0_isLatin1_aae02 cJ0_isLatin1_aae02 1 (some .boolean) 0 := ⟨rfl, vv_t2 (List.mem_of_getElem? (i := 103) rfl) rfl, vv_t2 (List.mem_of_getElem? (i := 104) rfl) rfl, vv_t2 (List.mem_of_getElem? (i := 105) rfl) rfl, vv_t1 (List.mem_of_getElem? (i := 11) rfl) rfl, vv_t2 (List.mem_of_getElem? (i := 106) rfl) rfl, ⟨by decide, by decide, by decide +kernel⟩, by decide⟩
theorem ms_J0_495 : vv_ms RJ0 495 yJ1_charAt_3b067 cJ1_charAt_3b067 2 (some .char) 2 := ⟨Or.inl (vv_t2 (List.mem_of_getElem? (i := 107) rfl) rfl), vv_t2 (List.mem_of_getElem? (i := 108) rfl) rfl, vv_t1 (List.mem_of_getElem? (i := 12) rfl) rfl, vv_t2 (List.mem_of_getElem? (i := 109) rfl) rfl, ⟨by decide, by decide, by decide +kernel⟩, by decide⟩
theorem ms_J1_9 : vv_ms RJ1 9 yJ0_checkIndex_df160 cJ0_checkIndex_df160 2 none 2 := ⟨Or.inl (vv_t2 (List.mem_of_getElem? (i := 110) rfl) rfl), vv_t2 (List.mem_of_getElem? (i := 111) rfl) rfl, vv_t1 (List.mem_of_getElem? (i := 11) rfl) rfl, vv_t2 (List.mem_of_getElem? (i := 112) rfl) rfl, ⟨by decide, by decide, by decide +kernel⟩, by decide⟩
theorem ms_J0_1059 : vv_ms RJ0 1059 yJ3_checkIndex_8e157 cJ3_checkIndex_8e157 3 (some .int) 3 := ⟨Or.inl (vv_t2 (List.mem_of_getElem? (i := 115) rfl) rfl), vv_t2 (List.mem_of_getElem? (i := 116) rfl) rfl, vv_t1 (List.mem_of_getElem? (i := 13) rfl) rfl, vv_t2 (List.mem_of_getElem? (i := 117) rfl) rfl, ⟨by decide, by decide, by decide +kernel⟩, by decide⟩
theorem fj_9 : Cond.fieldLink RJ0 9 "java/lang/String" "value" "[B" ∈ vv_gw := vv_t5 (List.mem_of_getElem? (i := 215) rfl) rfl
theorem fj_15 : Cond.fieldLink RJ0 15 "java/lang/String" "coder" "B" ∈ vv_gw := vv_t5 (List.mem_of_getElem? (i := 216) rfl) rfl
theorem fj_38 : Cond.fieldLink RJ0 38 "java/lang/String" "COMPACT_STRINGS" "Z" ∈ vv_gw := vv_t2 (List.mem_of_getElem? (i := 97) rfl) rfl
theorem fj_1053 : Cond.fieldLink RJ0 1053 "jdk/internal/util/Preconditions" "SIOOBE_FORMATTER" "Ljava/util/function/BiFunction;" ∈ vv_gw := vv_t2 (List.mem_of_getElem? (i := 113) rfl) rfl
theorem c_Jcoder (l : Launch) (K : vv_K) (i : Nat) (hi : i < 6) : vv_C l K 1 yJ0_coder_7d493 cJ0_coder_7d493 1 (some .byte) [.ref (K.2.2.1 i)] [] (some (.int 0)) [] := by
  refine vv_C.of (lv := [(0, .ref (K.2.2.1 i))]) (by decide +kernel) (Nat.le_of_ble_eq_true rfl) rfl ?_
  intro x hl hK F hR; subst hl; obtain rfl := hK
  refine vv_getsC F fj_38 dJ0_coder_7d493_0 ?_
  refine vv_if_eq (tgt := 13) F dJ0_coder_7d493_3 (by decide) (fun h => absurd h (by decide)) (fun _ => ?_)
  refine vv_aload_n F dJ0_coder_7d493_6 rfl rfl ?_
  refine vv_getKc hi F fj_15 dJ0_coder_7d493_7 ?_
  refine vv_goto (tgt := 14) F dJ0_coder_7d493_10 (by decide) ?_
  exact vv_zret F hR dJ0_coder_7d493_14 rfl rfl rfl
theorem c_JisLatin1 (l : Launch) (K : vv_K) (i : Nat) (hi : i < 6) : vv_C l K 1 yJ0_isLatin1_aae02 cJ0_isLatin1_aae02 1 (some .boolean) [.ref (K.2.2.1 i)] [] (some (.int 1)) [] := by
  refine vv_C.of (lv := [(0, .ref (K.2.2.1 i))]) (by decide +kernel) (Nat.le_of_ble_eq_true rfl) rfl ?_
  intro x hl hK F hR; subst hl; obtain rfl := hK
  refine vv_getsC F fj_38 dJ0_isLatin1_aae02_0 ?_
  refine vv_if_eq (tgt := 17) F dJ0_isLatin1_aae02_3 (by decide) (fun h => absurd h (by decide)) (fun _ => ?_)
  refine vv_aload_n F dJ0_isLatin1_aae02_6 rfl rfl ?_
  refine vv_getKc hi F fj_15 dJ0_isLatin1_aae02_7 ?_
  refine vv_if_ne (tgt := 17) F dJ0_isLatin1_aae02_10 (by decide) (fun h => absurd rfl h) (fun _ => ?_)
  refine vv_iconst (v := 1) F dJ0_isLatin1_aae02_13 (by decide) ?_
  refine vv_goto (tgt := 18) F dJ0_isLatin1_aae02_14 (by decide) ?_
  exact vv_zret F hR dJ0_isLatin1_aae02_18 rfl rfl rfl
theorem c_Jlength (l : Launch) (K : vv_K) (i : Nat) (hi : i < 6) : vv_C l K 2 yJ0_length_8abf5 cJ0_length_8abf5 1 (some .int) [.ref (K.2.2.1 i)] [] (some (.int (nI (vv_sl.getD i 0)))) [] := by
  refine vv_C.of (lv := [(0, .ref (K.2.2.1 i))]) (by decide +kernel) (Nat.le_of_ble_eq_true rfl) rfl ?_
  intro x hl hK F hR; subst hl; obtain rfl := hK
  refine vv_aload_n F dJ0_length_8abf5_0 rfl rfl ?_
  refine vv_getKv hi F fj_9 dJ0_length_8abf5_1 ?_
  refine vv_alenK hi F dJ0_length_8abf5_4 ?_
  refine vv_aload_n F dJ0_length_8abf5_5 rfl rfl ?_
  refine vv_callVK (As := []) (rest := [.int (nI (vv_sl.getD i 0))]) hi F (c_Jcoder (vv_l x) (vv_k x) i hi) mk_J0_335 dJ0_length_8abf5_6 (by decide) rfl rfl (Nat.le_of_ble_eq_true rfl) ?_
  refine vv_ishr F dJ0_length_8abf5_9 ?_
  exact vv_iret F hR dJ0_length_8abf5_10 (by rw [sb_shr0]) rfl
theorem c_Jpre0 (l : Launch) (K : vv_K) (a b : Int32) (h0 : ¬ a < 0) (h1 : a < b) : vv_C l K 1 yJ3_checkIndex_8e157 cJ3_checkIndex_8e157 3 (some .int) [.int a, .int b, .null] [] (some (.int a)) [] := by
  refine vv_C.of (lv := [(0, .int a), (1, .int b), (2, .null)]) (by decide +kernel) (Nat.le_of_ble_eq_true rfl) rfl ?_
  intro x hl hK F hR; subst hl; obtain rfl := hK
  refine vv_iload_n F dJ3_checkIndex_8e157_0 rfl rfl ?_
  refine vv_if_lt (tgt := 9) F dJ3_checkIndex_8e157_1 (by decide) (fun h => absurd h h0) (fun _ => ?_)
  refine vv_iload_n F dJ3_checkIndex_8e157_4 rfl rfl ?_
  refine vv_iload_n F dJ3_checkIndex_8e157_5 rfl rfl ?_
  refine vv_icmp_lt (tgt := 16) F dJ3_checkIndex_8e157_6 (by decide) (fun _ => ?_) (fun h => absurd h1 h)
  refine vv_iload_n F dJ3_checkIndex_8e157_16 rfl rfl ?_
  exact vv_iret F hR dJ3_checkIndex_8e157_17 rfl rfl
theorem c_Jpre1 (l : Launch) (K : vv_K) (a b : Int32) (t : Nat) (h0 : ¬ a < 0) (h1 : a < b) : vv_C l K 1 yJ3_checkIndex_8e157 cJ3_checkIndex_8e157 3 (some .int) [.int a, .int b, .ref t] [] (some (.int a)) [] := by
  refine vv_C.of (lv := [(0, .int a), (1, .int b), (2, .ref t)]) (by decide +kernel) (Nat.le_of_ble_eq_true rfl) rfl ?_
  intro x hl hK F hR; subst hl; obtain rfl := hK
  refine vv_iload_n F dJ3_checkIndex_8e157_0 rfl rfl ?_
  refine vv_if_lt (tgt := 9) F dJ3_checkIndex_8e157_1 (by decide) (fun h => absurd h h0) (fun _ => ?_)
  refine vv_iload_n F dJ3_checkIndex_8e157_4 rfl rfl ?_
  refine vv_iload_n F dJ3_checkIndex_8e157_5 rfl rfl ?_
  refine vv_icmp_lt (tgt := 16) F dJ3_checkIndex_8e157_6 (by decide) (fun _ => ?_) (fun h => absurd h1 h)
  refine vv_iload_n F dJ3_checkIndex_8e157_16 rfl rfl ?_
  exact vv_iret F hR dJ3_checkIndex_8e157_17 rfl rfl
theorem c_JcheckIndex (l : Launch) (K : vv_K) (a b : Int32) (h0 : ¬ a < 0) (h1 : a < b) : vv_C l K 2 yJ0_checkIndex_df160 cJ0_checkIndex_df160 2 none [.int a, .int b] [] none [] := by
  refine vv_C.of (lv := [(0, .int a), (1, .int b)]) (by decide +kernel) (Nat.le_of_ble_eq_true rfl) rfl ?_
  intro x hl hK F hR; subst hl; obtain rfl := hK
  refine vv_iload_n F dJ0_checkIndex_df160_0 rfl rfl ?_
  refine vv_iload_n F dJ0_checkIndex_df160_1 rfl rfl ?_
  refine vv_getsQ F fj_1053 dJ0_checkIndex_df160_2 ?_ (fun t => ?_)
  · refine vv_callSp (As := [.int a, .int b, .null]) (rest := []) [] F (c_Jpre0 (vv_l x) (vv_k x) a b h0 h1) ms_J0_1059 dJ0_checkIndex_df160_5 (by decide) rfl rfl (Nat.le_of_ble_eq_true rfl) rfl (by decide) ?_
    refine vv_pop F dJ0_checkIndex_df160_8 rfl ?_
    exact vv_vret F hR dJ0_checkIndex_df160_9 rfl rfl
  · refine vv_callSp (As := [.int a, .int b, .ref t]) (rest := []) [] F (c_Jpre1 (vv_l x) (vv_k x) a b t h0 h1) ms_J0_1059 dJ0_checkIndex_df160_5 (by decide) rfl rfl (Nat.le_of_ble_eq_true rfl) rfl (by decide) ?_
    refine vv_pop F dJ0_checkIndex_df160_8 rfl ?_
    exact vv_vret F hR dJ0_checkIndex_df160_9 rfl rfl
def chr (i j : Nat) : Int32 := (vv_sb.getD i []).getD j 0 &&& 255
theorem c_JlatinAt (l : Launch) (K : vv_K) (i j : Nat) (a : Int32) (hi : i < 6) (ha : a.toInt = (j : Int)) (hj : j < vv_sl.getD i 0) : vv_C l K 3 yJ1_charAt_3b067 cJ1_charAt_3b067 2 (some .char) [.ref (K.2.2.2 i), .int a] [] (some (.int (chr i j))) [] := by
  have hs := sl_ok i hi
  refine vv_C.of (lv := [(0, .ref (K.2.2.2 i)), (1, .int a)]) (by decide +kernel) (Nat.le_of_ble_eq_true rfl) rfl ?_
  intro x hl hK F hR; subst hl; obtain rfl := hK
  refine vv_iload_n F dJ1_charAt_3b067_0 rfl rfl ?_
  refine vv_aload_n F dJ1_charAt_3b067_1 rfl rfl ?_
  refine vv_alenK hi F dJ1_charAt_3b067_2 ?_
  refine vv_callSp (As := [.int a, .int (nI (vv_sl.getD i 0))]) (rest := []) [] F (c_JcheckIndex (vv_l x) (vv_k x) a (nI (vv_sl.getD i 0)) (mt (c_lt ha (by decide : (0 : Int32).toInt = ((0 : Nat) : Int))).mp (by omega)) ((c_lt ha (nI_toInt (by omega))).mpr hj)) ms_J1_9 dJ1_charAt_3b067_3 (by decide) rfl rfl (Nat.le_of_ble_eq_true rfl) rfl (by decide) ?_
  refine vv_aload_n F dJ1_charAt_3b067_6 rfl rfl ?_
  refine vv_iload_n F dJ1_charAt_3b067_7 rfl rfl ?_
  refine vv_baldK hi F dJ1_charAt_3b067_8 (vv_ixP ha hj) ?_
  refine vv_sipush (v := 255) F dJ1_charAt_3b067_9 (by decide) ?_
  refine vv_iand F dJ1_charAt_3b067_12 ?_
  refine vv_i2c F dJ1_charAt_3b067_13 ?_
  refine vv_topi _ (sc_c2 _) ?_
  exact vv_zret F hR dJ1_charAt_3b067_14 (sc_nar _) rfl rfl
theorem c_JcharAt (l : Launch) (K : vv_K) (i j : Nat) (a : Int32) (hi : i < 6) (ha : a.toInt = (j : Int)) (hj : j < vv_sl.getD i 0) : vv_C l K 4 yJ0_charAt_5068e cJ0_charAt_5068e 2 (some .char) [.ref (K.2.2.1 i), .int a] [] (some (.int (chr i j))) [] := by
  refine vv_C.of (lv := [(0, .ref (K.2.2.1 i)), (1, .int a)]) (by decide +kernel) (Nat.le_of_ble_eq_true rfl) rfl ?_
  intro x hl hK F hR; subst hl; obtain rfl := hK
  refine vv_aload_n F dJ0_charAt_5068e_0 rfl rfl ?_
  refine vv_callVK (As := []) (rest := []) hi F (c_JisLatin1 (vv_l x) (vv_k x) i hi) mk_J0_492 dJ0_charAt_5068e_1 (by decide) rfl rfl (Nat.le_of_ble_eq_true rfl) ?_
  refine vv_if_eq (tgt := 16) F dJ0_charAt_5068e_4 (by decide) (fun h => absurd h (by decide)) (fun _ => ?_)
  refine vv_aload_n F dJ0_charAt_5068e_7 rfl rfl ?_
  refine vv_getKv hi F fj_9 dJ0_charAt_5068e_8 ?_
  refine vv_iload_n F dJ0_charAt_5068e_11 rfl rfl ?_
  refine vv_callSp (As := [.ref ((vv_k x).2.2.2 i), .int a]) (rest := []) [] F (c_JlatinAt (vv_l x) (vv_k x) i j a hi ha hj) ms_J0_495 dJ0_charAt_5068e_12 (by decide) rfl rfl (Nat.le_of_ble_eq_true rfl) rfl (by decide) ?_
  exact vv_zret F hR dJ0_charAt_5068e_15 (sc_nar _) rfl rfl
