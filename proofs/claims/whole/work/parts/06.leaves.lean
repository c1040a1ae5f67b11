/-! helpers of the printed walks -/
def vv_b (p : Prop) [Decidable p] : Int32 := if p then 1 else 0
theorem vv_b_t {p : Prop} [Decidable p] (h : p) : vv_b p = 1 := if_pos h
theorem vv_b_f {p : Prop} [Decidable p] (h : ¬ p) : vv_b p = 0 := if_neg h
theorem vv_bt {p : Prop} [Decidable p] (h : p) : some (Value.int (vv_b p)) = some (.int 1) := by rw [vv_b_t h]
theorem vv_bf {p : Prop} [Decidable p] (h : ¬ p) : some (Value.int (vv_b p)) = some (.int 0) := by rw [vv_b_f h]
theorem vv_b_nar (p : Prop) [Decidable p] : narrow .boolean (.int (vv_b p)) = .int (vv_b p) := by
  by_cases h : p
  · rw [vv_b_t h]; rfl
  · rw [vv_b_f h]; rfl
theorem vv_b_eq {p q : Prop} [Decidable p] [Decidable q] : (some (Value.int (vv_b p)) = some (.int (vv_b q))) ↔ (p ↔ q) := by
  by_cases h : p <;> by_cases h' : q <;> simp [vv_b, h, h']
def vv_rem (a b : Int32) : Int32 := a - a / b * b
def vv_remL (a b : Int64) : Int64 := a - a / b * b
theorem vv_ne {a v : Int32} (h : ¬ a = v) : ¬ a.toInt = v.toInt := fun z => h (Int32.toInt_inj.mp z)
section VVT
variable {x : vv_X} {cc : ByteArray} {nL pc d : Nat} {own : String} {lv lv' : List (Nat × Value)} {st rest : List Value} {ws ws' wc wc' : va_W} {r : Option Value}
theorem vv_topi {a : Int32} (v : Int32) (h : a = v) (k : vv_V x nL pc lv (.int v :: st) ws) : vv_V x nL pc lv (.int a :: st) ws := h ▸ k
theorem vv_topl {a : Int64} (v : Int64) (h : a = v) (k : vv_V x nL pc lv (.long v :: st) ws) : vv_V x nL pc lv (.long a :: st) ws := h ▸ k
theorem vv_iremR {a b : Int32} (F : vv_F x cc nL own d) (dg : decode cc pc = .ok (.irem, 1)) (hne : ¬ b = 0) (k : vv_V x nL (pc + 1) lv (.int (vv_rem a b) :: st) ws) : vv_V x nL pc lv (.int b :: .int a :: st) ws := vv_irem F dg hne k
theorem vv_lremR {a b : Int64} (F : vv_F x cc nL own d) (dg : decode cc pc = .ok (.lrem, 1)) (hne : ¬ b = 0) (k : vv_V x nL (pc + 1) lv (.long (vv_remL a b) :: st) ws) : vv_V x nL pc lv (.long b :: .long a :: st) ws := vv_lrem F dg hne k
theorem vv_ws (h : ws = ws') (k : vv_V x nL pc lv st ws') : vv_V x nL pc lv st ws := h ▸ k
theorem vv_ifz_eq {p : Prop} [Decidable p] {off : Int} {tgt : Nat} (F : vv_F x cc nL own d) (dg : decode cc pc = .ok (.ifCond .eq off, 3)) (ht : (pc : Int) + off = (tgt : Int)) (kt : ¬ p → vv_V x nL tgt lv st ws) (kf : p → vv_V x nL (pc + 3) lv st ws) : vv_V x nL pc lv (.int (vv_b p) :: st) ws :=
  vv_if_eq F dg ht (fun h => kt fun hp => by rw [vv_b_t hp] at h; exact absurd h (by decide)) (fun h => kf (Decidable.byContradiction fun hp => h (vv_b_f hp)))
theorem vv_ifz_ne {p : Prop} [Decidable p] {off : Int} {tgt : Nat} (F : vv_F x cc nL own d) (dg : decode cc pc = .ok (.ifCond .ne off, 3)) (ht : (pc : Int) + off = (tgt : Int)) (kt : p → vv_V x nL tgt lv st ws) (kf : ¬ p → vv_V x nL (pc + 3) lv st ws) : vv_V x nL pc lv (.int (vv_b p) :: st) ws :=
  vv_if_ne F dg ht (fun h => kt (Decidable.byContradiction fun hp => h (vv_b_f hp))) (fun h => kf fun hp => by rw [vv_b_t hp] at h; exact absurd h (by decide))
theorem vv_lg {a b : Int64} : (lg_cmp a b < 0 ↔ a < b) ∧ (0 < lg_cmp a b ↔ b < a) ∧ (lg_cmp a b = 0 ↔ a = b) := ⟨lg_cmp_lt a b, lg_cmp_gt a b, lg_cmp_eq a b⟩
theorem vv_lcmp_lt {a b : Int64} {off : Int} {tgt : Nat} (F : vv_F x cc nL own d) (dg : decode cc pc = .ok (.lcmp, 1)) (dg2 : decode cc (pc + 1) = .ok (.ifCond .lt off, 3)) (ht : ((pc + 1 : Nat) : Int) + off = (tgt : Int)) (kt : a < b → vv_V x nL tgt lv st ws) (kf : ¬ a < b → vv_V x nL (pc + 4) lv st ws) : vv_V x nL pc lv (.long b :: .long a :: st) ws :=
  vv_lcmp F dg (vv_if_lt F dg2 ht (fun h => kt (vv_lg.1.mp h)) (fun h => kf (fun z => h (vv_lg.1.mpr z))))
theorem vv_lcmp_gt {a b : Int64} {off : Int} {tgt : Nat} (F : vv_F x cc nL own d) (dg : decode cc pc = .ok (.lcmp, 1)) (dg2 : decode cc (pc + 1) = .ok (.ifCond .gt off, 3)) (ht : ((pc + 1 : Nat) : Int) + off = (tgt : Int)) (kt : b < a → vv_V x nL tgt lv st ws) (kf : ¬ b < a → vv_V x nL (pc + 4) lv st ws) : vv_V x nL pc lv (.long b :: .long a :: st) ws :=
  vv_lcmp F dg (vv_if_gt F dg2 ht (fun h => kt (vv_lg.2.1.mp h)) (fun h => kf (fun z => h (vv_lg.2.1.mpr z))))
theorem vv_lcmp_eq {a b : Int64} {off : Int} {tgt : Nat} (F : vv_F x cc nL own d) (dg : decode cc pc = .ok (.lcmp, 1)) (dg2 : decode cc (pc + 1) = .ok (.ifCond .eq off, 3)) (ht : ((pc + 1 : Nat) : Int) + off = (tgt : Int)) (kt : a = b → vv_V x nL tgt lv st ws) (kf : ¬ a = b → vv_V x nL (pc + 4) lv st ws) : vv_V x nL pc lv (.long b :: .long a :: st) ws :=
  vv_lcmp F dg (vv_if_eq F dg2 ht (fun h => kt (vv_lg.2.2.mp h)) (fun h => kf (fun z => h (vv_lg.2.2.mpr z))))
theorem vv_up_self : ∀ (is : List Nat) (wc ws : va_W), is.map (fun i => ws[i]?) = wc.map some → vv_up ws is wc = ws
  | [], wc, ws, _ => by cases wc <;> rfl
  | i :: is, [], ws, h => by simp at h
  | i :: is, c :: cs, ws, h => by
    simp only [List.map_cons, List.cons.injEq] at h
    have e : ws.set i c = ws := by
      obtain ⟨hi, hc⟩ := List.getElem?_eq_some_iff.mp h.1
      rw [← hc]; exact List.set_getElem_self hi
    show vv_up (ws.set i c) is cs = ws
    rw [e]
    exact vv_up_self is cs ws h.2
theorem vv_callVp {index ci nL' dc n b : Nat} {y : MethodName} {cc' : ByteArray} {ret : Option FieldType} {As : List Value} {fs : List Value} (is : List Nat) (q0 : Nat) (F : vv_F x cc nL own d) (hC : vv_C (vv_l x) (vv_k x) dc y cc' nL' ret (.ref b :: As) wc r wc) (mv : vv_mv own index ci y cc' nL' ret n) (dg : decode cc pc = .ok (.invokevirtual index, 3)) (hdc : dc + 1 ≤ d) (hn : As.length = n) (hst : st = As.reverse ++ .ref b :: rest) (hrs : (rest.map fun v => v.category).sum ≤ 8) (his : is.map (fun i => ws[i]?) = wc.map some) (hnd : va_nd is = true) (hre : ws[q0]? = some (b, .inr (ci, fs)))
    (k : vv_V x nL (pc + 3) lv (r.toList ++ rest) ws) : vv_V x nL pc lv st ws := vv_callV is q0 F hC mv dg hdc hn hst hrs his hnd rfl hre (vv_up_self is wc ws his) k
theorem vv_callSp {index nL' dc n : Nat} {y : MethodName} {cc' : ByteArray} {ret : Option FieldType} {As : List Value} (is : List Nat) (F : vv_F x cc nL own d) (hC : vv_C (vv_l x) (vv_k x) dc y cc' nL' ret As wc r wc) (ms : vv_ms own index y cc' nL' ret n) (dg : decode cc pc = .ok (.invokestatic index, 3)) (hdc : dc + 1 ≤ d) (hn : As.length = n) (hst : st = As.reverse ++ rest) (hrs : (rest.map fun v => v.category).sum ≤ 8) (his : is.map (fun i => ws[i]?) = wc.map some) (hnd : va_nd is = true)
    (k : vv_V x nL (pc + 3) lv (r.toList ++ rest) ws) : vv_V x nL pc lv st ws := vv_callS is F hC ms dg hdc hn hst hrs his hnd rfl (vv_up_self is wc ws his) k
end VVT
abbrev p_X7_within (v lo hi : Int32) : Prop := ((¬ (v < lo)) ∧ (¬ (hi < v)))
theorem c_X7_within (l : Launch) (K : vv_K) (v lo hi : Int32)  : vv_C l K 1 yX7_within cX7_within 3 (some .boolean) [.int v, .int lo, .int hi] [] (some (.int (vv_b (p_X7_within v lo hi)))) [] := by
  refine vv_C.of (lv := [(0, .int v), (1, .int lo), (2, .int hi)]) (by decide +kernel) (Nat.le_of_ble_eq_true rfl) rfl ?_
  intro x hl hK F hR; subst hl; obtain rfl := hK
  refine vv_iload_n F dX7_within_0 rfl rfl ?_
  refine vv_iload_n F dX7_within_1 rfl rfl ?_
  refine vv_icmp_lt (tgt := 14) F dX7_within_2 (by decide) (fun h_1 => ?_) (fun h_1 => ?_)
  · refine vv_iconst (v := 0) F dX7_within_14 (by decide) ?_
    exact vv_zret F hR dX7_within_15 rfl (vv_bf (fun z => z.1 h_1)) rfl
  · refine vv_iload_n F dX7_within_5 rfl rfl ?_
    refine vv_iload_n F dX7_within_6 rfl rfl ?_
    refine vv_icmp_gt (tgt := 14) F dX7_within_7 (by decide) (fun h_2 => ?_) (fun h_2 => ?_)
    · refine vv_iconst (v := 0) F dX7_within_14 (by decide) ?_
      exact vv_zret F hR dX7_within_15 rfl (vv_bf (fun z => (fun z => z h_2) z.2)) rfl
    · refine vv_iconst (v := 1) F dX7_within_10 (by decide) ?_
      refine vv_goto (tgt := 15) F dX7_within_11 (by decide) ?_
      exact vv_zret F hR dX7_within_15 rfl (vv_bt ⟨h_1, h_2⟩) rfl
theorem c_X1_known (l : Launch) (K : vv_K) (v : Int32)  : vv_C l K 2 yX1_known cX1_known 1 (some .boolean) [.int v] [] (some (.int (vv_b (p_X7_within v 0 5)))) [] := by
  refine vv_C.of (lv := [(0, .int v)]) (by decide +kernel) (Nat.le_of_ble_eq_true rfl) rfl ?_
  intro x hl hK F hR; subst hl; obtain rfl := hK
  refine vv_iload_n F dX1_known_0 rfl rfl ?_
  refine vv_iconst (v := 0) F dX1_known_1 (by decide) ?_
  refine vv_iconst (v := 5) F dX1_known_2 (by decide) ?_
  refine vv_callSp (As := [.int v, .int 0, .int 5]) (rest := []) [] F (c_X7_within (vv_l x) (vv_k x) v 0 5) ms_X1_11 dX1_known_3 (by decide) rfl rfl (Nat.le_of_ble_eq_true rfl) rfl (by decide) ?_
  exact vv_zret F hR dX1_known_6 (vv_b_nar _) rfl rfl
noncomputable def f_X1_shown (k n h : Int32) : Int32 := (if (vv_rem h 24) < 6 then (if k = 1 then 0 else (if k = 2 then (if 10 < n then 10 else n) else (if k = 3 then (n + 5) else (if k = 4 then ((0 + 1) / 2) else (if k = 5 then (if 99 < (2 * (n + 5)) then 99 else (2 * (n + 5))) else n))))) else (if (vv_rem h 24) < 18 then (if k = 1 then n else (if k = 2 then (if 10 < n then 10 else n) else (if k = 3 then (n + 5) else (if k = 4 then ((n + 1) / 2) else (if k = 5 then (if 99 < (2 * (n + 5)) then 99 else (2 * (n + 5))) else n))))) else (if k = 1 then 0 else (if k = 2 then (if 10 < n then 10 else n) else (if k = 3 then (n + 5) else (if k = 4 then ((0 + 1) / 2) else (if k = 5 then (if 99 < (2 * (n + 5)) then 99 else (2 * (n + 5))) else n)))))))
theorem c_X1_shown (l : Launch) (K : vv_K) (k n h : Int32)  : vv_C l K 2 yX1_shown cX1_shown 6 (some .int) [.int k, .int n, .int h] [] (some (.int (f_X1_shown k n h))) [] := by
  refine vv_C.of (lv := [(0, .int k), (1, .int n), (2, .int h)]) (by decide +kernel) (Nat.le_of_ble_eq_true rfl) rfl ?_
  intro x hl hK F hR; subst hl; obtain rfl := hK
  refine vv_iload_n F dX1_shown_0 rfl rfl ?_
  refine vv_bipush (v := 24) F dX1_shown_1 (by decide) ?_
  refine vv_iremR F dX1_shown_3 (by decide) ?_
  refine vv_istore_n (lv' := [(3, .int (vv_rem h 24)), (0, .int k), (1, .int n), (2, .int h)]) F dX1_shown_4 rfl (by decide) rfl ?_
  refine vv_iload_n F dX1_shown_5 rfl rfl ?_
  refine vv_bipush (v := 6) F dX1_shown_6 (by decide) ?_
  refine vv_icmp_lt (tgt := 17) F dX1_shown_8 (by decide) (fun h_1 => ?_) (fun h_1 => ?_)
  · refine vv_iconst (v := 0) F dX1_shown_17 (by decide) ?_
    refine vv_goto (tgt := 22) F dX1_shown_18 (by decide) ?_
    refine vv_istore (lv' := [(4, .int 0), (3, .int (vv_rem h 24)), (0, .int k), (1, .int n), (2, .int h)]) F dX1_shown_22 (by decide) rfl ?_
    refine vv_iload_n F dX1_shown_24 rfl rfl ?_
    refine vv_iconst (v := 5) F dX1_shown_25 (by decide) ?_
    refine vv_iadd F dX1_shown_26 ?_
    refine vv_istore (lv' := [(5, .int (n + 5)), (4, .int 0), (3, .int (vv_rem h 24)), (0, .int k), (1, .int n), (2, .int h)]) F dX1_shown_27 (by decide) rfl ?_
    refine vv_iload_n F dX1_shown_29 rfl rfl ?_
    by_cases h_2 : k = 1
    · refine vv_tabIn (tgt := 64) (off := 34) F dX1_shown_30 (by rw [h_2]; decide) (by rw [h_2]; decide) (by rw [h_2]; rfl) (by decide) ?_
      refine vv_iload F dX1_shown_64 rfl ?_
      exact vv_iret F hR dX1_shown_66 (congrArg (fun z => some (Value.int z)) ((if_pos h_1).trans ((if_pos h_2).trans rfl))) rfl
    · by_cases h_3 : k = 2
      · refine vv_tabIn (tgt := 67) (off := 37) F dX1_shown_30 (by rw [h_3]; decide) (by rw [h_3]; decide) (by rw [h_3]; rfl) (by decide) ?_
        refine vv_iload_n F dX1_shown_67 rfl rfl ?_
        refine vv_bipush (v := 10) F dX1_shown_68 (by decide) ?_
        refine vv_mmin F mm_X1_15 st_min in_Math co_min (by decide) (Nat.le_of_ble_eq_true rfl) dX1_shown_70 ?_
        exact vv_iret F hR dX1_shown_73 (congrArg (fun z => some (Value.int z)) ((if_pos h_1).trans ((if_neg h_2).trans ((if_pos h_3).trans rfl)))) rfl
      · by_cases h_4 : k = 3
        · refine vv_tabIn (tgt := 74) (off := 44) F dX1_shown_30 (by rw [h_4]; decide) (by rw [h_4]; decide) (by rw [h_4]; rfl) (by decide) ?_
          refine vv_iload F dX1_shown_74 rfl ?_
          exact vv_iret F hR dX1_shown_76 (congrArg (fun z => some (Value.int z)) ((if_pos h_1).trans ((if_neg h_2).trans ((if_neg h_3).trans ((if_pos h_4).trans rfl))))) rfl
        · by_cases h_5 : k = 4
          · refine vv_tabIn (tgt := 77) (off := 47) F dX1_shown_30 (by rw [h_5]; decide) (by rw [h_5]; decide) (by rw [h_5]; rfl) (by decide) ?_
            refine vv_iload F dX1_shown_77 rfl ?_
            refine vv_iconst (v := 1) F dX1_shown_79 (by decide) ?_
            refine vv_iadd F dX1_shown_80 ?_
            refine vv_iconst (v := 2) F dX1_shown_81 (by decide) ?_
            refine vv_idiv F dX1_shown_82 (by decide) ?_
            exact vv_iret F hR dX1_shown_83 (congrArg (fun z => some (Value.int z)) ((if_pos h_1).trans ((if_neg h_2).trans ((if_neg h_3).trans ((if_neg h_4).trans ((if_pos h_5).trans rfl)))))) rfl
          · by_cases h_6 : k = 5
            · refine vv_tabIn (tgt := 84) (off := 54) F dX1_shown_30 (by rw [h_6]; decide) (by rw [h_6]; decide) (by rw [h_6]; rfl) (by decide) ?_
              refine vv_iconst (v := 2) F dX1_shown_84 (by decide) ?_
              refine vv_iload F dX1_shown_85 rfl ?_
              refine vv_imul F dX1_shown_87 ?_
              refine vv_bipush (v := 99) F dX1_shown_88 (by decide) ?_
              refine vv_mmin F mm_X1_15 st_min in_Math co_min (by decide) (Nat.le_of_ble_eq_true rfl) dX1_shown_90 ?_
              exact vv_iret F hR dX1_shown_93 (congrArg (fun z => some (Value.int z)) ((if_pos h_1).trans ((if_neg h_2).trans ((if_neg h_3).trans ((if_neg h_4).trans ((if_neg h_5).trans ((if_pos h_6).trans rfl))))))) rfl
            · refine vv_tabOut (tgt := 94) F dX1_shown_30 (by have h_2i : ¬ k.toInt = 1 := vv_ne h_2; have h_3i : ¬ k.toInt = 2 := vv_ne h_3; have h_4i : ¬ k.toInt = 3 := vv_ne h_4; have h_5i : ¬ k.toInt = 4 := vv_ne h_5; have h_6i : ¬ k.toInt = 5 := vv_ne h_6; omega) (by decide) ?_
              refine vv_iload_n F dX1_shown_94 rfl rfl ?_
              exact vv_iret F hR dX1_shown_95 (congrArg (fun z => some (Value.int z)) ((if_pos h_1).trans ((if_neg h_2).trans ((if_neg h_3).trans ((if_neg h_4).trans ((if_neg h_5).trans ((if_neg h_6).trans rfl))))))) rfl
  · refine vv_iload_n F dX1_shown_11 rfl rfl ?_
    refine vv_bipush (v := 18) F dX1_shown_12 (by decide) ?_
    refine vv_icmp_lt (tgt := 21) F dX1_shown_14 (by decide) (fun h_7 => ?_) (fun h_7 => ?_)
    · refine vv_iload_n F dX1_shown_21 rfl rfl ?_
      refine vv_istore (lv' := [(4, .int n), (3, .int (vv_rem h 24)), (0, .int k), (1, .int n), (2, .int h)]) F dX1_shown_22 (by decide) rfl ?_
      refine vv_iload_n F dX1_shown_24 rfl rfl ?_
      refine vv_iconst (v := 5) F dX1_shown_25 (by decide) ?_
      refine vv_iadd F dX1_shown_26 ?_
      refine vv_istore (lv' := [(5, .int (n + 5)), (4, .int n), (3, .int (vv_rem h 24)), (0, .int k), (1, .int n), (2, .int h)]) F dX1_shown_27 (by decide) rfl ?_
      refine vv_iload_n F dX1_shown_29 rfl rfl ?_
      by_cases h_8 : k = 1
      · refine vv_tabIn (tgt := 64) (off := 34) F dX1_shown_30 (by rw [h_8]; decide) (by rw [h_8]; decide) (by rw [h_8]; rfl) (by decide) ?_
        refine vv_iload F dX1_shown_64 rfl ?_
        exact vv_iret F hR dX1_shown_66 (congrArg (fun z => some (Value.int z)) ((if_neg h_1).trans ((if_pos h_7).trans ((if_pos h_8).trans rfl)))) rfl
      · by_cases h_9 : k = 2
        · refine vv_tabIn (tgt := 67) (off := 37) F dX1_shown_30 (by rw [h_9]; decide) (by rw [h_9]; decide) (by rw [h_9]; rfl) (by decide) ?_
          refine vv_iload_n F dX1_shown_67 rfl rfl ?_
          refine vv_bipush (v := 10) F dX1_shown_68 (by decide) ?_
          refine vv_mmin F mm_X1_15 st_min in_Math co_min (by decide) (Nat.le_of_ble_eq_true rfl) dX1_shown_70 ?_
          exact vv_iret F hR dX1_shown_73 (congrArg (fun z => some (Value.int z)) ((if_neg h_1).trans ((if_pos h_7).trans ((if_neg h_8).trans ((if_pos h_9).trans rfl))))) rfl
        · by_cases h_10 : k = 3
          · refine vv_tabIn (tgt := 74) (off := 44) F dX1_shown_30 (by rw [h_10]; decide) (by rw [h_10]; decide) (by rw [h_10]; rfl) (by decide) ?_
            refine vv_iload F dX1_shown_74 rfl ?_
            exact vv_iret F hR dX1_shown_76 (congrArg (fun z => some (Value.int z)) ((if_neg h_1).trans ((if_pos h_7).trans ((if_neg h_8).trans ((if_neg h_9).trans ((if_pos h_10).trans rfl)))))) rfl
          · by_cases h_11 : k = 4
            · refine vv_tabIn (tgt := 77) (off := 47) F dX1_shown_30 (by rw [h_11]; decide) (by rw [h_11]; decide) (by rw [h_11]; rfl) (by decide) ?_
              refine vv_iload F dX1_shown_77 rfl ?_
              refine vv_iconst (v := 1) F dX1_shown_79 (by decide) ?_
              refine vv_iadd F dX1_shown_80 ?_
              refine vv_iconst (v := 2) F dX1_shown_81 (by decide) ?_
              refine vv_idiv F dX1_shown_82 (by decide) ?_
              exact vv_iret F hR dX1_shown_83 (congrArg (fun z => some (Value.int z)) ((if_neg h_1).trans ((if_pos h_7).trans ((if_neg h_8).trans ((if_neg h_9).trans ((if_neg h_10).trans ((if_pos h_11).trans rfl))))))) rfl
            · by_cases h_12 : k = 5
              · refine vv_tabIn (tgt := 84) (off := 54) F dX1_shown_30 (by rw [h_12]; decide) (by rw [h_12]; decide) (by rw [h_12]; rfl) (by decide) ?_
                refine vv_iconst (v := 2) F dX1_shown_84 (by decide) ?_
                refine vv_iload F dX1_shown_85 rfl ?_
                refine vv_imul F dX1_shown_87 ?_
                refine vv_bipush (v := 99) F dX1_shown_88 (by decide) ?_
                refine vv_mmin F mm_X1_15 st_min in_Math co_min (by decide) (Nat.le_of_ble_eq_true rfl) dX1_shown_90 ?_
                exact vv_iret F hR dX1_shown_93 (congrArg (fun z => some (Value.int z)) ((if_neg h_1).trans ((if_pos h_7).trans ((if_neg h_8).trans ((if_neg h_9).trans ((if_neg h_10).trans ((if_neg h_11).trans ((if_pos h_12).trans rfl)))))))) rfl
              · refine vv_tabOut (tgt := 94) F dX1_shown_30 (by have h_8i : ¬ k.toInt = 1 := vv_ne h_8; have h_9i : ¬ k.toInt = 2 := vv_ne h_9; have h_10i : ¬ k.toInt = 3 := vv_ne h_10; have h_11i : ¬ k.toInt = 4 := vv_ne h_11; have h_12i : ¬ k.toInt = 5 := vv_ne h_12; omega) (by decide) ?_
                refine vv_iload_n F dX1_shown_94 rfl rfl ?_
                exact vv_iret F hR dX1_shown_95 (congrArg (fun z => some (Value.int z)) ((if_neg h_1).trans ((if_pos h_7).trans ((if_neg h_8).trans ((if_neg h_9).trans ((if_neg h_10).trans ((if_neg h_11).trans ((if_neg h_12).trans rfl)))))))) rfl
    · refine vv_iconst (v := 0) F dX1_shown_17 (by decide) ?_
      refine vv_goto (tgt := 22) F dX1_shown_18 (by decide) ?_
      refine vv_istore (lv' := [(4, .int 0), (3, .int (vv_rem h 24)), (0, .int k), (1, .int n), (2, .int h)]) F dX1_shown_22 (by decide) rfl ?_
      refine vv_iload_n F dX1_shown_24 rfl rfl ?_
      refine vv_iconst (v := 5) F dX1_shown_25 (by decide) ?_
      refine vv_iadd F dX1_shown_26 ?_
      refine vv_istore (lv' := [(5, .int (n + 5)), (4, .int 0), (3, .int (vv_rem h 24)), (0, .int k), (1, .int n), (2, .int h)]) F dX1_shown_27 (by decide) rfl ?_
      refine vv_iload_n F dX1_shown_29 rfl rfl ?_
      by_cases h_13 : k = 1
      · refine vv_tabIn (tgt := 64) (off := 34) F dX1_shown_30 (by rw [h_13]; decide) (by rw [h_13]; decide) (by rw [h_13]; rfl) (by decide) ?_
        refine vv_iload F dX1_shown_64 rfl ?_
        exact vv_iret F hR dX1_shown_66 (congrArg (fun z => some (Value.int z)) ((if_neg h_1).trans ((if_neg h_7).trans ((if_pos h_13).trans rfl)))) rfl
      · by_cases h_14 : k = 2
        · refine vv_tabIn (tgt := 67) (off := 37) F dX1_shown_30 (by rw [h_14]; decide) (by rw [h_14]; decide) (by rw [h_14]; rfl) (by decide) ?_
          refine vv_iload_n F dX1_shown_67 rfl rfl ?_
          refine vv_bipush (v := 10) F dX1_shown_68 (by decide) ?_
          refine vv_mmin F mm_X1_15 st_min in_Math co_min (by decide) (Nat.le_of_ble_eq_true rfl) dX1_shown_70 ?_
          exact vv_iret F hR dX1_shown_73 (congrArg (fun z => some (Value.int z)) ((if_neg h_1).trans ((if_neg h_7).trans ((if_neg h_13).trans ((if_pos h_14).trans rfl))))) rfl
        · by_cases h_15 : k = 3
          · refine vv_tabIn (tgt := 74) (off := 44) F dX1_shown_30 (by rw [h_15]; decide) (by rw [h_15]; decide) (by rw [h_15]; rfl) (by decide) ?_
            refine vv_iload F dX1_shown_74 rfl ?_
            exact vv_iret F hR dX1_shown_76 (congrArg (fun z => some (Value.int z)) ((if_neg h_1).trans ((if_neg h_7).trans ((if_neg h_13).trans ((if_neg h_14).trans ((if_pos h_15).trans rfl)))))) rfl
          · by_cases h_16 : k = 4
            · refine vv_tabIn (tgt := 77) (off := 47) F dX1_shown_30 (by rw [h_16]; decide) (by rw [h_16]; decide) (by rw [h_16]; rfl) (by decide) ?_
              refine vv_iload F dX1_shown_77 rfl ?_
              refine vv_iconst (v := 1) F dX1_shown_79 (by decide) ?_
              refine vv_iadd F dX1_shown_80 ?_
              refine vv_iconst (v := 2) F dX1_shown_81 (by decide) ?_
              refine vv_idiv F dX1_shown_82 (by decide) ?_
              exact vv_iret F hR dX1_shown_83 (congrArg (fun z => some (Value.int z)) ((if_neg h_1).trans ((if_neg h_7).trans ((if_neg h_13).trans ((if_neg h_14).trans ((if_neg h_15).trans ((if_pos h_16).trans rfl))))))) rfl
            · by_cases h_17 : k = 5
              · refine vv_tabIn (tgt := 84) (off := 54) F dX1_shown_30 (by rw [h_17]; decide) (by rw [h_17]; decide) (by rw [h_17]; rfl) (by decide) ?_
                refine vv_iconst (v := 2) F dX1_shown_84 (by decide) ?_
                refine vv_iload F dX1_shown_85 rfl ?_
                refine vv_imul F dX1_shown_87 ?_
                refine vv_bipush (v := 99) F dX1_shown_88 (by decide) ?_
                refine vv_mmin F mm_X1_15 st_min in_Math co_min (by decide) (Nat.le_of_ble_eq_true rfl) dX1_shown_90 ?_
                exact vv_iret F hR dX1_shown_93 (congrArg (fun z => some (Value.int z)) ((if_neg h_1).trans ((if_neg h_7).trans ((if_neg h_13).trans ((if_neg h_14).trans ((if_neg h_15).trans ((if_neg h_16).trans ((if_pos h_17).trans rfl)))))))) rfl
              · refine vv_tabOut (tgt := 94) F dX1_shown_30 (by have h_13i : ¬ k.toInt = 1 := vv_ne h_13; have h_14i : ¬ k.toInt = 2 := vv_ne h_14; have h_15i : ¬ k.toInt = 3 := vv_ne h_15; have h_16i : ¬ k.toInt = 4 := vv_ne h_16; have h_17i : ¬ k.toInt = 5 := vv_ne h_17; omega) (by decide) ?_
                refine vv_iload_n F dX1_shown_94 rfl rfl ?_
                exact vv_iret F hR dX1_shown_95 (congrArg (fun z => some (Value.int z)) ((if_neg h_1).trans ((if_neg h_7).trans ((if_neg h_13).trans ((if_neg h_14).trans ((if_neg h_15).trans ((if_neg h_16).trans ((if_neg h_17).trans rfl)))))))) rfl
noncomputable def f_X1_charged (k s dy : Int32) : Int32 := (if s < 1 then (if k = 1 then (((s + 1) / 2) + (s / 10)) else (if k = 2 then (if (vv_rem dy 7) = 0 then 0 else ((s + 1) / 2)) else (if k = 3 then ((s + 1) / 2) else (if k = 4 then (if 25 < (((s + 1) / 2) + (s / 10)) then 25 else (((s + 1) / 2) + (s / 10))) else (if k = 5 then (((((s + 1) / 2) + 4) / 5) * 5) else ((s + 1) / 2)))))) else (if k = 1 then (((s + 1) / 2) + (s / 10)) else (if k = 2 then (if (vv_rem dy 7) = 0 then 0 else ((s + 1) / 2)) else (if k = 3 then (((s + 1) / 2) + 3) else (if k = 4 then (if 25 < (((s + 1) / 2) + (s / 10)) then 25 else (((s + 1) / 2) + (s / 10))) else (if k = 5 then ((((((s + 1) / 2) + 3) + 4) / 5) * 5) else ((s + 1) / 2)))))))
theorem c_X1_charged (l : Launch) (K : vv_K) (k s dy : Int32)  : vv_C l K 2 yX1_charged cX1_charged 6 (some .int) [.int k, .int s, .int dy] [] (some (.int (f_X1_charged k s dy))) [] := by
  refine vv_C.of (lv := [(0, .int k), (1, .int s), (2, .int dy)]) (by decide +kernel) (Nat.le_of_ble_eq_true rfl) rfl ?_
  intro x hl hK F hR; subst hl; obtain rfl := hK
  refine vv_iload_n F dX1_charged_0 rfl rfl ?_
  refine vv_iconst (v := 1) F dX1_charged_1 (by decide) ?_
  refine vv_iadd F dX1_charged_2 ?_
  refine vv_iconst (v := 2) F dX1_charged_3 (by decide) ?_
  refine vv_idiv F dX1_charged_4 (by decide) ?_
  refine vv_istore_n (lv' := [(3, .int ((s + 1) / 2)), (0, .int k), (1, .int s), (2, .int dy)]) F dX1_charged_5 rfl (by decide) rfl ?_
  refine vv_iload_n F dX1_charged_6 rfl rfl ?_
  refine vv_iload_n F dX1_charged_7 rfl rfl ?_
  refine vv_bipush (v := 10) F dX1_charged_8 (by decide) ?_
  refine vv_idiv F dX1_charged_10 (by decide) ?_
  refine vv_iadd F dX1_charged_11 ?_
  refine vv_istore (lv' := [(4, .int (((s + 1) / 2) + (s / 10))), (3, .int ((s + 1) / 2)), (0, .int k), (1, .int s), (2, .int dy)]) F dX1_charged_12 (by decide) rfl ?_
  refine vv_iload_n F dX1_charged_14 rfl rfl ?_
  refine vv_iconst (v := 1) F dX1_charged_15 (by decide) ?_
  refine vv_icmp_lt (tgt := 25) F dX1_charged_16 (by decide) (fun h_1 => ?_) (fun h_1 => ?_)
  · refine vv_iload_n F dX1_charged_25 rfl rfl ?_
    refine vv_istore (lv' := [(5, .int ((s + 1) / 2)), (4, .int (((s + 1) / 2) + (s / 10))), (3, .int ((s + 1) / 2)), (0, .int k), (1, .int s), (2, .int dy)]) F dX1_charged_26 (by decide) rfl ?_
    refine vv_iload_n F dX1_charged_28 rfl rfl ?_
    by_cases h_2 : k = 1
    · refine vv_tabIn (tgt := 64) (off := 35) F dX1_charged_29 (by rw [h_2]; decide) (by rw [h_2]; decide) (by rw [h_2]; rfl) (by decide) ?_
      refine vv_iload F dX1_charged_64 rfl ?_
      exact vv_iret F hR dX1_charged_66 (congrArg (fun z => some (Value.int z)) ((if_pos h_1).trans ((if_pos h_2).trans rfl))) rfl
    · by_cases h_3 : k = 2
      · refine vv_tabIn (tgt := 67) (off := 38) F dX1_charged_29 (by rw [h_3]; decide) (by rw [h_3]; decide) (by rw [h_3]; rfl) (by decide) ?_
        refine vv_iload_n F dX1_charged_67 rfl rfl ?_
        refine vv_bipush (v := 7) F dX1_charged_68 (by decide) ?_
        refine vv_iremR F dX1_charged_70 (by decide) ?_
        refine vv_if_ne (tgt := 78) F dX1_charged_71 (by decide) (fun h_4 => ?_) (fun h_4 => ?_)
        · refine vv_iload_n F dX1_charged_78 rfl rfl ?_
          exact vv_iret F hR dX1_charged_79 (congrArg (fun z => some (Value.int z)) ((if_pos h_1).trans ((if_neg h_2).trans ((if_pos h_3).trans ((if_neg h_4).trans rfl))))) rfl
        · refine vv_iconst (v := 0) F dX1_charged_74 (by decide) ?_
          refine vv_goto (tgt := 79) F dX1_charged_75 (by decide) ?_
          exact vv_iret F hR dX1_charged_79 (congrArg (fun z => some (Value.int z)) ((if_pos h_1).trans ((if_neg h_2).trans ((if_pos h_3).trans ((if_pos h_4).trans rfl))))) rfl
      · by_cases h_5 : k = 3
        · refine vv_tabIn (tgt := 80) (off := 51) F dX1_charged_29 (by rw [h_5]; decide) (by rw [h_5]; decide) (by rw [h_5]; rfl) (by decide) ?_
          refine vv_iload F dX1_charged_80 rfl ?_
          exact vv_iret F hR dX1_charged_82 (congrArg (fun z => some (Value.int z)) ((if_pos h_1).trans ((if_neg h_2).trans ((if_neg h_3).trans ((if_pos h_5).trans rfl))))) rfl
        · by_cases h_6 : k = 4
          · refine vv_tabIn (tgt := 83) (off := 54) F dX1_charged_29 (by rw [h_6]; decide) (by rw [h_6]; decide) (by rw [h_6]; rfl) (by decide) ?_
            refine vv_iload F dX1_charged_83 rfl ?_
            refine vv_bipush (v := 25) F dX1_charged_85 (by decide) ?_
            refine vv_mmin F mm_X1_15 st_min in_Math co_min (by decide) (Nat.le_of_ble_eq_true rfl) dX1_charged_87 ?_
            exact vv_iret F hR dX1_charged_90 (congrArg (fun z => some (Value.int z)) ((if_pos h_1).trans ((if_neg h_2).trans ((if_neg h_3).trans ((if_neg h_5).trans ((if_pos h_6).trans rfl)))))) rfl
          · by_cases h_7 : k = 5
            · refine vv_tabIn (tgt := 91) (off := 62) F dX1_charged_29 (by rw [h_7]; decide) (by rw [h_7]; decide) (by rw [h_7]; rfl) (by decide) ?_
              refine vv_iload F dX1_charged_91 rfl ?_
              refine vv_iconst (v := 4) F dX1_charged_93 (by decide) ?_
              refine vv_iadd F dX1_charged_94 ?_
              refine vv_iconst (v := 5) F dX1_charged_95 (by decide) ?_
              refine vv_idiv F dX1_charged_96 (by decide) ?_
              refine vv_iconst (v := 5) F dX1_charged_97 (by decide) ?_
              refine vv_imul F dX1_charged_98 ?_
              exact vv_iret F hR dX1_charged_99 (congrArg (fun z => some (Value.int z)) ((if_pos h_1).trans ((if_neg h_2).trans ((if_neg h_3).trans ((if_neg h_5).trans ((if_neg h_6).trans ((if_pos h_7).trans rfl))))))) rfl
            · refine vv_tabOut (tgt := 100) F dX1_charged_29 (by have h_2i : ¬ k.toInt = 1 := vv_ne h_2; have h_3i : ¬ k.toInt = 2 := vv_ne h_3; have h_5i : ¬ k.toInt = 3 := vv_ne h_5; have h_6i : ¬ k.toInt = 4 := vv_ne h_6; have h_7i : ¬ k.toInt = 5 := vv_ne h_7; omega) (by decide) ?_
              refine vv_iload_n F dX1_charged_100 rfl rfl ?_
              exact vv_iret F hR dX1_charged_101 (congrArg (fun z => some (Value.int z)) ((if_pos h_1).trans ((if_neg h_2).trans ((if_neg h_3).trans ((if_neg h_5).trans ((if_neg h_6).trans ((if_neg h_7).trans rfl))))))) rfl
  · refine vv_iload_n F dX1_charged_19 rfl rfl ?_
    refine vv_iconst (v := 3) F dX1_charged_20 (by decide) ?_
    refine vv_iadd F dX1_charged_21 ?_
    refine vv_goto (tgt := 26) F dX1_charged_22 (by decide) ?_
    refine vv_istore (lv' := [(5, .int (((s + 1) / 2) + 3)), (4, .int (((s + 1) / 2) + (s / 10))), (3, .int ((s + 1) / 2)), (0, .int k), (1, .int s), (2, .int dy)]) F dX1_charged_26 (by decide) rfl ?_
    refine vv_iload_n F dX1_charged_28 rfl rfl ?_
    by_cases h_8 : k = 1
    · refine vv_tabIn (tgt := 64) (off := 35) F dX1_charged_29 (by rw [h_8]; decide) (by rw [h_8]; decide) (by rw [h_8]; rfl) (by decide) ?_
      refine vv_iload F dX1_charged_64 rfl ?_
      exact vv_iret F hR dX1_charged_66 (congrArg (fun z => some (Value.int z)) ((if_neg h_1).trans ((if_pos h_8).trans rfl))) rfl
    · by_cases h_9 : k = 2
      · refine vv_tabIn (tgt := 67) (off := 38) F dX1_charged_29 (by rw [h_9]; decide) (by rw [h_9]; decide) (by rw [h_9]; rfl) (by decide) ?_
        refine vv_iload_n F dX1_charged_67 rfl rfl ?_
        refine vv_bipush (v := 7) F dX1_charged_68 (by decide) ?_
        refine vv_iremR F dX1_charged_70 (by decide) ?_
        refine vv_if_ne (tgt := 78) F dX1_charged_71 (by decide) (fun h_10 => ?_) (fun h_10 => ?_)
        · refine vv_iload_n F dX1_charged_78 rfl rfl ?_
          exact vv_iret F hR dX1_charged_79 (congrArg (fun z => some (Value.int z)) ((if_neg h_1).trans ((if_neg h_8).trans ((if_pos h_9).trans ((if_neg h_10).trans rfl))))) rfl
        · refine vv_iconst (v := 0) F dX1_charged_74 (by decide) ?_
          refine vv_goto (tgt := 79) F dX1_charged_75 (by decide) ?_
          exact vv_iret F hR dX1_charged_79 (congrArg (fun z => some (Value.int z)) ((if_neg h_1).trans ((if_neg h_8).trans ((if_pos h_9).trans ((if_pos h_10).trans rfl))))) rfl
      · by_cases h_11 : k = 3
        · refine vv_tabIn (tgt := 80) (off := 51) F dX1_charged_29 (by rw [h_11]; decide) (by rw [h_11]; decide) (by rw [h_11]; rfl) (by decide) ?_
          refine vv_iload F dX1_charged_80 rfl ?_
          exact vv_iret F hR dX1_charged_82 (congrArg (fun z => some (Value.int z)) ((if_neg h_1).trans ((if_neg h_8).trans ((if_neg h_9).trans ((if_pos h_11).trans rfl))))) rfl
        · by_cases h_12 : k = 4
          · refine vv_tabIn (tgt := 83) (off := 54) F dX1_charged_29 (by rw [h_12]; decide) (by rw [h_12]; decide) (by rw [h_12]; rfl) (by decide) ?_
            refine vv_iload F dX1_charged_83 rfl ?_
            refine vv_bipush (v := 25) F dX1_charged_85 (by decide) ?_
            refine vv_mmin F mm_X1_15 st_min in_Math co_min (by decide) (Nat.le_of_ble_eq_true rfl) dX1_charged_87 ?_
            exact vv_iret F hR dX1_charged_90 (congrArg (fun z => some (Value.int z)) ((if_neg h_1).trans ((if_neg h_8).trans ((if_neg h_9).trans ((if_neg h_11).trans ((if_pos h_12).trans rfl)))))) rfl
          · by_cases h_13 : k = 5
            · refine vv_tabIn (tgt := 91) (off := 62) F dX1_charged_29 (by rw [h_13]; decide) (by rw [h_13]; decide) (by rw [h_13]; rfl) (by decide) ?_
              refine vv_iload F dX1_charged_91 rfl ?_
              refine vv_iconst (v := 4) F dX1_charged_93 (by decide) ?_
              refine vv_iadd F dX1_charged_94 ?_
              refine vv_iconst (v := 5) F dX1_charged_95 (by decide) ?_
              refine vv_idiv F dX1_charged_96 (by decide) ?_
              refine vv_iconst (v := 5) F dX1_charged_97 (by decide) ?_
              refine vv_imul F dX1_charged_98 ?_
              exact vv_iret F hR dX1_charged_99 (congrArg (fun z => some (Value.int z)) ((if_neg h_1).trans ((if_neg h_8).trans ((if_neg h_9).trans ((if_neg h_11).trans ((if_neg h_12).trans ((if_pos h_13).trans rfl))))))) rfl
            · refine vv_tabOut (tgt := 100) F dX1_charged_29 (by have h_8i : ¬ k.toInt = 1 := vv_ne h_8; have h_9i : ¬ k.toInt = 2 := vv_ne h_9; have h_11i : ¬ k.toInt = 3 := vv_ne h_11; have h_12i : ¬ k.toInt = 4 := vv_ne h_12; have h_13i : ¬ k.toInt = 5 := vv_ne h_13; omega) (by decide) ?_
              refine vv_iload_n F dX1_charged_100 rfl rfl ?_
              exact vv_iret F hR dX1_charged_101 (congrArg (fun z => some (Value.int z)) ((if_neg h_1).trans ((if_neg h_8).trans ((if_neg h_9).trans ((if_neg h_11).trans ((if_neg h_12).trans ((if_neg h_13).trans rfl))))))) rfl
noncomputable def f_X1_brought (n ln : Int32) : Int32 := (if n < ln then 0 else ((n + 1) - ln))
theorem c_X1_brought (l : Launch) (K : vv_K) (n ln : Int32)  : vv_C l K 1 yX1_brought cX1_brought 2 (some .int) [.int n, .int ln] [] (some (.int (f_X1_brought n ln))) [] := by
  refine vv_C.of (lv := [(0, .int n), (1, .int ln)]) (by decide +kernel) (Nat.le_of_ble_eq_true rfl) rfl ?_
  intro x hl hK F hR; subst hl; obtain rfl := hK
  refine vv_iload_n F dX1_brought_0 rfl rfl ?_
  refine vv_iload_n F dX1_brought_1 rfl rfl ?_
  refine vv_icmp_lt (tgt := 13) F dX1_brought_2 (by decide) (fun h_1 => ?_) (fun h_1 => ?_)
  · refine vv_iconst (v := 0) F dX1_brought_13 (by decide) ?_
    exact vv_iret F hR dX1_brought_14 (congrArg (fun z => some (Value.int z)) ((if_pos h_1).trans rfl)) rfl
  · refine vv_iload_n F dX1_brought_5 rfl rfl ?_
    refine vv_iconst (v := 1) F dX1_brought_6 (by decide) ?_
    refine vv_iadd F dX1_brought_7 ?_
    refine vv_iload_n F dX1_brought_8 rfl rfl ?_
    refine vv_isub F dX1_brought_9 ?_
    refine vv_goto (tgt := 14) F dX1_brought_10 (by decide) ?_
    exact vv_iret F hR dX1_brought_14 (congrArg (fun z => some (Value.int z)) ((if_neg h_1).trans rfl)) rfl
abbrev p_X8_in (v lo hi : Int64) : Prop := ((¬ (v < lo)) ∧ (¬ (hi < v)))
theorem c_X8_in (l : Launch) (K : vv_K) (v lo hi : Int64)  : vv_C l K 1 yX8_in cX8_in 6 (some .boolean) [.long v, .long lo, .long hi] [] (some (.int (vv_b (p_X8_in v lo hi)))) [] := by
  refine vv_C.of (lv := [(0, .long v), (2, .long lo), (4, .long hi)]) (by decide +kernel) (Nat.le_of_ble_eq_true rfl) rfl ?_
  intro x hl hK F hR; subst hl; obtain rfl := hK
  refine vv_lload_n F dX8_in_0 rfl rfl ?_
  refine vv_lload_n F dX8_in_1 rfl rfl ?_
  refine vv_lcmp_lt (tgt := 17) F dX8_in_2 dX8_in_3 (by decide) (fun h_1 => ?_) (fun h_1 => ?_)
  · refine vv_iconst (v := 0) F dX8_in_17 (by decide) ?_
    exact vv_zret F hR dX8_in_18 rfl (vv_bf (fun z => z.1 h_1)) rfl
  · refine vv_lload_n F dX8_in_6 rfl rfl ?_
    refine vv_lload F dX8_in_7 rfl ?_
    refine vv_lcmp_gt (tgt := 17) F dX8_in_9 dX8_in_10 (by decide) (fun h_2 => ?_) (fun h_2 => ?_)
    · refine vv_iconst (v := 0) F dX8_in_17 (by decide) ?_
      exact vv_zret F hR dX8_in_18 rfl (vv_bf (fun z => (fun z => z h_2) z.2)) rfl
    · refine vv_iconst (v := 1) F dX8_in_13 (by decide) ?_
      refine vv_goto (tgt := 18) F dX8_in_14 (by decide) ?_
      exact vv_zret F hR dX8_in_18 rfl (vv_bt ⟨h_1, h_2⟩) rfl
abbrev p_X8_has (s k : Int32) : Prop := (((s >>> (k &&& 31)) &&& 1) = 1)
theorem c_X8_has (l : Launch) (K : vv_K) (s k : Int32)  : vv_C l K 1 yX8_has cX8_has 2 (some .boolean) [.int s, .int k] [] (some (.int (vv_b (p_X8_has s k)))) [] := by
  refine vv_C.of (lv := [(0, .int s), (1, .int k)]) (by decide +kernel) (Nat.le_of_ble_eq_true rfl) rfl ?_
  intro x hl hK F hR; subst hl; obtain rfl := hK
  refine vv_iload_n F dX8_has_0 rfl rfl ?_
  refine vv_iload_n F dX8_has_1 rfl rfl ?_
  refine vv_ishr F dX8_has_2 ?_
  refine vv_iconst (v := 1) F dX8_has_3 (by decide) ?_
  refine vv_iand F dX8_has_4 ?_
  refine vv_iconst (v := 1) F dX8_has_5 (by decide) ?_
  refine vv_icmp_ne (tgt := 13) F dX8_has_6 (by decide) (fun h_1 => ?_) (fun h_1 => ?_)
  · refine vv_iconst (v := 0) F dX8_has_13 (by decide) ?_
    exact vv_zret F hR dX8_has_14 rfl (vv_bf h_1) rfl
  · refine vv_iconst (v := 1) F dX8_has_9 (by decide) ?_
    refine vv_goto (tgt := 14) F dX8_has_10 (by decide) ?_
    exact vv_zret F hR dX8_has_14 rfl (vv_bt h_1) rfl
theorem c_X8_isHouse (l : Launch) (K : vv_K) (v : Int32)  : vv_C l K 2 yX8_isHouse cX8_isHouse 1 (some .boolean) [.int v] [] (some (.int (vv_b (p_X8_in v.toInt64 0 1)))) [] := by
  refine vv_C.of (lv := [(0, .int v)]) (by decide +kernel) (Nat.le_of_ble_eq_true rfl) rfl ?_
  intro x hl hK F hR; subst hl; obtain rfl := hK
  refine vv_iload_n F dX8_isHouse_0 rfl rfl ?_
  refine vv_i2l F dX8_isHouse_1 ?_
  refine vv_lconst (v := 0) F dX8_isHouse_2 (by decide) ?_
  refine vv_lconst (v := 1) F dX8_isHouse_3 (by decide) ?_
  refine vv_callSp (As := [.long v.toInt64, .long 0, .long 1]) (rest := []) [] F (c_X8_in (vv_l x) (vv_k x) v.toInt64 0 1) ms_X8_56 dX8_isHouse_4 (by decide) rfl rfl (Nat.le_of_ble_eq_true rfl) rfl (by decide) ?_
  exact vv_zret F hR dX8_isHouse_7 (vv_b_nar _) rfl rfl
noncomputable def f_X8_silk (n h : Int32) : Int32 := (if h < 6 then 0 else (if h < 18 then n else 0))
theorem c_X8_silk (l : Launch) (K : vv_K) (n h : Int32)  : vv_C l K 1 yX8_silk cX8_silk 2 (some .int) [.int n, .int h] [] (some (.int (f_X8_silk n h))) [] := by
  refine vv_C.of (lv := [(0, .int n), (1, .int h)]) (by decide +kernel) (Nat.le_of_ble_eq_true rfl) rfl ?_
  intro x hl hK F hR; subst hl; obtain rfl := hK
  refine vv_iload_n F dX8_silk_0 rfl rfl ?_
  refine vv_bipush (v := 6) F dX8_silk_1 (by decide) ?_
  refine vv_icmp_lt (tgt := 12) F dX8_silk_3 (by decide) (fun h_1 => ?_) (fun h_1 => ?_)
  · refine vv_iconst (v := 0) F dX8_silk_12 (by decide) ?_
    refine vv_goto (tgt := 17) F dX8_silk_13 (by decide) ?_
    exact vv_iret F hR dX8_silk_17 (congrArg (fun z => some (Value.int z)) ((if_pos h_1).trans rfl)) rfl
  · refine vv_iload_n F dX8_silk_6 rfl rfl ?_
    refine vv_bipush (v := 18) F dX8_silk_7 (by decide) ?_
    refine vv_icmp_lt (tgt := 16) F dX8_silk_9 (by decide) (fun h_2 => ?_) (fun h_2 => ?_)
    · refine vv_iload_n F dX8_silk_16 rfl rfl ?_
      exact vv_iret F hR dX8_silk_17 (congrArg (fun z => some (Value.int z)) ((if_neg h_1).trans ((if_pos h_2).trans rfl))) rfl
    · refine vv_iconst (v := 0) F dX8_silk_12 (by decide) ?_
      refine vv_goto (tgt := 17) F dX8_silk_13 (by decide) ?_
      exact vv_iret F hR dX8_silk_17 (congrArg (fun z => some (Value.int z)) ((if_neg h_1).trans ((if_neg h_2).trans rfl))) rfl
noncomputable def f_X8_showOf (k n h : Int32) : Int32 := (if k = 1 then (f_X8_silk n h) else (if k = 2 then (if n ≤ 10 then n else 10) else (if k = 3 then (n + 5) else (if k = 4 then (((f_X8_silk n h) + 1) / 2) else (if k = 5 then (if (2 * (n + 5)) ≤ 99 then (2 * (n + 5)) else 99) else n)))))
theorem c_X8_showOf (l : Launch) (K : vv_K) (k n h : Int32)  : vv_C l K 2 yX8_showOf cX8_showOf 3 (some .int) [.int k, .int n, .int h] [] (some (.int (f_X8_showOf k n h))) [] := by
  refine vv_C.of (lv := [(0, .int k), (1, .int n), (2, .int h)]) (by decide +kernel) (Nat.le_of_ble_eq_true rfl) rfl ?_
  intro x hl hK F hR; subst hl; obtain rfl := hK
  refine vv_iload_n F dX8_showOf_0 rfl rfl ?_
  by_cases h_1 : k = 1
  · refine vv_tabIn (tgt := 36) (off := 35) F dX8_showOf_1 (by rw [h_1]; decide) (by rw [h_1]; decide) (by rw [h_1]; rfl) (by decide) ?_
    refine vv_iload_n F dX8_showOf_36 rfl rfl ?_
    refine vv_iload_n F dX8_showOf_37 rfl rfl ?_
    refine vv_callSp (As := [.int n, .int h]) (rest := []) [] F (c_X8_silk (vv_l x) (vv_k x) n h) ms_X8_60 dX8_showOf_38 (by decide) rfl rfl (Nat.le_of_ble_eq_true rfl) rfl (by decide) ?_
    exact vv_iret F hR dX8_showOf_41 (congrArg (fun z => some (Value.int z)) ((if_pos h_1).trans rfl)) rfl
  · by_cases h_2 : k = 2
    · refine vv_tabIn (tgt := 42) (off := 41) F dX8_showOf_1 (by rw [h_2]; decide) (by rw [h_2]; decide) (by rw [h_2]; rfl) (by decide) ?_
      refine vv_iload_n F dX8_showOf_42 rfl rfl ?_
      refine vv_bipush (v := 10) F dX8_showOf_43 (by decide) ?_
      refine vv_icmp_le (tgt := 53) F dX8_showOf_45 (by decide) (fun h_3 => ?_) (fun h_3 => ?_)
      · refine vv_iload_n F dX8_showOf_53 rfl rfl ?_
        exact vv_iret F hR dX8_showOf_54 (congrArg (fun z => some (Value.int z)) ((if_neg h_1).trans ((if_pos h_2).trans ((if_pos h_3).trans rfl)))) rfl
      · refine vv_bipush (v := 10) F dX8_showOf_48 (by decide) ?_
        refine vv_goto (tgt := 54) F dX8_showOf_50 (by decide) ?_
        exact vv_iret F hR dX8_showOf_54 (congrArg (fun z => some (Value.int z)) ((if_neg h_1).trans ((if_pos h_2).trans ((if_neg h_3).trans rfl)))) rfl
    · by_cases h_4 : k = 3
      · refine vv_tabIn (tgt := 55) (off := 54) F dX8_showOf_1 (by rw [h_4]; decide) (by rw [h_4]; decide) (by rw [h_4]; rfl) (by decide) ?_
        refine vv_iload_n F dX8_showOf_55 rfl rfl ?_
        refine vv_iconst (v := 5) F dX8_showOf_56 (by decide) ?_
        refine vv_iadd F dX8_showOf_57 ?_
        exact vv_iret F hR dX8_showOf_58 (congrArg (fun z => some (Value.int z)) ((if_neg h_1).trans ((if_neg h_2).trans ((if_pos h_4).trans rfl)))) rfl
      · by_cases h_5 : k = 4
        · refine vv_tabIn (tgt := 59) (off := 58) F dX8_showOf_1 (by rw [h_5]; decide) (by rw [h_5]; decide) (by rw [h_5]; rfl) (by decide) ?_
          refine vv_iload_n F dX8_showOf_59 rfl rfl ?_
          refine vv_iload_n F dX8_showOf_60 rfl rfl ?_
          refine vv_callSp (As := [.int n, .int h]) (rest := []) [] F (c_X8_silk (vv_l x) (vv_k x) n h) ms_X8_60 dX8_showOf_61 (by decide) rfl rfl (Nat.le_of_ble_eq_true rfl) rfl (by decide) ?_
          refine vv_iconst (v := 1) F dX8_showOf_64 (by decide) ?_
          refine vv_iadd F dX8_showOf_65 ?_
          refine vv_iconst (v := 2) F dX8_showOf_66 (by decide) ?_
          refine vv_idiv F dX8_showOf_67 (by decide) ?_
          exact vv_iret F hR dX8_showOf_68 (congrArg (fun z => some (Value.int z)) ((if_neg h_1).trans ((if_neg h_2).trans ((if_neg h_4).trans ((if_pos h_5).trans rfl))))) rfl
        · by_cases h_6 : k = 5
          · refine vv_tabIn (tgt := 69) (off := 68) F dX8_showOf_1 (by rw [h_6]; decide) (by rw [h_6]; decide) (by rw [h_6]; rfl) (by decide) ?_
            refine vv_iconst (v := 2) F dX8_showOf_69 (by decide) ?_
            refine vv_iload_n F dX8_showOf_70 rfl rfl ?_
            refine vv_iconst (v := 5) F dX8_showOf_71 (by decide) ?_
            refine vv_iadd F dX8_showOf_72 ?_
            refine vv_imul F dX8_showOf_73 ?_
            refine vv_bipush (v := 99) F dX8_showOf_74 (by decide) ?_
            refine vv_icmp_le (tgt := 84) F dX8_showOf_76 (by decide) (fun h_7 => ?_) (fun h_7 => ?_)
            · refine vv_iconst (v := 2) F dX8_showOf_84 (by decide) ?_
              refine vv_iload_n F dX8_showOf_85 rfl rfl ?_
              refine vv_iconst (v := 5) F dX8_showOf_86 (by decide) ?_
              refine vv_iadd F dX8_showOf_87 ?_
              refine vv_imul F dX8_showOf_88 ?_
              exact vv_iret F hR dX8_showOf_89 (congrArg (fun z => some (Value.int z)) ((if_neg h_1).trans ((if_neg h_2).trans ((if_neg h_4).trans ((if_neg h_5).trans ((if_pos h_6).trans ((if_pos h_7).trans rfl))))))) rfl
            · refine vv_bipush (v := 99) F dX8_showOf_79 (by decide) ?_
              refine vv_goto (tgt := 89) F dX8_showOf_81 (by decide) ?_
              exact vv_iret F hR dX8_showOf_89 (congrArg (fun z => some (Value.int z)) ((if_neg h_1).trans ((if_neg h_2).trans ((if_neg h_4).trans ((if_neg h_5).trans ((if_pos h_6).trans ((if_neg h_7).trans rfl))))))) rfl
          · refine vv_tabOut (tgt := 90) F dX8_showOf_1 (by have h_1i : ¬ k.toInt = 1 := vv_ne h_1; have h_2i : ¬ k.toInt = 2 := vv_ne h_2; have h_4i : ¬ k.toInt = 3 := vv_ne h_4; have h_5i : ¬ k.toInt = 4 := vv_ne h_5; have h_6i : ¬ k.toInt = 5 := vv_ne h_6; omega) (by decide) ?_
            refine vv_iload_n F dX8_showOf_90 rfl rfl ?_
            exact vv_iret F hR dX8_showOf_91 (congrArg (fun z => some (Value.int z)) ((if_neg h_1).trans ((if_neg h_2).trans ((if_neg h_4).trans ((if_neg h_5).trans ((if_neg h_6).trans rfl)))))) rfl
theorem c_X8_plain (l : Launch) (K : vv_K) (s : Int32)  : vv_C l K 1 yX8_plain cX8_plain 1 (some .int) [.int s] [] (some (.int ((s + 1) / 2))) [] := by
  refine vv_C.of (lv := [(0, .int s)]) (by decide +kernel) (Nat.le_of_ble_eq_true rfl) rfl ?_
  intro x hl hK F hR; subst hl; obtain rfl := hK
  refine vv_iload_n F dX8_plain_0 rfl rfl ?_
  refine vv_iconst (v := 1) F dX8_plain_1 (by decide) ?_
  refine vv_iadd F dX8_plain_2 ?_
  refine vv_iconst (v := 2) F dX8_plain_3 (by decide) ?_
  refine vv_idiv F dX8_plain_4 (by decide) ?_
  exact vv_iret F hR dX8_plain_5 rfl rfl
theorem c_X8_steep (l : Launch) (K : vv_K) (s : Int32)  : vv_C l K 2 yX8_steep cX8_steep 1 (some .int) [.int s] [] (some (.int (((s + 1) / 2) + (s / 10)))) [] := by
  refine vv_C.of (lv := [(0, .int s)]) (by decide +kernel) (Nat.le_of_ble_eq_true rfl) rfl ?_
  intro x hl hK F hR; subst hl; obtain rfl := hK
  refine vv_iload_n F dX8_steep_0 rfl rfl ?_
  refine vv_callSp (As := [.int s]) (rest := []) [] F (c_X8_plain (vv_l x) (vv_k x) s) ms_X8_64 dX8_steep_1 (by decide) rfl rfl (Nat.le_of_ble_eq_true rfl) rfl (by decide) ?_
  refine vv_iload_n F dX8_steep_4 rfl rfl ?_
  refine vv_bipush (v := 10) F dX8_steep_5 (by decide) ?_
  refine vv_idiv F dX8_steep_7 (by decide) ?_
  refine vv_iadd F dX8_steep_8 ?_
  exact vv_iret F hR dX8_steep_9 rfl rfl
noncomputable def f_X8_greedy (s : Int32) : Int32 := (if s < 1 then ((s + 1) / 2) else (((s + 1) / 2) + 3))
theorem c_X8_greedy (l : Launch) (K : vv_K) (s : Int32)  : vv_C l K 2 yX8_greedy cX8_greedy 1 (some .int) [.int s] [] (some (.int (f_X8_greedy s))) [] := by
  refine vv_C.of (lv := [(0, .int s)]) (by decide +kernel) (Nat.le_of_ble_eq_true rfl) rfl ?_
  intro x hl hK F hR; subst hl; obtain rfl := hK
  refine vv_iload_n F dX8_greedy_0 rfl rfl ?_
  refine vv_iconst (v := 1) F dX8_greedy_1 (by decide) ?_
  refine vv_icmp_lt (tgt := 14) F dX8_greedy_2 (by decide) (fun h_1 => ?_) (fun h_1 => ?_)
  · refine vv_iload_n F dX8_greedy_14 rfl rfl ?_
    refine vv_callSp (As := [.int s]) (rest := []) [] F (c_X8_plain (vv_l x) (vv_k x) s) ms_X8_64 dX8_greedy_15 (by decide) rfl rfl (Nat.le_of_ble_eq_true rfl) rfl (by decide) ?_
    exact vv_iret F hR dX8_greedy_18 (congrArg (fun z => some (Value.int z)) ((if_pos h_1).trans rfl)) rfl
  · refine vv_iload_n F dX8_greedy_5 rfl rfl ?_
    refine vv_callSp (As := [.int s]) (rest := []) [] F (c_X8_plain (vv_l x) (vv_k x) s) ms_X8_64 dX8_greedy_6 (by decide) rfl rfl (Nat.le_of_ble_eq_true rfl) rfl (by decide) ?_
    refine vv_iconst (v := 3) F dX8_greedy_9 (by decide) ?_
    refine vv_iadd F dX8_greedy_10 ?_
    refine vv_goto (tgt := 18) F dX8_greedy_11 (by decide) ?_
    exact vv_iret F hR dX8_greedy_18 (congrArg (fun z => some (Value.int z)) ((if_neg h_1).trans rfl)) rfl
noncomputable def f_X8_chargeOf (k s dy : Int32) : Int32 := (if k = 1 then (((s + 1) / 2) + (s / 10)) else (if k = 2 then (if (vv_rem dy 7) = 0 then 0 else ((s + 1) / 2)) else (if k = 3 then (f_X8_greedy s) else (if k = 4 then (if (((s + 1) / 2) + (s / 10)) ≤ 25 then (((s + 1) / 2) + (s / 10)) else 25) else (if k = 5 then ((((f_X8_greedy s) + 4) / 5) * 5) else ((s + 1) / 2))))))
theorem c_X8_chargeOf (l : Launch) (K : vv_K) (k s dy : Int32)  : vv_C l K 3 yX8_chargeOf cX8_chargeOf 3 (some .int) [.int k, .int s, .int dy] [] (some (.int (f_X8_chargeOf k s dy))) [] := by
  refine vv_C.of (lv := [(0, .int k), (1, .int s), (2, .int dy)]) (by decide +kernel) (Nat.le_of_ble_eq_true rfl) rfl ?_
  intro x hl hK F hR; subst hl; obtain rfl := hK
  refine vv_iload_n F dX8_chargeOf_0 rfl rfl ?_
  by_cases h_1 : k = 1
  · refine vv_tabIn (tgt := 36) (off := 35) F dX8_chargeOf_1 (by rw [h_1]; decide) (by rw [h_1]; decide) (by rw [h_1]; rfl) (by decide) ?_
    refine vv_iload_n F dX8_chargeOf_36 rfl rfl ?_
    refine vv_callSp (As := [.int s]) (rest := []) [] F (c_X8_steep (vv_l x) (vv_k x) s) ms_X8_68 dX8_chargeOf_37 (by decide) rfl rfl (Nat.le_of_ble_eq_true rfl) rfl (by decide) ?_
    exact vv_iret F hR dX8_chargeOf_40 (congrArg (fun z => some (Value.int z)) ((if_pos h_1).trans rfl)) rfl
  · by_cases h_2 : k = 2
    · refine vv_tabIn (tgt := 41) (off := 40) F dX8_chargeOf_1 (by rw [h_2]; decide) (by rw [h_2]; decide) (by rw [h_2]; rfl) (by decide) ?_
      refine vv_iload_n F dX8_chargeOf_41 rfl rfl ?_
      refine vv_bipush (v := 7) F dX8_chargeOf_42 (by decide) ?_
      refine vv_iremR F dX8_chargeOf_44 (by decide) ?_
      refine vv_if_ne (tgt := 52) F dX8_chargeOf_45 (by decide) (fun h_3 => ?_) (fun h_3 => ?_)
      · refine vv_iload_n F dX8_chargeOf_52 rfl rfl ?_
        refine vv_callSp (As := [.int s]) (rest := []) [] F (c_X8_plain (vv_l x) (vv_k x) s) ms_X8_64 dX8_chargeOf_53 (by decide) rfl rfl (Nat.le_of_ble_eq_true rfl) rfl (by decide) ?_
        exact vv_iret F hR dX8_chargeOf_56 (congrArg (fun z => some (Value.int z)) ((if_neg h_1).trans ((if_pos h_2).trans ((if_neg h_3).trans rfl)))) rfl
      · refine vv_iconst (v := 0) F dX8_chargeOf_48 (by decide) ?_
        refine vv_goto (tgt := 56) F dX8_chargeOf_49 (by decide) ?_
        exact vv_iret F hR dX8_chargeOf_56 (congrArg (fun z => some (Value.int z)) ((if_neg h_1).trans ((if_pos h_2).trans ((if_pos h_3).trans rfl)))) rfl
    · by_cases h_4 : k = 3
      · refine vv_tabIn (tgt := 57) (off := 56) F dX8_chargeOf_1 (by rw [h_4]; decide) (by rw [h_4]; decide) (by rw [h_4]; rfl) (by decide) ?_
        refine vv_iload_n F dX8_chargeOf_57 rfl rfl ?_
        refine vv_callSp (As := [.int s]) (rest := []) [] F (c_X8_greedy (vv_l x) (vv_k x) s) ms_X8_71 dX8_chargeOf_58 (by decide) rfl rfl (Nat.le_of_ble_eq_true rfl) rfl (by decide) ?_
        exact vv_iret F hR dX8_chargeOf_61 (congrArg (fun z => some (Value.int z)) ((if_neg h_1).trans ((if_neg h_2).trans ((if_pos h_4).trans rfl)))) rfl
      · by_cases h_5 : k = 4
        · refine vv_tabIn (tgt := 62) (off := 61) F dX8_chargeOf_1 (by rw [h_5]; decide) (by rw [h_5]; decide) (by rw [h_5]; rfl) (by decide) ?_
          refine vv_iload_n F dX8_chargeOf_62 rfl rfl ?_
          refine vv_callSp (As := [.int s]) (rest := []) [] F (c_X8_steep (vv_l x) (vv_k x) s) ms_X8_68 dX8_chargeOf_63 (by decide) rfl rfl (Nat.le_of_ble_eq_true rfl) rfl (by decide) ?_
          refine vv_bipush (v := 25) F dX8_chargeOf_66 (by decide) ?_
          refine vv_icmp_le (tgt := 76) F dX8_chargeOf_68 (by decide) (fun h_6 => ?_) (fun h_6 => ?_)
          · refine vv_iload_n F dX8_chargeOf_76 rfl rfl ?_
            refine vv_callSp (As := [.int s]) (rest := []) [] F (c_X8_steep (vv_l x) (vv_k x) s) ms_X8_68 dX8_chargeOf_77 (by decide) rfl rfl (Nat.le_of_ble_eq_true rfl) rfl (by decide) ?_
            exact vv_iret F hR dX8_chargeOf_80 (congrArg (fun z => some (Value.int z)) ((if_neg h_1).trans ((if_neg h_2).trans ((if_neg h_4).trans ((if_pos h_5).trans ((if_pos h_6).trans rfl)))))) rfl
          · refine vv_bipush (v := 25) F dX8_chargeOf_71 (by decide) ?_
            refine vv_goto (tgt := 80) F dX8_chargeOf_73 (by decide) ?_
            exact vv_iret F hR dX8_chargeOf_80 (congrArg (fun z => some (Value.int z)) ((if_neg h_1).trans ((if_neg h_2).trans ((if_neg h_4).trans ((if_pos h_5).trans ((if_neg h_6).trans rfl)))))) rfl
        · by_cases h_7 : k = 5
          · refine vv_tabIn (tgt := 81) (off := 80) F dX8_chargeOf_1 (by rw [h_7]; decide) (by rw [h_7]; decide) (by rw [h_7]; rfl) (by decide) ?_
            refine vv_iload_n F dX8_chargeOf_81 rfl rfl ?_
            refine vv_callSp (As := [.int s]) (rest := []) [] F (c_X8_greedy (vv_l x) (vv_k x) s) ms_X8_71 dX8_chargeOf_82 (by decide) rfl rfl (Nat.le_of_ble_eq_true rfl) rfl (by decide) ?_
            refine vv_iconst (v := 4) F dX8_chargeOf_85 (by decide) ?_
            refine vv_iadd F dX8_chargeOf_86 ?_
            refine vv_iconst (v := 5) F dX8_chargeOf_87 (by decide) ?_
            refine vv_idiv F dX8_chargeOf_88 (by decide) ?_
            refine vv_iconst (v := 5) F dX8_chargeOf_89 (by decide) ?_
            refine vv_imul F dX8_chargeOf_90 ?_
            exact vv_iret F hR dX8_chargeOf_91 (congrArg (fun z => some (Value.int z)) ((if_neg h_1).trans ((if_neg h_2).trans ((if_neg h_4).trans ((if_neg h_5).trans ((if_pos h_7).trans rfl)))))) rfl
          · refine vv_tabOut (tgt := 92) F dX8_chargeOf_1 (by have h_1i : ¬ k.toInt = 1 := vv_ne h_1; have h_2i : ¬ k.toInt = 2 := vv_ne h_2; have h_4i : ¬ k.toInt = 3 := vv_ne h_4; have h_5i : ¬ k.toInt = 4 := vv_ne h_5; have h_7i : ¬ k.toInt = 5 := vv_ne h_7; omega) (by decide) ?_
            refine vv_iload_n F dX8_chargeOf_92 rfl rfl ?_
            refine vv_callSp (As := [.int s]) (rest := []) [] F (c_X8_plain (vv_l x) (vv_k x) s) ms_X8_64 dX8_chargeOf_93 (by decide) rfl rfl (Nat.le_of_ble_eq_true rfl) rfl (by decide) ?_
            exact vv_iret F hR dX8_chargeOf_96 (congrArg (fun z => some (Value.int z)) ((if_neg h_1).trans ((if_neg h_2).trans ((if_neg h_4).trans ((if_neg h_5).trans ((if_neg h_7).trans rfl)))))) rfl
noncomputable def f_X8_bringsBy (n ln : Int32) : Int32 := (if n < ln then 0 else ((n + 1) - ln))
theorem c_X8_bringsBy (l : Launch) (K : vv_K) (n ln : Int32)  : vv_C l K 1 yX8_bringsBy cX8_bringsBy 2 (some .int) [.int n, .int ln] [] (some (.int (f_X8_bringsBy n ln))) [] := by
  refine vv_C.of (lv := [(0, .int n), (1, .int ln)]) (by decide +kernel) (Nat.le_of_ble_eq_true rfl) rfl ?_
  intro x hl hK F hR; subst hl; obtain rfl := hK
  refine vv_iload_n F dX8_bringsBy_0 rfl rfl ?_
  refine vv_iload_n F dX8_bringsBy_1 rfl rfl ?_
  refine vv_icmp_lt (tgt := 13) F dX8_bringsBy_2 (by decide) (fun h_1 => ?_) (fun h_1 => ?_)
  · refine vv_iconst (v := 0) F dX8_bringsBy_13 (by decide) ?_
    exact vv_iret F hR dX8_bringsBy_14 (congrArg (fun z => some (Value.int z)) ((if_pos h_1).trans rfl)) rfl
  · refine vv_iload_n F dX8_bringsBy_5 rfl rfl ?_
    refine vv_iconst (v := 1) F dX8_bringsBy_6 (by decide) ?_
    refine vv_iadd F dX8_bringsBy_7 ?_
    refine vv_iload_n F dX8_bringsBy_8 rfl rfl ?_
    refine vv_isub F dX8_bringsBy_9 ?_
    refine vv_goto (tgt := 14) F dX8_bringsBy_10 (by decide) ?_
    exact vv_iret F hR dX8_bringsBy_14 (congrArg (fun z => some (Value.int z)) ((if_neg h_1).trans rfl)) rfl
