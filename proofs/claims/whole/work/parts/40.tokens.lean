def tokv (c : Int32) : Int32 := (if c < 97 then (if c < 48 then (if c = 59 then 3 else (if c = 32 then 4 else 5)) else (if 57 < c then (if c = 59 then 3 else (if c = 32 then 4 else 5)) else 2)) else (if 122 < c then (if c < 48 then (if c = 59 then 3 else (if c = 32 then 4 else 5)) else (if 57 < c then (if c = 59 then 3 else (if c = 32 then 4 else 5)) else 2)) else 1))
theorem tk_tab : ∀ k, k < 128 → ((tokv (nI k) = 1 ↔ p_X8_in (nI k).toInt64 97 122) ∧ (tokv (nI k) = 2 ↔ p_X8_in (nI k).toInt64 48 57) ∧ (tokv (nI k) = 3 ↔ nI k = 59) ∧ (tokv (nI k) = 4 ↔ nI k = 32) ∧ ¬ tokv (nI k) = 0) := by decide +kernel
def TxO (tl : Int32) (by_ tx : Nat → Int32) (t : Nat) : Prop := tl.toInt = (t : Int) ∧ t ≤ 150 ∧ ∀ i, i < t → by_ i = tx i ∧ 0 ≤ (tx i).toInt ∧ (tx i).toInt ≤ 127
theorem by_in {tl : Int32} {tx : Nat → Int32} {t q : Nat} (ht : tl.toInt = (t : Int)) (h : q < t) (hq : q < 2147483648) : f_X8_byteAt tl tx (nI q) q = tx q := if_neg (fun z => by have := (c_le ht (nI_toInt hq)).mp z; omega)
theorem tk_val {tl : Int32} {by_ tx : Nat → Int32} {t q : Nat} (h : TxO tl by_ tx t) (hq : q < 1000) : (f_X5_tokenAt tl by_ (nI q) q = 1 ↔ wQ tl tx q = true) ∧ (f_X5_tokenAt tl by_ (nI q) q = 2 ↔ dQ tl tx q = true) ∧ (f_X5_tokenAt tl by_ (nI q) q = 3 ↔ f_X8_byteAt tl tx (nI q) q = 59) ∧ (f_X5_tokenAt tl by_ (nI q) q = 4 ↔ bQ tl tx q = true) ∧ (f_X5_tokenAt tl by_ (nI q) q = 0 ↔ t ≤ q) := by
  obtain ⟨ht, htt, hb⟩ := h
  have n0 : ¬ nI q < 0 := nI_pos (by omega)
  unfold wQ dQ bQ
  rw [decide_eq_true_eq, decide_eq_true_eq, decide_eq_true_eq]
  by_cases z : q < t
  · have e : f_X5_tokenAt tl by_ (nI q) q = tokv (tx q) := by
      have n1 : ¬ tl ≤ nI q := fun y => by have := (c_le ht (nI_toInt (by omega))).mp y; omega
      have n2 : nI q < 150 := (nI_ltI (a := q) (b := 150) (by omega) (by omega)).mpr (by omega)
      unfold f_X5_tokenAt tokv
      rw [if_neg n0, if_neg n1, if_pos n2, (hb q z).1]
    rw [e, by_in ht z (by omega)]
    obtain ⟨-, b1, b2⟩ := hb q z
    have k0 := nn_cl b1
    have k1 : tx q = nI (tx q).toNatClampNeg := nn_eq k0 (by omega)
    have tb := tk_tab (tx q).toNatClampNeg (by omega)
    rw [← k1] at tb
    exact ⟨tb.1, tb.2.1, tb.2.2.1, tb.2.2.2.1, ⟨fun y => absurd y tb.2.2.2.2, fun y => absurd z (by omega)⟩⟩
  · have e : f_X5_tokenAt tl by_ (nI q) q = 0 := by
      unfold f_X5_tokenAt
      rw [if_neg n0, if_pos ((c_le ht (nI_toInt (by omega))).mpr (by omega))]
    rw [e, by_end ht (by omega) (by omega)]
    exact ⟨⟨fun y => absurd y (by decide), fun y => absurd y (by decide)⟩, ⟨fun y => absurd y (by decide), fun y => absurd y (by decide)⟩, ⟨fun y => absurd y (by decide), fun y => absurd y (by decide)⟩, ⟨fun y => absurd y (by decide), fun y => absurd y (by decide)⟩, ⟨fun _ => by omega, fun _ => rfl⟩⟩
theorem tQ_eq {tl : Int32} {by_ tx : Nat → Int32} {t q : Nat} (h : TxO tl by_ tx t) (hq : q < 1000) {c : Int32} (hc : ¬ c = 0) : tQ tl by_ c q = true ↔ f_X5_tokenAt tl by_ (nI q) q = c := by
  unfold tQ
  rw [decide_eq_true_eq]
  refine ⟨fun y => y.2, fun y => ⟨fun w => hc ?_, y⟩⟩
  have := (c_le h.1 (nI_toInt (by omega))).mp w
  rw [← y]; exact (tk_val h hq).2.2.2.2.mpr this
theorem tQ_b {tl : Int32} {by_ tx : Nat → Int32} {t q : Nat} (h : TxO tl by_ tx t) (hq : q < 1000) : tQ tl by_ 4 q = bQ tl tx q := Bool.eq_iff_iff.mpr ((tQ_eq h hq (by decide)).trans (tk_val h hq).2.2.2.1)
theorem tQ_w {tl : Int32} {by_ tx : Nat → Int32} {t q : Nat} (h : TxO tl by_ tx t) (hq : q < 1000) : tQ tl by_ 1 q = wQ tl tx q := Bool.eq_iff_iff.mpr ((tQ_eq h hq (by decide)).trans (tk_val h hq).1)
theorem tQ_d {tl : Int32} {by_ tx : Nat → Int32} {t q : Nat} (h : TxO tl by_ tx t) (hq : q < 1000) : tQ tl by_ 2 q = dQ tl tx q := Bool.eq_iff_iff.mpr ((tQ_eq h hq (by decide)).trans (tk_val h hq).2.1)
theorem skp_cg {Q R : Nat → Bool} : ∀ (n p : Nat), (∀ q, p ≤ q → q < p + n → Q q = R q) → skp Q n p = skp R n p
  | 0, p, _ => by rw [skp_0, skp_0]
  | n + 1, p, h => by
    have e := h p (by omega) (by omega)
    by_cases z : Q p = true
    · rw [skp_t z, skp_t (e ▸ z)]; exact skp_cg n (p + 1) fun q h1 h2 => h q (by omega) (by omega)
    · rw [skp_f z, skp_f (e ▸ z)]
theorem skp_fu {Q : Nat → Bool} {t : Nat} (hQ : ∀ q, q < 1000 → Q q = true → q < t) : ∀ (n m p : Nat), t ≤ p + n → t ≤ p + m → p < 1000 → t < 900 → skp Q n p = skp Q m p
  | 0, m, p, h1, h2, h3, h4 => by
    have z : ¬ Q p = true := fun z => by have := hQ p h3 z; omega
    rw [skp_f z, skp_f z]
  | n + 1, m, p, h1, h2, h3, h4 => by
    by_cases z : Q p = true
    · have := hQ p h3 z
      obtain ⟨m', rfl⟩ : ∃ m', m = m' + 1 := ⟨m - 1, by omega⟩
      rw [skp_t z, skp_t z]; exact skp_fu hQ n m' (p + 1) (by omega) (by omega) (by omega) h4
    · rw [skp_f z, skp_f z]
theorem skp_no {Q : Nat → Bool} {t : Nat} (hQ : ∀ q, q < 1000 → Q q = true → q < t) : ∀ (n p : Nat), t ≤ p + n → p < 1000 → t < 900 → ¬ Q (skp Q n p) = true
  | 0, p, h1, h3, h4 => by rw [skp_0]; intro z; have := hQ p h3 z; omega
  | n + 1, p, h1, h3, h4 => by
    by_cases z : Q p = true
    · have := hQ p h3 z
      rw [skp_t z]; exact skp_no hQ n (p + 1) (by omega) (by omega) h4
    · rw [skp_f z]; exact z
theorem dgs_1 {td : Int32} {tx : Nat → Int32} {s : Nat} : ∀ (n p : Nat) (nb : Int32), (dgs td tx s n p nb).1 = skp (dQ td tx) n p
  | 0, p, nb => by rw [dgs_0, skp_0]
  | n + 1, p, nb => by
    by_cases z : dQ td tx p = true
    · rw [dgs_t z, skp_t z]; exact dgs_1 n (p + 1) _
    · rw [dgs_f z, skp_f z]
theorem wQ_b {tl : Int32} {tx : Nat → Int32} {t : Nat} (ht : tl.toInt = (t : Int)) : ∀ q, q < 1000 → wQ tl tx q = true → q < t := fun q h1 h2 => wQ_lt ht (by omega) h2
theorem dQ_b {tl : Int32} {tx : Nat → Int32} {t : Nat} (ht : tl.toInt = (t : Int)) : ∀ q, q < 1000 → dQ tl tx q = true → q < t := fun q h1 h2 => dQ_lt ht (by omega) h2
theorem bQ_b {tl : Int32} {tx : Nat → Int32} {t : Nat} (ht : tl.toInt = (t : Int)) : ∀ q, q < 1000 → bQ tl tx q = true → q < t := fun q h1 h2 => bQ_lt ht (by omega) h2
/-! where a token begins, what it is, where it ends -/
theorem ad_S {tl : Int32} {by_ tx : Nat → Int32} {t p : Nat} (h : TxO tl by_ tx t) (hp : p ≤ t) : adS tl by_ t p = blk tl tx t p := by
  have htt := h.2.1
  exact skp_cg t p fun q _ h2 => tQ_b h (by omega)
theorem S_le {tl : Int32} {by_ tx : Nat → Int32} {t p : Nat} (h : TxO tl by_ tx t) (hp : p ≤ t) : p ≤ blk tl tx t p ∧ blk tl tx t p ≤ t := by
  have htt := h.2.1
  have := blk_le (tx := tx) (p := p) h.1 htt (by omega); omega
theorem S_nb {tl : Int32} {by_ tx : Nat → Int32} {t p : Nat} (h : TxO tl by_ tx t) (hp : p ≤ t) : ¬ bQ tl tx (blk tl tx t p) = true := by
  have htt := h.2.1
  exact skp_no (bQ_b h.1) t p (by omega) (by omega) (by omega)
theorem S_id {tl : Int32} {by_ tx : Nat → Int32} {t p : Nat} (h : TxO tl by_ tx t) (hp : p ≤ t) : blk tl tx t (blk tl tx t p) = blk tl tx t p := skp_f (S_nb h hp)
theorem ad_T {tl : Int32} {by_ tx : Nat → Int32} {t p : Nat} (h : TxO tl by_ tx t) (hp : p ≤ t) : (adT tl by_ t p = 1 ↔ wQ tl tx (blk tl tx t p) = true) ∧ (adT tl by_ t p = 2 ↔ dQ tl tx (blk tl tx t p) = true) ∧ (adT tl by_ t p = 3 ↔ f_X8_byteAt tl tx (nI (blk tl tx t p)) (blk tl tx t p) = 59) ∧ (adT tl by_ t p = 0 ↔ t ≤ blk tl tx t p) := by
  have htt := h.2.1
  have hS := S_le h hp
  have v := tk_val h (q := blk tl tx t p) (by omega)
  unfold adT; rw [ad_S h hp]
  exact ⟨v.1, v.2.1, v.2.2.1, v.2.2.2.2⟩
theorem run_eq {tl : Int32} {by_ tx : Nat → Int32} {t : Nat} (h : TxO tl by_ tx t) {c : Int32} {Q : Nat → Bool} (hQ : ∀ q, q < 1000 → tQ tl by_ c q = Q q) (hb : ∀ q, q < 1000 → Q q = true → q < t) {S : Nat} (hS : S ≤ t) (hs : Q S = true) : tsk tl by_ t c (mn1 S t) = skp Q t S := by
  have htt := h.2.1
  have hl := hb S (by omega) hs
  have e : mn1 S t = S + 1 := by unfold mn1; exact if_neg (by omega)
  obtain ⟨t', ht'⟩ : ∃ t', t = t' + 1 := ⟨t - 1, by omega⟩
  rw [e]
  unfold tsk
  rw [skp_cg (R := Q) t (S + 1) (fun q _ h2 => hQ q (by omega)), show skp Q t S = skp Q (t' + 1) S by rw [← ht'], skp_t hs]
  exact skp_fu hb t t' (S + 1) (by omega) (by omega) (by omega) (by omega)
theorem ad_N1 {tl : Int32} {by_ tx : Nat → Int32} {t p : Nat} (h : TxO tl by_ tx t) (hp : p ≤ t) (z : adT tl by_ t p = 1) : adN tl by_ t p = wlk tl tx t (blk tl tx t p) := by
  unfold adN
  rw [if_pos z, z, ad_S h hp]
  exact run_eq h (fun q hq => tQ_w h hq) (wQ_b h.1) (S_le h hp).2 ((ad_T h hp).1.mp z)
theorem nuP_skp {tl : Int32} {tx : Nat → Int32} {t p : Nat} : nuP tl tx t p = skp (dQ tl tx) t (blk tl tx t p) := dgs_1 t _ 0
theorem ad_N2 {tl : Int32} {by_ tx : Nat → Int32} {t p : Nat} (h : TxO tl by_ tx t) (hp : p ≤ t) (z : adT tl by_ t p = 2) : adN tl by_ t p = nuP tl tx t p := by
  have z1 : ¬ adT tl by_ t p = 1 := fun y => by rw [z] at y; exact absurd y (by decide)
  unfold adN
  rw [if_neg z1, if_pos z, z, ad_S h hp, nuP_skp]
  exact run_eq h (fun q hq => tQ_d h hq) (dQ_b h.1) (S_le h hp).2 ((ad_T h hp).2.1.mp z)
theorem ad_N3 {tl : Int32} {by_ tx : Nat → Int32} {t p : Nat} (h : TxO tl by_ tx t) (hp : p ≤ t) (z : adT tl by_ t p = 3) : adN tl by_ t p = blk tl tx t p + 1 ∧ blk tl tx t p < t := by
  have z1 : ¬ adT tl by_ t p = 1 := fun y => by rw [z] at y; exact absurd y (by decide)
  have z2 : ¬ adT tl by_ t p = 2 := fun y => by rw [z] at y; exact absurd y (by decide)
  have z0 : ¬ adT tl by_ t p = 0 := fun y => by rw [z] at y; exact absurd y (by decide)
  have hl : blk tl tx t p < t := by
    rcases Nat.lt_or_ge (blk tl tx t p) t with y | y
    · exact y
    · exact absurd ((ad_T h hp).2.2.2.mpr y) z0
  refine ⟨?_, hl⟩
  unfold adN
  rw [if_neg z1, if_neg z2, ad_S h hp]
  unfold mn1; exact if_neg (by omega)
theorem wlk_0 {tl : Int32} {by_ tx : Nat → Int32} {t p : Nat} (h : TxO tl by_ tx t) (hp : p ≤ t) (z : ¬ adT tl by_ t p = 1) : wlk tl tx t (blk tl tx t p) = blk tl tx t p := skp_f (mt (ad_T h hp).1.mpr z)
/-! the token's kind, a number -/
theorem av4 {tl : Int32} {by_ : Nat → Int32} {t p : Nat} : g_X5_advance_0_4 tl by_ p t = if adT tl by_ t p = 2 then (if (nI (adN tl by_ t p) - nI (adS tl by_ t p)) ≤ 2 then 2 else 5) else adT tl by_ t p := by
  unfold g_X5_advance_0_4 g_X5_takeFigures_0_4
  by_cases z : adT tl by_ t p = 2
  · have z1 : ¬ adT tl by_ t p = 1 := fun y => by rw [z] at y; exact absurd y (by decide)
    rw [if_neg z1, if_pos z, if_pos z, z]
  · rw [if_neg z, if_neg z, ite_self]
theorem av5 {tl tm : Int32} {by_ : Nat → Int32} {t p : Nat} (z : adT tl by_ t p = 2) : g_X5_advance_0_5 tl tm by_ p t = if (nI (adN tl by_ t p) - nI (adS tl by_ t p)) ≤ 2 then itr (st_X5_takeFigures by_ (adS tl by_ t p)) (adN tl by_ t p - adS tl by_ t p) (adS tl by_ t p) 0 else 0 := by
  have z1 : ¬ adT tl by_ t p = 1 := fun y => by rw [z] at y; exact absurd y (by decide)
  unfold g_X5_advance_0_5 g_X5_takeFigures_0_5
  rw [if_neg z1, if_pos z]
theorem av4_1 {tl : Int32} {by_ : Nat → Int32} {t p : Nat} : g_X5_advance_0_4 tl by_ p t = 1 ↔ adT tl by_ t p = 1 := by
  rw [av4]
  by_cases z : adT tl by_ t p = 2
  · rw [if_pos z, z]
    refine ⟨fun y => ?_, fun y => absurd y (by decide)⟩
    split at y <;> exact absurd y (by decide)
  · rw [if_neg z]
theorem av4_0 {tl : Int32} {by_ : Nat → Int32} {t p : Nat} : g_X5_advance_0_4 tl by_ p t = 0 ↔ adT tl by_ t p = 0 := by
  rw [av4]
  by_cases z : adT tl by_ t p = 2
  · rw [if_pos z, z]
    refine ⟨fun y => ?_, fun y => absurd y (by decide)⟩
    split at y <;> exact absurd y (by decide)
  · rw [if_neg z]
theorem av4_3 {tl : Int32} {by_ : Nat → Int32} {t p : Nat} : g_X5_advance_0_4 tl by_ p t = 3 ↔ adT tl by_ t p = 3 := by
  rw [av4]
  by_cases z : adT tl by_ t p = 2
  · rw [if_pos z, z]
    refine ⟨fun y => ?_, fun y => absurd y (by decide)⟩
    split at y <;> exact absurd y (by decide)
  · rw [if_neg z]
theorem stop_eq {tl : Int32} {by_ tx : Nat → Int32} {t p : Nat} (h : TxO tl by_ tx t) (hp : p ≤ t) : (p_X5_stops tl by_ p t ↔ p_X8_takesEnd tl tx p t) ∧ (p_X8_takesEnd tl tx p t → adN tl by_ t p = blk tl tx t p + 1 ∧ blk tl tx t p < t) := by
  have e := (av4_3 (tl := tl) (by_ := by_) (t := t) (p := p)).trans (ad_T h hp).2.2.1
  exact ⟨e, fun y => ad_N3 h hp ((ad_T h hp).2.2.1.mpr y)⟩
theorem dig1 {tl : Int32} {by_ tx : Nat → Int32} {t S : Nat} (h : TxO tl by_ tx t) (hd : dQ tl tx S = true) (hS : S < t) (hn : ¬ dQ tl tx (S + 1) = true) : (dgs tl tx S t S 0).2 = itr (st_X5_takeFigures by_ S) 1 S 0 := by
  have htt := h.2.1
  obtain ⟨t', ht'⟩ : ∃ t', t = t' + 1 := ⟨t - 1, by omega⟩
  have e0 : ¬ (2 : Int32) ≤ nI S - nI S := by rw [Int32.sub_self]; decide
  rw [show dgs tl tx S t S 0 = dgs tl tx S (t' + 1) S 0 by rw [← ht'], dgs_t hd, dgs_f hn, if_neg e0, by_in h.1 hS (by omega), (itr_s (n := 0)), itr_0]
  show 10 * 0 + tx S - 48 = 10 * 0 + by_ S - 48
  rw [(h.2.2 S hS).1]
theorem dig2 {tl : Int32} {by_ tx : Nat → Int32} {t S : Nat} (h : TxO tl by_ tx t) (hd : dQ tl tx S = true) (hS : S + 1 < t) (hd2 : dQ tl tx (S + 1) = true) (hn : ¬ dQ tl tx (S + 1 + 1) = true) : (dgs tl tx S t S 0).2 = itr (st_X5_takeFigures by_ S) 2 S 0 := by
  have htt := h.2.1
  obtain ⟨t', ht'⟩ : ∃ t', t = t' + 1 + 1 := ⟨t - 2, by omega⟩
  have e0 : ¬ (2 : Int32) ≤ nI S - nI S := by rw [Int32.sub_self]; decide
  have e1 : ¬ (2 : Int32) ≤ nI (S + 1) - nI S := by rw [pk_sub (by omega), show S + 1 - S = 1 by omega]; decide
  rw [show dgs tl tx S t S 0 = dgs tl tx S (t' + 1 + 1) S 0 by rw [← ht'], dgs_t hd, dgs_t hd2, dgs_f hn, if_neg e0, if_neg e1, by_in h.1 (by omega : S < t) (by omega), by_in h.1 hS (by omega), (itr_s (n := 1)), (itr_s (n := 0)), itr_0]
  show 10 * (10 * 0 + tx S - 48) + tx (S + 1) - 48 = 10 * (10 * 0 + by_ S - 48) + by_ (S + 1) - 48
  rw [(h.2.2 S (by omega)).1, (h.2.2 (S + 1) hS).1]
theorem num_eq {tl : Int32} {by_ tx : Nat → Int32} {t p : Nat} (h : TxO tl by_ tx t) (hp : p ≤ t) (tm lo hi : Int32) : (p_X5_takeNumber tl tm by_ lo hi p t ↔ p_X8_takesNumber tl tx lo hi p t) ∧ (p_X8_takesNumber tl tx lo hi p t → adN tl by_ t p = nuP tl tx t p ∧ g_X5_advance_0_5 tl tm by_ p t = nuN tl tx t p ∧ blk tl tx t p < nuP tl tx t p ∧ nuP tl tx t p ≤ t) := by
  have htt := h.2.1
  have hS := S_le h hp
  have hP := nuP_le (tx := tx) (p := p) h.1 htt (by omega)
  have hdig : nuP tl tx t p = skp (dQ tl tx) t (blk tl tx t p) := nuP_skp
  have hno : ¬ dQ tl tx (nuP tl tx t p) = true := by rw [hdig]; exact skp_no (dQ_b h.1) t _ (by omega) (by omega) (by omega)
  have hsub : nI (nuP tl tx t p) - nI (blk tl tx t p) = nI (nuP tl tx t p - blk tl tx t p) := pk_sub hP.1
  have hin : p_X8_in ((nI (nuP tl tx t p)) - (nI (blk tl tx t p))).toInt64 1 2 ↔ 1 ≤ nuP tl tx t p - blk tl tx t p ∧ nuP tl tx t p - blk tl tx t p ≤ 2 := by
    rw [hsub]
    constructor
    · intro y
      have := in_rng (a := 1) (b := 2) (by decide) (by decide) y
      rw [nI_toInt (by omega)] at this; omega
    · intro y
      refine (in_wi (nI (nuP tl tx t p - blk tl tx t p)) 1 2).mpr ⟨fun z => ?_, fun z => ?_⟩
      · have := (nI_ltI (a := nuP tl tx t p - blk tl tx t p) (b := 1) (by omega) (by omega)).mp z; omega
      · have := (nI_ltI (a := 2) (b := nuP tl tx t p - blk tl tx t p) (by omega) (by omega)).mp z; omega
  have hle : adT tl by_ t p = 2 → (nI (adN tl by_ t p) - nI (adS tl by_ t p) ≤ 2 ↔ nuP tl tx t p - blk tl tx t p ≤ 2) := fun z => by
    rw [ad_N2 h hp z, ad_S h hp, hsub]; exact nI_leI (b := 2) (by omega) (by omega)
  have hone : adT tl by_ t p = 2 → blk tl tx t p < t ∧ 1 ≤ nuP tl tx t p - blk tl tx t p := fun z => by
    have d := (ad_T h hp).2.1.mp z
    have hl := dQ_b h.1 _ (by omega) d
    obtain ⟨t', ht'⟩ : ∃ t', t = t' + 1 := ⟨t - 1, by omega⟩
    have e : skp (dQ tl tx) t (blk tl tx t p) = skp (dQ tl tx) t' (blk tl tx t p + 1) := by
      rw [show skp (dQ tl tx) t (blk tl tx t p) = skp (dQ tl tx) (t' + 1) (blk tl tx t p) by rw [← ht'], skp_t d]
    have := skp_le2 (Q := dQ tl tx) (t := t) (fun q h1 h2 => dQ_lt h.1 h1 h2) t' (blk tl tx t p + 1) (by omega)
    rw [hdig, e]; omega
  have htwo : 1 ≤ nuP tl tx t p - blk tl tx t p → adT tl by_ t p = 2 := fun y => by
    refine (ad_T h hp).2.1.mpr ?_
    by_cases d : dQ tl tx (blk tl tx t p) = true
    · exact d
    · rw [skp_f d] at hdig; omega
  have hval : adT tl by_ t p = 2 → nuP tl tx t p - blk tl tx t p ≤ 2 → g_X5_advance_0_5 tl tm by_ p t = nuN tl tx t p := fun z y => by
    have d := (ad_T h hp).2.1.mp z
    have o := hone z
    rw [av5 z, if_pos ((hle z).mpr y), ad_N2 h hp z, ad_S h hp]
    unfold nuN
    by_cases w : nuP tl tx t p - blk tl tx t p = 1
    · rw [w]
      refine (dig1 h d o.1 ?_).symm
      rw [show blk tl tx t p + 1 = nuP tl tx t p by omega]; exact hno
    · have w2 : nuP tl tx t p - blk tl tx t p = 2 := by omega
      have d2 : dQ tl tx (blk tl tx t p + 1) = true := by
        by_cases d2 : dQ tl tx (blk tl tx t p + 1) = true
        · exact d2
        · obtain ⟨t', ht'⟩ : ∃ t', t = t' + 1 := ⟨t - 1, by omega⟩
          rw [show skp (dQ tl tx) t (blk tl tx t p) = skp (dQ tl tx) (t' + 1) (blk tl tx t p) by rw [← ht'], skp_t d, skp_f d2] at hdig
          omega
      have hl2 := dQ_b h.1 _ (by omega) d2
      rw [w2]
      refine (dig2 h d hl2 d2 ?_).symm
      rw [show blk tl tx t p + 1 + 1 = nuP tl tx t p by omega]; exact hno
  have four : g_X5_advance_0_4 tl by_ p t = 2 ↔ adT tl by_ t p = 2 ∧ nuP tl tx t p - blk tl tx t p ≤ 2 := by
    rw [av4]
    constructor
    · intro y
      by_cases z : adT tl by_ t p = 2
      · rw [if_pos z] at y
        refine ⟨z, (hle z).mp ?_⟩
        by_cases w : nI (adN tl by_ t p) - nI (adS tl by_ t p) ≤ 2
        · exact w
        · rw [if_neg w] at y; exact absurd y (by decide)
      · rw [if_neg z] at y; exact absurd y z
    · rintro ⟨z, w⟩
      rw [if_pos z, if_pos ((hle z).mpr w)]
  constructor
  · constructor
    · rintro ⟨y1, y2⟩
      obtain ⟨z, w⟩ := four.mp y1
      refine ⟨hin.mpr ⟨(hone z).2, w⟩, ?_⟩
      rw [← hval z w]; exact (in_wi _ lo hi).mpr y2
    · rintro ⟨y1, y2⟩
      obtain ⟨w1, w2⟩ := hin.mp y1
      have z := htwo w1
      refine ⟨four.mpr ⟨z, w2⟩, ?_⟩
      rw [hval z w2]; exact (in_wi _ lo hi).mp y2
  · rintro ⟨y1, y2⟩
    obtain ⟨w1, w2⟩ := hin.mp y1
    have z := htwo w1
    have o := hone z
    exact ⟨ad_N2 h hp z, hval z w2, by omega, by omega⟩
/-! words -/
def Wd (tx : Nat → Int32) (S n wi : Nat) : Prop := n = vv_sl.getD wi 0 ∧ ∀ u, u < vv_sl.getD wi 0 → tx (S + u) = chr wi u
theorem il_c {tx : Nat → Int32} {c : Int32} {n S k : Nat} (hn : n < 1000) (hk : k < 1000) (hc : ¬ c = 0) : p_X8_isLetter tx (nI k) c (nI n) S k ↔ k < n ∧ tx (S + k) = c := by
  constructor
  · rintro (⟨y, -⟩ | ⟨-, y, z⟩)
    · exact absurd y hc
    · exact ⟨by rcases Nat.lt_or_ge k n with w | w
                · exact w
                · exact absurd ((nI_leI (by omega) (by omega)).mpr w) y, z⟩
  · rintro ⟨y, z⟩
    exact Or.inr ⟨hc, fun w => by have := (nI_leI (by omega) (by omega)).mp w; omega, z⟩
theorem il_0 {tx : Nat → Int32} {n S k : Nat} (hn : n < 1000) (hk : k < 1000) : p_X8_isLetter tx (nI k) 0 (nI n) S k ↔ n ≤ k := by
  constructor
  · rintro (⟨-, y⟩ | ⟨y, -⟩)
    · rcases Nat.lt_or_ge k n with w | w
      · exact absurd ((nI_ltI (by omega) (by omega)).mpr w) y
      · exact w
    · exact absurd rfl y
  · intro y
    exact Or.inl ⟨rfl, fun w => by have := (nI_ltI (by omega) (by omega)).mp w; omega⟩
theorem sw_ok {by_ : Nat → Int32} {wi S : Nat} : ∀ n, itr (st_X5_isWord by_ wi S) n 0 true = true ↔ ∀ u, u < n → by_ (S + u) = chr wi u
  | 0 => by rw [itr_0]; exact ⟨fun _ u hu => absurd hu (Nat.not_lt_zero u), fun _ => rfl⟩
  | n + 1 => by
    rw [itr_snoc, Nat.zero_add]
    show (itr (st_X5_isWord by_ wi S) n 0 true && decide (by_ (S + n) = chr wi n)) = true ↔ _
    rw [Bool.and_eq_true, decide_eq_true_eq, sw_ok n]
    constructor
    · rintro ⟨y, z⟩ u hu
      by_cases w : u = n
      · subst w; exact z
      · exact y u (by omega)
    · intro y
      exact ⟨fun u hu => y u (by omega), y n (by omega)⟩
theorem iw_c {tl : Int32} {by_ tx : Nat → Int32} {t p : Nat} (h : TxO tl by_ tx t) (hp : p ≤ t) {wi : Nat} (hw : 0 < vv_sl.getD wi 0 ∧ vv_sl.getD wi 0 < 10) : p_X5_isWord (nI (adS tl by_ t p)) (nI (adN tl by_ t p)) (g_X5_advance_0_4 tl by_ p t) by_ wi (adS tl by_ t p) ↔ Wd tx (blk tl tx t p) (wlk tl tx t (blk tl tx t p) - blk tl tx t p) wi := by
  have htt := h.2.1
  have hS := S_le h hp
  have hW := wlk_le (tx := tx) (p := blk tl tx t p) h.1 htt (by omega)
  rw [ad_S h hp]
  unfold p_X5_isWord Wd
  rw [av4_1]
  by_cases z : adT tl by_ t p = 1
  · rw [ad_N1 h hp z, pk_sub hW.1, sw_ok]
    have e := nI_eq (a := wlk tl tx t (blk tl tx t p) - blk tl tx t p) (b := vv_sl.getD wi 0) (by omega) (by omega)
    rw [e]
    constructor
    · rintro ⟨-, y1, -, y2⟩
      exact ⟨y1, fun u hu => by rw [← (h.2.2 (blk tl tx t p + u) (by omega)).1]; exact y2 u hu⟩
    · rintro ⟨y1, y2⟩
      refine ⟨z, y1, (nI_leI (a := wlk tl tx t (blk tl tx t p)) (b := 150) (by omega) (by omega)).mpr (by omega), fun u hu => ?_⟩
      rw [(h.2.2 (blk tl tx t p + u) (by omega)).1]; exact y2 u hu
  · rw [wlk_0 h hp z]
    exact ⟨fun y => absurd y.1 z, fun y => absurd y.1 (by omega)⟩
theorem iw_house {tx : Nat → Int32} {w S n : Nat} (hn : nI w - nI S = nI n) (hl : n < 1000) : p_X8_isWord (nI w) (nI S) tx 104 111 117 115 101 0 0 S ↔ Wd tx S n 1 := by
  unfold p_X8_isWord; rw [hn]
  constructor
  · rintro ⟨h0, h1, h2, h3, h4, h5, h6, h7⟩
    have a0 := (il_c (k := 0) hl (by decide) (by decide)).mp h0
    have a1 := (il_c (k := 1) hl (by decide) (by decide)).mp h1
    have a2 := (il_c (k := 2) hl (by decide) (by decide)).mp h2
    have a3 := (il_c (k := 3) hl (by decide) (by decide)).mp h3
    have a4 := (il_c (k := 4) hl (by decide) (by decide)).mp h4
    have a5 := (il_0 (k := 5) hl (by decide)).mp h5
    have a6 := (il_0 (k := 6) hl (by decide)).mp h6
    have e : n = 5 := by omega
    refine ⟨e, fun u hu => ?_⟩
    have hu : u < 5 := hu
    have hc : u = 0 ∨ u = 1 ∨ u = 2 ∨ u = 3 ∨ u = 4 := by omega
    rcases hc with rfl | rfl | rfl | rfl | rfl
    · exact a0.2
    · exact a1.2
    · exact a2.2
    · exact a3.2
    · exact a4.2
  · rintro ⟨e, y⟩
    have e : n = 5 := e
    exact ⟨(il_c (k := 0) hl (by decide) (by decide)).mpr ⟨by omega, y 0 (by decide)⟩, (il_c (k := 1) hl (by decide) (by decide)).mpr ⟨by omega, y 1 (by decide)⟩, (il_c (k := 2) hl (by decide) (by decide)).mpr ⟨by omega, y 2 (by decide)⟩, (il_c (k := 3) hl (by decide) (by decide)).mpr ⟨by omega, y 3 (by decide)⟩, (il_c (k := 4) hl (by decide) (by decide)).mpr ⟨by omega, y 4 (by decide)⟩, (il_0 (k := 5) hl (by decide)).mpr (by omega), (il_0 (k := 6) hl (by decide)).mpr (by omega), fun z => by have := (nI_leI (a := 8) (b := n) (by omega) (by omega)).mp z; omega⟩
theorem iw_string {tx : Nat → Int32} {w S n : Nat} (hn : nI w - nI S = nI n) (hl : n < 1000) : p_X8_isWord (nI w) (nI S) tx 115 116 114 105 110 103 0 S ↔ Wd tx S n 2 := by
  unfold p_X8_isWord; rw [hn]
  constructor
  · rintro ⟨h0, h1, h2, h3, h4, h5, h6, h7⟩
    have a0 := (il_c (k := 0) hl (by decide) (by decide)).mp h0
    have a1 := (il_c (k := 1) hl (by decide) (by decide)).mp h1
    have a2 := (il_c (k := 2) hl (by decide) (by decide)).mp h2
    have a3 := (il_c (k := 3) hl (by decide) (by decide)).mp h3
    have a4 := (il_c (k := 4) hl (by decide) (by decide)).mp h4
    have a5 := (il_c (k := 5) hl (by decide) (by decide)).mp h5
    have a6 := (il_0 (k := 6) hl (by decide)).mp h6
    have e : n = 6 := by omega
    refine ⟨e, fun u hu => ?_⟩
    have hu : u < 6 := hu
    have hc : u = 0 ∨ u = 1 ∨ u = 2 ∨ u = 3 ∨ u = 4 ∨ u = 5 := by omega
    rcases hc with rfl | rfl | rfl | rfl | rfl | rfl
    · exact a0.2
    · exact a1.2
    · exact a2.2
    · exact a3.2
    · exact a4.2
    · exact a5.2
  · rintro ⟨e, y⟩
    have e : n = 6 := e
    exact ⟨(il_c (k := 0) hl (by decide) (by decide)).mpr ⟨by omega, y 0 (by decide)⟩, (il_c (k := 1) hl (by decide) (by decide)).mpr ⟨by omega, y 1 (by decide)⟩, (il_c (k := 2) hl (by decide) (by decide)).mpr ⟨by omega, y 2 (by decide)⟩, (il_c (k := 3) hl (by decide) (by decide)).mpr ⟨by omega, y 3 (by decide)⟩, (il_c (k := 4) hl (by decide) (by decide)).mpr ⟨by omega, y 4 (by decide)⟩, (il_c (k := 5) hl (by decide) (by decide)).mpr ⟨by omega, y 5 (by decide)⟩, (il_0 (k := 6) hl (by decide)).mpr (by omega), fun z => by have := (nI_leI (a := 8) (b := n) (by omega) (by omega)).mp z; omega⟩
theorem iw_purse {tx : Nat → Int32} {w S n : Nat} (hn : nI w - nI S = nI n) (hl : n < 1000) : p_X8_isWord (nI w) (nI S) tx 112 117 114 115 101 0 0 S ↔ Wd tx S n 3 := by
  unfold p_X8_isWord; rw [hn]
  constructor
  · rintro ⟨h0, h1, h2, h3, h4, h5, h6, h7⟩
    have a0 := (il_c (k := 0) hl (by decide) (by decide)).mp h0
    have a1 := (il_c (k := 1) hl (by decide) (by decide)).mp h1
    have a2 := (il_c (k := 2) hl (by decide) (by decide)).mp h2
    have a3 := (il_c (k := 3) hl (by decide) (by decide)).mp h3
    have a4 := (il_c (k := 4) hl (by decide) (by decide)).mp h4
    have a5 := (il_0 (k := 5) hl (by decide)).mp h5
    have a6 := (il_0 (k := 6) hl (by decide)).mp h6
    have e : n = 5 := by omega
    refine ⟨e, fun u hu => ?_⟩
    have hu : u < 5 := hu
    have hc : u = 0 ∨ u = 1 ∨ u = 2 ∨ u = 3 ∨ u = 4 := by omega
    rcases hc with rfl | rfl | rfl | rfl | rfl
    · exact a0.2
    · exact a1.2
    · exact a2.2
    · exact a3.2
    · exact a4.2
  · rintro ⟨e, y⟩
    have e : n = 5 := e
    exact ⟨(il_c (k := 0) hl (by decide) (by decide)).mpr ⟨by omega, y 0 (by decide)⟩, (il_c (k := 1) hl (by decide) (by decide)).mpr ⟨by omega, y 1 (by decide)⟩, (il_c (k := 2) hl (by decide) (by decide)).mpr ⟨by omega, y 2 (by decide)⟩, (il_c (k := 3) hl (by decide) (by decide)).mpr ⟨by omega, y 3 (by decide)⟩, (il_c (k := 4) hl (by decide) (by decide)).mpr ⟨by omega, y 4 (by decide)⟩, (il_0 (k := 5) hl (by decide)).mpr (by omega), (il_0 (k := 6) hl (by decide)).mpr (by omega), fun z => by have := (nI_leI (a := 8) (b := n) (by omega) (by omega)).mp z; omega⟩
theorem iw_send {tx : Nat → Int32} {w S n : Nat} (hn : nI w - nI S = nI n) (hl : n < 1000) : p_X8_isWord (nI w) (nI S) tx 115 101 110 100 0 0 0 S ↔ Wd tx S n 4 := by
  unfold p_X8_isWord; rw [hn]
  constructor
  · rintro ⟨h0, h1, h2, h3, h4, h5, h6, h7⟩
    have a0 := (il_c (k := 0) hl (by decide) (by decide)).mp h0
    have a1 := (il_c (k := 1) hl (by decide) (by decide)).mp h1
    have a2 := (il_c (k := 2) hl (by decide) (by decide)).mp h2
    have a3 := (il_c (k := 3) hl (by decide) (by decide)).mp h3
    have a4 := (il_0 (k := 4) hl (by decide)).mp h4
    have a5 := (il_0 (k := 5) hl (by decide)).mp h5
    have a6 := (il_0 (k := 6) hl (by decide)).mp h6
    have e : n = 4 := by omega
    refine ⟨e, fun u hu => ?_⟩
    have hu : u < 4 := hu
    have hc : u = 0 ∨ u = 1 ∨ u = 2 ∨ u = 3 := by omega
    rcases hc with rfl | rfl | rfl | rfl
    · exact a0.2
    · exact a1.2
    · exact a2.2
    · exact a3.2
  · rintro ⟨e, y⟩
    have e : n = 4 := e
    exact ⟨(il_c (k := 0) hl (by decide) (by decide)).mpr ⟨by omega, y 0 (by decide)⟩, (il_c (k := 1) hl (by decide) (by decide)).mpr ⟨by omega, y 1 (by decide)⟩, (il_c (k := 2) hl (by decide) (by decide)).mpr ⟨by omega, y 2 (by decide)⟩, (il_c (k := 3) hl (by decide) (by decide)).mpr ⟨by omega, y 3 (by decide)⟩, (il_0 (k := 4) hl (by decide)).mpr (by omega), (il_0 (k := 5) hl (by decide)).mpr (by omega), (il_0 (k := 6) hl (by decide)).mpr (by omega), fun z => by have := (nI_leI (a := 8) (b := n) (by omega) (by omega)).mp z; omega⟩
theorem iw_wait {tx : Nat → Int32} {w S n : Nat} (hn : nI w - nI S = nI n) (hl : n < 1000) : p_X8_isWord (nI w) (nI S) tx 119 97 105 116 0 0 0 S ↔ Wd tx S n 5 := by
  unfold p_X8_isWord; rw [hn]
  constructor
  · rintro ⟨h0, h1, h2, h3, h4, h5, h6, h7⟩
    have a0 := (il_c (k := 0) hl (by decide) (by decide)).mp h0
    have a1 := (il_c (k := 1) hl (by decide) (by decide)).mp h1
    have a2 := (il_c (k := 2) hl (by decide) (by decide)).mp h2
    have a3 := (il_c (k := 3) hl (by decide) (by decide)).mp h3
    have a4 := (il_0 (k := 4) hl (by decide)).mp h4
    have a5 := (il_0 (k := 5) hl (by decide)).mp h5
    have a6 := (il_0 (k := 6) hl (by decide)).mp h6
    have e : n = 4 := by omega
    refine ⟨e, fun u hu => ?_⟩
    have hu : u < 4 := hu
    have hc : u = 0 ∨ u = 1 ∨ u = 2 ∨ u = 3 := by omega
    rcases hc with rfl | rfl | rfl | rfl
    · exact a0.2
    · exact a1.2
    · exact a2.2
    · exact a3.2
  · rintro ⟨e, y⟩
    have e : n = 4 := e
    exact ⟨(il_c (k := 0) hl (by decide) (by decide)).mpr ⟨by omega, y 0 (by decide)⟩, (il_c (k := 1) hl (by decide) (by decide)).mpr ⟨by omega, y 1 (by decide)⟩, (il_c (k := 2) hl (by decide) (by decide)).mpr ⟨by omega, y 2 (by decide)⟩, (il_c (k := 3) hl (by decide) (by decide)).mpr ⟨by omega, y 3 (by decide)⟩, (il_0 (k := 4) hl (by decide)).mpr (by omega), (il_0 (k := 5) hl (by decide)).mpr (by omega), (il_0 (k := 6) hl (by decide)).mpr (by omega), fun z => by have := (nI_leI (a := 8) (b := n) (by omega) (by omega)).mp z; omega⟩
theorem iw_province {tx : Nat → Int32} {w S n : Nat} (hn : nI w - nI S = nI n) (hl : n < 1000) : p_X8_isProvince (nI w) (nI S) tx S ↔ Wd tx S n 0 := by
  unfold p_X8_isProvince; rw [hn]
  have e8 : nI n = 8 ↔ n = 8 := nI_eq (b := 8) (by omega) (by omega)
  rw [e8]
  constructor
  · rintro ⟨e, h0, h1, h2, h3, h4, h5, h6, h7⟩
    refine ⟨e, fun u hu => ?_⟩
    have hu : u < 8 := hu
    have hc : u = 0 ∨ u = 1 ∨ u = 2 ∨ u = 3 ∨ u = 4 ∨ u = 5 ∨ u = 6 ∨ u = 7 := by omega
    rcases hc with rfl | rfl | rfl | rfl | rfl | rfl | rfl | rfl
    · exact h0
    · rw [Nat.add_comm S 1]; exact h1
    · rw [Nat.add_comm S 2]; exact h2
    · rw [Nat.add_comm S 3]; exact h3
    · rw [Nat.add_comm S 4]; exact h4
    · rw [Nat.add_comm S 5]; exact h5
    · rw [Nat.add_comm S 6]; exact h6
    · rw [Nat.add_comm S 7]; exact h7
  · rintro ⟨e, y⟩
    have q : ∀ u, u < 8 → tx (u + S) = chr 0 u := fun u hu => by rw [Nat.add_comm]; exact y u hu
    exact ⟨e, y 0 (by decide), q 1 (by decide), q 2 (by decide), q 3 (by decide), q 4 (by decide), q 5 (by decide), q 6 (by decide), q 7 (by decide)⟩
