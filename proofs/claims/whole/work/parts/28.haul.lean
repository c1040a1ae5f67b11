abbrev BS : Type := Int32 × Int32 × (Nat → Int32) × (Nat → Int32) × (Nat → Int32) × (Nat → Int32)
abbrev BS.mo (s : BS) : Int32 := s.1
abbrev BS.bm (s : BS) : Int32 := s.2.1
abbrev BS.T (s : BS) : Nat → Int32 := s.2.2.1
abbrev BS.P (s : BS) : Nat → Int32 := s.2.2.2.1
abbrev BS.H (s : BS) : Nat → Int32 := s.2.2.2.2.1
abbrev BS.B (s : BS) : Nat → Int32 := s.2.2.2.2.2
theorem nI_m1 (d : Nat) : nI (d + 1) + (-1) = nI d := by
  rw [← nI_1 d, Int32.add_assoc]
  exact Int32.add_zero _
theorem pig : ∀ (n k : Nat) (t : Nat → Nat), (∀ e, e < k → t e < n) → (∀ e f, e < k → f < k → t e = t f → e = f) → k ≤ n
  | 0, k, t, h1, _ => by
    rcases Nat.eq_zero_or_pos k with z | z
    · omega
    · exact absurd (h1 0 z) (by omega)
  | n + 1, k, t, h1, h2 => by
    by_cases hx : ∃ e, e < k ∧ t e = n
    · obtain ⟨e, he, hn⟩ := hx
      have := pig n (k - 1) (fun j => t (if j < e then j else j + 1)) (fun j hj => by
        have hj2 : (if j < e then j else j + 1) < k := by split <;> omega
        have hne : (if j < e then j else j + 1) ≠ e := by split <;> omega
        have h3 := h1 _ hj2
        have h4 : t (if j < e then j else j + 1) ≠ n := fun z => hne (h2 _ _ hj2 he (z.trans hn.symm))
        show t (if j < e then j else j + 1) < n
        omega) (fun a b ha hb hab => by
        have ha2 : (if a < e then a else a + 1) < k := by split <;> omega
        have hb2 : (if b < e then b else b + 1) < k := by split <;> omega
        have h3 := h2 _ _ ha2 hb2 hab
        split at h3 <;> split at h3 <;> omega)
      omega
    · have := pig n k t (fun e he => by
        have h3 := h1 e he
        have h4 : t e ≠ n := fun z => hx ⟨e, he, z⟩
        omega) h2
      omega
def Dst (T : Nat → Int32) (d c : Nat) : Prop := ∃ t : Nat → Nat, (∀ e, e < d → T e = nI (t e) ∧ t e < c) ∧ ∀ e f, e < d → f < d → t e = t f → e = f
theorem Dst_full {T : Nat → Int32} {d c u : Nat} (h : Dst T d c) (hd : c ≤ d) (hu : u < c) : ∃ e, e < d ∧ T e = nI u := by
  obtain ⟨t, h1, h2⟩ := h
  by_cases hx : ∃ e, e < d ∧ t e = u
  · obtain ⟨e, he, hn⟩ := hx
    exact ⟨e, he, by rw [(h1 e he).1, hn]⟩
  · have := pig c (d + 1) (fun e => if e < d then t e else u) (fun e he => by
      show (if e < d then t e else u) < c
      split
      · rename_i z; exact (h1 e z).2
      · exact hu) (fun a b ha hb hab => by
      have hab2 : (if a < d then t a else u) = (if b < d then t b else u) := hab
      split at hab2 <;> split at hab2
      · rename_i z1 z2; exact h2 a b z1 z2 hab2
      · rename_i z1 z2; exact absurd ⟨a, z1, hab2⟩ hx
      · rename_i z1 z2; exact absurd ⟨b, z2, hab2.symm⟩ hx
      · omega)
    omega
theorem Dst_same {T T' : Nat → Int32} {d c : Nat} (h : Dst T d c) (he : ∀ e, e < d → T' e = T e) : Dst T' d c := by
  obtain ⟨t, h1, h2⟩ := h
  exact ⟨t, fun e hd => ⟨(he e hd).trans (h1 e hd).1, (h1 e hd).2⟩, h2⟩
theorem nI_inj {a b : Nat} (ha : a < 2147483648) (hb : b < 2147483648) (h : nI a = nI b) : a = b := by
  rw [← nI_cl ha, ← nI_cl hb, h]
theorem Dst_ext {T T' : Nat → Int32} {d c u : Nat} (hc : c ≤ 5) (h : Dst T d c) (hu : u < c) (hn : ¬ ∃ e, e < d ∧ T e = nI u) (he : ∀ e, e < d → T' e = T e) (hd : T' d = nI u) : Dst T' (d + 1) c := by
  obtain ⟨t, h1, h2⟩ := h
  refine ⟨fun e => if e < d then t e else u, fun e hed => ?_, fun a b ha hb hab => ?_⟩
  · by_cases hlt : e < d
    · simp only [if_pos hlt]; exact ⟨(he e hlt).trans (h1 e hlt).1, (h1 e hlt).2⟩
    · obtain rfl : e = d := by omega
      simp only [if_neg hlt]; exact ⟨hd, hu⟩
  · have hab2 : (if a < d then t a else u) = (if b < d then t b else u) := hab
    split at hab2 <;> split at hab2
    · rename_i z1 z2; exact h2 a b z1 z2 hab2
    · rename_i z1 z2; exact absurd ⟨a, z1, by rw [(h1 a z1).1, hab2]⟩ hn
    · rename_i z1 z2; exact absurd ⟨b, z2, by rw [(h1 b z2).1, ← hab2]⟩ hn
    · omega
theorem or_ok : ∀ n, n < 32 → ∀ t, t < 5 → (nI n ||| (1 <<< ((nI t) &&& 31))) = nI (n ||| (1 <<< t)) ∧ (n ||| (1 <<< t)) < 32 ∧ ∀ u, u < 5 → (p_X8_has (nI (n ||| (1 <<< t))) (nI u) ↔ (p_X8_has (nI n) (nI u) ∨ t = u)) := by decide +kernel
theorem has_0 : ∀ u, u < 5 → ¬ p_X8_has (nI 0) (nI u) := by decide +kernel
noncomputable def st_X8_bh_b (z : BS) (u : Nat) (s : Int32) : Int32 := (s ||| (1 <<< ((z.T u) &&& 31)))
theorem L_X8_bh_b {x : vv_X} (F : vv_F x cX8_bestHaul 6 RX8 6) (qm qw qk qt : Nat) (txd : Int32) (abv blw : Int64) (qs : Nat) (atp stp nbr : Int32) (qi qp qh qb qa q6 : Nat) (hsh : Int64) (wf : Nat → Int32) (d : Nat) (z : BS) (hd5 : d ≤ 5) : ∀ (n : Nat) (u : Nat) (bz : Int32), u + n = d → vv_V x 6 69 [(4, .int (nI d)), (3, .int (itr (st_X8_bh_b z) n u bz)), (2, .int (nI d)), (1, .int z.mo), (0, .ref qm)] [] [(qm, .inr (7, [.ref qw, .ref qk, .ref qt, .int txd, .long abv, .long blw, .ref qs, .int atp, .int stp, .int nbr, .ref qi, .ref qp, .ref qh, .ref qb, .int z.bm, .ref qa, .ref q6, .long hsh])), (qw, .inl ((vv_k x).2.1.1, 456, .inl wf)), (qi, .inl ((vv_k x).2.1.1, 6, .inl z.T)), (qp, .inl ((vv_k x).2.1.1, 6, .inl z.P)), (qh, .inl ((vv_k x).2.1.1, 6, .inl z.H)), (qb, .inl ((vv_k x).2.1.1, 5, .inl z.B))] → vv_V x 6 45 [(4, .int (nI u)), (3, .int bz), (2, .int (nI d)), (1, .int z.mo), (0, .ref qm)] [] [(qm, .inr (7, [.ref qw, .ref qk, .ref qt, .int txd, .long abv, .long blw, .ref qs, .int atp, .int stp, .int nbr, .ref qi, .ref qp, .ref qh, .ref qb, .int z.bm, .ref qa, .ref q6, .long hsh])), (qw, .inl ((vv_k x).2.1.1, 456, .inl wf)), (qi, .inl ((vv_k x).2.1.1, 6, .inl z.T)), (qp, .inl ((vv_k x).2.1.1, 6, .inl z.P)), (qh, .inl ((vv_k x).2.1.1, 6, .inl z.H)), (qb, .inl ((vv_k x).2.1.1, 5, .inl z.B))] := by
  intro n
  induction n with
  | zero =>
    intro u bz hu  kx
    refine vv_iload F dX8_bestHaul_45 rfl ?_
    refine vv_iload_n F dX8_bestHaul_47 rfl rfl ?_
    refine vv_icmp_ge (tgt := 69) F dX8_bestHaul_48 (by decide) (fun h_1 => ?_) (fun h_1 => absurd ((c_le (nI_toInt (n := d) (by omega)) (nI_toInt (n := u) (by omega))).mpr (by omega)) h_1)
    obtain rfl : u = d := by omega
    rw [itr_0] at kx
    exact vv_lv [0, 1, 2, 3, 4] rfl kx
  | succ n ih =>
    intro u bz hu  kx
    refine vv_iload F dX8_bestHaul_45 rfl ?_
    refine vv_iload_n F dX8_bestHaul_47 rfl rfl ?_
    refine vv_icmp_ge (tgt := 69) F dX8_bestHaul_48 (by decide) (fun h_1 => absurd ((c_le (nI_toInt (n := d) (by omega)) (nI_toInt (n := u) (by omega))).mp h_1) (by omega)) (fun h_1 => ?_)
    refine vv_iload_n F dX8_bestHaul_51 rfl rfl ?_
    refine vv_iconst (v := 1) F dX8_bestHaul_52 (by decide) ?_
    refine vv_aload_n F dX8_bestHaul_53 rfl rfl ?_
    refine vv_get 0 F fl_X8_30 dX8_bestHaul_54 rfl rfl ?_
    refine vv_iload F dX8_bestHaul_57 rfl ?_
    refine vv_iald 2 F dX8_bestHaul_59 rfl (vv_ixP (j := u) (by have hz := (nI_toInt (n := u) (by omega)); omega) (by omega)) ?_
    refine vv_ishl F dX8_bestHaul_60 ?_
    refine vv_ior F dX8_bestHaul_61 ?_
    refine vv_istore_n (lv' := [(3, .int (bz ||| (1 <<< ((z.T u) &&& 31)))), (4, .int (nI u)), (2, .int (nI d)), (1, .int z.mo), (0, .ref qm)]) F dX8_bestHaul_62 rfl (by decide) rfl ?_
    refine vv_iinc (v := (nI (u + 1))) (lv' := [(4, .int (nI (u + 1))), (3, .int (bz ||| (1 <<< ((z.T u) &&& 31)))), (2, .int (nI d)), (1, .int z.mo), (0, .ref qm)]) 1 F dX8_bestHaul_63 rfl (nI_1 u) (by decide) rfl ?_
    refine vv_goto (tgt := 45) F dX8_bestHaul_66 (by decide) ?_
    refine vv_lv (lv' := [(4, .int (nI (u + 1))), (3, .int (bz ||| (1 <<< ((z.T u) &&& 31)))), (2, .int (nI d)), (1, .int z.mo), (0, .ref qm)]) [0, 1, 2, 3, 4] rfl ?_
    refine vv_lvE (lv' := [(4, .int (nI (u + 1))), (3, .int (bz ||| (1 <<< ((z.T u) &&& 31)))), (2, .int (nI d)), (1, .int z.mo), (0, .ref qm)]) (by rfl) ?_
    exact ih (u + 1) (bz ||| (1 <<< ((z.T u) &&& 31))) (by omega) (by rw [itr_s] at kx; exact kx)
noncomputable def st_X8_bh_c (T : Nat → Int32) (u : Nat) (s : (Nat → Int32)) : (Nat → Int32) := (upd s u (T u))
theorem L_X8_bh_c {x : vv_X} (F : vv_F x cX8_bestHaul 6 RX8 6) (qm qw qk qt : Nat) (txd : Int32) (abv blw : Int64) (qs : Nat) (atp stp nbr : Int32) (qi qp qh qb qa q6 : Nat) (hsh : Int64) (wf : Nat → Int32) (dd : Nat) (mo bm : Int32) (T P H : Nat → Int32) (bz iv : Int32) (hd5 : dd ≤ 5) : ∀ (n : Nat) (u : Nat) (B : Nat → Int32), u + n = dd → vv_V x 6 262 [(5, .int (nI dd)), (2, .int (nI dd)), (1, .int mo), (0, .ref qm), (3, .int bz), (4, .int iv)] [] [(qm, .inr (7, [.ref qw, .ref qk, .ref qt, .int txd, .long abv, .long blw, .ref qs, .int atp, .int stp, .int nbr, .ref qi, .ref qp, .ref qh, .ref qb, .int bm, .ref qa, .ref q6, .long hsh])), (qw, .inl ((vv_k x).2.1.1, 456, .inl wf)), (qi, .inl ((vv_k x).2.1.1, 6, .inl T)), (qp, .inl ((vv_k x).2.1.1, 6, .inl P)), (qh, .inl ((vv_k x).2.1.1, 6, .inl H)), (qb, .inl ((vv_k x).2.1.1, 5, .inl (itr (st_X8_bh_c T) n u B)))] → vv_V x 6 236 [(5, .int (nI u)), (2, .int (nI dd)), (1, .int mo), (0, .ref qm), (3, .int bz), (4, .int iv)] [] [(qm, .inr (7, [.ref qw, .ref qk, .ref qt, .int txd, .long abv, .long blw, .ref qs, .int atp, .int stp, .int nbr, .ref qi, .ref qp, .ref qh, .ref qb, .int bm, .ref qa, .ref q6, .long hsh])), (qw, .inl ((vv_k x).2.1.1, 456, .inl wf)), (qi, .inl ((vv_k x).2.1.1, 6, .inl T)), (qp, .inl ((vv_k x).2.1.1, 6, .inl P)), (qh, .inl ((vv_k x).2.1.1, 6, .inl H)), (qb, .inl ((vv_k x).2.1.1, 5, .inl B))] := by
  intro n
  induction n with
  | zero =>
    intro u B hu  kx
    refine vv_iload F dX8_bestHaul_236 rfl ?_
    refine vv_iload_n F dX8_bestHaul_238 rfl rfl ?_
    refine vv_icmp_ge (tgt := 262) F dX8_bestHaul_239 (by decide) (fun h_1 => ?_) (fun h_1 => absurd ((c_le (nI_toInt (n := dd) (by omega)) (nI_toInt (n := u) (by omega))).mpr (by omega)) h_1)
    obtain rfl : u = dd := by omega
    rw [itr_0] at kx
    exact vv_lv [0, 1, 2, 3, 4, 5] rfl kx
  | succ n ih =>
    intro u B hu  kx
    refine vv_iload F dX8_bestHaul_236 rfl ?_
    refine vv_iload_n F dX8_bestHaul_238 rfl rfl ?_
    refine vv_icmp_ge (tgt := 262) F dX8_bestHaul_239 (by decide) (fun h_1 => absurd ((c_le (nI_toInt (n := dd) (by omega)) (nI_toInt (n := u) (by omega))).mp h_1) (by omega)) (fun h_1 => ?_)
    refine vv_aload_n F dX8_bestHaul_242 rfl rfl ?_
    refine vv_get 0 F fl_X8_39 dX8_bestHaul_243 rfl rfl ?_
    refine vv_iload F dX8_bestHaul_246 rfl ?_
    refine vv_aload_n F dX8_bestHaul_248 rfl rfl ?_
    refine vv_get 0 F fl_X8_30 dX8_bestHaul_249 rfl rfl ?_
    refine vv_iload F dX8_bestHaul_252 rfl ?_
    refine vv_iald 2 F dX8_bestHaul_254 rfl (vv_ixP (j := u) (by have hz := (nI_toInt (n := u) (by omega)); omega) (by omega)) ?_
    refine vv_iast 5 (ws' := [(qm, .inr (7, [.ref qw, .ref qk, .ref qt, .int txd, .long abv, .long blw, .ref qs, .int atp, .int stp, .int nbr, .ref qi, .ref qp, .ref qh, .ref qb, .int bm, .ref qa, .ref q6, .long hsh])), (qw, .inl ((vv_k x).2.1.1, 456, .inl wf)), (qi, .inl ((vv_k x).2.1.1, 6, .inl T)), (qp, .inl ((vv_k x).2.1.1, 6, .inl P)), (qh, .inl ((vv_k x).2.1.1, 6, .inl H)), (qb, .inl ((vv_k x).2.1.1, 5, .inl (upd B u (T u))))]) F dX8_bestHaul_255 rfl (vv_ixP (j := u) (by have hz := (nI_toInt (n := u) (by omega)); omega) (by omega)) rfl ?_
    refine vv_iinc (v := (nI (u + 1))) (lv' := [(5, .int (nI (u + 1))), (2, .int (nI dd)), (1, .int mo), (0, .ref qm), (3, .int bz), (4, .int iv)]) 0 F dX8_bestHaul_256 rfl (nI_1 u) (by decide) rfl ?_
    refine vv_goto (tgt := 236) F dX8_bestHaul_259 (by decide) ?_
    refine vv_lv [0, 1, 2, 3, 4, 5] rfl ?_
    exact ih (u + 1) (upd B u (T u)) (by omega) (by rw [itr_s] at kx; exact kx)
theorem bz_s {s s' : BS} (h : s.T = s'.T) : st_X8_bh_b s = st_X8_bh_b s' := by funext u b; show (b ||| (1 <<< ((s.T u) &&& 31))) = (b ||| (1 <<< ((s'.T u) &&& 31))); rw [h]
theorem bz_ok {s : BS} (c : Nat) : ∀ (m v n : Nat), (∀ e, e < v + m → ∃ t, t < 5 ∧ s.T e = nI t) → n < 32 → (∀ u, u < 5 → (p_X8_has (nI n) (nI u) ↔ ∃ e, e < v ∧ s.T e = nI u)) → ∀ u, u < 5 → (p_X8_has (itr (st_X8_bh_b s) m v (nI n)) (nI u) ↔ ∃ e, e < v + m ∧ s.T e = nI u)
  | 0, v, n, _, _, h3 => by intro u hu; rw [itr_0]; exact h3 u hu
  | m + 1, v, n, h1, h2, h3 => by
    intro u hu
    obtain ⟨t, ht, hte⟩ := h1 v (by omega)
    obtain ⟨o1, o2, o3⟩ := or_ok n h2 t ht
    rw [itr_s, show st_X8_bh_b s v (nI n) = nI (n ||| (1 <<< t)) from (by show (nI n ||| (1 <<< ((s.T v) &&& 31))) = _; rw [hte]; exact o1)]
    rw [show v + (m + 1) = v + 1 + m by omega]
    refine bz_ok c m (v + 1) _ (fun e he => h1 e (by omega)) o2 (fun w hw => ?_) u hu
    rw [o3 w hw, h3 w hw]
    constructor
    · rintro (⟨e, he, h⟩ | h)
      · exact ⟨e, by omega, h⟩
      · exact ⟨v, by omega, by rw [hte, h]⟩
    · rintro ⟨e, he, h⟩
      by_cases hev : e = v
      · subst hev; right; rw [hte] at h; exact nI_inj (by omega) (by omega) h
      · left; exact ⟨e, by omega, h⟩
theorem has_bz {s : BS} {d c u : Nat} (hD : Dst s.T d c) (hc : c ≤ 5) (hu : u < c) : p_X8_has (itr (st_X8_bh_b s) d 0 0) (nI u) ↔ ∃ e, e < d ∧ s.T e = nI u := by
  obtain ⟨t, h1, -⟩ := hD
  have := bz_ok (s := s) c d 0 0 (fun e he => ⟨t e, by have := (h1 e (by omega)).2; omega, (h1 e (by omega)).1⟩) (by omega) (fun w hw => ⟨fun z => absurd z (has_0 w hw), fun ⟨e, he, _⟩ => absurd he (by omega)⟩) u (by omega)
  rwa [Nat.zero_add] at this
noncomputable def dsc (wf : Nat → Int32) (d u : Nat) (s : BS) : BS := if (s.H d + (f_X8_bringsIn wf 0 u)) ≤ s.mo then (s.mo, s.bm, upd (upd s.T d (nI u)) (d + 1) (-1), upd s.P (d + 1) (s.P d - (f_X8_costIn wf ((wf 17) + (nI d)) 0 u)), upd s.H (d + 1) (s.H d + (f_X8_bringsIn wf 0 u)), s.B) else (s.H d + (f_X8_bringsIn wf 0 u), nI (d + 1), upd (upd s.T d (nI u)) (d + 1) (-1), upd s.P (d + 1) (s.P d - (f_X8_costIn wf ((wf 17) + (nI d)) 0 u)), upd s.H (d + 1) (s.H d + (f_X8_bringsIn wf 0 u)), itr (st_X8_bh_c (upd s.T d (nI u))) (d + 1) 0 s.B)
noncomputable def bhT (wf : Nat → Int32) (d : Nat) (ex : BS → BS) (u : Nat) (s : BS) : BS := if p_X8_has (itr (st_X8_bh_b s) d 0 0) (nI u) then s else if (f_X8_costIn wf ((wf 17) + (nI d)) 0 u) ≤ s.P d then ex (dsc wf d u s) else s
noncomputable def finB (cN d : Nat) (s : BS) : BS := (s.mo, s.bm, upd s.T d (nI cN), s.P, s.H, s.B)
noncomputable def bhG (wf : Nat → Int32) (cN : Nat) : Nat → Nat → Nat → Nat → BS → BS
  | 0, d, _, _, s => finB cN d s
  | k + 1, d, m, u, s => finB cN d (itr (bhT wf d (fun z => bhG wf cN k (d + 1) cN 0 z)) m u s)
theorem dsc_T {wf : Nat → Int32} {d u : Nat} {s : BS} : (dsc wf d u s).T = upd (upd s.T d (nI u)) (d + 1) (-1) := by unfold dsc; split <;> rfl
theorem bhG_T {wf : Nat → Int32} {cN : Nat} : ∀ (k d m u : Nat) (s : BS) (e : Nat), e < d → (bhG wf cN k d m u s).T e = s.T e
  | 0, d, m, u, s, e, he => by rw [bhG]; exact pk_un (by omega)
  | k + 1, d, m, u, s, e, he => by
    rw [bhG]
    show upd _ d (nI cN) e = s.T e
    rw [pk_un (by omega)]
    refine itr_inv (fun z : BS => z.T e = s.T e) m u s (fun v _ _ z hz => ?_) rfl
    unfold bhT
    split
    · exact hz
    · split
      · show (bhG wf cN k (d + 1) cN 0 (dsc wf d v z)).T e = s.T e
        rw [bhG_T k (d + 1) cN 0 _ e (by omega), dsc_T, pk_un (by omega), pk_un (by omega)]; exact hz
      · exact hz
theorem bhG_b {wf : Nat → Int32} {cN : Nat} : ∀ (k d m u : Nat) (s : BS), d + k = 5 → (∃ b : Nat, b ≤ 5 ∧ s.bm = nI b) → ∃ b : Nat, b ≤ 5 ∧ (bhG wf cN k d m u s).bm = nI b
  | 0, d, m, u, s, _, h => by rw [bhG]; exact h
  | k + 1, d, m, u, s, hd, h => by
    rw [bhG]
    refine itr_inv (fun z : BS => ∃ b : Nat, b ≤ 5 ∧ z.bm = nI b) m u s (fun v _ _ z hz => ?_) h
    unfold bhT
    split
    · exact hz
    · split
      · refine bhG_b k (d + 1) cN 0 _ (by omega) ?_
        unfold dsc
        split
        · exact hz
        · exact ⟨d + 1, by omega, rfl⟩
      · exact hz
theorem L_bh_head {x : vv_X} (F : vv_F x cX8_bestHaul 6 RX8 6) (qm qw qk qt : Nat) (txd : Int32) (abv blw : Int64) (qs : Nat) (atp stp nbr : Int32) (qi qp qh qb qa q6 : Nat) (hsh : Int64) (wf : Nat → Int32) (d u : Nat) (s : BS) (hd5 : d ≤ 5) (hT : s.T d + 1 = nI u) (kx : vv_V x 6 79 [(4, .int (nI u)), (3, .int (itr (st_X8_bh_b s) d 0 0)), (2, .int (nI d)), (1, .int s.mo), (0, .ref qm)] [] [(qm, .inr (7, [.ref qw, .ref qk, .ref qt, .int txd, .long abv, .long blw, .ref qs, .int atp, .int stp, .int nbr, .ref qi, .ref qp, .ref qh, .ref qb, .int s.bm, .ref qa, .ref q6, .long hsh])), (qw, .inl ((vv_k x).2.1.1, 456, .inl wf)), (qi, .inl ((vv_k x).2.1.1, 6, .inl s.T)), (qp, .inl ((vv_k x).2.1.1, 6, .inl s.P)), (qh, .inl ((vv_k x).2.1.1, 6, .inl s.H)), (qb, .inl ((vv_k x).2.1.1, 5, .inl s.B))]) : vv_V x 6 36 [(2, .int (nI d)), (1, .int s.mo), (0, .ref qm)] [] [(qm, .inr (7, [.ref qw, .ref qk, .ref qt, .int txd, .long abv, .long blw, .ref qs, .int atp, .int stp, .int nbr, .ref qi, .ref qp, .ref qh, .ref qb, .int s.bm, .ref qa, .ref q6, .long hsh])), (qw, .inl ((vv_k x).2.1.1, 456, .inl wf)), (qi, .inl ((vv_k x).2.1.1, 6, .inl s.T)), (qp, .inl ((vv_k x).2.1.1, 6, .inl s.P)), (qh, .inl ((vv_k x).2.1.1, 6, .inl s.H)), (qb, .inl ((vv_k x).2.1.1, 5, .inl s.B))] := by
  refine vv_iload_n F dX8_bestHaul_36 rfl rfl ?_
  refine vv_if_lt (tgt := 272) F dX8_bestHaul_37 (by decide) (fun h_1 => absurd ((c_lt (nI_toInt (n := d) (by omega)) (by decide : (0 : Int32).toInt = ((0 : Nat) : Int))).mp h_1) (by omega)) (fun h_1 => ?_)
  refine vv_iconst (v := 0) F dX8_bestHaul_40 (by decide) ?_
  refine vv_istore_n (lv' := [(3, .int 0), (2, .int (nI d)), (1, .int s.mo), (0, .ref qm)]) F dX8_bestHaul_41 rfl (by decide) rfl ?_
  refine vv_iconst (v := 0) F dX8_bestHaul_42 (by decide) ?_
  refine vv_istore (lv' := [(4, .int 0), (3, .int 0), (2, .int (nI d)), (1, .int s.mo), (0, .ref qm)]) F dX8_bestHaul_43 (by decide) rfl ?_
  refine vv_lv (lv' := [(4, .int 0), (3, .int 0), (2, .int (nI d)), (1, .int s.mo), (0, .ref qm)]) [0, 1, 2, 3, 4] rfl ?_
  refine L_X8_bh_b F qm qw qk qt txd abv blw qs atp stp nbr qi qp qh qb qa q6 hsh wf d s (by omega) d 0 0 (by omega) ?_
  refine vv_aload_n F dX8_bestHaul_69 rfl rfl ?_
  refine vv_get 0 F fl_X8_30 dX8_bestHaul_70 rfl rfl ?_
  refine vv_iload_n F dX8_bestHaul_73 rfl rfl ?_
  refine vv_iald 2 F dX8_bestHaul_74 rfl (vv_ixP (j := d) (by have hz := (nI_toInt (n := d) (by omega)); omega) (by omega)) ?_
  refine vv_iconst (v := 1) F dX8_bestHaul_75 (by decide) ?_
  refine vv_iadd F dX8_bestHaul_76 ?_
  refine vv_topi (nI u) hT ?_
  refine vv_istore (lv' := [(4, .int (nI u)), (3, .int (itr (st_X8_bh_b s) d 0 0)), (2, .int (nI d)), (1, .int s.mo), (0, .ref qm)]) F dX8_bestHaul_77 (by decide) rfl ?_
  exact vv_lv [0, 1, 2, 3, 4] rfl kx
theorem L_bh {x : vv_X} (F : vv_F x cX8_bestHaul 6 RX8 6) (qm qw qk qt : Nat) (txd : Int32) (abv blw : Int64) (qs : Nat) (atp stp nbr : Int32) (qi qp qh qb qa q6 : Nat) (hsh : Int64) (wf : Nat → Int32) (cN : Nat) (hcN : (wf 0).toInt = (cN : Int)) (hcN5 : cN ≤ 5) : ∀ (k d m u : Nat) (s : BS), d + k = 5 → u + m = cN → Dst s.T d cN → vv_V x 6 36 [(2, .int ((nI d) + (-1))), (1, .int ((bhG wf cN k d m u s).mo)), (0, .ref qm)] [] [(qm, .inr (7, [.ref qw, .ref qk, .ref qt, .int txd, .long abv, .long blw, .ref qs, .int atp, .int stp, .int nbr, .ref qi, .ref qp, .ref qh, .ref qb, .int ((bhG wf cN k d m u s).bm), .ref qa, .ref q6, .long hsh])), (qw, .inl ((vv_k x).2.1.1, 456, .inl wf)), (qi, .inl ((vv_k x).2.1.1, 6, .inl ((bhG wf cN k d m u s).T))), (qp, .inl ((vv_k x).2.1.1, 6, .inl ((bhG wf cN k d m u s).P))), (qh, .inl ((vv_k x).2.1.1, 6, .inl ((bhG wf cN k d m u s).H))), (qb, .inl ((vv_k x).2.1.1, 5, .inl ((bhG wf cN k d m u s).B)))] → vv_V x 6 79 [(4, .int (nI u)), (3, .int (itr (st_X8_bh_b s) d 0 0)), (2, .int (nI d)), (1, .int s.mo), (0, .ref qm)] [] [(qm, .inr (7, [.ref qw, .ref qk, .ref qt, .int txd, .long abv, .long blw, .ref qs, .int atp, .int stp, .int nbr, .ref qi, .ref qp, .ref qh, .ref qb, .int s.bm, .ref qa, .ref q6, .long hsh])), (qw, .inl ((vv_k x).2.1.1, 456, .inl wf)), (qi, .inl ((vv_k x).2.1.1, 6, .inl s.T)), (qp, .inl ((vv_k x).2.1.1, 6, .inl s.P)), (qh, .inl ((vv_k x).2.1.1, 6, .inl s.H)), (qb, .inl ((vv_k x).2.1.1, 5, .inl s.B))] := by
  intro k
  induction k with
  | zero =>
    intro d m
    induction m with
    | zero =>
      intro u s hdk hum hD kx
      refine vv_iload F dX8_bestHaul_79 rfl ?_
      refine vv_aload_n F dX8_bestHaul_81 rfl rfl ?_
      refine vv_get 0 F fl_X8_7 dX8_bestHaul_82 rfl rfl ?_
      refine vv_iconst (v := 0) F dX8_bestHaul_85 (by decide) ?_
      refine vv_iald 1 F dX8_bestHaul_86 rfl (vv_ixP (j := 0) (by decide) (by decide)) ?_
      refine vv_icmp_ge (tgt := 130) F dX8_bestHaul_87 (by decide) (fun h_1 => ?_) (fun h_1 => absurd ((c_le hcN (nI_toInt (n := u) (by omega))).mpr (by omega)) h_1)
      refine vv_aload_n F dX8_bestHaul_130 rfl rfl ?_
      refine vv_get 0 F fl_X8_30 dX8_bestHaul_131 rfl rfl ?_
      refine vv_iload_n F dX8_bestHaul_134 rfl rfl ?_
      refine vv_iload F dX8_bestHaul_135 rfl ?_
      refine vv_iast 2 (ws' := [(qm, .inr (7, [.ref qw, .ref qk, .ref qt, .int txd, .long abv, .long blw, .ref qs, .int atp, .int stp, .int nbr, .ref qi, .ref qp, .ref qh, .ref qb, .int s.bm, .ref qa, .ref q6, .long hsh])), (qw, .inl ((vv_k x).2.1.1, 456, .inl wf)), (qi, .inl ((vv_k x).2.1.1, 6, .inl (upd s.T d (nI u)))), (qp, .inl ((vv_k x).2.1.1, 6, .inl s.P)), (qh, .inl ((vv_k x).2.1.1, 6, .inl s.H)), (qb, .inl ((vv_k x).2.1.1, 5, .inl s.B))]) F dX8_bestHaul_137 rfl (vv_ixP (j := d) (by have hz := (nI_toInt (n := d) (by omega)); omega) (by omega)) rfl ?_
      refine vv_iload F dX8_bestHaul_138 rfl ?_
      refine vv_aload_n F dX8_bestHaul_140 rfl rfl ?_
      refine vv_get 0 F fl_X8_7 dX8_bestHaul_141 rfl rfl ?_
      refine vv_iconst (v := 0) F dX8_bestHaul_144 (by decide) ?_
      refine vv_iald 1 F dX8_bestHaul_145 rfl (vv_ixP (j := 0) (by decide) (by decide)) ?_
      refine vv_icmp_lt (tgt := 155) F dX8_bestHaul_146 (by decide) (fun h_2 => absurd ((c_lt (nI_toInt (n := u) (by omega)) hcN).mp h_2) (by omega)) (fun h_2 => ?_)
      refine vv_iinc (v := ((nI d) + (-1))) (lv' := [(2, .int ((nI d) + (-1))), (4, .int (nI u)), (3, .int (itr (st_X8_bh_b s) d 0 0)), (1, .int s.mo), (0, .ref qm)]) 2 F dX8_bestHaul_149 rfl rfl (by decide) rfl ?_
      refine vv_goto (tgt := 269) F dX8_bestHaul_152 (by decide) ?_
      refine vv_goto (tgt := 36) F dX8_bestHaul_269 (by decide) ?_
      obtain rfl : u = cN := by omega
      rw [bhG] at kx
      exact vv_lv [0, 3, 4] rfl kx
    | succ m ihm =>
      intro u s hdk hum hD kx
      refine vv_iload F dX8_bestHaul_79 rfl ?_
      refine vv_aload_n F dX8_bestHaul_81 rfl rfl ?_
      refine vv_get 0 F fl_X8_7 dX8_bestHaul_82 rfl rfl ?_
      refine vv_iconst (v := 0) F dX8_bestHaul_85 (by decide) ?_
      refine vv_iald 1 F dX8_bestHaul_86 rfl (vv_ixP (j := 0) (by decide) (by decide)) ?_
      refine vv_icmp_ge (tgt := 130) F dX8_bestHaul_87 (by decide) (fun h_1 => absurd ((c_le hcN (nI_toInt (n := u) (by omega))).mp h_1) (by omega)) (fun h_1 => ?_)
      refine vv_iload_n F dX8_bestHaul_90 rfl rfl ?_
      refine vv_iload F dX8_bestHaul_91 rfl ?_
      refine vv_callSp (As := [.int (itr (st_X8_bh_b s) d 0 0), .int (nI u)]) (rest := []) [] F (c_X8_has (vv_l x) (vv_k x) (itr (st_X8_bh_b s) d 0 0) (nI u)) ms_X8_219 dX8_bestHaul_93 (by decide) rfl rfl (Nat.le_of_ble_eq_true rfl) rfl (by decide) ?_
      refine vv_ifz_ne (tgt := 124) F dX8_bestHaul_96 (by decide) (fun h_2 => ?_) (fun h_2 => ?_)
      · refine vv_iinc (v := (nI (u + 1))) (lv' := [(4, .int (nI (u + 1))), (3, .int (itr (st_X8_bh_b s) d 0 0)), (2, .int (nI d)), (1, .int s.mo), (0, .ref qm)]) 0 F dX8_bestHaul_124 rfl (nI_1 u) (by decide) rfl ?_
        refine vv_goto (tgt := 79) F dX8_bestHaul_127 (by decide) ?_
        refine vv_lv [0, 1, 2, 3, 4] rfl ?_
        exact ihm (u + 1) s hdk (by omega) hD (by rw [bhG] at kx; rw [bhG]; exact kx)
      · refine vv_aload_n F dX8_bestHaul_99 rfl rfl ?_
        refine vv_iconst (v := 0) F dX8_bestHaul_100 (by decide) ?_
        refine vv_iload F dX8_bestHaul_101 rfl ?_
        refine vv_aload_n F dX8_bestHaul_103 rfl rfl ?_
        refine vv_get 0 F fl_X8_7 dX8_bestHaul_104 rfl rfl ?_
        refine vv_bipush (v := 17) F dX8_bestHaul_107 (by decide) ?_
        refine vv_iald 1 F dX8_bestHaul_109 rfl (vv_ixP (j := 17) (by decide) (by decide)) ?_
        refine vv_iload_n F dX8_bestHaul_110 rfl rfl ?_
        refine vv_iadd F dX8_bestHaul_111 ?_
        refine vv_callVp (As := [.int 0, .int (nI u), .int ((wf 17) + (nI d))]) (rest := []) [0, 1] 0 F (c_X8_costIn (vv_l x) (vv_k x) qm qw qk qt txd abv blw qs atp stp nbr qi qp qh qb s.bm qa q6 hsh wf 0 (nI u) ((wf 17) + (nI d)) 0 u (by decide : (0 : Int32).toInt = ((0 : Nat) : Int)) (nI_toInt (n := u) (by omega)) (by omega) (by omega)) mv_X8_191 dX8_bestHaul_112 (by decide) rfl rfl (Nat.le_of_ble_eq_true rfl) rfl (by decide) rfl ?_
        refine vv_aload_n F dX8_bestHaul_115 rfl rfl ?_
        refine vv_get 0 F fl_X8_33 dX8_bestHaul_116 rfl rfl ?_
        refine vv_iload_n F dX8_bestHaul_119 rfl rfl ?_
        refine vv_iald 3 F dX8_bestHaul_120 rfl (vv_ixP (j := d) (by have hz := (nI_toInt (n := d) (by omega)); omega) (by omega)) ?_
        refine vv_icmp_le (tgt := 130) F dX8_bestHaul_121 (by decide) (fun h_3 => ?_) (fun h_3 => ?_)
        · exact absurd ((has_bz hD hcN5 (by omega)).mpr (Dst_full hD (by omega) (by omega))) h_2
        · refine vv_iinc (v := (nI (u + 1))) (lv' := [(4, .int (nI (u + 1))), (3, .int (itr (st_X8_bh_b s) d 0 0)), (2, .int (nI d)), (1, .int s.mo), (0, .ref qm)]) 0 F dX8_bestHaul_124 rfl (nI_1 u) (by decide) rfl ?_
          refine vv_goto (tgt := 79) F dX8_bestHaul_127 (by decide) ?_
          refine vv_lv [0, 1, 2, 3, 4] rfl ?_
          exact ihm (u + 1) s hdk (by omega) hD (by rw [bhG] at kx; rw [bhG]; exact kx)
  | succ k ihk =>
    intro d m
    induction m with
    | zero =>
      intro u s hdk hum hD kx
      refine vv_iload F dX8_bestHaul_79 rfl ?_
      refine vv_aload_n F dX8_bestHaul_81 rfl rfl ?_
      refine vv_get 0 F fl_X8_7 dX8_bestHaul_82 rfl rfl ?_
      refine vv_iconst (v := 0) F dX8_bestHaul_85 (by decide) ?_
      refine vv_iald 1 F dX8_bestHaul_86 rfl (vv_ixP (j := 0) (by decide) (by decide)) ?_
      refine vv_icmp_ge (tgt := 130) F dX8_bestHaul_87 (by decide) (fun h_1 => ?_) (fun h_1 => absurd ((c_le hcN (nI_toInt (n := u) (by omega))).mpr (by omega)) h_1)
      refine vv_aload_n F dX8_bestHaul_130 rfl rfl ?_
      refine vv_get 0 F fl_X8_30 dX8_bestHaul_131 rfl rfl ?_
      refine vv_iload_n F dX8_bestHaul_134 rfl rfl ?_
      refine vv_iload F dX8_bestHaul_135 rfl ?_
      refine vv_iast 2 (ws' := [(qm, .inr (7, [.ref qw, .ref qk, .ref qt, .int txd, .long abv, .long blw, .ref qs, .int atp, .int stp, .int nbr, .ref qi, .ref qp, .ref qh, .ref qb, .int s.bm, .ref qa, .ref q6, .long hsh])), (qw, .inl ((vv_k x).2.1.1, 456, .inl wf)), (qi, .inl ((vv_k x).2.1.1, 6, .inl (upd s.T d (nI u)))), (qp, .inl ((vv_k x).2.1.1, 6, .inl s.P)), (qh, .inl ((vv_k x).2.1.1, 6, .inl s.H)), (qb, .inl ((vv_k x).2.1.1, 5, .inl s.B))]) F dX8_bestHaul_137 rfl (vv_ixP (j := d) (by have hz := (nI_toInt (n := d) (by omega)); omega) (by omega)) rfl ?_
      refine vv_iload F dX8_bestHaul_138 rfl ?_
      refine vv_aload_n F dX8_bestHaul_140 rfl rfl ?_
      refine vv_get 0 F fl_X8_7 dX8_bestHaul_141 rfl rfl ?_
      refine vv_iconst (v := 0) F dX8_bestHaul_144 (by decide) ?_
      refine vv_iald 1 F dX8_bestHaul_145 rfl (vv_ixP (j := 0) (by decide) (by decide)) ?_
      refine vv_icmp_lt (tgt := 155) F dX8_bestHaul_146 (by decide) (fun h_2 => absurd ((c_lt (nI_toInt (n := u) (by omega)) hcN).mp h_2) (by omega)) (fun h_2 => ?_)
      refine vv_iinc (v := ((nI d) + (-1))) (lv' := [(2, .int ((nI d) + (-1))), (4, .int (nI u)), (3, .int (itr (st_X8_bh_b s) d 0 0)), (1, .int s.mo), (0, .ref qm)]) 2 F dX8_bestHaul_149 rfl rfl (by decide) rfl ?_
      refine vv_goto (tgt := 269) F dX8_bestHaul_152 (by decide) ?_
      refine vv_goto (tgt := 36) F dX8_bestHaul_269 (by decide) ?_
      obtain rfl : u = cN := by omega
      rw [bhG, itr_0] at kx
      exact vv_lv [0, 3, 4] rfl kx
    | succ m ihm =>
      intro u s hdk hum hD kx
      refine vv_iload F dX8_bestHaul_79 rfl ?_
      refine vv_aload_n F dX8_bestHaul_81 rfl rfl ?_
      refine vv_get 0 F fl_X8_7 dX8_bestHaul_82 rfl rfl ?_
      refine vv_iconst (v := 0) F dX8_bestHaul_85 (by decide) ?_
      refine vv_iald 1 F dX8_bestHaul_86 rfl (vv_ixP (j := 0) (by decide) (by decide)) ?_
      refine vv_icmp_ge (tgt := 130) F dX8_bestHaul_87 (by decide) (fun h_1 => absurd ((c_le hcN (nI_toInt (n := u) (by omega))).mp h_1) (by omega)) (fun h_1 => ?_)
      refine vv_iload_n F dX8_bestHaul_90 rfl rfl ?_
      refine vv_iload F dX8_bestHaul_91 rfl ?_
      refine vv_callSp (As := [.int (itr (st_X8_bh_b s) d 0 0), .int (nI u)]) (rest := []) [] F (c_X8_has (vv_l x) (vv_k x) (itr (st_X8_bh_b s) d 0 0) (nI u)) ms_X8_219 dX8_bestHaul_93 (by decide) rfl rfl (Nat.le_of_ble_eq_true rfl) rfl (by decide) ?_
      refine vv_ifz_ne (tgt := 124) F dX8_bestHaul_96 (by decide) (fun h_2 => ?_) (fun h_2 => ?_)
      · refine vv_iinc (v := (nI (u + 1))) (lv' := [(4, .int (nI (u + 1))), (3, .int (itr (st_X8_bh_b s) d 0 0)), (2, .int (nI d)), (1, .int s.mo), (0, .ref qm)]) 0 F dX8_bestHaul_124 rfl (nI_1 u) (by decide) rfl ?_
        refine vv_goto (tgt := 79) F dX8_bestHaul_127 (by decide) ?_
        refine vv_lv [0, 1, 2, 3, 4] rfl ?_
        exact ihm (u + 1) s hdk (by omega) hD (by rw [bhG, itr_s, bhT, if_pos h_2] at kx; rw [bhG]; exact kx)
      · refine vv_aload_n F dX8_bestHaul_99 rfl rfl ?_
        refine vv_iconst (v := 0) F dX8_bestHaul_100 (by decide) ?_
        refine vv_iload F dX8_bestHaul_101 rfl ?_
        refine vv_aload_n F dX8_bestHaul_103 rfl rfl ?_
        refine vv_get 0 F fl_X8_7 dX8_bestHaul_104 rfl rfl ?_
        refine vv_bipush (v := 17) F dX8_bestHaul_107 (by decide) ?_
        refine vv_iald 1 F dX8_bestHaul_109 rfl (vv_ixP (j := 17) (by decide) (by decide)) ?_
        refine vv_iload_n F dX8_bestHaul_110 rfl rfl ?_
        refine vv_iadd F dX8_bestHaul_111 ?_
        refine vv_callVp (As := [.int 0, .int (nI u), .int ((wf 17) + (nI d))]) (rest := []) [0, 1] 0 F (c_X8_costIn (vv_l x) (vv_k x) qm qw qk qt txd abv blw qs atp stp nbr qi qp qh qb s.bm qa q6 hsh wf 0 (nI u) ((wf 17) + (nI d)) 0 u (by decide : (0 : Int32).toInt = ((0 : Nat) : Int)) (nI_toInt (n := u) (by omega)) (by omega) (by omega)) mv_X8_191 dX8_bestHaul_112 (by decide) rfl rfl (Nat.le_of_ble_eq_true rfl) rfl (by decide) rfl ?_
        refine vv_aload_n F dX8_bestHaul_115 rfl rfl ?_
        refine vv_get 0 F fl_X8_33 dX8_bestHaul_116 rfl rfl ?_
        refine vv_iload_n F dX8_bestHaul_119 rfl rfl ?_
        refine vv_iald 3 F dX8_bestHaul_120 rfl (vv_ixP (j := d) (by have hz := (nI_toInt (n := d) (by omega)); omega) (by omega)) ?_
        refine vv_icmp_le (tgt := 130) F dX8_bestHaul_121 (by decide) (fun h_3 => ?_) (fun h_3 => ?_)
        · refine vv_aload_n F dX8_bestHaul_130 rfl rfl ?_
          refine vv_get 0 F fl_X8_30 dX8_bestHaul_131 rfl rfl ?_
          refine vv_iload_n F dX8_bestHaul_134 rfl rfl ?_
          refine vv_iload F dX8_bestHaul_135 rfl ?_
          refine vv_iast 2 (ws' := [(qm, .inr (7, [.ref qw, .ref qk, .ref qt, .int txd, .long abv, .long blw, .ref qs, .int atp, .int stp, .int nbr, .ref qi, .ref qp, .ref qh, .ref qb, .int s.bm, .ref qa, .ref q6, .long hsh])), (qw, .inl ((vv_k x).2.1.1, 456, .inl wf)), (qi, .inl ((vv_k x).2.1.1, 6, .inl (upd s.T d (nI u)))), (qp, .inl ((vv_k x).2.1.1, 6, .inl s.P)), (qh, .inl ((vv_k x).2.1.1, 6, .inl s.H)), (qb, .inl ((vv_k x).2.1.1, 5, .inl s.B))]) F dX8_bestHaul_137 rfl (vv_ixP (j := d) (by have hz := (nI_toInt (n := d) (by omega)); omega) (by omega)) rfl ?_
          refine vv_iload F dX8_bestHaul_138 rfl ?_
          refine vv_aload_n F dX8_bestHaul_140 rfl rfl ?_
          refine vv_get 0 F fl_X8_7 dX8_bestHaul_141 rfl rfl ?_
          refine vv_iconst (v := 0) F dX8_bestHaul_144 (by decide) ?_
          refine vv_iald 1 F dX8_bestHaul_145 rfl (vv_ixP (j := 0) (by decide) (by decide)) ?_
          refine vv_icmp_lt (tgt := 155) F dX8_bestHaul_146 (by decide) (fun h_4 => ?_) (fun h_4 => absurd ((c_lt (nI_toInt (n := u) (by omega)) hcN).mpr (by omega)) h_4)
          refine vv_aload_n F dX8_bestHaul_155 rfl rfl ?_
          refine vv_get 0 F fl_X8_33 dX8_bestHaul_156 rfl rfl ?_
          refine vv_iload_n F dX8_bestHaul_159 rfl rfl ?_
          refine vv_iconst (v := 1) F dX8_bestHaul_160 (by decide) ?_
          refine vv_iadd F dX8_bestHaul_161 ?_
          refine vv_aload_n F dX8_bestHaul_162 rfl rfl ?_
          refine vv_get 0 F fl_X8_33 dX8_bestHaul_163 rfl rfl ?_
          refine vv_iload_n F dX8_bestHaul_166 rfl rfl ?_
          refine vv_iald 3 F dX8_bestHaul_167 rfl (vv_ixP (j := d) (by have hz := (nI_toInt (n := d) (by omega)); omega) (by omega)) ?_
          refine vv_aload_n F dX8_bestHaul_168 rfl rfl ?_
          refine vv_iconst (v := 0) F dX8_bestHaul_169 (by decide) ?_
          refine vv_iload F dX8_bestHaul_170 rfl ?_
          refine vv_aload_n F dX8_bestHaul_172 rfl rfl ?_
          refine vv_get 0 F fl_X8_7 dX8_bestHaul_173 rfl rfl ?_
          refine vv_bipush (v := 17) F dX8_bestHaul_176 (by decide) ?_
          refine vv_iald 1 F dX8_bestHaul_178 rfl (vv_ixP (j := 17) (by decide) (by decide)) ?_
          refine vv_iload_n F dX8_bestHaul_179 rfl rfl ?_
          refine vv_iadd F dX8_bestHaul_180 ?_
          refine vv_callVp (As := [.int 0, .int (nI u), .int ((wf 17) + (nI d))]) (rest := [.int (s.P d), .int ((nI d) + 1), .ref qp]) [0, 1] 0 F (c_X8_costIn (vv_l x) (vv_k x) qm qw qk qt txd abv blw qs atp stp nbr qi qp qh qb s.bm qa q6 hsh wf 0 (nI u) ((wf 17) + (nI d)) 0 u (by decide : (0 : Int32).toInt = ((0 : Nat) : Int)) (nI_toInt (n := u) (by omega)) (by omega) (by omega)) mv_X8_191 dX8_bestHaul_181 (by decide) rfl rfl (Nat.le_of_ble_eq_true rfl) rfl (by decide) rfl ?_
          refine vv_isub F dX8_bestHaul_184 ?_
          refine vv_iast 3 (ws' := [(qm, .inr (7, [.ref qw, .ref qk, .ref qt, .int txd, .long abv, .long blw, .ref qs, .int atp, .int stp, .int nbr, .ref qi, .ref qp, .ref qh, .ref qb, .int s.bm, .ref qa, .ref q6, .long hsh])), (qw, .inl ((vv_k x).2.1.1, 456, .inl wf)), (qi, .inl ((vv_k x).2.1.1, 6, .inl (upd s.T d (nI u)))), (qp, .inl ((vv_k x).2.1.1, 6, .inl (upd s.P (d + 1) ((s.P d) - (f_X8_costIn wf ((wf 17) + (nI d)) 0 u))))), (qh, .inl ((vv_k x).2.1.1, 6, .inl s.H)), (qb, .inl ((vv_k x).2.1.1, 5, .inl s.B))]) F dX8_bestHaul_185 rfl (vv_ixP (j := d + 1) (by have hz := (nn_add (nI_toInt (n := d) (by omega)) (by decide : (1 : Int32).toInt = ((1 : Nat) : Int)) (by omega)); omega) (by omega)) rfl ?_
          refine vv_aload_n F dX8_bestHaul_186 rfl rfl ?_
          refine vv_get 0 F fl_X8_36 dX8_bestHaul_187 rfl rfl ?_
          refine vv_iload_n F dX8_bestHaul_190 rfl rfl ?_
          refine vv_iconst (v := 1) F dX8_bestHaul_191 (by decide) ?_
          refine vv_iadd F dX8_bestHaul_192 ?_
          refine vv_aload_n F dX8_bestHaul_193 rfl rfl ?_
          refine vv_get 0 F fl_X8_36 dX8_bestHaul_194 rfl rfl ?_
          refine vv_iload_n F dX8_bestHaul_197 rfl rfl ?_
          refine vv_iald 4 F dX8_bestHaul_198 rfl (vv_ixP (j := d) (by have hz := (nI_toInt (n := d) (by omega)); omega) (by omega)) ?_
          refine vv_aload_n F dX8_bestHaul_199 rfl rfl ?_
          refine vv_iconst (v := 0) F dX8_bestHaul_200 (by decide) ?_
          refine vv_iload F dX8_bestHaul_201 rfl ?_
          refine vv_callVp (As := [.int 0, .int (nI u)]) (rest := [.int (s.H d), .int ((nI d) + 1), .ref qh]) [0, 1] 0 F (c_X8_bringsIn (vv_l x) (vv_k x) qm qw qk qt txd abv blw qs atp stp nbr qi qp qh qb s.bm qa q6 hsh wf 0 (nI u) 0 u (by decide : (0 : Int32).toInt = ((0 : Nat) : Int)) (nI_toInt (n := u) (by omega)) (by omega) (by omega)) mv_X8_194 dX8_bestHaul_203 (by decide) rfl rfl (Nat.le_of_ble_eq_true rfl) rfl (by decide) rfl ?_
          refine vv_iadd F dX8_bestHaul_206 ?_
          refine vv_iast 4 (ws' := [(qm, .inr (7, [.ref qw, .ref qk, .ref qt, .int txd, .long abv, .long blw, .ref qs, .int atp, .int stp, .int nbr, .ref qi, .ref qp, .ref qh, .ref qb, .int s.bm, .ref qa, .ref q6, .long hsh])), (qw, .inl ((vv_k x).2.1.1, 456, .inl wf)), (qi, .inl ((vv_k x).2.1.1, 6, .inl (upd s.T d (nI u)))), (qp, .inl ((vv_k x).2.1.1, 6, .inl (upd s.P (d + 1) ((s.P d) - (f_X8_costIn wf ((wf 17) + (nI d)) 0 u))))), (qh, .inl ((vv_k x).2.1.1, 6, .inl (upd s.H (d + 1) ((s.H d) + (f_X8_bringsIn wf 0 u))))), (qb, .inl ((vv_k x).2.1.1, 5, .inl s.B))]) F dX8_bestHaul_207 rfl (vv_ixP (j := d + 1) (by have hz := (nn_add (nI_toInt (n := d) (by omega)) (by decide : (1 : Int32).toInt = ((1 : Nat) : Int)) (by omega)); omega) (by omega)) rfl ?_
          refine vv_iinc (v := (nI (d + 1))) (lv' := [(2, .int (nI (d + 1))), (4, .int (nI u)), (3, .int (itr (st_X8_bh_b s) d 0 0)), (1, .int s.mo), (0, .ref qm)]) 2 F dX8_bestHaul_208 rfl (nI_1 d) (by decide) rfl ?_
          refine vv_aload_n F dX8_bestHaul_211 rfl rfl ?_
          refine vv_get 0 F fl_X8_36 dX8_bestHaul_212 rfl rfl ?_
          refine vv_iload_n F dX8_bestHaul_215 rfl rfl ?_
          refine vv_iald 4 F dX8_bestHaul_216 rfl (vv_ixP (j := (d + 1)) (by have hz := (nI_toInt (n := (d + 1)) (by omega)); omega) (by omega)) ?_
          refine vv_topi ((s.H d) + (f_X8_bringsIn wf 0 u)) (pk_us) ?_
          refine vv_iload_n F dX8_bestHaul_217 rfl rfl ?_
          refine vv_icmp_le (tgt := 262) F dX8_bestHaul_218 (by decide) (fun h_5 => ?_) (fun h_5 => ?_)
          · refine vv_aload_n F dX8_bestHaul_262 rfl rfl ?_
            refine vv_get 0 F fl_X8_30 dX8_bestHaul_263 rfl rfl ?_
            refine vv_iload_n F dX8_bestHaul_266 rfl rfl ?_
            refine vv_iconst (v := (-1)) F dX8_bestHaul_267 (by decide) ?_
            refine vv_iast 2 (ws' := [(qm, .inr (7, [.ref qw, .ref qk, .ref qt, .int txd, .long abv, .long blw, .ref qs, .int atp, .int stp, .int nbr, .ref qi, .ref qp, .ref qh, .ref qb, .int s.bm, .ref qa, .ref q6, .long hsh])), (qw, .inl ((vv_k x).2.1.1, 456, .inl wf)), (qi, .inl ((vv_k x).2.1.1, 6, .inl (upd (upd s.T d (nI u)) (d + 1) (-1)))), (qp, .inl ((vv_k x).2.1.1, 6, .inl (upd s.P (d + 1) ((s.P d) - (f_X8_costIn wf ((wf 17) + (nI d)) 0 u))))), (qh, .inl ((vv_k x).2.1.1, 6, .inl (upd s.H (d + 1) ((s.H d) + (f_X8_bringsIn wf 0 u))))), (qb, .inl ((vv_k x).2.1.1, 5, .inl s.B))]) F dX8_bestHaul_268 rfl (vv_ixP (j := (d + 1)) (by have hz := (nI_toInt (n := (d + 1)) (by omega)); omega) (by omega)) rfl ?_
            refine vv_goto (tgt := 36) F dX8_bestHaul_269 (by decide) ?_
            refine vv_lv [0, 3, 4] rfl ?_
            refine vv_lvE (lv' := [(2, .int (nI (d + 1))), (1, .int ((dsc wf d u s).mo)), (0, .ref qm)]) (by rw [dsc, if_pos h_5] <;> rfl) ?_
            refine vv_ws (ws' := [(qm, .inr (7, [.ref qw, .ref qk, .ref qt, .int txd, .long abv, .long blw, .ref qs, .int atp, .int stp, .int nbr, .ref qi, .ref qp, .ref qh, .ref qb, .int ((dsc wf d u s).bm), .ref qa, .ref q6, .long hsh])), (qw, .inl ((vv_k x).2.1.1, 456, .inl wf)), (qi, .inl ((vv_k x).2.1.1, 6, .inl ((dsc wf d u s).T))), (qp, .inl ((vv_k x).2.1.1, 6, .inl ((dsc wf d u s).P))), (qh, .inl ((vv_k x).2.1.1, 6, .inl ((dsc wf d u s).H))), (qb, .inl ((vv_k x).2.1.1, 5, .inl ((dsc wf d u s).B)))]) (by rw [dsc, if_pos h_5] <;> rfl) ?_
            have hnb : ¬ ∃ e, e < d ∧ s.T e = nI u := mt (has_bz hD hcN5 (by omega)).mpr h_2
            have hT1 : ∀ e, e < d → (dsc wf d u s).T e = s.T e := fun e he => by rw [dsc_T, pk_un (by omega), pk_un (by omega)]
            have hT2 : (dsc wf d u s).T d = nI u := by rw [dsc_T, pk_un (by omega), pk_us]
            refine L_bh_head F qm qw qk qt txd abv blw qs atp stp nbr qi qp qh qb qa q6 hsh wf (d + 1) 0 (dsc wf d u s) (by omega) (by rw [dsc_T, pk_us]; rfl) ?_
            refine ihk (d + 1) cN 0 (dsc wf d u s) (by omega) (by omega) (Dst_ext hcN5 hD (by omega) hnb hT1 hT2) ?_
            refine vv_lvE (lv' := [(2, .int (nI d)), (1, .int ((bhG wf cN k (d + 1) cN 0 (dsc wf d u s)).mo)), (0, .ref qm)]) (by rw [nI_m1]) ?_
            refine L_bh_head F qm qw qk qt txd abv blw qs atp stp nbr qi qp qh qb qa q6 hsh wf d (u + 1) (bhG wf cN k (d + 1) cN 0 (dsc wf d u s)) (by omega) (by rw [bhG_T k (d + 1) cN 0 _ d (by omega), hT2]; exact nI_1 u) ?_
            exact ihm (u + 1) (bhG wf cN k (d + 1) cN 0 (dsc wf d u s)) hdk (by omega) (Dst_same hD (fun e he => (bhG_T k (d + 1) cN 0 _ e (by omega)).trans (hT1 e he))) (by rw [bhG, itr_s, bhT, if_neg h_2, if_pos h_3] at kx; rw [bhG]; exact kx)
          · refine vv_aload_n F dX8_bestHaul_221 rfl rfl ?_
            refine vv_get 0 F fl_X8_36 dX8_bestHaul_222 rfl rfl ?_
            refine vv_iload_n F dX8_bestHaul_225 rfl rfl ?_
            refine vv_iald 4 F dX8_bestHaul_226 rfl (vv_ixP (j := (d + 1)) (by have hz := (nI_toInt (n := (d + 1)) (by omega)); omega) (by omega)) ?_
            refine vv_topi ((s.H d) + (f_X8_bringsIn wf 0 u)) (pk_us) ?_
            refine vv_istore_n (lv' := [(1, .int ((s.H d) + (f_X8_bringsIn wf 0 u))), (2, .int (nI (d + 1))), (4, .int (nI u)), (3, .int (itr (st_X8_bh_b s) d 0 0)), (0, .ref qm)]) F dX8_bestHaul_227 rfl (by decide) rfl ?_
            refine vv_aload_n F dX8_bestHaul_228 rfl rfl ?_
            refine vv_iload_n F dX8_bestHaul_229 rfl rfl ?_
            refine vv_put 0 (ws' := [(qm, .inr (7, [.ref qw, .ref qk, .ref qt, .int txd, .long abv, .long blw, .ref qs, .int atp, .int stp, .int nbr, .ref qi, .ref qp, .ref qh, .ref qb, .int (nI (d + 1)), .ref qa, .ref q6, .long hsh])), (qw, .inl ((vv_k x).2.1.1, 456, .inl wf)), (qi, .inl ((vv_k x).2.1.1, 6, .inl (upd s.T d (nI u)))), (qp, .inl ((vv_k x).2.1.1, 6, .inl (upd s.P (d + 1) ((s.P d) - (f_X8_costIn wf ((wf 17) + (nI d)) 0 u))))), (qh, .inl ((vv_k x).2.1.1, 6, .inl (upd s.H (d + 1) ((s.H d) + (f_X8_bringsIn wf 0 u))))), (qb, .inl ((vv_k x).2.1.1, 5, .inl s.B))]) F fl_X8_216 dX8_bestHaul_230 rfl rfl rfl (Nat.le_of_ble_eq_true rfl) rfl ?_
            refine vv_iconst (v := 0) F dX8_bestHaul_233 (by decide) ?_
            refine vv_istore (lv' := [(5, .int 0), (1, .int ((s.H d) + (f_X8_bringsIn wf 0 u))), (2, .int (nI (d + 1))), (4, .int (nI u)), (3, .int (itr (st_X8_bh_b s) d 0 0)), (0, .ref qm)]) F dX8_bestHaul_234 (by decide) rfl ?_
            refine vv_lv (lv' := [(5, .int 0), (2, .int (nI (d + 1))), (1, .int ((s.H d) + (f_X8_bringsIn wf 0 u))), (0, .ref qm), (3, .int (itr (st_X8_bh_b s) d 0 0)), (4, .int (nI u))]) [0, 2, 1, 5, 4, 3] rfl ?_
            refine L_X8_bh_c F qm qw qk qt txd abv blw qs atp stp nbr qi qp qh qb qa q6 hsh wf (d + 1) ((s.H d) + (f_X8_bringsIn wf 0 u)) (nI (d + 1)) (upd s.T d (nI u)) (upd s.P (d + 1) ((s.P d) - (f_X8_costIn wf ((wf 17) + (nI d)) 0 u))) (upd s.H (d + 1) ((s.H d) + (f_X8_bringsIn wf 0 u))) (itr (st_X8_bh_b s) d 0 0) (nI u) (by omega) (d + 1) 0 s.B (by omega) ?_
            refine vv_aload_n F dX8_bestHaul_262 rfl rfl ?_
            refine vv_get 0 F fl_X8_30 dX8_bestHaul_263 rfl rfl ?_
            refine vv_iload_n F dX8_bestHaul_266 rfl rfl ?_
            refine vv_iconst (v := (-1)) F dX8_bestHaul_267 (by decide) ?_
            refine vv_iast 2 (ws' := [(qm, .inr (7, [.ref qw, .ref qk, .ref qt, .int txd, .long abv, .long blw, .ref qs, .int atp, .int stp, .int nbr, .ref qi, .ref qp, .ref qh, .ref qb, .int (nI (d + 1)), .ref qa, .ref q6, .long hsh])), (qw, .inl ((vv_k x).2.1.1, 456, .inl wf)), (qi, .inl ((vv_k x).2.1.1, 6, .inl (upd (upd s.T d (nI u)) (d + 1) (-1)))), (qp, .inl ((vv_k x).2.1.1, 6, .inl (upd s.P (d + 1) ((s.P d) - (f_X8_costIn wf ((wf 17) + (nI d)) 0 u))))), (qh, .inl ((vv_k x).2.1.1, 6, .inl (upd s.H (d + 1) ((s.H d) + (f_X8_bringsIn wf 0 u))))), (qb, .inl ((vv_k x).2.1.1, 5, .inl (itr (st_X8_bh_c (upd s.T d (nI u))) (d + 1) 0 s.B)))]) F dX8_bestHaul_268 rfl (vv_ixP (j := (d + 1)) (by have hz := (nI_toInt (n := (d + 1)) (by omega)); omega) (by omega)) rfl ?_
            refine vv_goto (tgt := 36) F dX8_bestHaul_269 (by decide) ?_
            refine vv_lv [1, 2, 3] rfl ?_
            refine vv_lvE (lv' := [(2, .int (nI (d + 1))), (1, .int ((dsc wf d u s).mo)), (0, .ref qm)]) (by rw [dsc, if_neg h_5] <;> rfl) ?_
            refine vv_ws (ws' := [(qm, .inr (7, [.ref qw, .ref qk, .ref qt, .int txd, .long abv, .long blw, .ref qs, .int atp, .int stp, .int nbr, .ref qi, .ref qp, .ref qh, .ref qb, .int ((dsc wf d u s).bm), .ref qa, .ref q6, .long hsh])), (qw, .inl ((vv_k x).2.1.1, 456, .inl wf)), (qi, .inl ((vv_k x).2.1.1, 6, .inl ((dsc wf d u s).T))), (qp, .inl ((vv_k x).2.1.1, 6, .inl ((dsc wf d u s).P))), (qh, .inl ((vv_k x).2.1.1, 6, .inl ((dsc wf d u s).H))), (qb, .inl ((vv_k x).2.1.1, 5, .inl ((dsc wf d u s).B)))]) (by rw [dsc, if_neg h_5] <;> rfl) ?_
            have hnb : ¬ ∃ e, e < d ∧ s.T e = nI u := mt (has_bz hD hcN5 (by omega)).mpr h_2
            have hT1 : ∀ e, e < d → (dsc wf d u s).T e = s.T e := fun e he => by rw [dsc_T, pk_un (by omega), pk_un (by omega)]
            have hT2 : (dsc wf d u s).T d = nI u := by rw [dsc_T, pk_un (by omega), pk_us]
            refine L_bh_head F qm qw qk qt txd abv blw qs atp stp nbr qi qp qh qb qa q6 hsh wf (d + 1) 0 (dsc wf d u s) (by omega) (by rw [dsc_T, pk_us]; rfl) ?_
            refine ihk (d + 1) cN 0 (dsc wf d u s) (by omega) (by omega) (Dst_ext hcN5 hD (by omega) hnb hT1 hT2) ?_
            refine vv_lvE (lv' := [(2, .int (nI d)), (1, .int ((bhG wf cN k (d + 1) cN 0 (dsc wf d u s)).mo)), (0, .ref qm)]) (by rw [nI_m1]) ?_
            refine L_bh_head F qm qw qk qt txd abv blw qs atp stp nbr qi qp qh qb qa q6 hsh wf d (u + 1) (bhG wf cN k (d + 1) cN 0 (dsc wf d u s)) (by omega) (by rw [bhG_T k (d + 1) cN 0 _ d (by omega), hT2]; exact nI_1 u) ?_
            exact ihm (u + 1) (bhG wf cN k (d + 1) cN 0 (dsc wf d u s)) hdk (by omega) (Dst_same hD (fun e he => (bhG_T k (d + 1) cN 0 _ e (by omega)).trans (hT1 e he))) (by rw [bhG, itr_s, bhT, if_neg h_2, if_pos h_3] at kx; rw [bhG]; exact kx)
        · refine vv_iinc (v := (nI (u + 1))) (lv' := [(4, .int (nI (u + 1))), (3, .int (itr (st_X8_bh_b s) d 0 0)), (2, .int (nI d)), (1, .int s.mo), (0, .ref qm)]) 0 F dX8_bestHaul_124 rfl (nI_1 u) (by decide) rfl ?_
          refine vv_goto (tgt := 79) F dX8_bestHaul_127 (by decide) ?_
          refine vv_lv [0, 1, 2, 3, 4] rfl ?_
          exact ihm (u + 1) s hdk (by omega) hD (by rw [bhG, itr_s, bhT, if_neg h_2, if_neg h_3] at kx; rw [bhG]; exact kx)
noncomputable def f_X8_bestHaul (wf ti pp hh bb : Nat → Int32) (cN : Nat) : Int32 := (bhG wf cN 5 0 cN 0 ((0, 0, (upd ti 0 (-1)), (upd pp 0 (wf 14)), (upd hh 0 0), bb) : BS)).mo
theorem c_X8_bestHaul (l : Launch) (K : vv_K) (qm qw qk qt : Nat) (txd : Int32) (abv blw : Int64) (qs : Nat) (atp stp nbr : Int32) (qi qp qh qb : Nat) (bmy : Int32) (qa q6 : Nat) (hsh : Int64) (wf ti pp hh bb : Nat → Int32) (cN : Nat) (hcN : ((wf 0)).toInt = (cN : Int)) (hcN5 : cN ≤ 5)  : vv_C l K 6 yX8_bestHaul cX8_bestHaul 6 (some .int) [.ref qm] [(qm, .inr (7, [.ref qw, .ref qk, .ref qt, .int txd, .long abv, .long blw, .ref qs, .int atp, .int stp, .int nbr, .ref qi, .ref qp, .ref qh, .ref qb, .int bmy, .ref qa, .ref q6, .long hsh])), (qw, .inl (K.2.1.1, 456, .inl wf)), (qi, .inl (K.2.1.1, 6, .inl ti)), (qp, .inl (K.2.1.1, 6, .inl pp)), (qh, .inl (K.2.1.1, 6, .inl hh)), (qb, .inl (K.2.1.1, 5, .inl bb))] (some (.int (f_X8_bestHaul wf ti pp hh bb cN))) [(qm, .inr (7, [.ref qw, .ref qk, .ref qt, .int txd, .long abv, .long blw, .ref qs, .int atp, .int stp, .int nbr, .ref qi, .ref qp, .ref qh, .ref qb, .int ((bhG wf cN 5 0 cN 0 ((0, 0, (upd ti 0 (-1)), (upd pp 0 (wf 14)), (upd hh 0 0), bb) : BS)).bm), .ref qa, .ref q6, .long hsh])), (qw, .inl (K.2.1.1, 456, .inl wf)), (qi, .inl (K.2.1.1, 6, .inl ((bhG wf cN 5 0 cN 0 ((0, 0, (upd ti 0 (-1)), (upd pp 0 (wf 14)), (upd hh 0 0), bb) : BS)).T))), (qp, .inl (K.2.1.1, 6, .inl ((bhG wf cN 5 0 cN 0 ((0, 0, (upd ti 0 (-1)), (upd pp 0 (wf 14)), (upd hh 0 0), bb) : BS)).P))), (qh, .inl (K.2.1.1, 6, .inl ((bhG wf cN 5 0 cN 0 ((0, 0, (upd ti 0 (-1)), (upd pp 0 (wf 14)), (upd hh 0 0), bb) : BS)).H))), (qb, .inl (K.2.1.1, 5, .inl ((bhG wf cN 5 0 cN 0 ((0, 0, (upd ti 0 (-1)), (upd pp 0 (wf 14)), (upd hh 0 0), bb) : BS)).B)))] := by
  refine vv_C.of (lv := [(0, .ref qm)]) (by decide +kernel) (Nat.le_of_ble_eq_true rfl) rfl ?_
  intro x hl hK F hR; subst hl; obtain rfl := hK
  refine vv_iconst (v := 0) F dX8_bestHaul_0 (by decide) ?_
  refine vv_istore_n (lv' := [(1, .int 0), (0, .ref qm)]) F dX8_bestHaul_1 rfl (by decide) rfl ?_
  refine vv_aload_n F dX8_bestHaul_2 rfl rfl ?_
  refine vv_iconst (v := 0) F dX8_bestHaul_3 (by decide) ?_
  refine vv_put 0 (ws' := [(qm, .inr (7, [.ref qw, .ref qk, .ref qt, .int txd, .long abv, .long blw, .ref qs, .int atp, .int stp, .int nbr, .ref qi, .ref qp, .ref qh, .ref qb, .int 0, .ref qa, .ref q6, .long hsh])), (qw, .inl ((vv_k x).2.1.1, 456, .inl wf)), (qi, .inl ((vv_k x).2.1.1, 6, .inl ti)), (qp, .inl ((vv_k x).2.1.1, 6, .inl pp)), (qh, .inl ((vv_k x).2.1.1, 6, .inl hh)), (qb, .inl ((vv_k x).2.1.1, 5, .inl bb))]) F fl_X8_216 dX8_bestHaul_4 rfl rfl rfl (Nat.le_of_ble_eq_true rfl) rfl ?_
  refine vv_iconst (v := 0) F dX8_bestHaul_7 (by decide) ?_
  refine vv_istore_n (lv' := [(2, .int 0), (1, .int 0), (0, .ref qm)]) F dX8_bestHaul_8 rfl (by decide) rfl ?_
  refine vv_aload_n F dX8_bestHaul_9 rfl rfl ?_
  refine vv_get 0 F fl_X8_30 dX8_bestHaul_10 rfl rfl ?_
  refine vv_iconst (v := 0) F dX8_bestHaul_13 (by decide) ?_
  refine vv_iconst (v := (-1)) F dX8_bestHaul_14 (by decide) ?_
  refine vv_iast 2 (ws' := [(qm, .inr (7, [.ref qw, .ref qk, .ref qt, .int txd, .long abv, .long blw, .ref qs, .int atp, .int stp, .int nbr, .ref qi, .ref qp, .ref qh, .ref qb, .int 0, .ref qa, .ref q6, .long hsh])), (qw, .inl ((vv_k x).2.1.1, 456, .inl wf)), (qi, .inl ((vv_k x).2.1.1, 6, .inl (upd ti 0 (-1)))), (qp, .inl ((vv_k x).2.1.1, 6, .inl pp)), (qh, .inl ((vv_k x).2.1.1, 6, .inl hh)), (qb, .inl ((vv_k x).2.1.1, 5, .inl bb))]) F dX8_bestHaul_15 rfl (vv_ixP (j := 0) (by decide) (by decide)) rfl ?_
  refine vv_aload_n F dX8_bestHaul_16 rfl rfl ?_
  refine vv_get 0 F fl_X8_33 dX8_bestHaul_17 rfl rfl ?_
  refine vv_iconst (v := 0) F dX8_bestHaul_20 (by decide) ?_
  refine vv_aload_n F dX8_bestHaul_21 rfl rfl ?_
  refine vv_get 0 F fl_X8_7 dX8_bestHaul_22 rfl rfl ?_
  refine vv_bipush (v := 14) F dX8_bestHaul_25 (by decide) ?_
  refine vv_iald 1 F dX8_bestHaul_27 rfl (vv_ixP (j := 14) (by decide) (by decide)) ?_
  refine vv_iast 3 (ws' := [(qm, .inr (7, [.ref qw, .ref qk, .ref qt, .int txd, .long abv, .long blw, .ref qs, .int atp, .int stp, .int nbr, .ref qi, .ref qp, .ref qh, .ref qb, .int 0, .ref qa, .ref q6, .long hsh])), (qw, .inl ((vv_k x).2.1.1, 456, .inl wf)), (qi, .inl ((vv_k x).2.1.1, 6, .inl (upd ti 0 (-1)))), (qp, .inl ((vv_k x).2.1.1, 6, .inl (upd pp 0 (wf 14)))), (qh, .inl ((vv_k x).2.1.1, 6, .inl hh)), (qb, .inl ((vv_k x).2.1.1, 5, .inl bb))]) F dX8_bestHaul_28 rfl (vv_ixP (j := 0) (by decide) (by decide)) rfl ?_
  refine vv_aload_n F dX8_bestHaul_29 rfl rfl ?_
  refine vv_get 0 F fl_X8_36 dX8_bestHaul_30 rfl rfl ?_
  refine vv_iconst (v := 0) F dX8_bestHaul_33 (by decide) ?_
  refine vv_iconst (v := 0) F dX8_bestHaul_34 (by decide) ?_
  refine vv_iast 4 (ws' := [(qm, .inr (7, [.ref qw, .ref qk, .ref qt, .int txd, .long abv, .long blw, .ref qs, .int atp, .int stp, .int nbr, .ref qi, .ref qp, .ref qh, .ref qb, .int 0, .ref qa, .ref q6, .long hsh])), (qw, .inl ((vv_k x).2.1.1, 456, .inl wf)), (qi, .inl ((vv_k x).2.1.1, 6, .inl (upd ti 0 (-1)))), (qp, .inl ((vv_k x).2.1.1, 6, .inl (upd pp 0 (wf 14)))), (qh, .inl ((vv_k x).2.1.1, 6, .inl (upd hh 0 0))), (qb, .inl ((vv_k x).2.1.1, 5, .inl bb))]) F dX8_bestHaul_35 rfl (vv_ixP (j := 0) (by decide) (by decide)) rfl ?_
  refine vv_lv (lv' := [(2, .int 0), (1, .int 0), (0, .ref qm)]) [0, 1, 2] rfl ?_
  refine L_bh_head F qm qw qk qt txd abv blw qs atp stp nbr qi qp qh qb qa q6 hsh wf 0 0 ((0, 0, (upd ti 0 (-1)), (upd pp 0 (wf 14)), (upd hh 0 0), bb) : BS) (by omega) (by show (upd ti 0 (-1)) 0 + 1 = nI 0; rw [pk_us]; rfl) ?_
  refine L_bh F qm qw qk qt txd abv blw qs atp stp nbr qi qp qh qb qa q6 hsh wf cN hcN hcN5 5 0 cN 0 ((0, 0, (upd ti 0 (-1)), (upd pp 0 (wf 14)), (upd hh 0 0), bb) : BS) rfl (by omega) ⟨fun _ => 0, fun e he => absurd he (by omega), fun e _ he => absurd he (by omega)⟩ ?_
  refine vv_lvE (lv' := [(2, .int (-1)), (1, .int ((bhG wf cN 5 0 cN 0 ((0, 0, (upd ti 0 (-1)), (upd pp 0 (wf 14)), (upd hh 0 0), bb) : BS)).mo)), (0, .ref qm)]) rfl ?_
  refine vv_iload_n F dX8_bestHaul_36 rfl rfl ?_
  refine vv_if_lt (tgt := 272) F dX8_bestHaul_37 (by decide) (fun h_1 => ?_) (fun h_1 => absurd h_1 (by decide))
  refine vv_iload_n F dX8_bestHaul_272 rfl rfl ?_
  exact vv_iret F hR dX8_bestHaul_273 rfl rfl
theorem row_ix {i : Int32} (h0 : (-2) ≤ i) (h2 : ¬ i = (-2)) (h1 : ¬ i = (-1)) : 0 ≤ i.toInt := by
  have e2 : (-2 : Int32).toInt = -2 := rfl
  have e1 : (-1 : Int32).toInt = -1 := rfl
  rw [Int32.le_iff_toInt_le, e2] at h0
  rw [← Int32.toInt_inj, e2] at h2
  rw [← Int32.toInt_inj, e1] at h1
  omega
noncomputable def f_X8_row (wf ti pp hh bb : Nat → Int32) (i : Int32) (cN : Nat) : Int32 := (if (-2) ≤ i then (if i = (-2) then (f_X8_bestHaul wf ti pp hh bb cN) else (if i = (-1) then (bhG wf cN 5 0 cN 0 ((0, 0, (upd ti 0 (-1)), (upd pp 0 (wf 14)), (upd hh 0 0), bb) : BS)).bm else (if ((bhG wf cN 5 0 cN 0 ((0, 0, (upd ti 0 (-1)), (upd pp 0 (wf 14)), (upd hh 0 0), bb) : BS)).bm) ≤ i then (-5) else (((bhG wf cN 5 0 cN 0 ((0, 0, (upd ti 0 (-1)), (upd pp 0 (wf 14)), (upd hh 0 0), bb) : BS)).B) i.toNatClampNeg)))) else (-10))
noncomputable def g_X8_row_0_14 (bmy : Int32) (wf ti pp hh bb : Nat → Int32) (i : Int32) (cN : Nat) : Int32 := (if (-2) ≤ i then (if i = (-2) then (bhG wf cN 5 0 cN 0 ((0, 0, (upd ti 0 (-1)), (upd pp 0 (wf 14)), (upd hh 0 0), bb) : BS)).bm else (if i = (-1) then (bhG wf cN 5 0 cN 0 ((0, 0, (upd ti 0 (-1)), (upd pp 0 (wf 14)), (upd hh 0 0), bb) : BS)).bm else (if ((bhG wf cN 5 0 cN 0 ((0, 0, (upd ti 0 (-1)), (upd pp 0 (wf 14)), (upd hh 0 0), bb) : BS)).bm) ≤ i then (bhG wf cN 5 0 cN 0 ((0, 0, (upd ti 0 (-1)), (upd pp 0 (wf 14)), (upd hh 0 0), bb) : BS)).bm else (bhG wf cN 5 0 cN 0 ((0, 0, (upd ti 0 (-1)), (upd pp 0 (wf 14)), (upd hh 0 0), bb) : BS)).bm))) else bmy)
noncomputable def g_X8_row_2 (wf ti pp hh bb : Nat → Int32) (i : Int32) (cN : Nat) : Nat → Int32 := (if (-2) ≤ i then (if i = (-2) then ((bhG wf cN 5 0 cN 0 ((0, 0, (upd ti 0 (-1)), (upd pp 0 (wf 14)), (upd hh 0 0), bb) : BS)).T) else (if i = (-1) then ((bhG wf cN 5 0 cN 0 ((0, 0, (upd ti 0 (-1)), (upd pp 0 (wf 14)), (upd hh 0 0), bb) : BS)).T) else (if ((bhG wf cN 5 0 cN 0 ((0, 0, (upd ti 0 (-1)), (upd pp 0 (wf 14)), (upd hh 0 0), bb) : BS)).bm) ≤ i then ((bhG wf cN 5 0 cN 0 ((0, 0, (upd ti 0 (-1)), (upd pp 0 (wf 14)), (upd hh 0 0), bb) : BS)).T) else ((bhG wf cN 5 0 cN 0 ((0, 0, (upd ti 0 (-1)), (upd pp 0 (wf 14)), (upd hh 0 0), bb) : BS)).T)))) else ti)
noncomputable def g_X8_row_3 (wf ti pp hh bb : Nat → Int32) (i : Int32) (cN : Nat) : Nat → Int32 := (if (-2) ≤ i then (if i = (-2) then ((bhG wf cN 5 0 cN 0 ((0, 0, (upd ti 0 (-1)), (upd pp 0 (wf 14)), (upd hh 0 0), bb) : BS)).P) else (if i = (-1) then ((bhG wf cN 5 0 cN 0 ((0, 0, (upd ti 0 (-1)), (upd pp 0 (wf 14)), (upd hh 0 0), bb) : BS)).P) else (if ((bhG wf cN 5 0 cN 0 ((0, 0, (upd ti 0 (-1)), (upd pp 0 (wf 14)), (upd hh 0 0), bb) : BS)).bm) ≤ i then ((bhG wf cN 5 0 cN 0 ((0, 0, (upd ti 0 (-1)), (upd pp 0 (wf 14)), (upd hh 0 0), bb) : BS)).P) else ((bhG wf cN 5 0 cN 0 ((0, 0, (upd ti 0 (-1)), (upd pp 0 (wf 14)), (upd hh 0 0), bb) : BS)).P)))) else pp)
noncomputable def g_X8_row_4 (wf ti pp hh bb : Nat → Int32) (i : Int32) (cN : Nat) : Nat → Int32 := (if (-2) ≤ i then (if i = (-2) then ((bhG wf cN 5 0 cN 0 ((0, 0, (upd ti 0 (-1)), (upd pp 0 (wf 14)), (upd hh 0 0), bb) : BS)).H) else (if i = (-1) then ((bhG wf cN 5 0 cN 0 ((0, 0, (upd ti 0 (-1)), (upd pp 0 (wf 14)), (upd hh 0 0), bb) : BS)).H) else (if ((bhG wf cN 5 0 cN 0 ((0, 0, (upd ti 0 (-1)), (upd pp 0 (wf 14)), (upd hh 0 0), bb) : BS)).bm) ≤ i then ((bhG wf cN 5 0 cN 0 ((0, 0, (upd ti 0 (-1)), (upd pp 0 (wf 14)), (upd hh 0 0), bb) : BS)).H) else ((bhG wf cN 5 0 cN 0 ((0, 0, (upd ti 0 (-1)), (upd pp 0 (wf 14)), (upd hh 0 0), bb) : BS)).H)))) else hh)
noncomputable def g_X8_row_5 (wf ti pp hh bb : Nat → Int32) (i : Int32) (cN : Nat) : Nat → Int32 := (if (-2) ≤ i then (if i = (-2) then ((bhG wf cN 5 0 cN 0 ((0, 0, (upd ti 0 (-1)), (upd pp 0 (wf 14)), (upd hh 0 0), bb) : BS)).B) else (if i = (-1) then ((bhG wf cN 5 0 cN 0 ((0, 0, (upd ti 0 (-1)), (upd pp 0 (wf 14)), (upd hh 0 0), bb) : BS)).B) else (if ((bhG wf cN 5 0 cN 0 ((0, 0, (upd ti 0 (-1)), (upd pp 0 (wf 14)), (upd hh 0 0), bb) : BS)).bm) ≤ i then ((bhG wf cN 5 0 cN 0 ((0, 0, (upd ti 0 (-1)), (upd pp 0 (wf 14)), (upd hh 0 0), bb) : BS)).B) else ((bhG wf cN 5 0 cN 0 ((0, 0, (upd ti 0 (-1)), (upd pp 0 (wf 14)), (upd hh 0 0), bb) : BS)).B)))) else bb)
noncomputable def g_X8_row_6 (wf ti pp hh bb ss : Nat → Int32) (i : Int32) (cN : Nat) : Nat → Int32 := (if (-2) ≤ i then (if i = (-2) then ss else (if i = (-1) then ss else (if ((bhG wf cN 5 0 cN 0 ((0, 0, (upd ti 0 (-1)), (upd pp 0 (wf 14)), (upd hh 0 0), bb) : BS)).bm) ≤ i then ss else ss))) else (upd ss 0 ((ss 0) + 1)))
theorem c_X8_row (l : Launch) (K : vv_K) (qm qw qk qt : Nat) (txd : Int32) (abv blw : Int64) (qs : Nat) (atp stp nbr : Int32) (qi qp qh qb : Nat) (bmy : Int32) (qa q6 : Nat) (hsh : Int64) (wf ti pp hh bb ss : Nat → Int32) (i : Int32) (cN : Nat) (hcN : ((wf 0)).toInt = (cN : Int)) (hcN5 : cN ≤ 5)  : vv_C l K 7 yX8_row cX8_row 3 (some .int) [.ref qm, .int i] [(qm, .inr (7, [.ref qw, .ref qk, .ref qt, .int txd, .long abv, .long blw, .ref qs, .int atp, .int stp, .int nbr, .ref qi, .ref qp, .ref qh, .ref qb, .int bmy, .ref qa, .ref q6, .long hsh])), (qw, .inl (K.2.1.1, 456, .inl wf)), (qi, .inl (K.2.1.1, 6, .inl ti)), (qp, .inl (K.2.1.1, 6, .inl pp)), (qh, .inl (K.2.1.1, 6, .inl hh)), (qb, .inl (K.2.1.1, 5, .inl bb)), (qs, .inl (K.2.1.1, 3, .inl ss))] (some (.int (f_X8_row wf ti pp hh bb i cN))) [(qm, .inr (7, [.ref qw, .ref qk, .ref qt, .int txd, .long abv, .long blw, .ref qs, .int atp, .int stp, .int nbr, .ref qi, .ref qp, .ref qh, .ref qb, .int (g_X8_row_0_14 bmy wf ti pp hh bb i cN), .ref qa, .ref q6, .long hsh])), (qw, .inl (K.2.1.1, 456, .inl wf)), (qi, .inl (K.2.1.1, 6, .inl (g_X8_row_2 wf ti pp hh bb i cN))), (qp, .inl (K.2.1.1, 6, .inl (g_X8_row_3 wf ti pp hh bb i cN))), (qh, .inl (K.2.1.1, 6, .inl (g_X8_row_4 wf ti pp hh bb i cN))), (qb, .inl (K.2.1.1, 5, .inl (g_X8_row_5 wf ti pp hh bb i cN))), (qs, .inl (K.2.1.1, 3, .inl (g_X8_row_6 wf ti pp hh bb ss i cN)))] := by
  refine vv_C.of (lv := [(0, .ref qm), (1, .int i)]) (by decide +kernel) (Nat.le_of_ble_eq_true rfl) rfl ?_
  intro x hl hK F hR; subst hl; obtain rfl := hK
  obtain ⟨nb, hnb5, hnbe⟩ : ∃ b : Nat, b ≤ 5 ∧ (bhG wf cN 5 0 cN 0 ((0, 0, (upd ti 0 (-1)), (upd pp 0 (wf 14)), (upd hh 0 0), bb) : BS)).bm = nI b := bhG_b 5 0 _ _ _ rfl ⟨0, by decide, rfl⟩
  have hnb : ((bhG wf cN 5 0 cN 0 ((0, 0, (upd ti 0 (-1)), (upd pp 0 (wf 14)), (upd hh 0 0), bb) : BS)).bm).toInt = (nb : Int) := by rw [hnbe]; exact nI_toInt (by omega)
  refine vv_iload_n F dX8_row_0 rfl rfl ?_
  refine vv_bipush (v := (-2)) F dX8_row_1 (by decide) ?_
  refine vv_icmp_ge (tgt := 13) F dX8_row_3 (by decide) (fun h_1 => ?_) (fun h_1 => ?_)
  · refine vv_aload_n F dX8_row_13 rfl rfl ?_
    refine vv_callV (As := []) (rest := []) [0, 1, 2, 3, 4, 5] 0 (ws' := [(qm, .inr (7, [.ref qw, .ref qk, .ref qt, .int txd, .long abv, .long blw, .ref qs, .int atp, .int stp, .int nbr, .ref qi, .ref qp, .ref qh, .ref qb, .int ((bhG wf cN 5 0 cN 0 ((0, 0, (upd ti 0 (-1)), (upd pp 0 (wf 14)), (upd hh 0 0), bb) : BS)).bm), .ref qa, .ref q6, .long hsh])), (qw, .inl ((vv_k x).2.1.1, 456, .inl wf)), (qi, .inl ((vv_k x).2.1.1, 6, .inl ((bhG wf cN 5 0 cN 0 ((0, 0, (upd ti 0 (-1)), (upd pp 0 (wf 14)), (upd hh 0 0), bb) : BS)).T))), (qp, .inl ((vv_k x).2.1.1, 6, .inl ((bhG wf cN 5 0 cN 0 ((0, 0, (upd ti 0 (-1)), (upd pp 0 (wf 14)), (upd hh 0 0), bb) : BS)).P))), (qh, .inl ((vv_k x).2.1.1, 6, .inl ((bhG wf cN 5 0 cN 0 ((0, 0, (upd ti 0 (-1)), (upd pp 0 (wf 14)), (upd hh 0 0), bb) : BS)).H))), (qb, .inl ((vv_k x).2.1.1, 5, .inl ((bhG wf cN 5 0 cN 0 ((0, 0, (upd ti 0 (-1)), (upd pp 0 (wf 14)), (upd hh 0 0), bb) : BS)).B))), (qs, .inl ((vv_k x).2.1.1, 3, .inl ss))]) F (c_X8_bestHaul (vv_l x) (vv_k x) qm qw qk qt txd abv blw qs atp stp nbr qi qp qh qb bmy qa q6 hsh wf ti pp hh bb cN hcN (by omega)) mv_X8_222 dX8_row_14 (by decide) rfl rfl (Nat.le_of_ble_eq_true rfl) rfl (by decide) (Eq.trans (b := [qm, qw, qi, qp, qh, qb]) rfl rfl) rfl rfl ?_
    refine vv_istore_n (lv' := [(2, .int (f_X8_bestHaul wf ti pp hh bb cN)), (0, .ref qm), (1, .int i)]) F dX8_row_17 rfl (by decide) rfl ?_
    refine vv_iload_n F dX8_row_18 rfl rfl ?_
    refine vv_bipush (v := (-2)) F dX8_row_19 (by decide) ?_
    refine vv_icmp_ne (tgt := 28) F dX8_row_21 (by decide) (fun h_2 => ?_) (fun h_2 => ?_)
    · refine vv_iload_n F dX8_row_28 rfl rfl ?_
      refine vv_iconst (v := (-1)) F dX8_row_29 (by decide) ?_
      refine vv_icmp_ne (tgt := 40) F dX8_row_30 (by decide) (fun h_3 => ?_) (fun h_3 => ?_)
      · refine vv_iload_n F dX8_row_40 rfl rfl ?_
        refine vv_aload_n F dX8_row_41 rfl rfl ?_
        refine vv_get 0 F fl_X8_216 dX8_row_42 rfl rfl ?_
        refine vv_icmp_ge (tgt := 57) F dX8_row_45 (by decide) (fun h_4 => ?_) (fun h_4 => ?_)
        · refine vv_bipush (v := (-5)) F dX8_row_57 (by decide) ?_
          exact vv_iret F hR dX8_row_59 (congrArg (fun z => some (Value.int z)) ((if_pos h_1).trans ((if_neg h_2).trans ((if_neg h_3).trans ((if_pos h_4).trans rfl))))) (by simp only [g_X8_row_0_14, g_X8_row_2, g_X8_row_3, g_X8_row_4, g_X8_row_5, g_X8_row_6, if_pos h_1, if_neg h_2, if_neg h_3, if_pos h_4])
        · have hir := row_ix h_1 h_2 h_3
          have hic := nn_cl (a := i) (by omega)
          have hlt := mt (c_le hnb hic).mpr h_4
          refine vv_aload_n F dX8_row_48 rfl rfl ?_
          refine vv_get 0 F fl_X8_39 dX8_row_49 rfl rfl ?_
          refine vv_iload_n F dX8_row_52 rfl rfl ?_
          refine vv_iald 5 F dX8_row_53 rfl (vv_ixP (j := i.toNatClampNeg) (by have hz := hic; omega) (by omega)) ?_
          refine vv_goto (tgt := 59) F dX8_row_54 (by decide) ?_
          exact vv_iret F hR dX8_row_59 (congrArg (fun z => some (Value.int z)) ((if_pos h_1).trans ((if_neg h_2).trans ((if_neg h_3).trans ((if_neg h_4).trans rfl))))) (by simp only [g_X8_row_0_14, g_X8_row_2, g_X8_row_3, g_X8_row_4, g_X8_row_5, g_X8_row_6, if_pos h_1, if_neg h_2, if_neg h_3, if_neg h_4])
      · refine vv_aload_n F dX8_row_33 rfl rfl ?_
        refine vv_get 0 F fl_X8_216 dX8_row_34 rfl rfl ?_
        refine vv_goto (tgt := 59) F dX8_row_37 (by decide) ?_
        exact vv_iret F hR dX8_row_59 (congrArg (fun z => some (Value.int z)) ((if_pos h_1).trans ((if_neg h_2).trans ((if_pos h_3).trans rfl)))) (by simp only [g_X8_row_0_14, g_X8_row_2, g_X8_row_3, g_X8_row_4, g_X8_row_5, g_X8_row_6, if_pos h_1, if_neg h_2, if_pos h_3])
    · refine vv_iload_n F dX8_row_24 rfl rfl ?_
      refine vv_goto (tgt := 59) F dX8_row_25 (by decide) ?_
      exact vv_iret F hR dX8_row_59 (congrArg (fun z => some (Value.int z)) ((if_pos h_1).trans ((if_pos h_2).trans rfl))) (by simp only [g_X8_row_0_14, g_X8_row_2, g_X8_row_3, g_X8_row_4, g_X8_row_5, g_X8_row_6, if_pos h_1, if_pos h_2])
  · refine vv_aload_n F dX8_row_6 rfl rfl ?_
    refine vv_bipush (v := (-10)) F dX8_row_7 (by decide) ?_
    refine vv_callV (As := [.int (-10)]) (rest := []) [0, 6] 0 (ws' := [(qm, .inr (7, [.ref qw, .ref qk, .ref qt, .int txd, .long abv, .long blw, .ref qs, .int atp, .int stp, .int nbr, .ref qi, .ref qp, .ref qh, .ref qb, .int bmy, .ref qa, .ref q6, .long hsh])), (qw, .inl ((vv_k x).2.1.1, 456, .inl wf)), (qi, .inl ((vv_k x).2.1.1, 6, .inl ti)), (qp, .inl ((vv_k x).2.1.1, 6, .inl pp)), (qh, .inl ((vv_k x).2.1.1, 6, .inl hh)), (qb, .inl ((vv_k x).2.1.1, 5, .inl bb)), (qs, .inl ((vv_k x).2.1.1, 3, .inl (upd ss 0 ((ss 0) + 1))))]) F (c_X8_bad (vv_l x) (vv_k x) qm qw qk qt txd abv blw qs atp stp nbr qi qp qh qb bmy qa q6 hsh ss (-10)) mv_X8_78 dX8_row_9 (by decide) rfl rfl (Nat.le_of_ble_eq_true rfl) rfl (by decide) (Eq.trans (b := [qm, qs]) rfl rfl) rfl rfl ?_
    exact vv_iret F hR dX8_row_12 (congrArg (fun z => some (Value.int z)) ((if_neg h_1).trans rfl)) (by simp only [g_X8_row_0_14, g_X8_row_2, g_X8_row_3, g_X8_row_4, g_X8_row_5, g_X8_row_6, if_neg h_1])
