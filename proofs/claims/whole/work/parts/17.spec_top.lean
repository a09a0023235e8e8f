/-! fractions -/
def sp_fr (a b u : Nat) : Nat := if u = 0 then b / Nat.gcd a b else a / Nat.gcd a b
theorem sp_gcd_s (x y : Nat) : Nat.gcd y (x % y) = Nat.gcd x y := by
  rw [Nat.gcd_comm y (x % y), ← Nat.gcd_rec y x, Nat.gcd_comm]
/-- how far Euclid's steps are -/
def sp_eu (a b st x y : Nat) : Prop := (st = 0 ∧ x = a ∧ y = b) ∨ (1 ≤ st ∧ y < x ∧ x * y * 2 ^ (st - 1) ≤ a * b)
theorem sp_eu_s {a b st x y : Nat} (h : sp_eu a b st x y) (hy : 0 < y) : sp_eu a b (st + 1) y (x % y) := by
  have hr : x % y < y := Nat.mod_lt x hy
  rcases h with ⟨h1, h2, h3⟩ | ⟨h1, h2, h3⟩
  · refine Or.inr ⟨by omega, hr, ?_⟩
    subst h1; subst h2; subst h3
    show y * (x % y) * 2 ^ 0 ≤ x * y
    rw [Nat.pow_zero, Nat.mul_one, Nat.mul_comm]
    exact Nat.mul_le_mul (Nat.mod_le _ _) (Nat.le_refl _)
  · refine Or.inr ⟨by omega, hr, ?_⟩
    have e1 : 2 ^ (st + 1 - 1) = 2 ^ (st - 1) * 2 := by rw [show st + 1 - 1 = (st - 1) + 1 by omega, Nat.pow_succ]
    have e2 : 2 * (x % y) ≤ x := by
      have h4 := Nat.div_add_mod x y
      have h5 : 1 ≤ x / y := (Nat.one_le_div_iff hy).mpr (by omega)
      have h6 := Nat.mul_le_mul (Nat.le_refl y) h5
      omega
    have e3 : y * (x % y) * 2 ^ (st + 1 - 1) = (2 * (x % y)) * y * 2 ^ (st - 1) := by
      rw [e1]
      simp only [Nat.mul_assoc, Nat.mul_comm, Nat.mul_left_comm]
    rw [e3]
    exact Nat.le_trans (Nat.mul_le_mul (Nat.mul_le_mul e2 (Nat.le_refl _)) (Nat.le_refl _)) h3
theorem sp_eu_end {a b x y : Nat} (h : sp_eu a b 100 x y) (hab : a * b < 2 ^ 98) : y = 0 := by
  rcases h with ⟨h1, -, -⟩ | ⟨-, h2, h3⟩
  · omega
  · refine Classical.byContradiction fun hy => ?_
    have h4 : 1 ≤ x * y := Nat.mul_pos (by omega) (by omega)
    have h5 := Nat.mul_le_mul h4 (Nat.le_refl (2 ^ (100 - 1)))
    rw [Nat.one_mul] at h5
    have h6 : 2 ^ 98 ≤ 2 ^ (100 - 1) := Nat.pow_le_pow_right (by omega) (by omega)
    omega
/-! the loops, read off their list -/
def sp_tmL (T F : Nat → Nat) (LS : List (List Nat)) (l : Nat) : Nat := fb_sm (fun i => T (F ((LS.getD l []).getD i 0))) (LS.getD l []).length
def sp_cdL (C : Nat → Nat) (LS : List (List Nat)) (l : Nat) : Nat := fb_sm (fun i => C ((LS.getD l []).getD i 0)) (LS.getD l []).length
def sp_psL (LS : List (List Nat)) (l a : Nat) : Bool := decide (∃ i, i < (LS.getD l []).length ∧ (LS.getD l []).getD i 0 = a)
theorem sp_tm_L {T F RW LE : Nat → Nat} {LS : List (List Nat)} {mn : Nat} (h : sp_hold LS mn RW LE) {l : Nat} (hl : l < mn) : sp_tm T F RW LE l = sp_tmL T F LS l := by
  obtain ⟨e1, e2⟩ := h.2 l (by rw [← h.1]; exact hl)
  unfold sp_tm sp_tmL
  rw [← e1]
  exact fb_sm_cong (fun i hi => by rw [e2 i hi])
theorem sp_cd_L {C RW LE : Nat → Nat} {LS : List (List Nat)} {mn : Nat} (h : sp_hold LS mn RW LE) {l : Nat} (hl : l < mn) : sp_cd C RW LE l = sp_cdL C LS l := by
  obtain ⟨e1, e2⟩ := h.2 l (by rw [← h.1]; exact hl)
  unfold sp_cd sp_cdL
  rw [← e1]
  exact fb_sm_cong (fun i hi => by rw [e2 i hi])
theorem sp_ps_L {RW LE : Nat → Nat} {LS : List (List Nat)} {mn : Nat} (h : sp_hold LS mn RW LE) {l : Nat} (hl : l < mn) (a : Nat) : sp_ps RW LE l a = sp_psL LS l a := by
  obtain ⟨e1, e2⟩ := h.2 l (by rw [← h.1]; exact hl)
  unfold sp_ps sp_psL
  rw [← e1]
  exact decide_eq_decide.mpr ⟨fun ⟨i, q1, q2⟩ => ⟨i, q1, by rw [← e2 i q1]; exact q2⟩, fun ⟨i, q1, q2⟩ => ⟨i, q1, by rw [e2 i q1]; exact q2⟩⟩
theorem sp_sl_cong {tm tm2 cd cd2 : Nat → Nat} : ∀ n, (∀ l, l < n → tm l = tm2 l) → (∀ l, l < n → cd l = cd2 l) → sp_sl tm cd n = sp_sl tm2 cd2 n
  | 0, _, _ => rfl
  | n + 1, h1, h2 => by
    have ih := sp_sl_cong n (fun l hl => h1 l (by omega)) (fun l hl => h2 l (by omega))
    unfold sp_sl
    rw [ih, h1 n (by omega), h2 n (by omega)]
theorem sp_mx_cong {nd nd2 : Nat → Int} : ∀ n, (∀ l, l < n → nd l = nd2 l) → sp_mx nd n = sp_mx nd2 n
  | 0, _ => rfl
  | n + 1, h => by rw [sp_mx_s, sp_mx_s, sp_mx_cong n (fun l hl => h l (by omega)), h n (by omega)]
theorem sp_sl_rng {tm cd : Nat → Nat} : ∀ n, (sp_sl tm cd n).1 = -9 ∨ (0 ≤ (sp_sl tm cd n).1 ∧ (sp_sl tm cd n).1 < n)
  | 0 => Or.inl rfl
  | n + 1 => by
    have ih := sp_sl_rng (tm := tm) (cd := cd) n
    by_cases h : (sp_sl tm cd n).2.1 * cd n < tm n * (sp_sl tm cd n).2.2
    · rw [sp_sl_y h]; right; show (0 : Int) ≤ (n : Int) ∧ (n : Int) < ((n + 1 : Nat) : Int); omega
    · rw [sp_sl_n (by omega)]; omega
theorem sp_tmL_le {T F : Nat → Nat} {LS : List (List Nat)} {mn : Nat} {RW LE : Nat → Nat} (h : sp_hold LS mn RW LE) (bLE : ∀ i, LE i ≤ 8) (bT : ∀ i, T i ≤ 20) {l : Nat} (hl : l < mn) : sp_tmL T F LS l ≤ 160 := by
  have e1 := (h.2 l (by rw [← h.1]; exact hl)).1
  have e2 := bLE l
  have e3 : sp_tmL T F LS l ≤ (LS.getD l []).length * 20 := fb_sm_bound (fun k _ => bT _)
  omega
theorem sp_cdL_le {C : Nat → Nat} {LS : List (List Nat)} {mn : Nat} {RW LE : Nat → Nat} (h : sp_hold LS mn RW LE) (bLE : ∀ i, LE i ≤ 8) (bC : ∀ i, C i ≤ 9) {l : Nat} (hl : l < mn) : sp_cdL C LS l ≤ 72 := by
  have e1 := (h.2 l (by rw [← h.1]; exact hl)).1
  have e2 := bLE l
  have e3 : sp_cdL C LS l ≤ (LS.getD l []).length * 9 := fb_sm_bound (fun k _ => bC _)
  omega
def sp_slow (T F C : Nat → Nat) (LS : List (List Nat)) : Int := (sp_sl (sp_tmL T F LS) (sp_cdL C LS) LS.length).1
def sp_pace (T F C : Nat → Nat) (LS : List (List Nat)) (u : Nat) : Int := if sp_slow T F C LS = -9 ∨ sp_cdL C LS (sp_slow T F C LS).toNat = 0 then -9 else ((sp_fr (sp_tmL T F LS (sp_slow T F C LS).toNat) (sp_cdL C LS (sp_slow T F C LS).toNat) u : Nat) : Int)
def sp_adt (lt : Nat) (C NC : Nat → Nat) (LS : List (List Nat)) : Nat := fb_ct (sp_chg lt (sp_cdL C LS) (sp_cdL NC LS)) LS.length
/-- the cards that are enough -/
def sp_rch (T F C : Nat → Nat) (LS : List (List Nat)) (ar ab be : Nat) (rv : Int) : Prop :=
  (rv = -9 ∧ ((∃ q, q < LS.length ∧ 0 < sp_nd (sp_tmL T F LS) (sp_cdL C LS) ab be q ∧ sp_psL LS q ar = false) ∨ 9 < (C ar : Int) + sp_mx (sp_nd (sp_tmL T F LS) (sp_cdL C LS) ab be) LS.length)) ∨ (rv = sp_mx (sp_nd (sp_tmL T F LS) (sp_cdL C LS) ab be) LS.length ∧ (∀ q, q < LS.length → 0 < sp_nd (sp_tmL T F LS) (sp_cdL C LS) ab be q → sp_psL LS q ar = true) ∧ (C ar : Int) + sp_mx (sp_nd (sp_tmL T F LS) (sp_cdL C LS) ab be) LS.length ≤ 9)
theorem sp_rch_of {T F C RW LE : Nat → Nat} {LS : List (List Nat)} {mn ar ab be : Nat} {rv : Int} (h : sp_hold LS mn RW LE)
    (hr : (rv = -9 ∧ ((∃ q, q < mn ∧ 0 < sp_nd (sp_tm T F RW LE) (sp_cd C RW LE) ab be q ∧ sp_ps RW LE q ar = false) ∨ 9 < (C ar : Int) + sp_mx (sp_nd (sp_tm T F RW LE) (sp_cd C RW LE) ab be) mn)) ∨ (rv = sp_mx (sp_nd (sp_tm T F RW LE) (sp_cd C RW LE) ab be) mn ∧ (∀ q, q < mn → 0 < sp_nd (sp_tm T F RW LE) (sp_cd C RW LE) ab be q → sp_ps RW LE q ar = true) ∧ (C ar : Int) + sp_mx (sp_nd (sp_tm T F RW LE) (sp_cd C RW LE) ab be) mn ≤ 9)) : sp_rch T F C LS ar ab be rv := by
  have e1 : ∀ q, q < mn → sp_nd (sp_tm T F RW LE) (sp_cd C RW LE) ab be q = sp_nd (sp_tmL T F LS) (sp_cdL C LS) ab be q := fun q hq => by
    unfold sp_nd; rw [sp_tm_L h hq, sp_cd_L h hq]
  have e2 := sp_mx_cong mn e1
  have e3 := h.1
  unfold sp_rch
  rw [e2] at hr
  rw [← e3]
  rcases hr with ⟨h1, ⟨q, q1, q2, q3⟩ | h2⟩ | ⟨h1, h2, h3⟩
  · exact Or.inl ⟨h1, Or.inl ⟨q, q1, by rw [← e1 q q1]; exact q2, by rw [← sp_ps_L h q1]; exact q3⟩⟩
  · exact Or.inl ⟨h1, Or.inr h2⟩
  · exact Or.inr ⟨h1, fun q q1 q2 => by rw [← sp_ps_L h q1]; exact h2 q q1 (by rw [e1 q q1]; exact q2), h3⟩
/-! a round of firing -/
def sp_rC (K : Nat) (F G C : Nat → Nat) : Nat → Nat → Nat
  | 0 => C
  | j + 1 => if (sp_rdy K G (sp_rC K F G C j) j && sp_room K F G (sp_rC K F G C j) j) = true then sp_mv K F G (sp_rC K F G C j) j else sp_rC K F G C j
def sp_rok (K : Nat) (F G C : Nat → Nat) (j : Nat) : Bool := sp_rdy K G (sp_rC K F G C j) j && sp_room K F G (sp_rC K F G C j) j
theorem sp_rC_y {K : Nat} {F G C : Nat → Nat} {j : Nat} (h1 : sp_rdy K G (sp_rC K F G C j) j = true) (h2 : sp_room K F G (sp_rC K F G C j) j = true) : sp_rC K F G C (j + 1) = sp_mv K F G (sp_rC K F G C j) j ∧ sp_rok K F G C j = true := by
  have e : (sp_rdy K G (sp_rC K F G C j) j && sp_room K F G (sp_rC K F G C j) j) = true := by rw [h1, h2]; rfl
  exact ⟨if_pos e, e⟩
theorem sp_rC_n {K : Nat} {F G C : Nat → Nat} {j : Nat} (h1 : sp_rdy K G (sp_rC K F G C j) j = false ∨ sp_room K F G (sp_rC K F G C j) j = false) : sp_rC K F G C (j + 1) = sp_rC K F G C j ∧ sp_rok K F G C j = false := by
  have e : (sp_rdy K G (sp_rC K F G C j) j && sp_room K F G (sp_rC K F G C j) j) = false := by rcases h1 with h | h <;> simp [h]
  exact ⟨if_neg (by rw [e]; decide), e⟩
theorem sp_rC_le {K : Nat} {F G C : Nat → Nat} (h : ∀ a, C a ≤ 9) : ∀ j a, sp_rC K F G C j a ≤ 9
  | 0, a => h a
  | j + 1, a => by
    by_cases h1 : sp_rdy K G (sp_rC K F G C j) j = true
    · by_cases h2 : sp_room K F G (sp_rC K F G C j) j = true
      · rw [(sp_rC_y h1 h2).1]; exact sp_mv_le (sp_rC_le h j) h1 h2 a
      · rw [(sp_rC_n (Or.inr (by simpa using h2))).1]; exact sp_rC_le h j a
    · rw [(sp_rC_n (Or.inl (by simpa using h1))).1]; exact sp_rC_le h j a
/-! the least store -/
def sp_lst (q : Nat → Bool) : Int := if fa_first q 7 < 7 then (fa_first q 7 : Int) else -9
theorem sp_lst_y {q : Nat → Bool} {b : Nat} (h : ∀ i, i < b → q i = false) (hb : q b = true) (h7 : b < 7) : sp_lst q = (b : Int) := by
  have h1 := fa_first_no q 7
  have h2 := fa_first_yes q 7
  have e : fa_first q 7 = b := by
    rcases Nat.lt_trichotomy (fa_first q 7) b with z | z | z
    · have := h2 (by omega); rw [h _ z] at this; exact absurd this (by decide)
    · exact z
    · have := h1 b z; rw [hb] at this; exact absurd this (by decide)
  unfold sp_lst
  rw [e, if_pos h7]
theorem sp_lst_n {q : Nat → Bool} (h : ∀ i, i < 7 → q i = false) : sp_lst q = -9 := by
  have h2 := fa_first_yes q 7
  unfold sp_lst
  rw [if_neg]
  intro z
  have := h2 z
  rw [h _ z] at this
  exact absurd this (by decide)
def sp_lok (BR RP : Nat → Nat) (tk ab be b : Nat) : Bool := decide (ab * (1 * 2 ^ (4 * tk)) ≤ sp_mn (sp_cw BR RP) b tk * be)
theorem sp_lok_t {BR RP : Nat → Nat} {tk ab be b : Nat} (h : ab * (1 * 2 ^ (4 * tk)) ≤ sp_mn (sp_cw BR RP) b tk * be) : sp_lok BR RP tk ab be b = true := decide_eq_true h
theorem sp_lok_f {BR RP : Nat → Nat} {tk ab be b : Nat} (h : sp_mn (sp_cw BR RP) b tk * be < ab * (1 * 2 ^ (4 * tk))) : sp_lok BR RP tk ab be b = false := decide_eq_false (by omega)
theorem pow24 (t : Nat) : 1 * 2 ^ (4 * t) = 16 ^ t := by rw [Nat.one_mul, Nat.pow_mul]
theorem sp_mn_b {BR RP : Nat → Nat} (h1 : ∀ i, BR i ≤ 4) (h2 : ∀ i, RP i ≤ 4) {mo t : Nat} (hm : mo ≤ 6) (ht : t ≤ 10) : sp_mn (sp_cw BR RP) mo t ≤ 10995116277760 := by
  have e1 := sp_mn_le hm (sp_cw_row h1 h2) t
  have e2 := Nat.mul_le_mul ht (pow16_le ht)
  omega
theorem sp_in_le (many k : Nat) : sp_in many k ≤ 1 := by unfold sp_in; split <;> omega
theorem sp_js_b {BR RP : Nat → Nat} (h1 : ∀ i, BR i ≤ 4) (h2 : ∀ i, RP i ≤ 4) {mo t many : Nat} (hm : mo ≤ 6) (hg : many ≤ 10) (ht : t ≤ 10) : sp_js (sp_cw BR RP) mo many t ≤ 1099511627776 := by
  have e1 := sp_Pi_le (cn := 1) hm hg (sp_cw_row h1 h2) t (φ := sp_in many) (M := 1) (fun k _ => sp_in_le many k) 231 (by omega)
  have e2 := pow16_le ht
  unfold sp_js
  omega
def sp_rowok (DM KD : Nat → Nat) (ln fa tn : Nat) : Prop := ln = fb_sm DM 6 ∧ (∀ q, q < ln → KD q = sp_kd DM ln q) ∧ fa = sp_rg DM ln ln ∧ tn = sp_tn DM ln ln
