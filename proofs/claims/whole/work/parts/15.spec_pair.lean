/-! two machines and their store: weights of all that can be; a place is (who is up * 7 + level) * 11 + how many were given -/
def sp_ix (x lv ct : Nat) : Nat := (x * 7 + lv) * 11 + ct
def sp_gv (x lv : Nat) : Nat := if x = 3 ∨ (x = 2 ∧ 0 < lv) then 1 else 0
theorem sp_gv_le (x lv : Nat) : sp_gv x lv ≤ 1 := by unfold sp_gv; split <;> omega
def sp_la (x lv mo : Nat) : Nat := if x = 1 then min (lv + 1) mo else if x = 2 then lv - 1 else lv
theorem sp_la_le {x lv mo : Nat} (h : lv ≤ mo) : sp_la x lv mo ≤ mo := by unfold sp_la; split; omega; split <;> omega
def sp_S (W φ : Nat → Nat) : Nat := fb_sm (fun k => W k * φ k) 308
theorem sp_S_up {W : Nat → Nat} {i a : Nat} (h : i < 308) (φ : Nat → Nat) : sp_S (up W i (W i + a)) φ = sp_S W φ + a * φ i := by
  have e := fb_sm_upd (fun k => W k * φ k) ((W i + a) * φ i) h
  have e2 : sp_S (up W i (W i + a)) φ = fb_sm (fun k => if k = i then (W i + a) * φ i else W k * φ k) 308 := fb_sm_cong (fun k _ => by by_cases q : k = i <;> simp [up_e, q])
  have e3 : (W i + a) * φ i = W i * φ i + a * φ i := Nat.add_mul _ _ _
  have e4 : sp_S W φ = fb_sm (fun k => W k * φ k) 308 := rfl
  omega
theorem sp_S_le {W : Nat → Nat} {k : Nat} (h : k < 308) : W k ≤ sp_S W (fun _ => 1) := by
  have e := fb_sm_part (fun k => W k * 1) h
  have e2 : sp_S W (fun _ => 1) = fb_sm (fun k => W k * 1) 308 := rfl
  simp only [Nat.mul_one] at e e2
  omega
def sp_zr (W : Nat → Nat) (mo mg : Nat) : Prop := ∀ k, k < 308 → (mo < k % 77 / 11 ∨ mg < k % 11) → W k = 0
theorem sp_zr_up {W : Nat → Nat} {mo mg x lv ct v : Nat} (h : sp_zr W mo mg) (h1 : lv ≤ mo) (h2 : ct ≤ mg) (h3 : mo ≤ 6) (h4 : mg ≤ 10) : sp_zr (up W (sp_ix x lv ct) v) mo mg := by
  intro k hk hc
  by_cases q : k = sp_ix x lv ct
  · unfold sp_ix at q; omega
  · rw [up_n _ _ q]; exact h k hk hc
/-- what a source gives to who is up next -/
def sp_Pq (CW : Nat → Nat) (mo mg cn : Nat) (φ : Nat → Nat) (x lv ct j : Nat) : Nat := if ct + cn * sp_gv j lv ≤ mg then CW (x * 4 + j) * φ (sp_ix j (sp_la j lv mo) (ct + cn * sp_gv j lv)) else 0
def sp_Pf (CW : Nat → Nat) (mo mg cn : Nat) (φ : Nat → Nat) (k : Nat) : Nat := fb_sm (sp_Pq CW mo mg cn φ (k / 77) (k % 77 / 11) (k % 11)) 4
def sp_gq (CW : Nat → Nat) (x lv j : Nat) : Nat := CW (x * 4 + j) * sp_gv j lv
def sp_gf (CW : Nat → Nat) (k : Nat) : Nat := fb_sm (sp_gq CW (k / 77) (k % 77 / 11)) 4
theorem sp_ix_d {x lv ct : Nat} (h1 : lv < 7) (h2 : ct < 11) : sp_ix x lv ct / 77 = x ∧ sp_ix x lv ct % 77 / 11 = lv ∧ sp_ix x lv ct % 11 = ct := by
  unfold sp_ix; omega
theorem sp_Pf_ix {CW : Nat → Nat} {mo mg cn : Nat} {φ : Nat → Nat} {x lv ct : Nat} (h1 : lv < 7) (h2 : ct < 11) : sp_Pf CW mo mg cn φ (sp_ix x lv ct) = fb_sm (sp_Pq CW mo mg cn φ x lv ct) 4 := by
  unfold sp_Pf
  obtain ⟨e1, e2, e3⟩ := sp_ix_d (x := x) h1 h2
  rw [e1, e2, e3]
theorem sp_gf_ix {CW : Nat → Nat} {x lv ct : Nat} (h1 : lv < 7) (h2 : ct < 11) : sp_gf CW (sp_ix x lv ct) = fb_sm (sp_gq CW x lv) 4 := by
  unfold sp_gf
  obtain ⟨e1, e2, e3⟩ := sp_ix_d (x := x) h1 h2
  rw [e1, e2]
theorem sp_pre {f : Nat → Nat} {a b : Nat} (h : a ≤ b) (hz : ∀ k, a ≤ k → k < b → f k = 0) : fb_sm f b = fb_sm f a := by
  have e : ∀ n, a + n ≤ b → fb_sm f (a + n) = fb_sm f a := by
    intro n
    induction n with
    | zero => intro _; rfl
    | succ n ih =>
      intro hn
      show fb_sm f (a + n + 1) = _
      rw [fb_sm_succ, ih (by omega), hz (a + n) (by omega) (by omega)]
      rfl
  have := e (b - a) (by omega)
  rw [show a + (b - a) = b by omega] at this
  exact this
theorem sp_Sp_c {W ψ : Nat → Nat} {mo mg x lv ct : Nat} (hz : sp_zr W mo mg) (hx : x < 4) (hl : lv < 7) (hc : mg < ct) (hc2 : ct ≤ 11) : fb_sm (fun k => W k * ψ k) ((x * 7 + (lv + 1)) * 11) = fb_sm (fun k => W k * ψ k) ((x * 7 + lv) * 11 + ct) :=
  sp_pre (by omega) (fun k h1 h2 => by
    show W k * ψ k = 0
    rw [hz k (by omega) (by omega), Nat.zero_mul])
theorem sp_Sp_l {W ψ : Nat → Nat} {mo mg x lv : Nat} (hz : sp_zr W mo mg) (hx : x < 4) (hl : mo < lv) (hl2 : lv ≤ 7) : fb_sm (fun k => W k * ψ k) ((x + 1) * 77) = fb_sm (fun k => W k * ψ k) ((x * 7 + lv) * 11) :=
  sp_pre (by omega) (fun k h1 h2 => by
    show W k * ψ k = 0
    rw [hz k (by omega) (by omega), Nat.zero_mul])
/-! many ticks -/
def sp_Pi (CW : Nat → Nat) (mo mg cn : Nat) : Nat → (Nat → Nat) → Nat → Nat
  | 0, φ => φ
  | t + 1, φ => sp_Pi CW mo mg cn t (sp_Pf CW mo mg cn φ)
theorem sp_Pi_s (CW : Nat → Nat) (mo mg cn t : Nat) (φ : Nat → Nat) : sp_Pi CW mo mg cn (t + 1) φ = sp_Pi CW mo mg cn t (sp_Pf CW mo mg cn φ) := rfl
theorem sp_Pi_o (CW : Nat → Nat) (mo mg cn : Nat) : ∀ (t : Nat) (φ : Nat → Nat), sp_Pf CW mo mg cn (sp_Pi CW mo mg cn t φ) = sp_Pi CW mo mg cn t (sp_Pf CW mo mg cn φ)
  | 0, _ => rfl
  | t + 1, φ => sp_Pi_o CW mo mg cn t (sp_Pf CW mo mg cn φ)
def sp_row (CW : Nat → Nat) : Prop := ∀ x, x < 4 → fb_sm (fun j => CW (x * 4 + j)) 4 = 16
theorem sp_Pf_le {CW : Nat → Nat} {mo mg cn M : Nat} {φ : Nat → Nat} (hr : sp_row CW) (h : ∀ k, φ k ≤ M) {k : Nat} (hk : k < 308) : sp_Pf CW mo mg cn φ k ≤ 16 * M := by
  have h1 : ∀ n, fb_sm (sp_Pq CW mo mg cn φ (k / 77) (k % 77 / 11) (k % 11)) n ≤ fb_sm (fun j => CW (k / 77 * 4 + j)) n * M := by
    intro n
    induction n with
    | zero => exact Nat.zero_le _
    | succ n ih =>
      rw [fb_sm_succ, fb_sm_succ, Nat.add_mul]
      have h2 : sp_Pq CW mo mg cn φ (k / 77) (k % 77 / 11) (k % 11) n ≤ CW (k / 77 * 4 + n) * M := by
        unfold sp_Pq
        split
        · exact Nat.mul_le_mul (Nat.le_refl _) (h _)
        · exact Nat.zero_le _
      omega
  have h3 := h1 4
  rw [hr (k / 77) (by omega)] at h3
  exact h3
theorem sp_Pq_cong {CW : Nat → Nat} {mo mg cn : Nat} {φ φ2 : Nat → Nat} {x lv ct j : Nat} (hj : j < 4) (hl : lv ≤ 6) (hm : mo ≤ 6) (hg : mg ≤ 10) (h : ∀ k, k < 308 → φ k = φ2 k) : sp_Pq CW mo mg cn φ x lv ct j = sp_Pq CW mo mg cn φ2 x lv ct j := by
  unfold sp_Pq
  split
  · rename_i hq
    rw [h]
    have h1 : sp_la j lv mo ≤ 6 := by unfold sp_la; split; omega; split <;> omega
    unfold sp_ix; omega
  · rfl
theorem sp_Pf_cong {CW : Nat → Nat} {mo mg cn : Nat} {φ φ2 : Nat → Nat} (hm : mo ≤ 6) (hg : mg ≤ 10) (h : ∀ k, k < 308 → φ k = φ2 k) (k : Nat) (hk : k < 308) : sp_Pf CW mo mg cn φ k = sp_Pf CW mo mg cn φ2 k :=
  fb_sm_cong (fun j hj => sp_Pq_cong hj (by omega) hm hg h)
theorem sp_Pi_cong {CW : Nat → Nat} {mo mg cn : Nat} (hm : mo ≤ 6) (hg : mg ≤ 10) : ∀ (t : Nat) {φ φ2 : Nat → Nat}, (∀ k, k < 308 → φ k = φ2 k) → ∀ k, k < 308 → sp_Pi CW mo mg cn t φ k = sp_Pi CW mo mg cn t φ2 k
  | 0, _, _, h => h
  | t + 1, _, _, h => sp_Pi_cong hm hg t (sp_Pf_cong hm hg h)
theorem sp_Pi_le {CW : Nat → Nat} {mo mg cn : Nat} (hm : mo ≤ 6) (hg : mg ≤ 10) (hr : sp_row CW) : ∀ (t : Nat) {φ : Nat → Nat} {M : Nat}, (∀ k, k < 308 → φ k ≤ M) → ∀ k, k < 308 → sp_Pi CW mo mg cn t φ k ≤ 16 ^ t * M
  | 0, _, M, h, k, hk => by rw [Nat.pow_zero, Nat.one_mul]; exact h k hk
  | t + 1, φ, M, h, k, hk => by
    rw [sp_Pi_s, Nat.pow_succ, Nat.mul_assoc]
    refine sp_Pi_le hm hg hr t (fun k hk => ?_) k hk
    have e := sp_Pf_cong (CW := CW) (mo := mo) (mg := mg) (cn := cn) hm hg (φ := φ) (φ2 := fun k => if k < 308 then φ k else 0) (fun k hk => by rw [if_pos hk]) k hk
    rw [e]
    exact sp_Pf_le hr (fun k => by split; exact h k (by assumption); exact Nat.zero_le _) hk
def sp_mn (CW : Nat → Nat) (mo : Nat) : Nat → Nat
  | 0 => 0
  | t + 1 => sp_mn CW mo t * 4 * 4 + sp_Pi CW mo 0 0 t (sp_gf CW) 231
theorem sp_mn_s (CW : Nat → Nat) (mo t : Nat) : sp_mn CW mo (t + 1) = sp_mn CW mo t * 4 * 4 + sp_Pi CW mo 0 0 t (sp_gf CW) 231 := rfl
theorem sp_gf_le {CW : Nat → Nat} (hr : sp_row CW) (k : Nat) (hk : k < 308) : sp_gf CW k ≤ 16 := by
  have h1 : ∀ n, fb_sm (sp_gq CW (k / 77) (k % 77 / 11)) n ≤ fb_sm (fun j => CW (k / 77 * 4 + j)) n := by
    intro n
    induction n with
    | zero => exact Nat.zero_le _
    | succ n ih =>
      rw [fb_sm_succ, fb_sm_succ]
      have h2 : sp_gq CW (k / 77) (k % 77 / 11) n ≤ CW (k / 77 * 4 + n) := by
        have := Nat.mul_le_mul (Nat.le_refl (CW (k / 77 * 4 + n))) (sp_gv_le n (k % 77 / 11))
        unfold sp_gq; omega
      omega
  have h3 := h1 4
  rw [hr (k / 77) (by omega)] at h3
  exact h3
theorem sp_mn_le {CW : Nat → Nat} {mo : Nat} (hm : mo ≤ 6) (hr : sp_row CW) : ∀ t, sp_mn CW mo t ≤ t * 16 ^ t
  | 0 => Nat.le_refl _
  | t + 1 => by
    have ih := sp_mn_le hm hr t
    have h1 := sp_Pi_le (cn := 0) hm (show 0 ≤ 10 by omega) hr t (sp_gf_le hr) 231 (by omega)
    have h2 : (t + 1) * 16 ^ (t + 1) = t * 16 ^ t * 16 + 16 ^ t * 16 := by rw [Nat.pow_succ, Nat.add_mul, Nat.one_mul, Nat.mul_assoc]
    rw [sp_mn_s, h2]
    omega
theorem pow16_le {t : Nat} (h : t ≤ 10) : 16 ^ t ≤ 1099511627776 := Nat.le_trans (Nat.pow_le_pow_right (by omega) h) (by decide)
theorem pow16_pos (t : Nat) : 0 < 16 ^ t := Nat.pow_pos (by omega)
/-! chances -/
def sp_qo (BR RP : Nat → Nat) (m wu iu : Nat) : Nat := if wu = iu then 4 - (if wu = 1 then BR m else RP m) else (if wu = 1 then BR m else RP m)
def sp_cw (BR RP : Nat → Nat) (i : Nat) : Nat := sp_qo BR RP 0 (i / 4 % 2) (i % 4 % 2) * sp_qo BR RP 1 (i / 4 / 2) (i % 4 / 2)
theorem sp_qo_le {BR RP : Nat → Nat} (h1 : ∀ i, BR i ≤ 4) (h2 : ∀ i, RP i ≤ 4) (m wu iu : Nat) : sp_qo BR RP m wu iu ≤ 4 := by
  have := h1 m; have := h2 m
  unfold sp_qo; split <;> split <;> omega
theorem sp_qo_sum {BR RP : Nat → Nat} (h1 : ∀ i, BR i ≤ 4) (h2 : ∀ i, RP i ≤ 4) (m : Nat) {wu : Nat} (hw : wu < 2) : sp_qo BR RP m wu 0 + sp_qo BR RP m wu 1 = 4 := by
  have := h1 m; have := h2 m
  rcases (show wu = 0 ∨ wu = 1 by omega) with rfl | rfl <;> simp [sp_qo] <;> omega
theorem sp_cw_row {BR RP : Nat → Nat} (h1 : ∀ i, BR i ≤ 4) (h2 : ∀ i, RP i ≤ 4) : sp_row (sp_cw BR RP) := by
  intro x hx
  have e : ∀ j, j < 4 → sp_cw BR RP (x * 4 + j) = sp_qo BR RP 0 (x % 2) (j % 2) * sp_qo BR RP 1 (x / 2) (j / 2) := by
    intro j hj
    unfold sp_cw
    rw [show (x * 4 + j) / 4 = x by omega, show (x * 4 + j) % 4 = j by omega]
  show 0 + sp_cw BR RP (x * 4 + 0) + sp_cw BR RP (x * 4 + 1) + sp_cw BR RP (x * 4 + 2) + sp_cw BR RP (x * 4 + 3) = 16
  rw [e 0 (by omega), e 1 (by omega), e 2 (by omega), e 3 (by omega)]
  have a1 := sp_qo_sum h1 h2 0 (show x % 2 < 2 by omega)
  have a2 := sp_qo_sum h1 h2 1 (show x / 2 < 2 by omega)
  show 0 + sp_qo BR RP 0 (x % 2) 0 * sp_qo BR RP 1 (x / 2) 0 + sp_qo BR RP 0 (x % 2) 1 * sp_qo BR RP 1 (x / 2) 0 + sp_qo BR RP 0 (x % 2) 0 * sp_qo BR RP 1 (x / 2) 1 + sp_qo BR RP 0 (x % 2) 1 * sp_qo BR RP 1 (x / 2) 1 = 16
  have b1 : sp_qo BR RP 0 (x % 2) 0 * sp_qo BR RP 1 (x / 2) 0 + sp_qo BR RP 0 (x % 2) 1 * sp_qo BR RP 1 (x / 2) 0 = 4 * sp_qo BR RP 1 (x / 2) 0 := by rw [← Nat.add_mul, a1]
  have b2 : sp_qo BR RP 0 (x % 2) 0 * sp_qo BR RP 1 (x / 2) 1 + sp_qo BR RP 0 (x % 2) 1 * sp_qo BR RP 1 (x / 2) 1 = 4 * sp_qo BR RP 1 (x / 2) 1 := by rw [← Nat.add_mul, a1]
  omega
/-! the sum over the start -/
theorem sp_S_start {W : Nat → Nat} (h : ∀ k, k < 308 → W k = if k = 231 then 1 else 0) (φ : Nat → Nat) : sp_S W φ = φ 231 := by
  have e := fb_sm_upd (fun _ : Nat => 0) (φ 231) (show 231 < 308 by omega)
  have e2 : sp_S W φ = fb_sm (fun k => if k = 231 then φ 231 else 0) 308 := fb_sm_cong (fun k hk => by rw [h k hk]; by_cases q : k = 231 <;> simp [q])
  have e3 : fb_sm (fun _ : Nat => 0) 308 = 0 := by rw [fb_sm_const]
  omega
theorem sp_S_0 {W : Nat → Nat} (h : ∀ k, k < 308 → W k = 0) (φ : Nat → Nat) : sp_S W φ = 0 := by
  have e : sp_S W φ = fb_sm (fun _ => 0) 308 := fb_sm_cong (fun k hk => by rw [h k hk, Nat.zero_mul])
  rw [e, fb_sm_const]
theorem sp_Pq_cw {CW CW2 : Nat → Nat} (h : ∀ i, i < 16 → CW i = CW2 i) {mo mg cn : Nat} {φ : Nat → Nat} {x lv ct j : Nat} (hx : x < 4) (hj : j < 4) : sp_Pq CW mo mg cn φ x lv ct j = sp_Pq CW2 mo mg cn φ x lv ct j := by
  unfold sp_Pq
  rw [h (x * 4 + j) (by omega)]
theorem sp_Pi_cw {CW CW2 : Nat → Nat} (h : ∀ i, i < 16 → CW i = CW2 i) {mo mg cn : Nat} (hm : mo ≤ 6) (hg : mg ≤ 10) : ∀ (t : Nat) (φ : Nat → Nat) (k : Nat), k < 308 → sp_Pi CW mo mg cn t φ k = sp_Pi CW2 mo mg cn t φ k
  | 0, _, _, _ => rfl
  | t + 1, φ, k, hk => by
    rw [sp_Pi_s, sp_Pi_s, sp_Pi_cw h hm hg t _ k hk]
    refine sp_Pi_cong hm hg t (fun q hq => ?_) k hk
    exact fb_sm_cong (fun j hj => sp_Pq_cw h (by omega) hj)
theorem sp_gf_cw {CW CW2 : Nat → Nat} (h : ∀ i, i < 16 → CW i = CW2 i) (k : Nat) (hk : k < 308) : sp_gf CW k = sp_gf CW2 k :=
  fb_sm_cong (fun j hj => by unfold sp_gq; rw [h (k / 77 * 4 + j) (by omega)])
theorem sp_mn_cw {CW CW2 : Nat → Nat} (h : ∀ i, i < 16 → CW i = CW2 i) {mo : Nat} (hm : mo ≤ 6) : ∀ t, sp_mn CW mo t = sp_mn CW2 mo t
  | 0 => rfl
  | t + 1 => by
    rw [sp_mn_s, sp_mn_s, sp_mn_cw h hm t, sp_Pi_cw h hm (by omega) t _ 231 (by omega), sp_Pi_cong hm (by omega) t (sp_gf_cw h) 231 (by omega)]
theorem sp_row_cw {CW CW2 : Nat → Nat} (h : ∀ i, i < 16 → CW i = CW2 i) (hr : sp_row CW2) : sp_row CW := fun x hx => by
  rw [← hr x hx]
  exact fb_sm_cong (fun j hj => h _ (by omega))
def sp_in (many k : Nat) : Nat := if k % 11 = many then 1 else 0
def sp_js (CW : Nat → Nat) (mo many t : Nat) : Nat := sp_Pi CW mo many 1 t (sp_in many) 231
theorem sp_in_11 {W : Nat → Nat} {many a : Nat} (hm : many < 11) : fb_sm (fun k => W k * sp_in many k) ((a + 1) * 11) = fb_sm (fun k => W k * sp_in many k) (a * 11) + W (a * 11 + many) := by
  have h1 : fb_sm (fun k => W k * sp_in many k) (a * 11 + many) = fb_sm (fun k => W k * sp_in many k) (a * 11) := sp_pre (by omega) (fun k h1 h2 => by
    show W k * sp_in many k = 0
    unfold sp_in
    rw [if_neg (by omega), Nat.mul_zero])
  have h2 : fb_sm (fun k => W k * sp_in many k) ((a + 1) * 11) = fb_sm (fun k => W k * sp_in many k) (a * 11 + many + 1) := sp_pre (by omega) (fun k h1 h2 => by
    show W k * sp_in many k = 0
    unfold sp_in
    rw [if_neg (by omega), Nat.mul_zero])
  rw [h2, fb_sm_succ, h1]
  have h3 : sp_in many (a * 11 + many) = 1 := by unfold sp_in; rw [if_pos (by omega)]
  rw [h3, Nat.mul_one]
theorem sp_W_le {CW W : Nat → Nat} {mo mg cn t : Nat} (hm : mo ≤ 6) (hg : mg ≤ 10) (hr : sp_row CW) (ht : t ≤ 10) (h : ∀ φ, sp_S W φ = sp_Pi CW mo mg cn t φ 231) : ∀ k, k < 308 → W k ≤ 1099511627776 := by
  intro k hk
  have h1 := sp_S_le (W := W) hk
  have h2 := sp_Pi_le (cn := cn) hm hg hr t (φ := fun _ => 1) (M := 1) (fun _ _ => Nat.le_refl _) 231 (by omega)
  have h3 := pow16_le ht
  rw [h] at h1
  omega
