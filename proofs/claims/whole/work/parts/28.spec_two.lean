/-! two machines and their store, kept place by place, with the first one's bit above -/
def sp_sw (x : Nat) : Nat := if x = 1 then 2 else if x = 2 then 1 else x
theorem sp_sw_c {x : Nat} (h : x < 4) : (x = 0 ∧ sp_sw x = 0) ∨ (x = 1 ∧ sp_sw x = 2) ∨ (x = 2 ∧ sp_sw x = 1) ∨ (x = 3 ∧ sp_sw x = 3) := by
  rcases (show x = 0 ∨ x = 1 ∨ x = 2 ∨ x = 3 by omega) with rfl | rfl | rfl | rfl <;> simp [sp_sw]
theorem sp_sw_lt {x : Nat} (h : x < 4) : sp_sw x < 4 := by have := sp_sw_c h; omega
def sp_sg (k : Nat) : Nat := sp_ix (sp_sw (k / 77)) (k % 77 / 11) (k % 11)
theorem sp_sg_11 (k : Nat) : sp_sg k % 11 = k % 11 := by unfold sp_sg sp_ix; omega
theorem sp_sg_lt {k : Nat} (h : k < 308) : sp_sg k < 308 := by
  have := sp_sw_lt (show k / 77 < 4 by omega)
  unfold sp_sg sp_ix; omega
theorem sp_sg_ix {x lv ct : Nat} (h1 : lv < 7) (h2 : ct < 11) : sp_sg (sp_ix x lv ct) = sp_ix (sp_sw x) lv ct := by
  obtain ⟨e1, e2, e3⟩ := sp_ix_d (x := x) h1 h2
  unfold sp_sg
  rw [e1, e2, e3]
theorem sp_sw4 (f : Nat → Nat) : fb_sm (fun u => f (sp_sw u)) 4 = fb_sm f 4 := by
  show 0 + f 0 + f 2 + f 1 + f 3 = 0 + f 0 + f 1 + f 2 + f 3
  omega
theorem sp_qo_1 {BR RP : Nat → Nat} {m w : Nat} (hw : w ≤ 1) {r : Nat} (h : (¬ w = 0 ∧ r = 4 - BR m) ∨ (w = 0 ∧ r = RP m)) : r = sp_qo BR RP m w 1 := by
  unfold sp_qo
  rcases (show w = 0 ∨ w = 1 by omega) with rfl | rfl <;> simp <;> omega
theorem sp_cw_sw {BR RP : Nat → Nat} {a j : Nat} (ha : a < 4) (hj : j < 4) : sp_cw BR RP (sp_sw a * 4 + sp_sw j) = sp_qo BR RP 0 (a / 2) (j / 2) * sp_qo BR RP 1 (a % 2) (j % 2) := by
  have h1 := sp_sw_c ha
  have h2 := sp_sw_c hj
  have e1 : (sp_sw a * 4 + sp_sw j) / 4 % 2 = a / 2 := by omega
  have e2 : (sp_sw a * 4 + sp_sw j) / 4 / 2 = a % 2 := by omega
  have e3 : (sp_sw a * 4 + sp_sw j) % 4 % 2 = j / 2 := by omega
  have e4 : (sp_sw a * 4 + sp_sw j) % 4 / 2 = j % 2 := by omega
  unfold sp_cw
  rw [e1, e2, e3, e4]
theorem sp_two {u lv mo iv ct o fu su : Nat} (hu : u < 4) (hf : fu = u / 2) (hs : su = u % 2) (hlm : lv ≤ mo) (h : (¬ su = 0 ∧ ¬ fu = 0 ∧ iv = lv ∧ o = ct + 1) ∨ (¬ su = 0 ∧ fu = 0 ∧ 0 < lv ∧ iv + 1 = lv ∧ o = ct + 1) ∨ (su = 0 ∧ ¬ fu = 0 ∧ lv < mo ∧ iv = lv + 1 ∧ o = ct) ∨ (iv = lv ∧ o = ct ∧ ((¬ su = 0 ∧ fu = 0 ∧ lv = 0) ∨ (su = 0 ∧ fu = 0) ∨ (su = 0 ∧ ¬ fu = 0 ∧ mo ≤ lv)))) : iv = sp_la (sp_sw u) lv mo ∧ o = ct + sp_gv (sp_sw u) lv := by
  rcases sp_sw_c hu with ⟨e, e2⟩ | ⟨e, e2⟩ | ⟨e, e2⟩ | ⟨e, e2⟩ <;> rw [e2] <;> simp only [sp_la, sp_gv] <;> simp <;> (first | omega | (split <;> omega))
theorem sp_two_S {CW X : Nat → Nat} {mo x lv ct u iv o wt c : Nat} (hu : u < 4) (hiv : iv = sp_la (sp_sw u) lv mo) (ho : o = ct + sp_gv (sp_sw u) lv) (hi7 : iv < 7) (ho10 : o ≤ 10) (hc : c = CW (sp_sw x * 4 + sp_sw u)) (φ : Nat → Nat) : sp_S (up X (77 * u + 11 * iv + o) (X (77 * u + 11 * iv + o) + wt * c)) (fun k => φ (sp_sg k)) = sp_S X (fun k => φ (sp_sg k)) + wt * sp_Pq CW mo 10 1 φ (sp_sw x) lv ct (sp_sw u) := by
  have e : 77 * u + 11 * iv + o = sp_ix u iv o := by unfold sp_ix; omega
  have hlt : sp_ix u iv o < 308 := by unfold sp_ix; omega
  have e2 : sp_Pq CW mo 10 1 φ (sp_sw x) lv ct (sp_sw u) = c * φ (sp_ix (sp_sw u) iv o) := by
    unfold sp_Pq
    rw [if_pos (by omega), ← hc, ← hiv, Nat.one_mul, ← ho]
  rw [e, sp_S_up hlt, e2, ← Nat.mul_assoc]
  show _ = sp_S X (fun k => φ (sp_sg k)) + wt * c * φ (sp_ix (sp_sw u) iv o)
  rw [← sp_sg_ix hi7 (show o < 11 by omega)]
theorem sp_two_0 {CW : Nat → Nat} {mo x lv ct u wt c : Nat} (hc : c = CW (sp_sw x * 4 + sp_sw u)) (h0 : c = 0) (φ : Nat → Nat) : wt * sp_Pq CW mo 10 1 φ (sp_sw x) lv ct (sp_sw u) = 0 := by
  have e2 : sp_Pq CW mo 10 1 φ (sp_sw x) lv ct (sp_sw u) = 0 := by
    unfold sp_Pq
    split
    · rw [← hc, h0, Nat.zero_mul]
    · rfl
  rw [e2, Nat.mul_zero]
theorem sp_Pf_sg {CW : Nat → Nat} {mo : Nat} {φ : Nat → Nat} (k : Nat) : sp_Pf CW mo 10 1 φ (sp_sg k) = fb_sm (fun u => sp_Pq CW mo 10 1 φ (sp_sw (k / 77)) (k % 77 / 11) (k % 11) (sp_sw u)) 4 := by
  rw [sp_sw4]
  exact sp_Pf_ix (by omega) (by omega)
/-! what is counted is bounded by no more than ten -/
theorem sp_Pq_lin {CW : Nat → Nat} {mo mg cn a : Nat} {φ ψ : Nat → Nat} {x lv ct j : Nat} : sp_Pq CW mo mg cn (fun k => a * φ k + ψ k) x lv ct j = a * sp_Pq CW mo mg cn φ x lv ct j + sp_Pq CW mo mg cn ψ x lv ct j := by
  unfold sp_Pq
  split
  · rw [Nat.mul_add, Nat.mul_left_comm]
  · rfl
theorem sp_Pf_lin {CW : Nat → Nat} {mo mg cn a : Nat} {φ ψ : Nat → Nat} : sp_Pf CW mo mg cn (fun k => a * φ k + ψ k) = fun k => a * sp_Pf CW mo mg cn φ k + sp_Pf CW mo mg cn ψ k := by
  funext k
  have h : ∀ n, fb_sm (sp_Pq CW mo mg cn (fun k => a * φ k + ψ k) (k / 77) (k % 77 / 11) (k % 11)) n = a * fb_sm (sp_Pq CW mo mg cn φ (k / 77) (k % 77 / 11) (k % 11)) n + fb_sm (sp_Pq CW mo mg cn ψ (k / 77) (k % 77 / 11) (k % 11)) n := by
    intro n
    induction n with
    | zero => rfl
    | succ n ih => rw [fb_sm_succ, fb_sm_succ, fb_sm_succ, ih, sp_Pq_lin, Nat.mul_add]; omega
  exact h 4
theorem sp_Pi_lin {CW : Nat → Nat} {mo mg cn a : Nat} : ∀ (t : Nat) (φ ψ : Nat → Nat) (k : Nat), sp_Pi CW mo mg cn t (fun k => a * φ k + ψ k) k = a * sp_Pi CW mo mg cn t φ k + sp_Pi CW mo mg cn t ψ k
  | 0, _, _, _ => rfl
  | t + 1, φ, ψ, k => by rw [sp_Pi_s, sp_Pi_s, sp_Pi_s, sp_Pf_lin]; exact sp_Pi_lin t _ _ k
theorem sp_la6 {x lv mo : Nat} (hl : lv ≤ 6) (hm : mo ≤ 6) : sp_la x lv mo ≤ 6 := by unfold sp_la; split; omega; split <;> omega
theorem sp_Pi_low {CW : Nat → Nat} {mo c : Nat} (hm : mo ≤ 6) : ∀ (t : Nat) (φ φ2 : Nat → Nat), c + t ≤ 10 → (∀ k, k < 308 → k % 11 ≤ c + t → φ k = φ2 k) → ∀ k, k < 308 → k % 11 ≤ c → sp_Pi CW mo 10 1 t φ k = sp_Pi CW mo 10 1 t φ2 k
  | 0, _, _, _, h, k, hk, hc => h k hk (by omega)
  | t + 1, φ, φ2, ht, h, k, hk, hc => by
    rw [sp_Pi_s, sp_Pi_s]
    refine sp_Pi_low hm t _ _ (by omega) (fun q hq hqc => fb_sm_cong (fun j hj => ?_)) k hk hc
    unfold sp_Pq
    split
    · have g1 := sp_la6 (x := j) (show q % 77 / 11 ≤ 6 by omega) hm
      have g2 := sp_gv_le j (q % 77 / 11)
      rw [h]
      · unfold sp_ix; omega
      · unfold sp_ix; omega
    · rfl
theorem sp_Pi_nc {CW : Nat → Nat} {mo : Nat} (hm : mo ≤ 6) {φ : Nat → Nat} (h : ∀ x lv ct, x < 4 → lv < 7 → ct < 11 → φ (sp_ix x lv ct) = φ (sp_ix x lv 0)) : ∀ t x lv ct, x < 4 → lv < 7 → ct + t ≤ 10 → sp_Pi CW mo 10 1 t φ (sp_ix x lv ct) = sp_Pi CW mo 0 0 t φ (sp_ix x lv 0)
  | 0, x, lv, ct, hx, hl, hc => h x lv ct hx hl (by omega)
  | t + 1, x, lv, ct, hx, hl, hc => by
    rw [sp_Pi_s, sp_Pi_s, ← sp_Pi_o, ← sp_Pi_o, sp_Pf_ix hl (by omega), sp_Pf_ix hl (by omega)]
    refine fb_sm_cong (fun j hj => ?_)
    have g1 := sp_la6 (x := j) (show lv ≤ 6 by omega) hm
    have g2 := sp_gv_le j lv
    unfold sp_Pq
    rw [if_pos (by omega), if_pos (by omega), Nat.one_mul, Nat.zero_mul, Nat.add_zero, sp_Pi_nc hm h t j (sp_la j lv mo) (ct + sp_gv j lv) hj (by omega) (by omega)]
theorem sp_Pf_cnt {CW : Nat → Nat} {mo : Nat} (hr : sp_row CW) (hm : mo ≤ 6) {k : Nat} (hk : k < 308) (hc : k % 11 ≤ 9) : sp_Pf CW mo 10 1 (fun k => k % 11) k = 16 * (k % 11) + sp_gf CW k := by
  have h : ∀ n, n ≤ 4 → fb_sm (sp_Pq CW mo 10 1 (fun k => k % 11) (k / 77) (k % 77 / 11) (k % 11)) n = fb_sm (fun j => CW (k / 77 * 4 + j)) n * (k % 11) + fb_sm (sp_gq CW (k / 77) (k % 77 / 11)) n := by
    intro n
    induction n with
    | zero => intro _; show 0 = 0 * (k % 11) + 0; omega
    | succ n ih =>
      intro hn
      have g1 := sp_la6 (x := n) (show k % 77 / 11 ≤ 6 by omega) hm
      have g2 := sp_gv_le n (k % 77 / 11)
      have e : sp_Pq CW mo 10 1 (fun k => k % 11) (k / 77) (k % 77 / 11) (k % 11) n = CW (k / 77 * 4 + n) * (k % 11 + sp_gv n (k % 77 / 11)) := by
        unfold sp_Pq
        rw [if_pos (by omega), Nat.one_mul]
        show _ * (sp_ix _ _ _ % 11) = _
        rw [(sp_ix_d (x := n) (lv := sp_la n (k % 77 / 11) mo) (ct := k % 11 + sp_gv n (k % 77 / 11)) (by omega) (by omega)).2.2]
      rw [fb_sm_succ, fb_sm_succ, fb_sm_succ, ih (by omega), e, Nat.mul_add, Nat.add_mul]
      unfold sp_gq
      omega
  have h4 := h 4 (Nat.le_refl _)
  rw [hr (k / 77) (by omega)] at h4
  exact h4
theorem sp_gf_nc (CW : Nat → Nat) : ∀ x lv ct, x < 4 → lv < 7 → ct < 11 → sp_gf CW (sp_ix x lv ct) = sp_gf CW (sp_ix x lv 0) := fun x lv ct _ hl hc => by
  rw [sp_gf_ix hl hc, sp_gf_ix hl (by omega)]
theorem sp_mean_eq {CW : Nat → Nat} {mo : Nat} (hr : sp_row CW) (hm : mo ≤ 6) : ∀ t, t ≤ 10 → sp_Pi CW mo 10 1 t (fun k => k % 11) 231 = sp_mn CW mo t
  | 0, _ => rfl
  | t + 1, ht => by
    have ih := sp_mean_eq hr hm t (by omega)
    rw [sp_Pi_s, sp_mn_s, sp_Pi_low (c := 0) hm t _ (fun k => 16 * (k % 11) + sp_gf CW k) (by omega) (fun k hk hc => sp_Pf_cnt hr hm hk (by omega)) 231 (by omega) (by omega), sp_Pi_lin, ih]
    have e := sp_Pi_nc (CW := CW) hm (sp_gf_nc CW) t 3 0 0 (by omega) (by omega) (by omega)
    have e2 : sp_ix 3 0 0 = 231 := rfl
    rw [e2] at e
    omega
theorem sp_Pf_van {CW : Nat → Nat} {mo mg : Nat} (hm : mo ≤ 6) (hg : mg ≤ 10) {φ : Nat → Nat} (h : ∀ k, k < 308 → mg < k % 11 → φ k = 0) : ∀ k, k < 308 → sp_Pf CW mo 10 1 φ k = sp_Pf CW mo mg 1 φ k := fun k hk => fb_sm_cong (fun j hj => by
  have g1 := sp_la6 (x := j) (show k % 77 / 11 ≤ 6 by omega) hm
  unfold sp_Pq
  by_cases h1 : k % 11 + 1 * sp_gv j (k % 77 / 11) ≤ mg
  · rw [if_pos h1, if_pos (by omega)]
  · rw [if_neg h1]
    split
    · rw [h, Nat.mul_zero]
      · unfold sp_ix; omega
      · unfold sp_ix; omega
    · rfl)
theorem sp_Pf_v0 {CW : Nat → Nat} {mo mg : Nat} {φ : Nat → Nat} : ∀ k, k < 308 → mg < k % 11 → sp_Pf CW mo mg 1 φ k = 0 := fun k hk hc => by
  have e : sp_Pf CW mo mg 1 φ k = fb_sm (fun _ => 0) 4 := fb_sm_cong (fun j hj => by
    unfold sp_Pq
    rw [if_neg (by omega)])
  rw [e, fb_sm_const]
theorem sp_Pi_van {CW : Nat → Nat} {mo mg : Nat} (hm : mo ≤ 6) (hg : mg ≤ 10) : ∀ (t : Nat) (φ : Nat → Nat), (∀ k, k < 308 → mg < k % 11 → φ k = 0) → ∀ k, k < 308 → sp_Pi CW mo 10 1 t φ k = sp_Pi CW mo mg 1 t φ k
  | 0, _, _, _, _ => rfl
  | t + 1, φ, h, k, hk => by
    rw [sp_Pi_s, sp_Pi_s, sp_Pi_cong hm (by omega) t (sp_Pf_van hm hg h) k hk]
    exact sp_Pi_van hm hg t _ (fun q hq hc => sp_Pf_v0 q hq hc) k hk
theorem sp_just_eq {CW : Nat → Nat} {mo mg : Nat} (hm : mo ≤ 6) (hg : mg ≤ 10) (t : Nat) : sp_Pi CW mo 10 1 t (sp_in mg) 231 = sp_js CW mo mg t :=
  sp_Pi_van hm hg t _ (fun k _ hc => by unfold sp_in; rw [if_neg (by omega)]) 231 (by omega)
/-- the sums that the answers take -/
theorem sp_sg_start {W : Nat → Nat} (h : ∀ k, k < 308 → W k = if k = 231 then 1 else 0) (φ : Nat → Nat) : sp_S W (fun k => φ (sp_sg k)) = φ 231 := sp_S_start h (fun k => φ (sp_sg k))
theorem sp_Wm_le {CW W : Nat → Nat} {mo t : Nat} (hm : mo ≤ 6) (hr : sp_row CW) (ht : t ≤ 10) (h : ∀ φ, sp_S W (fun k => φ (sp_sg k)) = sp_Pi CW mo 10 1 t φ 231) : ∀ k, k < 308 → W k ≤ 1099511627776 := by
  intro k hk
  have h1 := sp_S_le (W := W) hk
  have h2 := sp_Pi_le (cn := 1) hm (Nat.le_refl 10) hr t (φ := fun _ => 1) (M := 1) (fun _ _ => Nat.le_refl _) 231 (by omega)
  have h3 := pow16_le ht
  have h4 := h (fun _ => 1)
  omega
theorem sp_mean_S {CW W : Nat → Nat} {mo t : Nat} (hm : mo ≤ 6) (hr : sp_row CW) (ht : t ≤ 10) (h : ∀ φ, sp_S W (fun k => φ (sp_sg k)) = sp_Pi CW mo 10 1 t φ 231) : fb_sm (fun k => W k * (k % 11)) 308 = sp_mn CW mo t := by
  rw [← sp_mean_eq hr hm t ht, ← h]
  exact fb_sm_cong (fun k _ => by show _ = W k * (sp_sg k % 11); rw [sp_sg_11])
theorem sp_just_S {CW W : Nat → Nat} {mo mg t : Nat} (hm : mo ≤ 6) (hg : mg ≤ 10) (h : ∀ φ, sp_S W (fun k => φ (sp_sg k)) = sp_Pi CW mo 10 1 t φ 231) : fb_sm (fun k => if k % 11 = mg then W k else 0) 308 = sp_js CW mo mg t := by
  rw [← sp_just_eq hm hg t, ← h]
  exact fb_sm_cong (fun k _ => by show _ = W k * (if sp_sg k % 11 = mg then 1 else 0); rw [sp_sg_11]; split <;> simp)
