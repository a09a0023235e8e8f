/-! the row of kinds: DM demands, CM how many came, len places -/
def sp_due (DM CM : Nat → Nat) (len p k : Nat) : Int := ((DM k * (p + 1) : Nat) : Int) - ((len * CM k : Nat) : Int)
def sp_nk (DM CM : Nat → Nat) (len p : Nat) : Nat → Int
  | 0 => -9
  | k + 1 => if CM k < DM k ∧ (sp_nk DM CM len p k = -9 ∨ sp_due DM CM len p (sp_nk DM CM len p k).toNat < sp_due DM CM len p k) then (k : Int) else sp_nk DM CM len p k
theorem sp_nk_s (DM CM : Nat → Nat) (len p k : Nat) : sp_nk DM CM len p (k + 1) = if CM k < DM k ∧ (sp_nk DM CM len p k = -9 ∨ sp_due DM CM len p (sp_nk DM CM len p k).toNat < sp_due DM CM len p k) then (k : Int) else sp_nk DM CM len p k := rfl
theorem sp_nk_rng (DM CM : Nat → Nat) (len p : Nat) : ∀ k, sp_nk DM CM len p k = -9 ∨ (0 ≤ sp_nk DM CM len p k ∧ sp_nk DM CM len p k < k ∧ CM (sp_nk DM CM len p k).toNat < DM (sp_nk DM CM len p k).toNat)
  | 0 => Or.inl rfl
  | k + 1 => by
    have ih := sp_nk_rng DM CM len p k
    rw [sp_nk_s]
    split
    · rename_i h
      right
      refine ⟨by omega, by omega, ?_⟩
      simpa using h.1
    · rcases ih with h | h
      · exact Or.inl h
      · right; exact ⟨h.1, by omega, h.2.2⟩
theorem sp_nk_some (DM CM : Nat → Nat) (len p : Nat) : ∀ k, (∃ i, i < k ∧ CM i < DM i) → ¬ sp_nk DM CM len p k = -9
  | 0, h => by obtain ⟨i, hi, -⟩ := h; omega
  | k + 1, h => by
    rw [sp_nk_s]
    split
    · omega
    · rename_i hn
      intro e
      obtain ⟨i, hi, hc⟩ := h
      rcases Nat.lt_succ_iff_lt_or_eq.mp hi with q | q
      · exact sp_nk_some DM CM len p k ⟨i, q, hc⟩ e
      · subst q; exact hn ⟨hc, Or.inl e⟩
theorem sp_nk_cong {DM CM CM2 : Nat → Nat} {len p : Nat} : ∀ n, (∀ k, k < n → CM k = CM2 k) → sp_nk DM CM len p n = sp_nk DM CM2 len p n
  | 0, _ => rfl
  | k + 1, h => by
    have ih := sp_nk_cong (DM := DM) (len := len) (p := p) k (fun i hi => h i (by omega))
    have r := sp_nk_rng DM CM2 len p k
    have e : CM k = CM2 k := h k (by omega)
    rw [sp_nk_s, sp_nk_s, ih]
    by_cases hb : sp_nk DM CM2 len p k = -9
    · simp [hb, e]
    · have e2 : CM (sp_nk DM CM2 len p k).toNat = CM2 (sp_nk DM CM2 len p k).toNat := h _ (by omega)
      rw [show sp_due DM CM len p k = sp_due DM CM2 len p k from by unfold sp_due; rw [e], show sp_due DM CM len p (sp_nk DM CM2 len p k).toNat = sp_due DM CM2 len p (sp_nk DM CM2 len p k).toNat from by unfold sp_due; rw [e2], e]
def sp_cm (DM : Nat → Nat) (len : Nat) : Nat → Nat → Nat
  | 0 => fun _ => 0
  | p + 1 => up (sp_cm DM len p) (sp_nk DM (sp_cm DM len p) len p 6).toNat (sp_cm DM len p (sp_nk DM (sp_cm DM len p) len p 6).toNat + 1)
def sp_kd (DM : Nat → Nat) (len p : Nat) : Nat := (sp_nk DM (sp_cm DM len p) len p 6).toNat
theorem sp_cm_s (DM : Nat → Nat) (len p : Nat) : sp_cm DM len (p + 1) = up (sp_cm DM len p) (sp_kd DM len p) (sp_cm DM len p (sp_kd DM len p) + 1) := rfl
theorem sp_cm_ok {DM : Nat → Nat} {len : Nat} (hl : len = fb_sm DM 6) : ∀ p, p ≤ len → (∀ k, k < 6 → sp_cm DM len p k ≤ DM k) ∧ fb_sm (sp_cm DM len p) 6 = p
  | 0, _ => ⟨fun k _ => Nat.zero_le _, rfl⟩
  | p + 1, hp => by
    obtain ⟨h1, h2⟩ := sp_cm_ok hl p (by omega)
    have hex : ∃ i, i < 6 ∧ sp_cm DM len p i < DM i := Classical.byContradiction fun hn => by
      have : fb_sm DM 6 ≤ fb_sm (sp_cm DM len p) 6 := fb_sm_le (fun k hk => Nat.le_of_not_lt (fun q => hn ⟨k, hk, q⟩))
      omega
    have hne := sp_nk_some DM (sp_cm DM len p) len p 6 hex
    have hr := (sp_nk_rng DM (sp_cm DM len p) len p 6).resolve_left hne
    have hk : sp_kd DM len p < 6 := by unfold sp_kd; omega
    have hlt : sp_cm DM len p (sp_kd DM len p) < DM (sp_kd DM len p) := hr.2.2
    rw [sp_cm_s]
    refine ⟨fun k hk2 => ?_, ?_⟩
    · by_cases q : k = sp_kd DM len p
      · subst q; rw [up_s]; omega
      · rw [up_n _ _ q]; exact h1 k hk2
    · have := fb_sm_upd (sp_cm DM len p) (sp_cm DM len p (sp_kd DM len p) + 1) hk
      show fb_sm (fun k => if k = sp_kd DM len p then sp_cm DM len p (sp_kd DM len p) + 1 else sp_cm DM len p k) 6 = p + 1
      omega
theorem sp_nk_ok {DM : Nat → Nat} {len p : Nat} (hl : len = fb_sm DM 6) (hp : p < len) : 0 ≤ sp_nk DM (sp_cm DM len p) len p 6 ∧ sp_nk DM (sp_cm DM len p) len p 6 < 6 := by
  obtain ⟨h1, h2⟩ := sp_cm_ok hl p (by omega)
  have hex : ∃ i, i < 6 ∧ sp_cm DM len p i < DM i := Classical.byContradiction fun hn => by
    have : fb_sm DM 6 ≤ fb_sm (sp_cm DM len p) 6 := fb_sm_le (fun k hk => Nat.le_of_not_lt (fun q => hn ⟨k, hk, q⟩))
    omega
  have hr := (sp_nk_rng DM (sp_cm DM len p) len p 6).resolve_left (sp_nk_some DM (sp_cm DM len p) len p 6 hex)
  exact ⟨hr.1, by omega⟩
theorem sp_kd_lt {DM : Nat → Nat} {len p : Nat} (hl : len = fb_sm DM 6) (hp : p < len) : sp_kd DM len p < 6 := by
  have := sp_nk_ok hl hp
  unfold sp_kd; omega
def sp_far (DM CM : Nat → Nat) (len q : Nat) : Nat → Nat
  | 0 => 0
  | k + 1 => max (sp_far DM CM len q k) (((len * CM k : Nat) : Int) - ((DM k * q : Nat) : Int)).natAbs
theorem sp_far_s (DM CM : Nat → Nat) (len q k : Nat) : sp_far DM CM len q (k + 1) = max (sp_far DM CM len q k) (((len * CM k : Nat) : Int) - ((DM k * q : Nat) : Int)).natAbs := rfl
theorem sp_far_cong {DM CM CM2 : Nat → Nat} {len q : Nat} : ∀ n, (∀ k, k < n → CM k = CM2 k) → sp_far DM CM len q n = sp_far DM CM2 len q n
  | 0, _ => rfl
  | k + 1, h => by rw [sp_far_s, sp_far_s, sp_far_cong k (fun i hi => h i (by omega)), h k (by omega)]
theorem sp_far_le {DM CM : Nat → Nat} {len q : Nat} (h1 : len ≤ 120) (h2 : q ≤ 120) (h3 : ∀ k, DM k ≤ 20) : ∀ n, (∀ k, k < n → CM k ≤ 20) → sp_far DM CM len q n ≤ 2400
  | 0, _ => Nat.zero_le _
  | k + 1, h => by
    have ih := sp_far_le h1 h2 h3 k (fun i hi => h i (by omega))
    have a1 := Nat.mul_le_mul h1 (h k (by omega))
    have a2 := Nat.mul_le_mul (h3 k) h2
    rw [sp_far_s]
    omega
def sp_rg (DM : Nat → Nat) (len : Nat) : Nat → Nat
  | 0 => 0
  | p + 1 => max (sp_rg DM len p) (sp_far DM (sp_cm DM len (p + 1)) len (p + 1) 6)
theorem sp_rg_s (DM : Nat → Nat) (len p : Nat) : sp_rg DM len (p + 1) = max (sp_rg DM len p) (sp_far DM (sp_cm DM len (p + 1)) len (p + 1) 6) := rfl
theorem sp_rg_le {DM : Nat → Nat} {len : Nat} (hl : len = fb_sm DM 6) (h1 : len ≤ 120) (h3 : ∀ k, DM k ≤ 20) : ∀ p, p ≤ len → sp_rg DM len p ≤ 2400
  | 0, _ => Nat.zero_le _
  | p + 1, h => by
    have ih := sp_rg_le hl h1 h3 p (by omega)
    have := sp_far_le (CM := sp_cm DM len (p + 1)) h1 (show p + 1 ≤ 120 by omega) h3 6 (fun k hk => Nat.le_trans ((sp_cm_ok hl (p + 1) h).1 k hk) (h3 k))
    rw [sp_rg_s]; omega
def sp_tn (DM : Nat → Nat) (len : Nat) : Nat → Nat
  | 0 => 0
  | p + 1 => sp_tn DM len p + (if 0 < p ∧ ¬ sp_kd DM len (p - 1) = sp_kd DM len p then 1 else 0)
theorem sp_tn_s (DM : Nat → Nat) (len p : Nat) : sp_tn DM len (p + 1) = sp_tn DM len p + (if 0 < p ∧ ¬ sp_kd DM len (p - 1) = sp_kd DM len p then 1 else 0) := rfl
theorem sp_tn_le (DM : Nat → Nat) (len : Nat) : ∀ p, sp_tn DM len p ≤ p
  | 0 => Nat.le_refl _
  | p + 1 => by
    have := sp_tn_le DM len p
    rw [sp_tn_s]; split <;> omega
theorem sp_len_le {DM : Nat → Nat} (h : ∀ k, DM k ≤ 20) : fb_sm DM 6 ≤ 120 := fb_sm_bound (n := 6) (c := 20) (fun k _ => h k)
