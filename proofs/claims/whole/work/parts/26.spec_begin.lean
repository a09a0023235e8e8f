/-! beginnings, found by going round -/
def sp_any (Q : Nat → Bool) : Nat → Bool
  | 0 => false
  | j + 1 => sp_any Q j || Q j
theorem sp_any_f {Q : Nat → Bool} : ∀ n, sp_any Q n = false → ∀ j, j < n → Q j = false
  | 0, _, j, h => absurd h (Nat.not_lt_zero _)
  | n + 1, h, j, hj => by
    have h1 : sp_any Q n = false ∧ Q n = false := by
      have h2 : (sp_any Q n || Q n) = false := h
      exact Bool.or_eq_false_iff.mp h2
    rcases Nat.lt_succ_iff_lt_or_eq.mp hj with z | z
    · exact sp_any_f n h1.1 j z
    · subst z; exact h1.2
def sp_b01 (b : Bool) : Nat := if b = true then 1 else 0
theorem sp_b01_or {p q : Bool} {o r : Nat} (h : o = sp_b01 p) (h2 : (¬ o = 0 ∧ r = 1) ∨ (o = 0 ∧ r = sp_b01 q)) : r = sp_b01 (p || q) := by
  cases p with
  | true =>
    have : o = 1 := h
    rcases h2 with ⟨-, e⟩ | ⟨e, -⟩
    · rw [e]; rfl
    · omega
  | false =>
    have : o = 0 := h
    rcases h2 with ⟨e, -⟩ | ⟨-, e⟩
    · omega
    · rw [e]; rfl
theorem sp_b01_i {b : Bool} : sp_b01 b = 0 ↔ b = false := by cases b <;> simp [sp_b01]
theorem sp_b01_le (b : Bool) : sp_b01 b ≤ 1 := by cases b <;> simp [sp_b01]
def sp_on (G C : Nat → Nat) (v k : Nat) (dep : Nat → Int) (d : Int) (a : Nat) : Bool := decide (G a = v ∧ C a ≤ k ∧ dep a = d)
theorem sp_on_t {G C : Nat → Nat} {v k a : Nat} {dep : Nat → Int} {d : Int} (h1 : G a = v) (h2 : C a ≤ k) (h3 : dep a = d) : sp_b01 (sp_on G C v k dep d a) = 1 := by
  unfold sp_on; rw [decide_eq_true ⟨h1, h2, h3⟩]; rfl
theorem sp_on_f {G C : Nat → Nat} {v k a : Nat} {dep : Nat → Int} {d : Int} (h : ¬ (G a = v ∧ C a ≤ k ∧ dep a = d)) : sp_b01 (sp_on G C v k dep d a) = 0 := by
  unfold sp_on; rw [decide_eq_false h]; rfl
def sp_lat (T F G C : Nat → Nat) (v k : Nat) (dep : Nat → Int) : Nat → Int
  | 0 => 0
  | j + 1 => if (G j = v ∧ C j ≤ k) ∧ 0 ≤ dep j ∧ sp_lat T F G C v k dep j < dep j + T (F j) then dep j + T (F j) else sp_lat T F G C v k dep j
theorem sp_lat_s (T F G C : Nat → Nat) (v k : Nat) (dep : Nat → Int) (j : Nat) : sp_lat T F G C v k dep (j + 1) = if (G j = v ∧ C j ≤ k) ∧ 0 ≤ dep j ∧ sp_lat T F G C v k dep j < dep j + T (F j) then dep j + T (F j) else sp_lat T F G C v k dep j := rfl
theorem sp_lat_pos {T F G C : Nat → Nat} {v k : Nat} {dep : Nat → Int} : ∀ j, 0 ≤ sp_lat T F G C v k dep j
  | 0 => Int.le_refl _
  | j + 1 => by
    have := sp_lat_pos (T := T) (F := F) (G := G) (C := C) (v := v) (k := k) (dep := dep) j
    rw [sp_lat_s]; split <;> omega
def sp_bo (K : Nat) (T F G C : Nat → Nat) (v k : Nat) (dep : Nat → Int) : Int := if sp_any (sp_on G C v k dep (-9)) K = true then -9 else if sp_any (sp_on G C v k dep (-2)) K = true then -2 else sp_lat T F G C v k dep K
theorem sp_any_t {Q : Nat → Bool} : ∀ n, sp_any Q n = true → ∃ j, j < n ∧ Q j = true
  | 0, h => absurd (show false = true from h) (by decide)
  | n + 1, h => by
    have h2 : (sp_any Q n || Q n) = true := h
    rcases Bool.or_eq_true_iff.mp h2 with z | z
    · obtain ⟨j, h3, h4⟩ := sp_any_t n z
      exact ⟨j, by omega, h4⟩
    · exact ⟨n, by omega, z⟩
/-- where nothing is open, what is gathered is the value -/
theorem sp_gath {K : Nat} {T F G C : Nat → Nat} {v k : Nat} {dep : Nat → Int} {val : Nat → Nat → Int} (hd : ∀ a, a < K → G a = v → C a ≤ k → dep a = val (k - C a) (F a)) (hr : ∀ x y, val x y = -9 ∨ 0 ≤ val x y) : ∀ j, j ≤ K → (List.range j).foldl (sp_ac T F G C k v val) 0 = if sp_any (sp_on G C v k dep (-9)) j = true then -9 else sp_lat T F G C v k dep j
  | 0, _ => rfl
  | j + 1, hj => by
    have ih := sp_gath (T := T) hd hr j (by omega)
    have hp := sp_lat_pos (T := T) (F := F) (G := G) (C := C) (v := v) (k := k) (dep := dep) j
    rw [List.range_succ, List.foldl_append, ih, sp_lat_s]
    show sp_ac T F G C k v val _ j = if (sp_any (sp_on G C v k dep (-9)) j || sp_on G C v k dep (-9) j) = true then -9 else _
    by_cases hc : G j = v ∧ C j ≤ k
    · have hv := hd j (by omega) hc.1 hc.2
      have hv2 := hr (k - C j) (F j)
      rw [sp_ac_at hc, ← hv]
      rw [← hv] at hv2
      cases hA : sp_any (sp_on G C v k dep (-9)) j with
      | true =>
        rw [if_pos rfl, if_pos (by rfl)]
        exact if_pos (Or.inl rfl)
      | false =>
        rw [if_neg (by decide)]
        by_cases h9 : dep j = -9
        · have e : sp_on G C v k dep (-9) j = true := decide_eq_true ⟨hc.1, hc.2, h9⟩
          rw [e, if_pos (by rfl)]
          exact if_pos (Or.inr (if_pos h9))
        · have e : sp_on G C v k dep (-9) j = false := decide_eq_false (fun z => h9 z.2.2)
          rw [e, if_neg (by decide)]
          have e2 : sp_dn (dep j) (T (F j)) = dep j + T (F j) := if_neg h9
          rw [e2]
          unfold sp_lt2
          rw [if_neg (by omega)]
          by_cases hl : sp_lat T F G C v k dep j < dep j + T (F j)
          · rw [if_pos ⟨hc, by omega, hl⟩]; omega
          · rw [if_neg (fun z => hl z.2.2)]; omega
    · have e : sp_on G C v k dep (-9) j = false := decide_eq_false (fun z => hc ⟨z.1, z.2.1⟩)
      rw [sp_ac_id hc, e, Bool.or_false, if_neg (show ¬ ((G j = v ∧ C j ≤ k) ∧ 0 ≤ dep j ∧ sp_lat T F G C v k dep j < dep j + T (F j)) from fun z => hc z.1)]
theorem sp_V_rng {N K : Nat} {T F G C : Nat → Nat} (hT : ∀ i, T i ≤ 20) (w v : Nat) : sp_V N K T F G C w v = -9 ∨ 0 ≤ sp_V N K T F G C w v := by
  have := sp_Vf_le (K := K) (F := F) (G := G) (C := C) (o := sp_so N K F G C) hT (w * 9 + 9) w v
  unfold sp_V
  omega
/-- what one look gives -/
theorem sp_bo_ok {N K : Nat} {T F G C : Nat → Nat} {v k : Nat} {dep : Nat → Int} (hN : N ≤ 8) (hT : ∀ i, T i ≤ 20) (hv : v < N) (hd : ∀ a, a < K → G a = v → C a ≤ k → dep a = -2 ∨ dep a = sp_V N K T F G C (k - C a) (F a)) :
    (sp_bo K T F G C v k dep = -2 ∨ sp_bo K T F G C v k dep = sp_V N K T F G C k v) ∧ ((∀ a, a < K → G a = v → C a ≤ k → ¬ dep a = -2) → ¬ sp_bo K T F G C v k dep = -2) := by
  have hp := sp_lat_pos (T := T) (F := F) (G := G) (C := C) (v := v) (k := k) (dep := dep) K
  have hr := fun x y => sp_V_rng (N := N) (K := K) (F := F) (G := G) (C := C) hT x y
  refine ⟨?_, fun hno => ?_⟩
  · unfold sp_bo
    cases h9 : sp_any (sp_on G C v k dep (-9)) K with
    | true =>
      rw [if_pos rfl]
      right
      obtain ⟨a, ha, hq⟩ := sp_any_t K h9
      obtain ⟨g1, g2, g3⟩ := of_decide_eq_true hq
      by_cases hs : v ∈ sp_so N K F G C
      · rw [sp_V_in hN hs]
        -- the value of all arcs that are known, -9 where one is
        have h8 : sp_V N K T F G C (k - C a) (F a) = -9 := by
          rcases hd a ha g1 g2 with z | z
          · rw [g3] at z; exact absurd z (by decide)
          · rw [← z]; exact g3
        have hg := sp_gath (T := T) (K := K) (v := v) (k := k) (F := F) (G := G) (C := C) (dep := fun a => sp_V N K T F G C (k - C a) (F a)) (val := sp_V N K T F G C) (fun a _ _ _ => rfl) hr K (Nat.le_refl _)
        rw [hg]
        cases hA : sp_any (sp_on G C v k (fun a => sp_V N K T F G C (k - C a) (F a)) (-9)) K with
        | true => rfl
        | false =>
          have := sp_any_f K hA a ha
          exact absurd ⟨g1, g2, h8⟩ (of_decide_eq_false this)
      · rw [sp_V_out hs]
    | false =>
      rw [if_neg (by decide)]
      cases h2 : sp_any (sp_on G C v k dep (-2)) K with
      | true => rw [if_pos rfl]; exact Or.inl rfl
      | false =>
        rw [if_neg (by decide)]
        right
        have hd2 : ∀ a, a < K → G a = v → C a ≤ k → dep a = sp_V N K T F G C (k - C a) (F a) := fun a ha g1 g2 => (hd a ha g1 g2).resolve_left (fun z => of_decide_eq_false (sp_any_f K h2 a ha) ⟨g1, g2, z⟩)
        have hs : v ∈ sp_so N K F G C := Classical.byContradiction fun hs => by
          obtain ⟨a, ha, g1, g2, g3⟩ := sp_so_fix N K F G C v hv hs
          have h7 := hd2 a ha g1 (by omega)
          rw [sp_V_out g3] at h7
          exact of_decide_eq_false (sp_any_f K h9 a ha) ⟨g1, by omega, h7⟩
        rw [sp_V_in hN hs, sp_gath (T := T) hd2 hr K (Nat.le_refl _), h9, if_neg (by decide)]
  · unfold sp_bo
    split
    · decide
    · split
      · rename_i h2
        obtain ⟨a, ha, hq⟩ := sp_any_t K h2
        obtain ⟨g1, g2, g3⟩ := of_decide_eq_true hq
        exact absurd g3 (hno a ha g1 g2)
      · omega
