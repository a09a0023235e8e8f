/-! beginnings, found by going round -/
def sp_any (Q : Nat → Bool) : Nat → Bool
  | 0 => false
  | j + 1 => sp_any Q j || Q j
theorem sp_any_f {Q : Nat → Bool} : ∀ n, sp_any Q n = false → ∀ j, j < n → Q j = false
  | 0, _, j, h => absurd h (Nat.not_lt_zero _)
  | n + 1, h, j, hj => by
    have h1 : sp_any Q n = false ∧ Q n = false := by
      have h2 : (sp_any Q n || Q n) = false := h
      exact Bool.or_eq_false_iff.mp h2
    rcases Nat.lt_succ_iff_lt_or_eq.mp hj with z | z
    · exact sp_any_f n h1.1 j z
    · subst z; exact h1.2
def sp_b01 (b : Bool) : Nat := if b = true then 1 else 0
theorem sp_b01_or {p q : Bool} {o r : Nat} (h : o = sp_b01 p) (h2 : (¬ o = 0 ∧ r = 1) ∨ (o = 0 ∧ r = sp_b01 q)) : r = sp_b01 (p || q) := by
  cases p with
  | true =>
    have : o = 1 := h
    rcases h2 with ⟨-, e⟩ | ⟨e, -⟩
    · rw [e]; rfl
    · omega
  | false =>
    have : o = 0 := h
    rcases h2 with ⟨e, -⟩ | ⟨-, e⟩
    · omega
    · rw [e]; rfl
theorem sp_b01_i {b : Bool} : sp_b01 b = 0 ↔ b = false := by cases b <;> simp [sp_b01]
theorem sp_b01_le (b : Bool) : sp_b01 b ≤ 1 := by cases b <;> simp [sp_b01]
def sp_on (G C : Nat → Nat) (v k : Nat) (dep : Nat → Int) (d : Int) (a : Nat) : Bool := decide (G a = v ∧ C a ≤ k ∧ dep a = d)
theorem sp_on_t {G C : Nat → Nat} {v k a : Nat} {dep : Nat → Int} {d : Int} (h1 : G a = v) (h2 : C a ≤ k) (h3 : dep a = d) : sp_b01 (sp_on G C v k dep d a) = 1 := by
  unfold sp_on; rw [decide_eq_true ⟨h1, h2, h3⟩]; rfl
theorem sp_on_f {G C : Nat → Nat} {v k a : Nat} {dep : Nat → Int} {d : Int} (h : ¬ (G a = v ∧ C a ≤ k ∧ dep a = d)) : sp_b01 (sp_on G C v k dep d a) = 0 := by
  unfold sp_on; rw [decide_eq_false h]; rfl
def sp_lat (T F G C : Nat → Nat) (v k : Nat) (dep : Nat → Int) : Nat → Int
  | 0 => 0
  | j + 1 => if (G j = v ∧ C j ≤ k) ∧ 0 ≤ dep j ∧ sp_lat T F G C v k dep j < dep j + T (F j) then dep j + T (F j) else sp_lat T F G C v k dep j
theorem sp_lat_s (T F G C : Nat → Nat) (v k : Nat) (dep : Nat → Int) (j : Nat) : sp_lat T F G C v k dep (j + 1) = if (G j = v ∧ C j ≤ k) ∧ 0 ≤ dep j ∧ sp_lat T F G C v k dep j < dep j + T (F j) then dep j + T (F j) else sp_lat T F G C v k dep j := rfl
theorem sp_lat_pos {T F G C : Nat → Nat} {v k : Nat} {dep : Nat → Int} : ∀ j, 0 ≤ sp_lat T F G C v k dep j
  | 0 => Int.le_refl _
  | j + 1 => by
    have := sp_lat_pos (T := T) (F := F) (G := G) (C := C) (v := v) (k := k) (dep := dep) j
    rw [sp_lat_s]; split <;> omega
def sp_bo (K : Nat) (T F G C : Nat → Nat) (v k : Nat) (dep : Nat → Int) : Int := if sp_any (sp_on G C v k dep (-9)) K = true then -9 else if sp_any (sp_on G C v k dep (-2)) K = true then -2 else sp_lat T F G C v k dep K
theorem sp_any_t {Q : Nat → Bool} : ∀ n, sp_any Q n = true → ∃ j, j < n ∧ Q j = true
  | 0, h => absurd (show false = true from h) (by decide)
  | n + 1, h => by
    have h2 : (sp_any Q n || Q n) = true := h
    rcases Bool.or_eq_true_iff.mp h2 with z | z
    · obtain ⟨j, h3, h4⟩ := sp_any_t n z
      exact ⟨j, by omega, h4⟩
    · exact ⟨n, by omega, z⟩
/-- where all is known, what is gathered is the value -/
theorem sp_gath {K : Nat} {T F G C : Nat → Nat} {v k : Nat} {dep : Nat → Int} {val : Nat → Nat → Int} (hd : ∀ a, a < K → G a = v → C a ≤ k → dep a = val (k - C a) (F a)) (hr : ∀ x y, val x y = -9 ∨ 0 ≤ val x y) : ∀ j, j ≤ K → (List.range j).foldl (sp_ac T F G C k v val) 0 = if sp_any (sp_on G C v k dep (-9)) j = true then -9 else sp_lat T F G C v k dep j
  | 0, _ => rfl
  | j + 1, hj => by
    have ih := sp_gath (T := T) hd hr j (by omega)
    have hp := sp_lat_pos (T := T) (F := F) (G := G) (C := C) (v := v) (k := k) (dep := dep) j
    rw [List.range_succ, List.foldl_append, ih, sp_lat_s]
    show sp_ac T F G C k v val _ j = if (sp_any (sp_on G C v k dep (-9)) j || sp_on G C v k dep (-9) j) = true then -9 else _
    by_cases hc : G j = v ∧ C j ≤ k
    · have hv := hd j (by omega) hc.1 hc.2
      have hv2 := hr (k - C j) (F j)
      rw [sp_ac_at hc, ← hv]
      rw [← hv] at hv2
      cases hA : sp_any (sp_on G C v k dep (-9)) j with
      | true =>
        rw [if_pos rfl, if_pos (by rfl)]
        exact if_pos (Or.inl rfl)
      | false =>
        rw [if_neg (by decide)]
        by_cases h9 : dep j = -9
        · have e : sp_on G C v k dep (-9) j = true := decide_eq_true ⟨hc.1, hc.2, h9⟩
          rw [e, if_pos (by rfl)]
          exact if_pos (Or.inr (if_pos h9))
        · have e : sp_on G C v k dep (-9) j = false := decide_eq_false (fun z => h9 z.2.2)
          rw [e, if_neg (by decide)]
          have e2 : sp_dn (dep j) (T (F j)) = dep j + T (F j) := if_neg h9
          rw [e2]
          unfold sp_lt2
          rw [if_neg (by omega)]
          by_cases hl : sp_lat T F G C v k dep j < dep j + T (F j)
          · rw [if_pos ⟨hc, by omega, hl⟩]; omega
          · rw [if_neg (fun z => hl z.2.2)]; omega
    · have e : sp_on G C v k dep (-9) j = false := decide_eq_false (fun z => hc ⟨z.1, z.2.1⟩)
      rw [sp_ac_id hc, e, Bool.or_false, if_neg (show ¬ ((G j = v ∧ C j ≤ k) ∧ 0 ≤ dep j ∧ sp_lat T F G C v k dep j < dep j + T (F j)) from fun z => hc z.1)]
theorem sp_V_rng {N K : Nat} {T F G C : Nat → Nat} (hT : ∀ i, T i ≤ 20) (w v : Nat) : sp_V N K T F G C w v = -9 ∨ 0 ≤ sp_V N K T F G C w v := by
  have := sp_Vf_le (K := K) (F := F) (G := G) (C := C) (o := sp_so N K F G C) hT (w * 9 + 9) w v
  unfold sp_V
  omega
/-- what one look gives -/
theorem sp_bo_ok {N K : Nat} {T F G C : Nat → Nat} {v k : Nat} {dep : Nat → Int} (hN : N ≤ 8) (hT : ∀ i, T i ≤ 20) (hv : v < N) (hd : ∀ a, a < K → G a = v → C a ≤ k → dep a = -2 ∨ dep a = sp_V N K T F G C (k - C a) (F a)) :
    (sp_bo K T F G C v k dep = -2 ∨ sp_bo K T F G C v k dep = sp_V N K T F G C k v) ∧ ((∀ a, a < K → G a = v → C a ≤ k → ¬ dep a = -2) → ¬ sp_bo K T F G C v k dep = -2) := by
  have hp := sp_lat_pos (T := T) (F := F) (G := G) (C := C) (v := v) (k := k) (dep := dep) K
  have hr := fun x y => sp_V_rng (N := N) (K := K) (F := F) (G := G) (C := C) hT x y
  refine ⟨?_, fun hno => ?_⟩
  · unfold sp_bo
    cases h9 : sp_any (sp_on G C v k dep (-9)) K with
    | true =>
      rw [if_pos rfl]
      right
      obtain ⟨a, ha, hq⟩ := sp_any_t K h9
      obtain ⟨g1, g2, g3⟩ := of_decide_eq_true hq
      by_cases hs : v ∈ sp_so N K F G C
      · rw [sp_V_in hN hs]
        -- the value of all arcs that are known, -9 where one is
        have h8 : sp_V N K T F G C (k - C a) (F a) = -9 := by
          rcases hd a ha g1 g2 with z | z
          · rw [g3] at z; exact absurd z (by decide)
          · rw [← z]; exact g3
        have hg := sp_gath (T := T) (K := K) (v := v) (k := k) (F := F) (G := G) (C := C) (dep := fun a => sp_V N K T F G C (k - C a) (F a)) (val := sp_V N K T F G C) (fun a _ _ _ => rfl) hr K (Nat.le_refl _)
        rw [hg]
        cases hA : sp_any (sp_on G C v k (fun a => sp_V N K T F G C (k - C a) (F a)) (-9)) K with
        | true => rfl
        | false =>
          have := sp_any_f K hA a ha
          exact absurd ⟨g1, g2, h8⟩ (of_decide_eq_false this)
      · rw [sp_V_out hs]
    | false =>
      rw [if_neg (by decide)]
      cases h2 : sp_any (sp_on G C v k dep (-2)) K with
      | true => rw [if_pos rfl]; exact Or.inl rfl
      | false =>
        rw [if_neg (by decide)]
        right
        have hd2 : ∀ a, a < K → G a = v → C a ≤ k → dep a = sp_V N K T F G C (k - C a) (F a) := fun a ha g1 g2 => (hd a ha g1 g2).resolve_left (fun z => of_decide_eq_false (sp_any_f K h2 a ha) ⟨g1, g2, z⟩)
        have hs : v ∈ sp_so N K F G C := Classical.byContradiction fun hs => by
          obtain ⟨a, ha, g1, g2, g3⟩ := sp_so_fix N K F G C v hv hs
          have h7 := hd2 a ha g1 (by omega)
          rw [sp_V_out g3] at h7
          exact of_decide_eq_false (sp_any_f K h9 a ha) ⟨g1, by omega, h7⟩
        rw [sp_V_in hN hs, sp_gath (T := T) hd2 hr K (Nat.le_refl _), h9, if_neg (by decide)]
  · unfold sp_bo
    split
    · decide
    · split
      · rename_i h2
        obtain ⟨a, ha, hq⟩ := sp_any_t K h2
        obtain ⟨g1, g2, g3⟩ := of_decide_eq_true hq
        exact absurd g3 (hno a ha g1 g2)
      · omega
theorem sp_b01_k {p q : Bool} {o : Nat} (h : o = sp_b01 p) (h2 : sp_b01 q = 0) : o = sp_b01 (p || q) := by
  rw [sp_b01_i.mp h2, Bool.or_false]; exact h
theorem sp_b01_t {b : Bool} (h : ¬ sp_b01 b = 0) : b = true := by cases b with
  | true => rfl
  | false => exact absurd rfl h
theorem sp_bo_9 {K : Nat} {T F G C : Nat → Nat} {v k : Nat} {dep : Nat → Int} (h : ¬ sp_b01 (sp_any (sp_on G C v k dep (-9)) K) = 0) : sp_bo K T F G C v k dep = -9 := if_pos (sp_b01_t h)
theorem sp_bo_2 {K : Nat} {T F G C : Nat → Nat} {v k : Nat} {dep : Nat → Int} (h : sp_b01 (sp_any (sp_on G C v k dep (-9)) K) = 0) (h2 : ¬ sp_b01 (sp_any (sp_on G C v k dep (-2)) K) = 0) : sp_bo K T F G C v k dep = -2 := by
  unfold sp_bo; rw [sp_b01_i.mp h, if_neg (by decide), if_pos (sp_b01_t h2)]
theorem sp_bo_l {K : Nat} {T F G C : Nat → Nat} {v k : Nat} {dep : Nat → Int} (h : sp_b01 (sp_any (sp_on G C v k dep (-9)) K) = 0) (h2 : sp_b01 (sp_any (sp_on G C v k dep (-2)) K) = 0) : sp_bo K T F G C v k dep = sp_lat T F G C v k dep K := by
  unfold sp_bo; rw [sp_b01_i.mp h, if_neg (by decide), sp_b01_i.mp h2, if_neg (by decide)]
/-- the place of what is kept: 61 a station -/
def sp_bgi (N K : Nat) (T F G C : Nat → Nat) (BG : Nat → Int) (w : Nat) : Prop := ∀ o, o < N → (∀ x, x < w → BG (61 * o + x) = sp_V N K T F G C x o) ∧ (BG (61 * o + w) = -2 ∨ BG (61 * o + w) = sp_V N K T F G C w o)
theorem sp_bgd {N K : Nat} {T F G C : Nat → Nat} {BG : Nat → Int} {w : Nat} (h : sp_bgi N K T F G C BG w) (hf : ∀ a, a < K → F a < N ∧ G a < N) (a : Nat) (ha : a < K) (hc : C a ≤ w) : BG (61 * F a + w - C a) = -2 ∨ BG (61 * F a + w - C a) = sp_V N K T F G C (w - C a) (F a) := by
  rw [show 61 * F a + w - C a = 61 * F a + (w - C a) by omega]
  obtain ⟨h1, h2⟩ := h (F a) (hf a ha).1
  by_cases hz : C a = 0
  · rw [hz, Nat.sub_zero]; exact h2
  · exact Or.inr (h1 _ (by omega))
theorem sp_bgr {N K : Nat} {T F G C : Nat → Nat} {BG : Nat → Int} {w : Nat} (h : sp_bgi N K T F G C BG w) (hT : ∀ i, T i ≤ 20) (hw : w ≤ 60) (hf : ∀ a, a < K → F a < N ∧ G a < N) : ∀ a, a < K → C a ≤ w → -9 ≤ BG (61 * F a + w - C a) ∧ BG (61 * F a + w - C a) ≤ 10980 := by
  intro a ha hc
  have h1 := sp_bgd h hf a ha hc
  have h2 := sp_V_le (N := N) (K := K) (F := F) (G := G) (C := C) hT (w - C a) (F a) (by omega)
  omega
theorem sp_bg_ix {o v x w : Nat} (hx : x ≤ 60) (hw : w ≤ 60) (h : 61 * o + x = 61 * v + w) : o = v ∧ x = w := by omega
theorem sp_bg_up {N K : Nat} {T F G C : Nat → Nat} {BG : Nat → Int} {w v : Nat} {y : Int} (h : sp_bgi N K T F G C BG w) (hw : w ≤ 60) (hy : y = -2 ∨ y = sp_V N K T F G C w v) : sp_bgi N K T F G C (up BG (61 * v + w) y) w := by
  intro o ho
  obtain ⟨h1, h2⟩ := h o ho
  refine ⟨fun x hx => ?_, ?_⟩
  · rw [up_n _ _ (fun e => by have := sp_bg_ix (by omega) hw e; omega)]; exact h1 x hx
  · by_cases e : o = v
    · subst e; rw [up_s]; exact hy
    · rw [up_n _ _ (fun z => e (sp_bg_ix hw hw z).1)]; exact h2
/-- those that are settled -/
def sp_bgn (N K : Nat) (F G C : Nat → Nat) (BG : Nat → Int) (w r o : Nat) : Prop := ∀ v, v ∈ sp_so N K F G C → (sp_rk (sp_so N K F G C) v < r ∨ (sp_rk (sp_so N K F G C) v = r ∧ v < o)) → ¬ BG (61 * v + w) = -2
theorem sp_bgn_0 {N K : Nat} {F G C : Nat → Nat} {BG : Nat → Int} {w : Nat} : sp_bgn N K F G C BG w 0 0 := fun v _ h => by omega
theorem sp_bgn_next {N K : Nat} {F G C : Nat → Nat} {BG : Nat → Int} {w r : Nat} (h : sp_bgn N K F G C BG w r N) : sp_bgn N K F G C BG w (r + 1) 0 := fun v hv hc => by
  have := sp_good_lt _ (sp_so_good N K F G C) v hv
  exact h v hv (by omega)
theorem sp_bgn_end {N K : Nat} {F G C : Nat → Nat} {BG : Nat → Int} {w : Nat} (h : sp_bgn N K F G C BG w N 0) : ∀ v, v ∈ sp_so N K F G C → ¬ BG (61 * v + w) = -2 := fun v hv => by
  have h1 := sp_rk_lt _ _ hv
  have h2 : (sp_so N K F G C).length ≤ N := sp_so_len
  exact h v hv (by omega)
theorem sp_bgn_keep {N K : Nat} {F G C : Nat → Nat} {BG : Nat → Int} {w r o : Nat} (h : sp_bgn N K F G C BG w r o) (hw : w ≤ 60) (h2 : ¬ BG (61 * o + w) = -2) : sp_bgn N K F G C (up BG (61 * o + w) (BG (61 * o + w))) w r (o + 1) := by
  intro v hv hc
  by_cases e : v = o
  · subst e; rw [up_s]; exact h2
  · rw [up_n _ _ (fun z => e (sp_bg_ix hw hw z).1)]; exact h v hv (by omega)
theorem sp_bgn_put {N K : Nat} {T F G C : Nat → Nat} {BG : Nat → Int} {w r o : Nat} (h : sp_bgn N K F G C BG w r o) (hi : sp_bgi N K T F G C BG w) (hN : N ≤ 8) (hT : ∀ i, T i ≤ 20) (hw : w ≤ 60) (ho : o < N) (hf : ∀ a, a < K → F a < N ∧ G a < N) : sp_bgn N K F G C (up BG (61 * o + w) (sp_bo K T F G C o w (fun a => BG (61 * F a + w - C a)))) w r (o + 1) := by
  intro v hv hc
  by_cases e : v = o
  · subst e; rw [up_s]
    refine (sp_bo_ok hN hT ho (fun a ha _ h3 => sp_bgd hi hf a ha h3)).2 (fun a ha h2 h3 => ?_)
    show ¬ BG (61 * F a + w - C a) = -2
    rw [show 61 * F a + w - C a = 61 * F a + (w - C a) by omega]
    by_cases hz : C a = 0
    · obtain ⟨g1, g2⟩ := sp_rk_dep _ (sp_so_good N K F G C) v hv a ha h2 hz
      rw [hz, Nat.sub_zero]; exact h (F a) g1 (Or.inl (by omega))
    · rw [(hi (F a) (hf a ha).1).1 _ (by omega)]
      have := sp_V_rng (N := N) (K := K) (F := F) (G := G) (C := C) hT (w - C a) (F a)
      omega
  · rw [up_n _ _ (fun z => e (sp_bg_ix hw hw z).1)]; exact h v hv (by omega)
/-- what is left unsettled at the end is dead -/
def sp_bgf (N K : Nat) (T F G C : Nat → Nat) (BG : Nat → Int) (w o : Nat) : Prop := ∀ v, v < N → (∀ x, x < w → BG (61 * v + x) = sp_V N K T F G C x v) ∧ (v < o → BG (61 * v + w) = sp_V N K T F G C w v) ∧ (¬ v < o → (BG (61 * v + w) = sp_V N K T F G C w v ∨ (BG (61 * v + w) = -2 ∧ ¬ v ∈ sp_so N K F G C)))
theorem sp_bgf_0 {N K : Nat} {T F G C : Nat → Nat} {BG : Nat → Int} {w : Nat} (h : sp_bgi N K T F G C BG w) (h2 : sp_bgn N K F G C BG w N 0) : sp_bgf N K T F G C BG w 0 := fun v hv => by
  obtain ⟨h3, h4⟩ := h v hv
  refine ⟨h3, fun z => absurd z (Nat.not_lt_zero _), fun _ => ?_⟩
  rcases h4 with z | z
  · exact Or.inr ⟨z, fun hm => sp_bgn_end h2 v hm z⟩
  · exact Or.inl z
theorem sp_bgf_s {N K : Nat} {T F G C : Nat → Nat} {BG : Nat → Int} {w o : Nat} {y : Int} (h : sp_bgf N K T F G C BG w o) (hT : ∀ i, T i ≤ 20) (hw : w ≤ 60) (hy : (BG (61 * o + w) = -2 ∧ y = -9) ∨ (¬ BG (61 * o + w) = -2 ∧ y = BG (61 * o + w))) : sp_bgf N K T F G C (up BG (61 * o + w) y) w (o + 1) := fun v hv => by
  obtain ⟨h3, h4, h5⟩ := h v hv
  refine ⟨fun x hx => ?_, ?_⟩
  · rw [up_n _ _ (fun e => by have := sp_bg_ix (by omega) hw e; omega)]; exact h3 x hx
  by_cases e : v = o
  · subst e
    refine ⟨fun _ => ?_, fun z => absurd (Nat.lt_succ_self _) z⟩
    rw [up_s]
    have hv9 := sp_V_rng (N := N) (K := K) (F := F) (G := G) (C := C) hT w v
    rcases h5 (Nat.lt_irrefl _) with z | ⟨z, z2⟩
    · rcases hy with ⟨y1, y2⟩ | ⟨y1, y2⟩
      · omega
      · rw [y2]; exact z
    · rcases hy with ⟨y1, y2⟩ | ⟨y1, y2⟩
      · rw [y2, sp_V_out z2]
      · exact absurd z y1
  · rw [up_n _ _ (fun z => e (sp_bg_ix hw hw z).1)]
    exact ⟨fun z => h4 (by omega), fun z => h5 (by omega)⟩
theorem sp_bgf_e {N K : Nat} {T F G C : Nat → Nat} {BG : Nat → Int} {w : Nat} (h : sp_bgf N K T F G C BG w N) : ∀ o, o < N → ∀ x, x < w + 1 → BG (61 * o + x) = sp_V N K T F G C x o := fun o ho x hx => by
  obtain ⟨h3, h4, _⟩ := h o ho
  rcases Nat.lt_succ_iff_lt_or_eq.mp hx with z | z
  · exact h3 x z
  · subst z; exact h4 ho
/-- the first sweep -/
theorem sp_bgi_0 {N K : Nat} {T F G C : Nat → Nat} {BG : Nat → Int} {w : Nat} (h : ∀ o, o < N → ∀ x, x < w → BG (61 * o + x) = sp_V N K T F G C x o) (h2 : ∀ o, o < N → BG (61 * o + w) = -2) : sp_bgi N K T F G C BG w := fun o ho => ⟨h o ho, Or.inl (h2 o ho)⟩
