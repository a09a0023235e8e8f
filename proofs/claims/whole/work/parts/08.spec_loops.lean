/-! loops: found arc by arc; rp is the path so far, its last arc first; st the station at which it begins -/
def sp_at (G : Nat → Nat) (st : Nat) (rp : List Nat) : Nat := match rp with
  | [] => st
  | a :: _ => G a
def sp_br (K : Nat) (F G : Nat → Nat) (st : Nat) : Nat → List Nat → Nat → List (List Nat)
  | 0, _, _ => []
  | f + 1, rp, a => if ¬ F a = sp_at G st rp then [] else if G a = st then [(a :: rp).reverse] else if st < G a ∧ ¬ G a ∈ rp.map G then (List.range K).flatMap (sp_br K F G st f (a :: rp)) else []
theorem sp_br_s (K : Nat) (F G : Nat → Nat) (st f : Nat) (rp : List Nat) (a : Nat) : sp_br K F G st (f + 1) rp a = if ¬ F a = sp_at G st rp then [] else if G a = st then [(a :: rp).reverse] else if st < G a ∧ ¬ G a ∈ rp.map G then (List.range K).flatMap (sp_br K F G st f (a :: rp)) else [] := rfl
def sp_lv (K : Nat) (F G : Nat → Nat) (st f : Nat) (rp : List Nat) : List (List Nat) := (List.range K).flatMap (sp_br K F G st f rp)
theorem sp_lv_0 (K : Nat) (F G : Nat → Nat) (st : Nat) (rp : List Nat) : sp_lv K F G st 0 rp = [] := by
  unfold sp_lv
  induction K with
  | zero => rfl
  | succ n ih =>
    have e : ∀ m, (List.range m).flatMap (sp_br (n + 1) F G st 0 rp) = [] := by
      intro m
      induction m with
      | zero => rfl
      | succ m ih => rw [List.range_succ, List.flatMap_append, ih]; rfl
    exact e (n + 1)
/-- the loops of the first j arcs -/
def sp_lj (j K : Nat) (F G : Nat → Nat) (st f : Nat) (rp : List Nat) : List (List Nat) := (List.range j).flatMap (sp_br K F G st f rp)
theorem sp_lj_0 (K : Nat) (F G : Nat → Nat) (st f : Nat) (rp : List Nat) : sp_lj 0 K F G st f rp = [] := rfl
theorem sp_lj_s (j K : Nat) (F G : Nat → Nat) (st f : Nat) (rp : List Nat) : sp_lj (j + 1) K F G st f rp = sp_lj j K F G st f rp ++ sp_br K F G st f rp j := by
  unfold sp_lj
  rw [List.range_succ, List.flatMap_append]
  simp
theorem sp_lj_K (K : Nat) (F G : Nat → Nat) (st f : Nat) (rp : List Nat) : sp_lj K K F G st f rp = sp_lv K F G st f rp := rfl
theorem sp_lj_len (j K : Nat) (F G : Nat → Nat) (st f : Nat) (rp : List Nat) : ∀ n, (sp_lj j K F G st f rp).length ≤ (sp_lj (j + n) K F G st f rp).length
  | 0 => Nat.le_refl _
  | n + 1 => by
    have := sp_lj_len j K F G st f rp n
    rw [show j + (n + 1) = (j + n) + 1 from rfl, sp_lj_s, List.length_append]
    omega
theorem sp_lj_le {j K : Nat} (h : j ≤ K) (F G : Nat → Nat) (st f : Nat) (rp : List Nat) : (sp_lj j K F G st f rp).length ≤ (sp_lv K F G st f rp).length := by
  have := sp_lj_len j K F G st f rp (K - j)
  rw [show j + (K - j) = K by omega] at this
  exact this
/-- what the arrays hold -/
def sp_hold (LS : List (List Nat)) (mn : Nat) (RW LE : Nat → Nat) : Prop := mn = LS.length ∧ ∀ l, l < LS.length → LE l = (LS.getD l []).length ∧ ∀ i, i < LE l → RW (l * 8 + i) = (LS.getD l []).getD i 0
theorem sp_hold_0 (RW LE : Nat → Nat) : sp_hold [] 0 RW LE := ⟨rfl, fun l h => absurd h (Nat.not_lt_zero _)⟩
theorem sp_hold_add {LS : List (List Nat)} {mn : Nat} {RW LE RW2 LE2 : Nat → Nat} {pa : List Nat} (h : sp_hold LS mn RW LE) (h1 : LE2 mn = pa.length) (h2 : ∀ i, i < pa.length → RW2 (mn * 8 + i) = pa.getD i 0) (h3 : ∀ l, ¬ l = mn → LE2 l = LE l) (h4 : ∀ j, j < mn * 8 → RW2 j = RW j) (h5 : ∀ i, LE i ≤ 8) : sp_hold (LS ++ [pa]) (mn + 1) RW2 LE2 := by
  obtain ⟨e, hh⟩ := h
  refine ⟨by simp [e], fun l hl => ?_⟩
  rw [List.length_append, List.length_singleton] at hl
  by_cases q : l = mn
  · subst q
    have e2 : (LS ++ [pa]).getD l [] = pa := by simp [List.getD_eq_getElem?_getD, e]
    rw [e2, h1]
    exact ⟨rfl, h2⟩
  · have hl2 : l < LS.length := by omega
    have e2 : (LS ++ [pa]).getD l [] = LS.getD l [] := by simp [List.getD_eq_getElem?_getD, List.getElem?_append_left hl2]
    obtain ⟨g1, g2⟩ := hh l hl2
    rw [e2, h3 l q]
    refine ⟨g1, fun i hi => ?_⟩
    have := h5 l
    rw [h4 _ (by omega)]
    exact g2 i hi
/-- the path array -/
def sp_pth (rp : List Nat) (PA : Nat → Nat) : Prop := ∀ i, i < rp.length → PA i = rp.reverse.getD i 0
theorem sp_pth_push {rp : List Nat} {PA : Nat → Nat} {a : Nat} (h : sp_pth rp PA) : sp_pth (a :: rp) (up PA rp.length a) := by
  intro i hi
  rw [List.length_cons] at hi
  rw [List.reverse_cons]
  by_cases q : i = rp.length
  · subst q; rw [up_s]; simp [List.getD_eq_getElem?_getD]
  · rw [up_n _ _ q, h i (by omega)]
    simp [List.getD_eq_getElem?_getD, List.getElem?_append_left (show i < rp.reverse.length by simp; omega)]
theorem sp_pth_keep {rp : List Nat} {PA PA2 : Nat → Nat} (h : sp_pth rp PA) (hk : ∀ i, i < rp.length → PA2 i = PA i) : sp_pth rp PA2 := fun i hi => by rw [hk i hi]; exact h i hi
/-- the stations passed, a bit for each -/
def sp_bits (G : Nat → Nat) (rp : List Nat) (ps : Nat) : Prop := ps < 256 ∧ ∀ x, x < 8 → ((ps / 2 ^ x) &&& 1 = 0 ↔ ¬ x ∈ rp.map G)
theorem sp_bits_0 (G : Nat → Nat) : sp_bits G [] 0 := ⟨by omega, fun x _ => by simp⟩
theorem sp_bit_i (n x : Nat) : (n / 2 ^ x) &&& 1 = 0 ↔ n.testBit x = false := by
  rw [Nat.and_one_is_mod, Nat.testBit_eq_decide_div_mod_eq]
  have := Nat.mod_two_eq_zero_or_one (n / 2 ^ x)
  rcases this with h | h <;> simp [h]
theorem sp_bits_push {G : Nat → Nat} {rp : List Nat} {ps a : Nat} (h : sp_bits G rp ps) (ha : G a < 8) : sp_bits G (a :: rp) (ps ||| (1 * 2 ^ G a)) := by
  obtain ⟨h1, h2⟩ := h
  have hp : 1 * 2 ^ G a < 2 ^ 8 := by rw [Nat.one_mul]; exact Nat.pow_lt_pow_right (by omega) ha
  refine ⟨Nat.or_lt_two_pow (n := 8) (by omega) hp, fun x hx => ?_⟩
  have h3 := h2 x hx
  rw [sp_bit_i] at h3 ⊢
  rw [Nat.one_mul, fb_bit_set, List.map_cons, List.mem_cons]
  by_cases q : x = G a
  · simp [q]
  · simp [q, h3]

/-- all loops of the stations below j -/
def sp_all (j K : Nat) (F G : Nat → Nat) : List (List Nat) := (List.range j).flatMap (fun st => sp_lv K F G st 8 [])
theorem sp_all_s (j K : Nat) (F G : Nat → Nat) : sp_all (j + 1) K F G = sp_all j K F G ++ sp_lv K F G j 8 [] := by
  unfold sp_all
  rw [List.range_succ, List.flatMap_append]
  simp
theorem sp_all_len (j K : Nat) (F G : Nat → Nat) : ∀ n, (sp_all j K F G).length ≤ (sp_all (j + n) K F G).length
  | 0 => Nat.le_refl _
  | n + 1 => by
    have := sp_all_len j K F G n
    rw [show j + (n + 1) = (j + n) + 1 from rfl, sp_all_s, List.length_append]
    omega
theorem sp_all_le {j N : Nat} (h : j ≤ N) (K : Nat) (F G : Nat → Nat) : (sp_all j K F G).length ≤ (sp_all N K F G).length := by
  have := sp_all_len j K F G (N - j)
  rw [show j + (N - j) = N by omega] at this
  exact this
/-! what is read off the loops -/
def sp_tm (T F RW LE : Nat → Nat) (l : Nat) : Nat := fb_sm (fun i => T (F (RW (l * 8 + i)))) (LE l)
def sp_cd (C RW LE : Nat → Nat) (l : Nat) : Nat := fb_sm (fun i => C (RW (l * 8 + i))) (LE l)
def sp_ps (RW LE : Nat → Nat) (l a : Nat) : Bool := decide (∃ i, i < LE l ∧ RW (l * 8 + i) = a)
theorem sp_ps_t {RW LE : Nat → Nat} {l a : Nat} (i : Nat) (h : i < LE l) (h2 : RW (l * 8 + i) = a) : sp_ps RW LE l a = true := decide_eq_true ⟨i, h, h2⟩
theorem sp_ps_f {RW LE : Nat → Nat} {l a : Nat} (h : ∀ i, i < LE l → ¬ RW (l * 8 + i) = a) : sp_ps RW LE l a = false := decide_eq_false (fun ⟨i, h1, h2⟩ => h i h1 h2)
def sp_sl (tm cd : Nat → Nat) : Nat → Int × Nat × Nat
  | 0 => (-9, 0, 1)
  | l + 1 => if (sp_sl tm cd l).2.1 * cd l < tm l * (sp_sl tm cd l).2.2 then ((l : Int), tm l, cd l) else sp_sl tm cd l
theorem sp_sl_y {tm cd : Nat → Nat} {l : Nat} (h : (sp_sl tm cd l).2.1 * cd l < tm l * (sp_sl tm cd l).2.2) : sp_sl tm cd (l + 1) = ((l : Int), tm l, cd l) := if_pos h
theorem sp_sl_n {tm cd : Nat → Nat} {l : Nat} (h : tm l * (sp_sl tm cd l).2.2 ≤ (sp_sl tm cd l).2.1 * cd l) : sp_sl tm cd (l + 1) = sp_sl tm cd l := if_neg (Nat.not_lt_of_le h)
def sp_chg (lt : Nat) (now was : Nat → Nat) (l : Nat) : Bool := if lt = 0 then decide (was l < now l) else decide (now l < was l)
theorem sp_chg_0 {lt : Nat} {now was : Nat → Nat} {l : Nat} (h : lt = 0) : sp_chg lt now was l = decide (was l < now l) := if_pos h
theorem sp_chg_1 {lt : Nat} {now was : Nat → Nat} {l : Nat} (h : ¬ lt = 0) : sp_chg lt now was l = decide (now l < was l) := if_neg h
def sp_nd (tm cd : Nat → Nat) (ab be l : Nat) : Int := (((tm l * be + ab - 1) / ab : Nat) : Int) - (cd l : Int)
def sp_mx (nd : Nat → Int) : Nat → Int
  | 0 => 0
  | l + 1 => max (sp_mx nd l) (nd l)
theorem sp_mx_s (nd : Nat → Int) (l : Nat) : sp_mx nd (l + 1) = max (sp_mx nd l) (nd l) := rfl
