/-! how many loops there can be: with 16 arcs no more than 636 -/
theorem b6_fm {f : Nat → List (List Nat)} {g : Nat → Nat} : ∀ n, (∀ a, a < n → (f a).length ≤ g a) → ((List.range n).flatMap f).length ≤ fb_sm g n
  | 0, _ => Nat.le_refl _
  | n + 1, h => by
    have ih := b6_fm n (fun a ha => h a (by omega))
    have h1 := h n (by omega)
    rw [List.range_succ, List.flatMap_append, List.length_append, fb_sm_succ]
    have e : ([n].flatMap f).length = (f n).length := by simp
    omega
def b6_i (q : Bool) : Nat := if q = true then 1 else 0
theorem b6_ct (p : Nat → Bool) (c : Nat) : ∀ n, fb_sm (fun a => b6_i (p a) * c) n = fb_ct p n * c
  | 0 => (Nat.zero_mul c).symm
  | n + 1 => by
    rw [fb_sm_succ, b6_ct p c n, fb_ct_succ, Nat.add_mul]
    rfl
theorem b6_add {p q r : Nat → Bool} : ∀ n, (∀ k, k < n → b6_i (p k) + b6_i (q k) ≤ b6_i (r k)) → fb_ct p n + fb_ct q n ≤ fb_ct r n
  | 0, _ => Nat.le_refl _
  | n + 1, h => by
    have ih := b6_add n (fun k hk => h k (by omega))
    have h1 := h n (by omega)
    rw [fb_ct_succ, fb_ct_succ, fb_ct_succ]
    unfold b6_i at h1
    omega
theorem b6_dec {P Q R : Prop} [Decidable P] [Decidable Q] [Decidable R] (h1 : P → ¬ Q) (h2 : P → R) (h3 : Q → R) : b6_i (decide P) + b6_i (decide Q) ≤ b6_i (decide R) := by
  unfold b6_i
  by_cases hP : P
  · rw [decide_eq_true hP, decide_eq_false (h1 hP), decide_eq_true (h2 hP)]; decide
  · rw [decide_eq_false hP]
    by_cases hQ : Q
    · rw [decide_eq_true hQ, decide_eq_true (h3 hQ)]; decide
    · rw [decide_eq_false hQ]; exact Nat.zero_le _
theorem b6_pos {p : Nat → Bool} {n a : Nat} (ha : a < n) (h : p a = true) : 1 ≤ fb_ct p n := Nat.pos_of_ne_zero (fun z => by
  have := fb_ct_zero.mp z a ha
  rw [h] at this
  exact absurd this (by decide))
/-- the arcs out of a station, to none below st -/
def b6_dg (K : Nat) (F G : Nat → Nat) (st v : Nat) : Nat := fb_ct (fun a => decide (F a = v ∧ st ≤ G a)) K
/-- the arcs among the stations from st on -/
def b6_mi (K : Nat) (F G : Nat → Nat) (st : Nat) : Nat := fb_ct (fun a => decide (st ≤ F a ∧ st ≤ G a)) K
def b6_pr (D : Nat → Nat) : List Nat → Nat
  | [] => 1
  | v :: U => max 1 (D v) * b6_pr D U
def b6_sd (D : Nat → Nat) : List Nat → Nat
  | [] => 0
  | v :: U => D v + b6_sd D U
theorem b6_pr_pos (D : Nat → Nat) : ∀ U, 1 ≤ b6_pr D U
  | [] => Nat.le_refl _
  | v :: U => by
    have := Nat.mul_le_mul (show 1 ≤ max 1 (D v) by omega) (b6_pr_pos D U)
    show 1 ≤ max 1 (D v) * b6_pr D U
    omega
theorem b6_pr_er (D : Nat → Nat) (w : Nat) : ∀ U, w ∈ U → b6_pr D U = max 1 (D w) * b6_pr D (U.erase w)
  | [], h => absurd h List.not_mem_nil
  | v :: U, h => by
    by_cases e : v = w
    · subst e
      rw [List.erase_cons_head]
      rfl
    · have h2 : w ∈ U := by
        rcases List.mem_cons.mp h with z | z
        · exact absurd z.symm e
        · exact z
      rw [List.erase_cons_tail (by simpa using e)]
      show max 1 (D v) * b6_pr D U = max 1 (D w) * (max 1 (D v) * b6_pr D (U.erase w))
      rw [b6_pr_er D w U h2, Nat.mul_left_comm]
theorem b6_dfs {K : Nat} {F G : Nat → Nat} {st : Nat} : ∀ (f : Nat) (rp U : List Nat), (∀ a, a < K → st < G a → ¬ G a ∈ rp.map G → G a ∈ U) → (sp_lv K F G st f rp).length ≤ b6_dg K F G st (sp_at G st rp) * b6_pr (b6_dg K F G st) U
  | 0, rp, U, _ => by rw [sp_lv_0]; exact Nat.zero_le _
  | f + 1, rp, U, h => by
    have hp := b6_pr_pos (b6_dg K F G st) U
    have hb : ∀ a, a < K → (sp_br K F G st (f + 1) rp a).length ≤ b6_i (decide (F a = sp_at G st rp ∧ st ≤ G a)) * b6_pr (b6_dg K F G st) U := by
      intro a ha
      rw [sp_br_s]
      by_cases hF : F a = sp_at G st rp
      · rw [if_neg (fun z => z hF)]
        by_cases hG : G a = st
        · rw [if_pos hG, decide_eq_true ⟨hF, by omega⟩]
          show 1 ≤ 1 * _
          omega
        · rw [if_neg hG]
          by_cases hc : st < G a ∧ ¬ G a ∈ rp.map G
          · rw [if_pos hc, decide_eq_true ⟨hF, by omega⟩]
            have hU := h a ha hc.1 hc.2
            have ih := b6_dfs (K := K) (F := F) (G := G) (st := st) f (a :: rp) (U.erase (G a)) (fun a2 h2 h3 h4 => by
              have n1 : ¬ G a2 = G a := fun z => h4 (by rw [z]; exact List.mem_cons_self)
              have n2 : ¬ G a2 ∈ rp.map G := fun z => h4 (List.mem_cons_of_mem _ z)
              exact (List.mem_erase_of_ne n1).mpr (h a2 h2 h3 n2))
            have e := b6_pr_er (b6_dg K F G st) (G a) U hU
            have ih2 : ((List.range K).flatMap (sp_br K F G st f (a :: rp))).length ≤ b6_dg K F G st (G a) * b6_pr (b6_dg K F G st) (U.erase (G a)) := ih
            have h5 := Nat.mul_le_mul (show b6_dg K F G st (G a) ≤ max 1 (b6_dg K F G st (G a)) by omega) (Nat.le_refl (b6_pr (b6_dg K F G st) (U.erase (G a))))
            show _ ≤ 1 * _
            omega
          · rw [if_neg hc]; exact Nat.zero_le _
      · rw [if_pos hF]; exact Nat.zero_le _
    have h1 := b6_fm K hb
    rw [b6_ct] at h1
    exact h1
/-- no way back: nothing -/
theorem b6_none {K : Nat} {F G : Nat → Nat} {st : Nat} (hB : ∀ b, b < K → st < F b → ¬ G b = st) : ∀ (f : Nat) (rp : List Nat), st < sp_at G st rp → sp_lv K F G st f rp = []
  | 0, rp, _ => sp_lv_0 _ _ _ _ _
  | f + 1, rp, h => by
    unfold sp_lv
    refine List.flatMap_eq_nil_iff.mpr (fun a ha => ?_)
    have haK := List.mem_range.mp ha
    rw [sp_br_s]
    by_cases hF : F a = sp_at G st rp
    · rw [if_neg (fun z => z hF), if_neg (hB a haK (by omega))]
      by_cases hc : st < G a ∧ ¬ G a ∈ rp.map G
      · rw [if_pos hc]; exact b6_none hB f (a :: rp) hc.1
      · rw [if_neg hc]
    · rw [if_pos hF]
theorem b6_self {K : Nat} {F G : Nat → Nat} {st : Nat} (h : ¬ ((∃ a, a < K ∧ F a = st ∧ st < G a) ∧ (∃ b, b < K ∧ st < F b ∧ G b = st))) : (sp_lv K F G st 8 []).length ≤ fb_ct (fun a => decide (F a = st ∧ G a = st)) K := by
  have hb : ∀ a, a < K → (sp_br K F G st 8 [] a).length ≤ b6_i (decide (F a = st ∧ G a = st)) * 1 := by
    intro a ha
    rw [sp_br_s]
    by_cases hF : F a = sp_at G st []
    · rw [if_neg (fun z => z hF)]
      have hF2 : F a = st := hF
      by_cases hG : G a = st
      · rw [if_pos hG, decide_eq_true ⟨hF2, hG⟩]; exact Nat.le_refl _
      · rw [if_neg hG]
        by_cases hc : st < G a ∧ ¬ G a ∈ ([] : List Nat).map G
        · rw [if_pos hc]
          have hB : ∀ b, b < K → st < F b → ¬ G b = st := fun b h1 h2 h3 => h ⟨⟨a, ha, hF2, hc.1⟩, ⟨b, h1, h2, h3⟩⟩
          have e : (List.range K).flatMap (sp_br K F G st 7 [a]) = [] := b6_none hB 7 [a] hc.1
          rw [e]; exact Nat.zero_le _
        · rw [if_neg hc]; exact Nat.zero_le _
    · rw [if_pos hF]; exact Nat.zero_le _
  have h1 := b6_fm K hb
  rw [b6_ct, Nat.mul_one] at h1
  exact h1
/-- the greatest product of numbers that add up to m, and its sum by twos -/
def b6_P (m : Nat) : Nat := [1, 1, 2, 3, 4, 6, 9, 12, 18, 27, 36, 54, 81, 108, 162, 243, 324].getD m 0
def b6_F (m : Nat) : Nat := [0, 1, 2, 4, 6, 10, 15, 22, 33, 49, 69, 103, 150, 211, 312, 454, 636].getD m 0
theorem b6_P1 : ∀ m, m < 17 → 1 ≤ b6_P m := by decide
theorem b6_P2 : ∀ m, m < 17 → ∀ d, d < 17 → d ≤ m → max 1 d * b6_P (m - d) ≤ b6_P m := by decide
theorem b6_F1 : ∀ m, m < 17 → ∀ k, k < 17 → k + 2 ≤ m → b6_P m + b6_F k ≤ b6_F m := by decide
theorem b6_F2 : ∀ m, m < 17 → ∀ k, k < 17 → k ≤ m → b6_F k + (m - k) ≤ b6_F m := by decide
theorem b6_F3 : ∀ m, m < 17 → b6_F m ≤ 636 := by decide
theorem b6_prP (D : Nat → Nat) : ∀ (U : List Nat) (m : Nat), m < 17 → b6_sd D U ≤ m → b6_pr D U ≤ b6_P m
  | [], m, hm, _ => b6_P1 m hm
  | v :: U, m, hm, h => by
    have h1 : D v + b6_sd D U ≤ m := h
    have ih := b6_prP D U (m - D v) (by omega) (by omega)
    have h2 := b6_P2 m hm (D v) (by omega) (by omega)
    have h3 := Nat.mul_le_mul (Nat.le_refl (max 1 (D v))) ih
    show max 1 (D v) * b6_pr D U ≤ b6_P m
    omega
theorem b6_sum {K : Nat} {F G : Nat → Nat} {st : Nat} : ∀ U : List Nat, U.Nodup → b6_sd (b6_dg K F G st) U ≤ fb_ct (fun a => decide (F a ∈ U ∧ st ≤ G a)) K
  | [], _ => Nat.zero_le _
  | v :: U, hn => by
    obtain ⟨n1, n2⟩ := List.nodup_cons.mp hn
    have ih := b6_sum (K := K) (F := F) (G := G) (st := st) U n2
    have h := b6_add (p := fun a => decide (F a = v ∧ st ≤ G a)) (q := fun a => decide (F a ∈ U ∧ st ≤ G a)) (r := fun a => decide (F a ∈ v :: U ∧ st ≤ G a)) K (fun k _ => b6_dec (fun z y => n1 (by rw [← z.1]; exact y.1)) (fun z => ⟨by rw [z.1]; exact List.mem_cons_self, z.2⟩) (fun z => ⟨List.mem_cons_of_mem _ z.1, z.2⟩))
    show b6_dg K F G st v + b6_sd (b6_dg K F G st) U ≤ _
    unfold b6_dg
    unfold b6_dg at ih
    omega
theorem b6_top (G : Nat → Nat) : ∀ K, ∃ M, ∀ a, a < K → G a < M
  | 0 => ⟨0, fun a h => absurd h (Nat.not_lt_zero _)⟩
  | K + 1 => by
    obtain ⟨M, hM⟩ := b6_top G K
    refine ⟨M + G K + 1, fun a ha => ?_⟩
    rcases Nat.lt_succ_iff_lt_or_eq.mp ha with z | z
    · have := hM a z; omega
    · subst z; omega
theorem b6_len {K : Nat} {F G : Nat → Nat} {st : Nat} (hm : b6_mi K F G st < 17) : (sp_lv K F G st 8 []).length ≤ b6_P (b6_mi K F G st) := by
  obtain ⟨M, hM⟩ := b6_top G K
  have hU : ∀ w, w ∈ (List.range M).filter (fun w => decide (st < w)) ↔ w < M ∧ st < w := fun w => by simp
  have h1 := b6_dfs (K := K) (F := F) (G := G) (st := st) 8 [] ((List.range M).filter (fun w => decide (st < w))) (fun a ha h2 _ => (hU _).mpr ⟨hM a ha, h2⟩)
  have hnd : (st :: (List.range M).filter (fun w => decide (st < w))).Nodup := List.nodup_cons.mpr ⟨fun z => by have := ((hU _).mp z).2; omega, List.Pairwise.filter _ List.nodup_range⟩
  have h2 := b6_sum (K := K) (F := F) (G := G) (st := st) _ hnd
  have h3 := b6_add (p := fun a => decide (F a ∈ st :: (List.range M).filter (fun w => decide (st < w)) ∧ st ≤ G a)) (q := fun _ => decide False) (r := fun a => decide (st ≤ F a ∧ st ≤ G a)) K (fun k _ => b6_dec (fun _ z => z) (fun z => ⟨by
    rcases List.mem_cons.mp z.1 with y | y
    · omega
    · have := ((hU _).mp y).2; omega, z.2⟩) (fun z => z.elim))
  have h4 := b6_prP (b6_dg K F G st) (st :: (List.range M).filter (fun w => decide (st < w))) (b6_mi K F G st) hm (by unfold b6_mi; omega)
  have h5 : b6_pr (b6_dg K F G st) (st :: (List.range M).filter (fun w => decide (st < w))) = max 1 (b6_dg K F G st st) * b6_pr (b6_dg K F G st) ((List.range M).filter (fun w => decide (st < w))) := rfl
  have h6 := Nat.mul_le_mul (show b6_dg K F G st st ≤ max 1 (b6_dg K F G st st) by omega) (Nat.le_refl (b6_pr (b6_dg K F G st) ((List.range M).filter (fun w => decide (st < w)))))
  have h7 : (sp_lv K F G st 8 []).length ≤ b6_dg K F G st st * b6_pr (b6_dg K F G st) ((List.range M).filter (fun w => decide (st < w))) := h1
  omega
theorem b6_step {K : Nat} {F G : Nat → Nat} {st : Nat} (hm : b6_mi K F G st < 17) : (sp_lv K F G st 8 []).length + b6_F (b6_mi K F G (st + 1)) ≤ b6_F (b6_mi K F G st) := by
  by_cases h : (∃ a, a < K ∧ F a = st ∧ st < G a) ∧ (∃ b, b < K ∧ st < F b ∧ G b = st)
  · obtain ⟨⟨a, a1, a2, a3⟩, ⟨b, b1, b2, b3⟩⟩ := h
    have h1 := b6_add (p := fun k => decide (st + 1 ≤ F k ∧ st + 1 ≤ G k)) (q := fun k => decide (F k = st ∧ st < G k)) (r := fun k => decide (st ≤ F k ∧ st < G k)) K (fun k _ => b6_dec (fun z y => by omega) (fun z => by omega) (fun z => by omega))
    have h2 := b6_add (p := fun k => decide (st ≤ F k ∧ st < G k)) (q := fun k => decide (st < F k ∧ G k = st)) (r := fun k => decide (st ≤ F k ∧ st ≤ G k)) K (fun k _ => b6_dec (fun z y => by omega) (fun z => by omega) (fun z => by omega))
    have h3 := b6_pos (p := fun k => decide (F k = st ∧ st < G k)) a1 (decide_eq_true ⟨a2, a3⟩)
    have h4 := b6_pos (p := fun k => decide (st < F k ∧ G k = st)) b1 (decide_eq_true ⟨b2, b3⟩)
    have h5 : b6_mi K F G (st + 1) + 2 ≤ b6_mi K F G st := by unfold b6_mi; omega
    have h6 := b6_len hm
    have h7 := b6_F1 (b6_mi K F G st) hm (b6_mi K F G (st + 1)) (by omega) h5
    omega
  · have h1 := b6_self h
    have h2 := b6_add (p := fun k => decide (st + 1 ≤ F k ∧ st + 1 ≤ G k)) (q := fun k => decide (F k = st ∧ G k = st)) (r := fun k => decide (st ≤ F k ∧ st ≤ G k)) K (fun k _ => b6_dec (fun z y => by omega) (fun z => by omega) (fun z => by omega))
    have h3 : b6_mi K F G (st + 1) + (sp_lv K F G st 8 []).length ≤ b6_mi K F G st := by unfold b6_mi; omega
    have h4 := b6_F2 (b6_mi K F G st) hm (b6_mi K F G (st + 1)) (by omega) (by omega)
    omega
theorem b6_mi_le (K : Nat) (F G : Nat → Nat) (st : Nat) : b6_mi K F G st ≤ K := fb_ct_le _ _
theorem b6_all {K : Nat} (hK : K ≤ 16) (F G : Nat → Nat) : ∀ j, (sp_all j K F G).length + b6_F (b6_mi K F G j) ≤ b6_F (b6_mi K F G 0)
  | 0 => by
    have e : (sp_all 0 K F G).length = 0 := rfl
    omega
  | j + 1 => by
    have ih := b6_all hK F G j
    have h1 := b6_mi_le K F G j
    have h2 := b6_step (K := K) (F := F) (G := G) (st := j) (by omega)
    rw [sp_all_s, List.length_append]
    omega
theorem sp_636 {K N : Nat} (hK : K ≤ 16) (hN : N ≤ 8) (F G : Nat → Nat) : (sp_all N K F G).length ≤ 636 := by
  have h1 := b6_all hK F G N
  have h2 := b6_mi_le K F G 0
  have h3 := b6_F3 (b6_mi K F G 0) (by omega)
  omega
