/-! each loop has arcs, each once, that lead on from each other -/
def sp_lok1 (K : Nat) (G : Nat → Nat) (q : List Nat) : Prop := ¬ q = [] ∧ (q.map G).Nodup ∧ ∀ y, y ∈ q → y < K
theorem sp_rev_nd {l : List Nat} (h : l.Nodup) : l.reverse.Nodup := List.pairwise_reverse.mpr (List.Pairwise.imp (fun {a b} (h : ¬ a = b) => fun e => h e.symm) h)
theorem sp_br_mem {K : Nat} {F G : Nat → Nat} {st : Nat} : ∀ (f : Nat) (rp : List Nat) (a : Nat) (q : List Nat), (rp.map G).Nodup → (∀ y, y ∈ rp → st < G y ∧ y < K) → a < K → q ∈ sp_br K F G st f rp a → sp_lok1 K G q
  | 0, _, _, _, _, _, _, hq => absurd hq List.not_mem_nil
  | f + 1, rp, a, q, h1, h2, ha, hq => by
    rw [sp_br_s] at hq
    split at hq
    · exact absurd hq List.not_mem_nil
    · split at hq
      · rename_i hg
        rw [List.mem_singleton.mp hq]
        refine ⟨by simp, ?_, fun y hy => ?_⟩
        · rw [List.map_reverse]
          refine sp_rev_nd (List.nodup_cons.mpr ⟨fun hm => ?_, h1⟩)
          obtain ⟨z, hz, e⟩ := List.mem_map.mp hm
          have := (h2 z hz).1
          omega
        · rcases List.mem_cons.mp (List.mem_reverse.mp hy) with z | z
          · rw [z]; exact ha
          · exact (h2 y z).2
      · split at hq
        · rename_i hc
          obtain ⟨b, hb, hq2⟩ := List.mem_flatMap.mp hq
          refine sp_br_mem f (a :: rp) b q (List.nodup_cons.mpr ⟨hc.2, h1⟩) (fun y hy => ?_) (List.mem_range.mp hb) hq2
          rcases List.mem_cons.mp hy with z | z
          · rw [z]; exact ⟨hc.1, ha⟩
          · exact h2 y z
        · exact absurd hq List.not_mem_nil
theorem sp_all_mem {K N : Nat} {F G : Nat → Nat} {q : List Nat} (h : q ∈ sp_all N K F G) : sp_lok1 K G q := by
  obtain ⟨st, -, h2⟩ := List.mem_flatMap.mp h
  obtain ⟨a, h3, h4⟩ := List.mem_flatMap.mp h2
  exact sp_br_mem 8 [] a q List.nodup_nil (fun y hy => absurd hy List.not_mem_nil) (List.mem_range.mp h3) h4
theorem sp_getD_mem {LS : List (List Nat)} {l : Nat} (h : l < LS.length) : LS.getD l [] ∈ LS := by
  rw [List.getD_eq_getElem?_getD, List.getElem?_eq_getElem h]
  exact List.getElem_mem h
theorem sp_getD0 {q : List Nat} (h : 0 < q.length) : q.getD 0 0 ∈ q := by
  rw [List.getD_eq_getElem?_getD, List.getElem?_eq_getElem h]
  exact List.getElem_mem h
theorem sp_inj {q : List Nat} (h : q.Nodup) : ∀ i j, i < q.length → j < q.length → q.getD i 0 = q.getD j 0 → i = j := by
  have hp := List.pairwise_iff_getElem.mp h
  have key : ∀ i j, i < j → j < q.length → ¬ q.getD i 0 = q.getD j 0 := by
    intro i j hij hj
    have := hp i j (by omega) hj hij
    rw [List.getD_eq_getElem?_getD, List.getD_eq_getElem?_getD, List.getElem?_eq_getElem hj, List.getElem?_eq_getElem (show i < q.length by omega)]
    exact this
  intro i j hi hj e
  rcases Nat.lt_trichotomy i j with z | z | z
  · exact absurd e (key i j z hj)
  · exact z
  · exact absurd e.symm (key j i z hi)
theorem sp_map_nd {G : Nat → Nat} {q : List Nat} (h : (q.map G).Nodup) : q.Nodup := by
  have h2 := List.pairwise_map.mp h
  exact List.Pairwise.imp (fun {a b} (h : ¬ G a = G b) => fun e => h (by rw [e])) h2
theorem sp_tmL_pos {N K : Nat} {T F G : Nat → Nat} {l : Nat} (hl : l < (sp_all N K F G).length) (ht : ∀ a, a < K → 1 ≤ T (F a)) : 0 < sp_tmL T F (sp_all N K F G) l := by
  have hm := sp_getD_mem hl
  have hk := sp_all_mem hm
  unfold sp_tmL
  have h0 : 0 < ((sp_all N K F G).getD l []).length := List.length_pos_iff.mpr hk.1
  have h1 := fb_sm_part (fun i => T (F (((sp_all N K F G).getD l []).getD i 0))) h0
  have h2 : ((sp_all N K F G).getD l []).getD 0 0 ∈ (sp_all N K F G).getD l [] := sp_getD0 h0
  have h3 := ht _ (hk.2.2 _ h2)
  have h4 : 1 ≤ (fun i => T (F (((sp_all N K F G).getD l []).getD i 0))) 0 := h3
  omega
/-- more cards on an arc that is there at most once -/
theorem sp_sum_one {C q : Nat → Nat} {a m : Nat} : ∀ n, (∀ i j, i < n → j < n → q i = q j → i = j) → fb_sm (fun i => up C a (C a + m) (q i)) n = fb_sm (fun i => C (q i)) n + (if decide (∃ i, i < n ∧ q i = a) = true then m else 0)
  | 0, _ => by
    rw [if_neg]
    · rfl
    · rw [decide_eq_true_eq]; rintro ⟨i, hi, -⟩; omega
  | n + 1, h => by
    have ih := sp_sum_one (C := C) (q := q) (a := a) (m := m) n (fun i j hi hj => h i j (by omega) (by omega))
    rw [fb_sm_succ, fb_sm_succ, ih]
    by_cases e : q n = a
    · have h1 : ¬ (∃ i, i < n ∧ q i = a) := by
        rintro ⟨i, hi, e2⟩
        have := h i n (by omega) (by omega) (by rw [e, e2])
        omega
      have h2 : ∃ i, i < n + 1 ∧ q i = a := ⟨n, by omega, e⟩
      rw [if_neg (by rw [decide_eq_true_eq]; exact h1), if_pos (by rw [decide_eq_true_eq]; exact h2), e, up_s]
      omega
    · have h2 : (∃ i, i < n + 1 ∧ q i = a) ↔ (∃ i, i < n ∧ q i = a) := by
        constructor
        · rintro ⟨i, hi, e2⟩
          refine ⟨i, ?_, e2⟩
          rcases Nat.lt_succ_iff_lt_or_eq.mp hi with z | z
          · exact z
          · subst z; exact absurd e2 e
        · rintro ⟨i, hi, e2⟩; exact ⟨i, by omega, e2⟩
      rw [decide_eq_decide.mpr h2, up_n _ _ e]
      omega
theorem sp_cd_up {C : Nat → Nat} {LS : List (List Nat)} {l a m : Nat} (h : (LS.getD l []).Nodup) : sp_cdL (up C a (C a + m)) LS l = sp_cdL C LS l + (if sp_psL LS l a = true then m else 0) :=
  sp_sum_one _ (sp_inj h)
def sp_fast (tm cd : Nat → Nat) (ab be n : Nat) : Bool := decide (∀ q, q < n → 0 < cd q ∧ tm q * be ≤ ab * cd q)
theorem sp_fast_t {tm cd : Nat → Nat} {ab be n : Nat} (h : ∀ q, q < n → 0 < cd q ∧ tm q * be ≤ ab * cd q) : sp_fast tm cd ab be n = true := decide_eq_true h
theorem sp_fast_f {tm cd : Nat → Nat} {ab be n : Nat} (q : Nat) (hq : q < n) (h : ¬ (0 < cd q ∧ tm q * be ≤ ab * cd q)) : sp_fast tm cd ab be n = false := decide_eq_false (fun z => h (z q hq))
theorem sp_fast_cong {tm tm2 cd cd2 : Nat → Nat} {ab be n : Nat} (h1 : ∀ q, q < n → tm q = tm2 q) (h2 : ∀ q, q < n → cd q = cd2 q) : sp_fast tm cd ab be n = sp_fast tm2 cd2 ab be n :=
  decide_eq_decide.mpr ⟨fun h q hq => by rw [← h1 q hq, ← h2 q hq]; exact h q hq, fun h q hq => by rw [h1 q hq, h2 q hq]; exact h q hq⟩
theorem sp_ceil {x ab c : Nat} (hab : 1 ≤ ab) (hx : 1 ≤ x) : x ≤ ab * c ↔ (x + ab - 1) / ab ≤ c := by
  have h1 : (x + ab - 1) / ab < c + 1 ↔ x + ab - 1 < (c + 1) * ab := Nat.div_lt_iff_lt_mul (by omega)
  rw [Nat.add_mul, Nat.one_mul, Nat.mul_comm c ab] at h1
  constructor
  · intro h
    have := h1.mpr (by omega)
    omega
  · intro h
    have := h1.mp (by omega)
    omega
theorem sp_fast_i {T F C : Nat → Nat} {LS : List (List Nat)} {a m ab be : Nat} (hnd : ∀ l, l < LS.length → (LS.getD l []).Nodup) (htp : ∀ l, l < LS.length → 0 < sp_tmL T F LS l) (hab : 1 ≤ ab) (hbe : 1 ≤ be) :
    sp_fast (sp_tmL T F LS) (sp_cdL (up C a (C a + m)) LS) ab be LS.length = true ↔ ∀ l, l < LS.length → sp_nd (sp_tmL T F LS) (sp_cdL C LS) ab be l ≤ (if sp_psL LS l a = true then (m : Int) else 0) := by
  have key : ∀ l, l < LS.length → ((0 < sp_cdL (up C a (C a + m)) LS l ∧ sp_tmL T F LS l * be ≤ ab * sp_cdL (up C a (C a + m)) LS l) ↔ sp_nd (sp_tmL T F LS) (sp_cdL C LS) ab be l ≤ (if sp_psL LS l a = true then (m : Int) else 0)) := by
    intro l hl
    have hx : 1 ≤ sp_tmL T F LS l * be := Nat.mul_pos (htp l hl) hbe
    have hc := sp_ceil (c := sp_cdL (up C a (C a + m)) LS l) hab hx
    have e := sp_cd_up (C := C) (a := a) (m := m) (hnd l hl)
    unfold sp_nd
    constructor
    · rintro ⟨-, h2⟩
      have h3 := hc.mp h2
      rw [e] at h3
      split at h3 <;> rename_i hz
      · rw [if_pos hz]; omega
      · rw [if_neg hz]; omega
    · intro h
      have h2 : (sp_tmL T F LS l * be + ab - 1) / ab ≤ sp_cdL (up C a (C a + m)) LS l := by
        rw [e]
        split at h <;> rename_i hz
        · rw [if_pos hz]; omega
        · rw [if_neg hz]; omega
      have h3 := hc.mpr h2
      refine ⟨?_, h3⟩
      refine Nat.pos_of_ne_zero (fun z => ?_)
      rw [z, Nat.mul_zero] at h3
      omega
  constructor
  · intro h l hl
    exact (key l hl).mp (of_decide_eq_true h l hl)
  · intro h
    exact sp_fast_t (fun l hl => (key l hl).mpr (h l hl))
theorem sp_mx_ge {nd : Nat → Int} : ∀ n l, l < n → nd l ≤ sp_mx nd n
  | 0, l, h => absurd h (Nat.not_lt_zero _)
  | n + 1, l, h => by
    rw [sp_mx_s]
    rcases Nat.lt_succ_iff_lt_or_eq.mp h with z | z
    · have := sp_mx_ge (nd := nd) n l z; omega
    · subst z; omega
theorem sp_mx_pos {nd : Nat → Int} : ∀ n, 0 ≤ sp_mx nd n
  | 0 => Int.le_refl _
  | n + 1 => by have := sp_mx_pos (nd := nd) n; rw [sp_mx_s]; omega
theorem sp_mx_le {nd : Nat → Int} {M : Int} (hM : 0 ≤ M) : ∀ n, (∀ l, l < n → nd l ≤ M) → sp_mx nd n ≤ M
  | 0, _ => hM
  | n + 1, h => by
    have h1 := sp_mx_le hM n (fun l hl => h l (by omega))
    have h2 := h n (by omega)
    rw [sp_mx_s]; omega
/-- what the other way of counting finds is the same -/
theorem sp_rch_m {T F C : Nat → Nat} {LS : List (List Nat)} {a ab be : Nat} {fd : Int} {n : Nat} (hnd : ∀ l, l < LS.length → (LS.getD l []).Nodup) (htp : ∀ l, l < LS.length → 0 < sp_tmL T F LS l) (hab : 1 ≤ ab) (hbe : 1 ≤ be)
    (h : (fd = -9 ∧ 9 < C a + n ∧ ∀ m, m < n → sp_fast (sp_tmL T F LS) (sp_cdL (up C a (C a + m)) LS) ab be LS.length = false) ∨ (0 ≤ fd ∧ (C a : Int) + fd ≤ 9 ∧ sp_fast (sp_tmL T F LS) (sp_cdL (up C a (C a + fd.toNat)) LS) ab be LS.length = true ∧ ∀ m, m < fd.toNat → sp_fast (sp_tmL T F LS) (sp_cdL (up C a (C a + m)) LS) ab be LS.length = false)) : sp_rch T F C LS a ab be fd := by
  have hp := sp_mx_pos (nd := sp_nd (sp_tmL T F LS) (sp_cdL C LS) ab be) LS.length
  have hge := sp_mx_ge (nd := sp_nd (sp_tmL T F LS) (sp_cdL C LS) ab be) LS.length
  have good : (∀ q, q < LS.length → 0 < sp_nd (sp_tmL T F LS) (sp_cdL C LS) ab be q → sp_psL LS q a = true) → sp_fast (sp_tmL T F LS) (sp_cdL (up C a (C a + (sp_mx (sp_nd (sp_tmL T F LS) (sp_cdL C LS) ab be) LS.length).toNat)) LS) ab be LS.length = true := by
    intro hall
    rw [sp_fast_i hnd htp hab hbe]
    intro l hl
    have h1 := hge l hl
    by_cases hz : sp_psL LS l a = true
    · rw [if_pos hz]; omega
    · rw [if_neg hz]
      have h2 : ¬ 0 < sp_nd (sp_tmL T F LS) (sp_cdL C LS) ab be l := fun z => hz (hall l hl z)
      omega
  unfold sp_rch
  by_cases hall : ∀ q, q < LS.length → 0 < sp_nd (sp_tmL T F LS) (sp_cdL C LS) ab be q → sp_psL LS q a = true
  · rcases h with ⟨h1, h2, h3⟩ | ⟨h1, h2, h3, h4⟩
    · refine Or.inl ⟨h1, Or.inr ?_⟩
      refine Classical.byContradiction fun hc => ?_
      have h5 := h3 (sp_mx (sp_nd (sp_tmL T F LS) (sp_cdL C LS) ab be) LS.length).toNat (by omega)
      rw [good hall] at h5
      exact absurd h5 (by decide)
    · rw [sp_fast_i hnd htp hab hbe] at h3
      have h5 : sp_mx (sp_nd (sp_tmL T F LS) (sp_cdL C LS) ab be) LS.length ≤ fd := sp_mx_le h1 _ (fun l hl => by
        have := h3 l hl
        split at this <;> omega)
      have h6 : fd ≤ sp_mx (sp_nd (sp_tmL T F LS) (sp_cdL C LS) ab be) LS.length := by
        refine Classical.byContradiction fun hc => ?_
        have h7 := h4 (sp_mx (sp_nd (sp_tmL T F LS) (sp_cdL C LS) ab be) LS.length).toNat (by omega)
        rw [good hall] at h7
        exact absurd h7 (by decide)
      have h8 : fd = sp_mx (sp_nd (sp_tmL T F LS) (sp_cdL C LS) ab be) LS.length := Int.le_antisymm h6 h5
      exact Or.inr ⟨h8, hall, by rw [← h8]; exact h2⟩
  · have hex : ∃ q, q < LS.length ∧ 0 < sp_nd (sp_tmL T F LS) (sp_cdL C LS) ab be q ∧ sp_psL LS q a = false := Classical.byContradiction fun hn => hall (fun q hq hz => by
      cases hb : sp_psL LS q a with
      | true => rfl
      | false => exact absurd ⟨q, hq, hz, hb⟩ hn)
    rcases h with ⟨h1, h2, h3⟩ | ⟨h1, h2, h3, h4⟩
    · exact Or.inl ⟨h1, Or.inl hex⟩
    · exfalso
      rw [sp_fast_i hnd htp hab hbe] at h3
      obtain ⟨q, hq, hz, hb⟩ := hex
      have := h3 q hq
      rw [if_neg (by rw [hb]; decide)] at this
      omega
theorem sp_rch_u {T F C : Nat → Nat} {LS : List (List Nat)} {a ab be : Nat} {r1 r2 : Int} (h1 : sp_rch T F C LS a ab be r1) (h2 : sp_rch T F C LS a ab be r2) : r1 = r2 := by
  have x1 : ∀ {q : Nat}, q < LS.length → 0 < sp_nd (sp_tmL T F LS) (sp_cdL C LS) ab be q → sp_psL LS q a = false → (∀ q, q < LS.length → 0 < sp_nd (sp_tmL T F LS) (sp_cdL C LS) ab be q → sp_psL LS q a = true) → False := by
    intro q hq hz hb hall
    have := hall q hq hz
    rw [hb] at this
    exact absurd this (by decide)
  rcases h1 with ⟨a1, ⟨q, b1, b2, b3⟩ | b4⟩ | ⟨a1, a2, a3⟩ <;> rcases h2 with ⟨c1, ⟨q2, d1, d2, d3⟩ | d4⟩ | ⟨c1, c2, c3⟩ <;> first | (rw [a1, c1]; done) | (exfalso; exact x1 b1 b2 b3 c2) | (exfalso; exact x1 d1 d2 d3 a2) | (exfalso; omega)
