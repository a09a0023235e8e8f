/-! what the stations and arcs are, in numbers: N stations, K arcs, T times, F froms, G tos, C cards -/
def sp_rdy (K : Nat) (G C : Nat → Nat) (v : Nat) : Bool := decide (∀ a, a < K → G a = v → ¬ C a = 0)
theorem sp_rdy_t {K : Nat} {G C : Nat → Nat} {v : Nat} (h : ∀ a, a < K → G a = v → ¬ C a = 0) : sp_rdy K G C v = true := decide_eq_true h
theorem sp_rdy_f {K : Nat} {G C : Nat → Nat} {v : Nat} (a : Nat) (ha : a < K) (hg : G a = v) (hc : C a = 0) : sp_rdy K G C v = false := decide_eq_false (fun h => h a ha hg hc)
theorem sp_rdy_i {K : Nat} {G C : Nat → Nat} {v : Nat} (h : sp_rdy K G C v = true) : ∀ a, a < K → G a = v → ¬ C a = 0 := of_decide_eq_true h
def sp_room (K : Nat) (F G C : Nat → Nat) (v : Nat) : Bool := decide (∀ a, a < K → F a = v → ¬ G a = v → C a < 9)
theorem sp_room_t {K : Nat} {F G C : Nat → Nat} {v : Nat} (h : ∀ a, a < K → F a = v → ¬ G a = v → C a < 9) : sp_room K F G C v = true := decide_eq_true h
theorem sp_room_f {K : Nat} {F G C : Nat → Nat} {v : Nat} (a : Nat) (ha : a < K) (hf : F a = v) (hg : ¬ G a = v) (hc : ¬ C a < 9) : sp_room K F G C v = false := decide_eq_false (fun h => hc (h a ha hf hg))
theorem sp_room_i {K : Nat} {F G C : Nat → Nat} {v : Nat} (h : sp_room K F G C v = true) : ∀ a, a < K → F a = v → ¬ G a = v → C a < 9 := of_decide_eq_true h
def sp_mv (K : Nat) (F G C : Nat → Nat) (v : Nat) : Nat → Nat := fun a => if a < K then C a + (if F a = v then 1 else 0) - (if G a = v then 1 else 0) else C a
theorem sp_mv_0 (F G C : Nat → Nat) (v : Nat) : C = sp_mv 0 F G C v := by funext a; simp [sp_mv]
theorem sp_mv_at {j : Nat} {F G C : Nat → Nat} {v : Nat} : sp_mv j F G C v j = C j := by simp [sp_mv]
theorem sp_mv_c {j : Nat} {F G C C1 C2 : Nat → Nat} {v : Nat} (h : C1 = sp_mv j F G C v) (hd : ∀ a, ¬ a = j → C2 a = C1 a) (hj : C2 j = C j + (if F j = v then 1 else 0) - (if G j = v then 1 else 0)) : C2 = sp_mv (j + 1) F G C v := by
  funext a
  by_cases ha : a = j
  · subst ha; rw [hj]; simp [sp_mv]
  · rw [hd a ha, h]
    by_cases h2 : a < j
    · simp [sp_mv, h2, show a < j + 1 by omega]
    · simp [sp_mv, h2, show ¬ a < j + 1 by omega]
theorem sp_mv_le {K : Nat} {F G C : Nat → Nat} {v : Nat} (bC : ∀ a, C a ≤ 9) (hr : sp_rdy K G C v = true) (hm : sp_room K F G C v = true) : ∀ a, sp_mv K F G C v a ≤ 9 := by
  intro a
  have h1 := bC a
  unfold sp_mv
  by_cases ha : a < K
  · have h2 := sp_rdy_i hr a ha
    have h3 := sp_room_i hm a ha
    rw [if_pos ha]
    by_cases e1 : F a = v <;> by_cases e2 : G a = v <;> simp only [e1, e2, if_true, if_false] <;> first | omega | (have := h3 e1 e2; omega)
  · rw [if_neg ha]; exact h1
def sp_cnt (N K : Nat) (G C : Nat → Nat) : Nat := fb_ct (fun v => sp_rdy K G C v) N
theorem up_up {α : Type} (f : Nat → α) (k : Nat) (x y : α) : up (up f k x) k y = up f k y := by
  funext j; unfold up; by_cases h : j = k <;> simp [h]
