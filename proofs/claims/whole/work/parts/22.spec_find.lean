/-! the search that goes back by itself: where it stands, what is still to come -/
def sp_lf (K : Nat) (F G : Nat → Nat) (st f : Nat) (rp : List Nat) (nx : Nat) : List (List Nat) := ((List.range K).drop nx).flatMap (sp_br K F G st f rp)
def sp_tot (K : Nat) (F G : Nat → Nat) (st : Nat) : List Nat → Nat → List (List Nat)
  | [], nx => sp_lf K F G st 8 [] nx
  | a :: rp, nx => sp_lf K F G st (8 - (rp.length + 1)) (a :: rp) nx ++ sp_tot K F G st rp (a + 1)
def sp_rl (K : Nat) (F G : Nat → Nat) (st : Nat) : List Nat → List (List Nat)
  | [] => []
  | a :: rp => sp_tot K F G st rp (a + 1)
theorem sp_tot_e (K : Nat) (F G : Nat → Nat) (st : Nat) (rp : List Nat) (nx : Nat) : sp_tot K F G st rp nx = sp_lf K F G st (8 - rp.length) rp nx ++ sp_rl K F G st rp := by
  cases rp with
  | nil => show _ = sp_lf K F G st 8 [] nx ++ []; rw [List.append_nil]; rfl
  | cons a rp => rfl
theorem sp_lf_s {K nx : Nat} (h : nx < K) (F G : Nat → Nat) (st f : Nat) (rp : List Nat) : sp_lf K F G st f rp nx = sp_br K F G st f rp nx ++ sp_lf K F G st f rp (nx + 1) := by
  unfold sp_lf
  rw [List.drop_eq_getElem_cons (by rw [List.length_range]; exact h), List.flatMap_cons, List.getElem_range]
theorem sp_lf_K (K : Nat) (F G : Nat → Nat) (st f : Nat) (rp : List Nat) : sp_lf K F G st f rp K = [] := by
  unfold sp_lf
  rw [List.drop_eq_nil_of_le (by rw [List.length_range]; omega)]
  rfl
theorem sp_lf_0 (K : Nat) (F G : Nat → Nat) (st f : Nat) (rp : List Nat) : sp_lf K F G st f rp 0 = sp_lv K F G st f rp := rfl
theorem sp_tot_s {K nx : Nat} (h : nx < K) (F G : Nat → Nat) (st : Nat) (rp : List Nat) : sp_tot K F G st rp nx = sp_br K F G st (8 - rp.length) rp nx ++ sp_tot K F G st rp (nx + 1) := by
  rw [sp_tot_e, sp_tot_e, sp_lf_s h, List.append_assoc]
def sp_vp (K : Nat) (F G : Nat → Nat) (st : Nat) : List Nat → Prop
  | [] => True
  | a :: rp => a < K ∧ F a = sp_at G st rp ∧ st < G a ∧ G a < 8 ∧ ¬ G a ∈ rp.map G ∧ sp_vp K F G st rp
theorem sp_vp_nd {K : Nat} {F G : Nat → Nat} {st : Nat} : ∀ rp, sp_vp K F G st rp → (rp.map G).Nodup ∧ ∀ x, x ∈ rp.map G → st < x ∧ x < 8
  | [], _ => ⟨List.nodup_nil, fun x h => absurd h List.not_mem_nil⟩
  | a :: rp, h => by
    obtain ⟨h1, h2⟩ := sp_vp_nd rp h.2.2.2.2.2
    refine ⟨List.nodup_cons.mpr ⟨h.2.2.2.2.1, h1⟩, fun x hx => ?_⟩
    rcases List.mem_cons.mp hx with q | q
    · rw [q]; exact ⟨h.2.2.1, h.2.2.2.1⟩
    · exact h2 x q
theorem sp_vp_len {K : Nat} {F G : Nat → Nat} {st : Nat} {rp : List Nat} (h : sp_vp K F G st rp) (hs : st < 8) : rp.length ≤ 7 := by
  obtain ⟨h1, h2⟩ := sp_vp_nd rp h
  have h3 : (st :: rp.map G).Nodup := List.nodup_cons.mpr ⟨fun q => absurd (h2 st q).1 (Nat.lt_irrefl _), h1⟩
  have h4 := nd_len h3 (n := 8) (fun x hx => by
    rcases List.mem_cons.mp hx with q | q
    · rw [q]; exact hs
    · exact (h2 x q).2)
  rw [List.length_cons, List.length_map] at h4
  omega
theorem sp_vp_src {K : Nat} {F G : Nat → Nat} {st y : Nat} : ∀ rp, sp_vp K F G st rp → (((∀ x, x ∈ rp → ¬ y = F x) ∧ ¬ y = sp_at G st rp) ↔ (¬ y = st ∧ ¬ y ∈ rp.map G))
  | [], _ => by
    constructor
    · intro h; exact ⟨h.2, List.not_mem_nil⟩
    · intro h; exact ⟨fun x hx => absurd hx List.not_mem_nil, h.1⟩
  | a :: rp, h => by
    have ih := sp_vp_src (y := y) rp h.2.2.2.2.2
    constructor
    · rintro ⟨h1, h2⟩
      have h3 := ih.mp ⟨fun x hx => h1 x (List.mem_cons_of_mem _ hx), by rw [← h.2.1]; exact h1 a List.mem_cons_self⟩
      refine ⟨h3.1, fun hm => ?_⟩
      rcases List.mem_cons.mp hm with q | q
      · exact h2 q
      · exact h3.2 q
    · rintro ⟨h1, h2⟩
      have h3 := ih.mpr ⟨h1, fun q => h2 (List.mem_cons_of_mem _ q)⟩
      refine ⟨fun x hx => ?_, fun q => h2 (by rw [q]; exact List.mem_cons_self)⟩
      rcases List.mem_cons.mp hx with q | q
      · rw [q, h.2.1]; exact h3.2
      · exact h3.1 x q
/-- what the search asks of an arc -/
def sp_mg (F G PT : Nat → Nat) (a n av st : Nat) : Prop := F a = av ∧ st ≤ G a ∧ ¬ (G a = av ∧ ¬ av = st) ∧ ∀ q, q < n → ¬ G a = F (PT q) ∨ G a = st
theorem sp_pth_mem {rp : List Nat} {PT : Nat → Nat} (h : sp_pth rp PT) {x : Nat} (hx : x ∈ rp) : ∃ i, i < rp.length ∧ PT i = x := by
  have hx2 : x ∈ rp.reverse := List.mem_reverse.mpr hx
  obtain ⟨i, hi, e⟩ := List.getElem_of_mem hx2
  rw [List.length_reverse] at hi
  refine ⟨i, hi, ?_⟩
  rw [h i hi, List.getD_eq_getElem?_getD, List.getElem?_eq_getElem (by rw [List.length_reverse]; exact hi)]
  exact e
theorem sp_pth_in {rp : List Nat} {PT : Nat → Nat} (h : sp_pth rp PT) {i : Nat} (hi : i < rp.length) : PT i ∈ rp := by
  rw [h i hi, List.getD_eq_getElem?_getD, List.getElem?_eq_getElem (by rw [List.length_reverse]; exact hi)]
  exact List.mem_reverse.mp (List.getElem_mem _)
theorem sp_mg_i {K : Nat} {F G PT : Nat → Nat} {a st : Nat} {rp : List Nat} (hv : sp_vp K F G st rp) (hp : sp_pth rp PT) : sp_mg F G PT a rp.length (sp_at G st rp) st ↔ (F a = sp_at G st rp ∧ (G a = st ∨ (st < G a ∧ ¬ G a ∈ rp.map G))) := by
  have hs := sp_vp_src (y := G a) rp hv
  constructor
  · rintro ⟨h1, h2, h3, h4⟩
    refine ⟨h1, ?_⟩
    by_cases q : G a = st
    · exact Or.inl q
    · right
      refine ⟨by omega, ?_⟩
      have h5 : ¬ G a = sp_at G st rp := fun e => h3 ⟨e, fun e2 => q (by rw [e, e2])⟩
      have h6 : ∀ x, x ∈ rp → ¬ G a = F x := fun x hx e => by
        obtain ⟨i, hi, e2⟩ := sp_pth_mem hp hx
        rcases h4 i hi with z | z
        · rw [e2] at z; exact z e
        · exact q z
      exact (hs.mp ⟨h6, h5⟩).2
  · rintro ⟨h1, h2⟩
    rcases h2 with h2 | ⟨h2, h3⟩
    · exact ⟨h1, by omega, fun z => z.2 (by rw [← z.1, h2]), fun q _ => Or.inr h2⟩
    · obtain ⟨h4, h5⟩ := hs.mpr ⟨by omega, h3⟩
      exact ⟨h1, by omega, fun z => h5 z.1, fun q hq => Or.inl (h4 _ (sp_pth_in hp hq))⟩
theorem sp_br_no {K : Nat} {F G PT : Nat → Nat} {a st f : Nat} {rp : List Nat} (hv : sp_vp K F G st rp) (hp : sp_pth rp PT) (h : ¬ sp_mg F G PT a rp.length (sp_at G st rp) st) : sp_br K F G st f rp a = [] := by
  rw [sp_mg_i hv hp] at h
  cases f with
  | zero => rfl
  | succ f =>
    rw [sp_br_s]
    by_cases h1 : F a = sp_at G st rp
    · rw [if_neg (not_not_intro h1), if_neg (fun e => h ⟨h1, Or.inl e⟩), if_neg (fun e => h ⟨h1, Or.inr e⟩)]
    · rw [if_pos h1]
theorem sp_br_keep {K : Nat} {F G PT : Nat → Nat} {a st : Nat} {rp : List Nat} (hv : sp_vp K F G st rp) (hp : sp_pth rp PT) (hs : st < 8) (h : sp_mg F G PT a rp.length (sp_at G st rp) st) (hg : G a = st) : sp_br K F G st (8 - rp.length) rp a = [(a :: rp).reverse] := by
  have hl := sp_vp_len hv hs
  have h1 := ((sp_mg_i hv hp).mp h).1
  rw [show 8 - rp.length = (7 - rp.length) + 1 by omega, sp_br_s, if_neg (not_not_intro h1), if_pos hg]
theorem sp_br_push {K : Nat} {F G PT : Nat → Nat} {a st : Nat} {rp : List Nat} (hv : sp_vp K F G st rp) (hp : sp_pth rp PT) (hs : st < 8) (ha : a < K) (hG : G a < 8) (h : sp_mg F G PT a rp.length (sp_at G st rp) st) (hg : ¬ G a = st) : sp_tot K F G st rp a = sp_tot K F G st (a :: rp) 0 ∧ sp_vp K F G st (a :: rp) := by
  have hl := sp_vp_len hv hs
  obtain ⟨h1, h2⟩ := (sp_mg_i hv hp).mp h
  have h3 := h2.resolve_left hg
  refine ⟨?_, ha, h1, h3.1, hG, h3.2, hv⟩
  rw [sp_tot_s ha, show 8 - rp.length = (7 - rp.length) + 1 by omega, sp_br_s, if_neg (not_not_intro h1), if_neg hg, if_pos h3]
  show _ = sp_lf K F G st (8 - (rp.length + 1)) (a :: rp) 0 ++ sp_tot K F G st rp (a + 1)
  rw [sp_lf_0, show 8 - (rp.length + 1) = 7 - rp.length by omega]
  rfl
/-! how many steps are left -/
def sp_co (K : Nat) (F G : Nat → Nat) (st : Nat) : Nat → List Nat → Nat → Nat
  | 0, _, _ => 1
  | f + 1, rp, a => if F a = sp_at G st rp ∧ ¬ G a = st ∧ st < G a ∧ ¬ G a ∈ rp.map G then 2 + fb_sm (sp_co K F G st f (a :: rp)) K else 1
theorem sp_co_pos (K : Nat) (F G : Nat → Nat) (st f : Nat) (rp : List Nat) (a : Nat) : 1 ≤ sp_co K F G st f rp a := by
  cases f with
  | zero => exact Nat.le_refl _
  | succ f => unfold sp_co; split <;> omega
def sp_ms (K : Nat) (F G : Nat → Nat) (st : Nat) : List Nat → Nat → Nat
  | [], nx => fb_sm (sp_co K F G st 8 []) K - fb_sm (sp_co K F G st 8 []) nx
  | a :: rp, nx => fb_sm (sp_co K F G st (8 - (rp.length + 1)) (a :: rp)) K - fb_sm (sp_co K F G st (8 - (rp.length + 1)) (a :: rp)) nx + (1 + sp_ms K F G st rp (a + 1))
def sp_mr (K : Nat) (F G : Nat → Nat) (st : Nat) : List Nat → Nat
  | [] => 0
  | a :: rp => 1 + sp_ms K F G st rp (a + 1)
theorem sp_ms_e (K : Nat) (F G : Nat → Nat) (st : Nat) (rp : List Nat) (nx : Nat) : sp_ms K F G st rp nx = fb_sm (sp_co K F G st (8 - rp.length) rp) K - fb_sm (sp_co K F G st (8 - rp.length) rp) nx + sp_mr K F G st rp := by
  cases rp with
  | nil => rfl
  | cons a rp => rfl
theorem sp_ms_s {K nx : Nat} (h : nx < K) (F G : Nat → Nat) (st : Nat) (rp : List Nat) : sp_ms K F G st rp nx = sp_ms K F G st rp (nx + 1) + sp_co K F G st (8 - rp.length) rp nx := by
  rw [sp_ms_e, sp_ms_e]
  have h1 := fb_sm_part (sp_co K F G st (8 - rp.length) rp) h
  have h2 := fb_sm_succ (sp_co K F G st (8 - rp.length) rp) nx
  omega
theorem sp_ms_next {K nx : Nat} (h : nx < K) (F G : Nat → Nat) (st : Nat) (rp : List Nat) : sp_ms K F G st rp (nx + 1) < sp_ms K F G st rp nx := by
  have := sp_ms_s h F G st rp
  have := sp_co_pos K F G st (8 - rp.length) rp nx
  omega
theorem sp_ms_push {K : Nat} {F G PT : Nat → Nat} {a st : Nat} {rp : List Nat} (hv : sp_vp K F G st rp) (hp : sp_pth rp PT) (hs : st < 8) (ha : a < K) (h : sp_mg F G PT a rp.length (sp_at G st rp) st) (hg : ¬ G a = st) : sp_ms K F G st (a :: rp) 0 < sp_ms K F G st rp a := by
  have hl := sp_vp_len hv hs
  obtain ⟨h1, h2⟩ := (sp_mg_i hv hp).mp h
  have h3 := h2.resolve_left hg
  have e := sp_ms_s ha F G st rp
  have e2 : sp_co K F G st (8 - rp.length) rp a = 2 + fb_sm (sp_co K F G st (8 - (rp.length + 1)) (a :: rp)) K := by
    rw [show 8 - rp.length = (8 - (rp.length + 1)) + 1 by omega]
    exact if_pos ⟨h1, hg, h3.1, h3.2⟩
  have e3 : sp_ms K F G st (a :: rp) 0 = fb_sm (sp_co K F G st (8 - (rp.length + 1)) (a :: rp)) K - 0 + (1 + sp_ms K F G st rp (a + 1)) := rfl
  omega
theorem sp_pop {K : Nat} {F G PT : Nat → Nat} {st : Nat} {rp : List Nat} (hv : sp_vp K F G st rp) (hp : sp_pth rp PT) (h : 0 < rp.length) : ∃ a rp0, rp = a :: rp0 ∧ PT (rp.length - 1) = a ∧ a < K ∧ rp.tail = rp0 ∧ sp_vp K F G st rp0 ∧ sp_pth rp0 PT ∧ sp_tot K F G st rp K = sp_tot K F G st rp0 (a + 1) ∧ sp_ms K F G st rp0 (a + 1) < sp_ms K F G st rp K := by
  cases rp with
  | nil => exact absurd h (Nat.lt_irrefl _)
  | cons a rp0 =>
    refine ⟨a, rp0, rfl, ?_, hv.1, rfl, hv.2.2.2.2.2, fun i hi => ?_, ?_, ?_⟩
    · rw [hp _ (by rw [List.length_cons]; omega), List.reverse_cons]
      simp [List.getD_eq_getElem?_getD]
    · rw [hp i (by rw [List.length_cons]; omega), List.reverse_cons, List.getD_eq_getElem?_getD, List.getD_eq_getElem?_getD, List.getElem?_append_left (by rw [List.length_reverse]; exact hi)]
    · show sp_lf K F G st (8 - (rp0.length + 1)) (a :: rp0) K ++ sp_tot K F G st rp0 (a + 1) = _
      rw [sp_lf_K]; rfl
    · show _ < fb_sm _ K - fb_sm _ K + (1 + sp_ms K F G st rp0 (a + 1))
      omega
theorem sp_at_pth {G PT : Nat → Nat} {st : Nat} {rp : List Nat} (hp : sp_pth rp PT) (h : 0 < rp.length) : G (PT (rp.length - 1)) = sp_at G st rp := by
  cases rp with
  | nil => exact absurd h (Nat.lt_irrefl _)
  | cons a rp0 =>
    rw [hp _ (by rw [List.length_cons]; omega), List.reverse_cons]
    simp [List.getD_eq_getElem?_getD, sp_at]
/-! the slowest, the other way -/
theorem sp_sl_dead {tm cd : Nat → Nat} {l : Nat} (h : sp_sl tm cd (l + 1) = ((l : Int), tm l, 0)) : ∀ n, sp_sl tm cd (l + 1 + n) = ((l : Int), tm l, 0)
  | 0 => h
  | n + 1 => by
    have ih := sp_sl_dead h n
    show sp_sl tm cd (l + 1 + n + 1) = _
    rw [sp_sl_n (by rw [ih]; exact Nat.le_trans (Nat.le_of_eq (Nat.mul_zero _)) (Nat.zero_le _)), ih]
theorem sp_sl_dead2 {tm cd : Nat → Nat} {l n : Nat} (hd : cd l = 0) (ht : 0 < tm l) (hc : 0 < (sp_sl tm cd l).2.2) (hn : l < n) : (sp_sl tm cd n).1 = (l : Int) := by
  have h1 : sp_sl tm cd (l + 1) = ((l : Int), tm l, 0) := by
    rw [sp_sl_y (by rw [hd, Nat.mul_zero]; exact Nat.mul_pos ht hc), hd]
  have h2 := sp_sl_dead h1 (n - (l + 1))
  rw [show l + 1 + (n - (l + 1)) = n by omega] at h2
  rw [h2]
