/-! when works begin. o: the stations that can work at all, the last one found first -/
theorem nd_ct {n : Nat} : ∀ l : List Nat, l.Nodup → (∀ x, x ∈ l → x < n) → fb_ct (fun x => decide (x ∈ l)) n = l.length
  | [], _, _ => by
    rw [fb_ct_zero.mpr (fun k _ => by simp)]
    rfl
  | j :: l, h, hb => by
    obtain ⟨h1, h2⟩ := List.nodup_cons.mp h
    have ih := nd_ct l h2 (fun x hx => hb x (List.mem_cons_of_mem _ hx))
    have hj : j < n := hb j List.mem_cons_self
    have e : fb_ct (fun k => if k = j then true else decide (k ∈ l)) n + (if decide (j ∈ l) = true then 1 else 0) = fb_ct (fun x => decide (x ∈ l)) n + (if true = true then 1 else 0) := fb_ct_upd (fun x => decide (x ∈ l)) true hj
    have e2 : fb_ct (fun x => decide (x ∈ j :: l)) n = fb_ct (fun k => if k = j then true else decide (k ∈ l)) n := fb_ct_cong (fun k _ => by by_cases q : k = j <;> simp [q])
    rw [e2, List.length_cons]
    rw [decide_eq_false h1, ih, if_neg (by decide), if_pos rfl] at e
    omega
theorem nd_len {n : Nat} {l : List Nat} (h : l.Nodup) (hb : ∀ x, x ∈ l → x < n) : l.length ≤ n := by
  rw [← nd_ct l h hb]; exact fb_ct_le _ _
theorem nd_all {n : Nat} {l : List Nat} (h : l.Nodup) (hb : ∀ x, x ∈ l → x < n) (hl : n ≤ l.length) : ∀ x, x < n → x ∈ l := by
  have e := nd_ct l h hb
  have e2 : fb_ct (fun x => decide (x ∈ l)) n = n := by have := nd_len h hb; omega
  intro x hx
  exact of_decide_eq_true (fb_ct_all.mp e2 x hx)
def sp_wait (K : Nat) (F G C : Nat → Nat) (o : List Nat) (v : Nat) : Bool := decide (∃ a, a < K ∧ G a = v ∧ C a = 0 ∧ ¬ F a ∈ o)
theorem sp_wait_t {K : Nat} {F G C : Nat → Nat} {o : List Nat} {v : Nat} (a : Nat) (h : a < K) (h1 : G a = v) (h2 : C a = 0) (h3 : ¬ F a ∈ o) : sp_wait K F G C o v = true := decide_eq_true ⟨a, h, h1, h2, h3⟩
theorem sp_wait_f {K : Nat} {F G C : Nat → Nat} {o : List Nat} {v : Nat} (h : ∀ a, a < K → G a = v → C a = 0 → F a ∈ o) : sp_wait K F G C o v = false := decide_eq_false (fun ⟨a, h0, h1, h2, h3⟩ => h3 (h a h0 h1 h2))
theorem sp_wait_fi {K : Nat} {F G C : Nat → Nat} {o : List Nat} {v : Nat} (h : sp_wait K F G C o v = false) : ∀ a, a < K → G a = v → C a = 0 → F a ∈ o := fun a h0 h1 h2 => Classical.byContradiction (fun h3 => of_decide_eq_false h ⟨a, h0, h1, h2, h3⟩)
theorem sp_wait_ti {K : Nat} {F G C : Nat → Nat} {o : List Nat} {v : Nat} (h : sp_wait K F G C o v = true) : ∃ a, a < K ∧ G a = v ∧ C a = 0 ∧ ¬ F a ∈ o := of_decide_eq_true h
def sp_o1 (K : Nat) (F G C : Nat → Nat) (o : List Nat) : Nat → List Nat
  | 0 => o
  | j + 1 => if ¬ j ∈ sp_o1 K F G C o j ∧ sp_wait K F G C (sp_o1 K F G C o j) j = false then j :: sp_o1 K F G C o j else sp_o1 K F G C o j
theorem sp_o1_y {K : Nat} {F G C : Nat → Nat} {o : List Nat} {j : Nat} (h1 : ¬ j ∈ sp_o1 K F G C o j) (h2 : sp_wait K F G C (sp_o1 K F G C o j) j = false) : sp_o1 K F G C o (j + 1) = j :: sp_o1 K F G C o j := if_pos ⟨h1, h2⟩
theorem sp_o1_m {K : Nat} {F G C : Nat → Nat} {o : List Nat} {j : Nat} (h1 : j ∈ sp_o1 K F G C o j) : sp_o1 K F G C o (j + 1) = sp_o1 K F G C o j := if_neg (fun h => h.1 h1)
theorem sp_o1_w {K : Nat} {F G C : Nat → Nat} {o : List Nat} {j : Nat} (h1 : sp_wait K F G C (sp_o1 K F G C o j) j = true) : sp_o1 K F G C o (j + 1) = sp_o1 K F G C o j := if_neg (fun h => by rw [h1] at h; exact absurd h.2 (by decide))
def sp_o2 (N K : Nat) (F G C : Nat → Nat) : Nat → List Nat
  | 0 => []
  | q + 1 => sp_o1 K F G C (sp_o2 N K F G C q) N
def sp_so (N K : Nat) (F G C : Nat → Nat) : List Nat := sp_o2 N K F G C N
def sp_good (N K : Nat) (F G C : Nat → Nat) : List Nat → Prop
  | [] => True
  | j :: o => j < N ∧ ¬ j ∈ o ∧ (∀ a, a < K → G a = j → C a = 0 → F a ∈ o) ∧ sp_good N K F G C o
theorem sp_o1_good {N K : Nat} {F G C : Nat → Nat} {o : List Nat} (h : sp_good N K F G C o) : ∀ j, j ≤ N → sp_good N K F G C (sp_o1 K F G C o j)
  | 0, _ => h
  | j + 1, hj => by
    have ih := sp_o1_good h j (by omega)
    by_cases h1 : j ∈ sp_o1 K F G C o j
    · rw [sp_o1_m h1]; exact ih
    · cases h2 : sp_wait K F G C (sp_o1 K F G C o j) j with
      | true => rw [sp_o1_w h2]; exact ih
      | false => rw [sp_o1_y h1 h2]; exact ⟨by omega, h1, sp_wait_fi h2, ih⟩
theorem sp_o2_good (N K : Nat) (F G C : Nat → Nat) : ∀ q, sp_good N K F G C (sp_o2 N K F G C q)
  | 0 => trivial
  | q + 1 => sp_o1_good (sp_o2_good N K F G C q) N (Nat.le_refl _)
theorem sp_so_good (N K : Nat) (F G C : Nat → Nat) : sp_good N K F G C (sp_so N K F G C) := sp_o2_good N K F G C N
theorem sp_good_nd {N K : Nat} {F G C : Nat → Nat} : ∀ o, sp_good N K F G C o → o.Nodup
  | [], _ => List.nodup_nil
  | j :: o, h => List.nodup_cons.mpr ⟨h.2.1, sp_good_nd o h.2.2.2⟩
theorem sp_good_lt {N K : Nat} {F G C : Nat → Nat} : ∀ o, sp_good N K F G C o → ∀ x, x ∈ o → x < N
  | [], _, x, hx => absurd hx List.not_mem_nil
  | j :: o, h, x, hx => by
    rcases List.mem_cons.mp hx with q | q
    · rw [q]; exact h.1
    · exact sp_good_lt o h.2.2.2 x q
theorem sp_o1_len {K : Nat} {F G C : Nat → Nat} {o : List Nat} : ∀ j, o.length ≤ (sp_o1 K F G C o j).length
  | 0 => Nat.le_refl _
  | j + 1 => by
    have ih := sp_o1_len (K := K) (F := F) (G := G) (C := C) (o := o) j
    unfold sp_o1
    split
    · rw [List.length_cons]; omega
    · exact ih
theorem sp_o1_same {K : Nat} {F G C : Nat → Nat} {o : List Nat} : ∀ j, (sp_o1 K F G C o j).length ≤ o.length → sp_o1 K F G C o j = o ∧ ∀ i, i < j → i ∈ o ∨ sp_wait K F G C o i = true
  | 0, _ => ⟨rfl, fun i h => absurd h (Nat.not_lt_zero _)⟩
  | j + 1, h => by
    have hl := sp_o1_len (K := K) (F := F) (G := G) (C := C) (o := o) j
    by_cases h1 : j ∈ sp_o1 K F G C o j
    · rw [sp_o1_m h1] at h ⊢
      obtain ⟨e, hh⟩ := sp_o1_same j h
      rw [e] at h1
      exact ⟨e, lt_s hh (Or.inl h1)⟩
    · cases h2 : sp_wait K F G C (sp_o1 K F G C o j) j with
      | true =>
        rw [sp_o1_w h2] at h ⊢
        obtain ⟨e, hh⟩ := sp_o1_same j h
        rw [e] at h2
        exact ⟨e, lt_s hh (Or.inr h2)⟩
      | false =>
        rw [sp_o1_y h1 h2, List.length_cons] at h
        omega
theorem sp_o1_stay {K : Nat} {F G C : Nat → Nat} {o : List Nat} {n : Nat} (h : ∀ i, i < n → i ∈ o ∨ sp_wait K F G C o i = true) : ∀ j, j ≤ n → sp_o1 K F G C o j = o
  | 0, _ => rfl
  | j + 1, hj => by
    have ih := sp_o1_stay h j (by omega)
    rcases h j (by omega) with q | q
    · rw [sp_o1_m (by rw [ih]; exact q)]; exact ih
    · rw [sp_o1_w (by rw [ih]; exact q)]; exact ih
theorem sp_o2_fix (N K : Nat) (F G C : Nat → Nat) : ∀ q, q ≤ (sp_o2 N K F G C q).length ∨ ∀ i, i < N → i ∈ sp_o2 N K F G C q ∨ sp_wait K F G C (sp_o2 N K F G C q) i = true
  | 0 => Or.inl (Nat.zero_le _)
  | q + 1 => by
    have step : (∀ i, i < N → i ∈ sp_o2 N K F G C q ∨ sp_wait K F G C (sp_o2 N K F G C q) i = true) → ∀ i, i < N → i ∈ sp_o2 N K F G C (q + 1) ∨ sp_wait K F G C (sp_o2 N K F G C (q + 1)) i = true := by
      intro h
      have e : sp_o2 N K F G C (q + 1) = sp_o2 N K F G C q := sp_o1_stay h N (Nat.le_refl _)
      rw [e]; exact h
    rcases sp_o2_fix N K F G C q with h | h
    · by_cases hl : (sp_o2 N K F G C (q + 1)).length ≤ (sp_o2 N K F G C q).length
      · exact Or.inr (step (sp_o1_same N hl).2)
      · exact Or.inl (by omega)
    · exact Or.inr (step h)
theorem sp_so_fix (N K : Nat) (F G C : Nat → Nat) : ∀ i, i < N → ¬ i ∈ sp_so N K F G C → ∃ a, a < K ∧ G a = i ∧ C a = 0 ∧ ¬ F a ∈ sp_so N K F G C := by
  intro i hi hn
  have hg := sp_so_good N K F G C
  rcases sp_o2_fix N K F G C N with h | h
  · exact absurd (nd_all (sp_good_nd _ hg) (sp_good_lt _ hg) h i hi) hn
  · rcases h i hi with q | q
    · exact absurd q hn
    · exact sp_wait_ti q
/-! the arcs in their order -/
def sp_to (K : Nat) (G : Nat → Nat) (j : Nat) : List Nat := (List.range K).filter (fun a => decide (G a = j))
def sp_ao (K : Nat) (G : Nat → Nat) : List Nat → List Nat
  | [] => []
  | j :: o => sp_ao K G o ++ sp_to K G j
theorem sp_to_m {K : Nat} {G : Nat → Nat} {j a : Nat} : a ∈ sp_to K G j ↔ a < K ∧ G a = j := by simp [sp_to]
theorem sp_to_f (K : Nat) (G : Nat → Nat) (j : Nat) : (sp_to K G j).filter (fun a => decide (G a = j)) = sp_to K G j := by
  unfold sp_to; rw [List.filter_filter]; simp
theorem sp_to_fn {K : Nat} {G : Nat → Nat} {j u : Nat} (h : ¬ j = u) : (sp_to K G j).filter (fun a => decide (G a = u)) = [] := by
  rw [List.filter_eq_nil_iff]
  intro a ha
  have := (sp_to_m.mp ha).2
  rw [decide_eq_true_eq]; omega
theorem sp_ao_fn {K : Nat} {G : Nat → Nat} {u : Nat} : ∀ o, ¬ u ∈ o → (sp_ao K G o).filter (fun a => decide (G a = u)) = []
  | [], _ => rfl
  | j :: o, h => by
    show (sp_ao K G o ++ sp_to K G j).filter _ = []
    rw [List.filter_append, sp_ao_fn o (fun q => h (List.mem_cons_of_mem _ q)), sp_to_fn (fun e => h (by rw [e]; exact List.mem_cons_self))]
    rfl
theorem sp_ao_f {N K : Nat} {F G C : Nat → Nat} {u : Nat} : ∀ o, sp_good N K F G C o → u ∈ o → (sp_ao K G o).filter (fun a => decide (G a = u)) = sp_to K G u
  | [], _, h => absurd h List.not_mem_nil
  | j :: o, hg, h => by
    show (sp_ao K G o ++ sp_to K G j).filter _ = sp_to K G u
    rw [List.filter_append]
    by_cases q : j = u
    · subst q
      rw [sp_ao_fn o hg.2.1, sp_to_f]; rfl
    · have h2 : u ∈ o := by
        rcases List.mem_cons.mp h with e | e
        · exact absurd e.symm q
        · exact e
      rw [sp_ao_f o hg.2.2.2 h2, sp_to_fn q, List.append_nil]
theorem sp_ao_key {N K : Nat} {F G C : Nat → Nat} : ∀ o, sp_good N K F G C o → ∀ i, i < (sp_ao K G o).length → (sp_ao K G o).getD i 0 < K ∧ G ((sp_ao K G o).getD i 0) ∈ o ∧ (C ((sp_ao K G o).getD i 0) = 0 → F ((sp_ao K G o).getD i 0) ∈ o ∧ ((sp_ao K G o).take i).filter (fun a => decide (G a = F ((sp_ao K G o).getD i 0))) = sp_to K G (F ((sp_ao K G o).getD i 0)))
  | [], _, i, h => absurd h (Nat.not_lt_zero _)
  | j :: o, hg, i, h => by
    have e0 : sp_ao K G (j :: o) = sp_ao K G o ++ sp_to K G j := rfl
    rw [e0] at h ⊢
    by_cases hi : i < (sp_ao K G o).length
    · have e1 : (sp_ao K G o ++ sp_to K G j).getD i 0 = (sp_ao K G o).getD i 0 := by
        rw [List.getD_eq_getElem?_getD, List.getD_eq_getElem?_getD, List.getElem?_append_left hi]
      have e2 : (sp_ao K G o ++ sp_to K G j).take i = (sp_ao K G o).take i := List.take_append_of_le_length (by omega)
      rw [e1, e2]
      obtain ⟨h1, h2, h3⟩ := sp_ao_key o hg.2.2.2 i hi
      exact ⟨h1, List.mem_cons_of_mem _ h2, fun hc => ⟨List.mem_cons_of_mem _ (h3 hc).1, (h3 hc).2⟩⟩
    · have hi2 : i - (sp_ao K G o).length < (sp_to K G j).length := by rw [List.length_append] at h; omega
      have e1 : (sp_ao K G o ++ sp_to K G j).getD i 0 = (sp_to K G j)[i - (sp_ao K G o).length] := by
        rw [List.getD_eq_getElem?_getD, List.getElem?_append_right (by omega), List.getElem?_eq_getElem hi2]; rfl
      have hm := sp_to_m.mp (List.getElem_mem hi2)
      rw [← e1] at hm
      refine ⟨hm.1, by rw [hm.2]; exact List.mem_cons_self, fun hc => ?_⟩
      have hf := hg.2.2.1 _ hm.1 hm.2 hc
      refine ⟨List.mem_cons_of_mem _ hf, ?_⟩
      have hne : ¬ j = F ((sp_ao K G o ++ sp_to K G j).getD i 0) := fun e => hg.2.1 (by rw [e]; exact hf)
      rw [List.take_append, List.filter_append, List.take_of_length_le (by omega), sp_ao_f o hg.2.2.2 hf]
      have e3 : ((sp_to K G j).take (i - (sp_ao K G o).length)).filter (fun a => decide (G a = F ((sp_ao K G o ++ sp_to K G j).getD i 0))) = [] := by
        rw [List.filter_eq_nil_iff]
        intro a ha
        have := (sp_to_m.mp (List.mem_of_mem_take ha)).2
        rw [decide_eq_true_eq]; omega
      rw [e3, List.append_nil]
theorem sp_ao_len {K : Nat} {G : Nat → Nat} : ∀ o : List Nat, o.Nodup → (sp_ao K G o).length ≤ K := by
  have h1 : ∀ (o : List Nat) (a : Nat), a ∈ sp_ao K G o → G a ∈ o ∧ a < K := by
    intro o
    induction o with
    | nil => intro a h; exact absurd h List.not_mem_nil
    | cons j o ih =>
      intro a h
      rcases List.mem_append.mp h with q | q
      · exact ⟨List.mem_cons_of_mem _ (ih a q).1, (ih a q).2⟩
      · have := sp_to_m.mp q; exact ⟨by rw [this.2]; exact List.mem_cons_self, this.1⟩
  have h2 : ∀ o : List Nat, o.Nodup → (sp_ao K G o).Nodup := by
    intro o
    induction o with
    | nil => intro _; exact List.nodup_nil
    | cons j o ih =>
      intro h
      obtain ⟨g1, g2⟩ := List.nodup_cons.mp h
      refine List.nodup_append.mpr ⟨ih g2, List.Pairwise.filter _ List.nodup_range, fun a ha b hb e => ?_⟩
      subst e
      have := (h1 o a ha).1
      rw [(sp_to_m.mp hb).2] at this
      exact g1 this
  intro o h
  exact nd_len (h2 o h) (fun a ha => (h1 o a ha).2)
/-! the values -/
def sp_lt2 (a b : Int) : Int := if a = -9 ∨ b = -9 then -9 else max a b
def sp_dn (b : Int) (t : Nat) : Int := if b = -9 then -9 else b + t
def sp_ac (T F G C : Nat → Nat) (w v : Nat) (val : Nat → Nat → Int) (c : Int) (a : Nat) : Int := if G a = v ∧ C a ≤ w then sp_lt2 c (sp_dn (val (w - C a) (F a)) (T (F a))) else c
def sp_Vf (K : Nat) (T F G C : Nat → Nat) (o : List Nat) : Nat → Nat → Nat → Int
  | 0, _, _ => -9
  | f + 1, w, v => if v ∈ o then (List.range K).foldl (sp_ac T F G C w v (sp_Vf K T F G C o f)) 0 else -9
theorem fold_cong {α β : Type} {f g : α → β → α} : ∀ (l : List β), (∀ a, a ∈ l → ∀ c, f c a = g c a) → ∀ c, l.foldl f c = l.foldl g c
  | [], _, _ => rfl
  | b :: l, h, c => by
    show l.foldl f (f c b) = l.foldl g (g c b)
    rw [h b List.mem_cons_self c]
    exact fold_cong l (fun a ha => h a (List.mem_cons_of_mem _ ha)) _
theorem sp_ac_cong {T F G C : Nat → Nat} {w v : Nat} {v1 v2 : Nat → Nat → Int} {a : Nat} (h : G a = v → C a ≤ w → v1 (w - C a) (F a) = v2 (w - C a) (F a)) (c : Int) : sp_ac T F G C w v v1 c a = sp_ac T F G C w v v2 c a := by
  unfold sp_ac
  by_cases q : G a = v ∧ C a ≤ w
  · rw [if_pos q, if_pos q, h q.1 q.2]
  · rw [if_neg q, if_neg q]
theorem sp_ac_f {T F G C : Nat → Nat} {w v : Nat} {val : Nat → Nat → Int} : ∀ (l : List Nat) (c : Int), (l.filter (fun a => decide (G a = v))).foldl (sp_ac T F G C w v val) c = l.foldl (sp_ac T F G C w v val) c
  | [], _ => rfl
  | a :: l, c => by
    by_cases q : G a = v
    · rw [List.filter_cons_of_pos (by simp [q])]
      exact sp_ac_f l _
    · rw [List.filter_cons_of_neg (by simp [q]), sp_ac_f l c]
      show _ = l.foldl _ (sp_ac T F G C w v val c a)
      rw [show sp_ac T F G C w v val c a = c from if_neg (fun h => q h.1)]
def sp_rk : List Nat → Nat → Nat
  | [], _ => 0
  | j :: o, v => if v = j then o.length else sp_rk o v
theorem sp_rk_lt : ∀ (o : List Nat) (v : Nat), v ∈ o → sp_rk o v < o.length
  | [], v, h => absurd h List.not_mem_nil
  | j :: o, v, h => by
    unfold sp_rk
    by_cases q : v = j
    · rw [if_pos q, List.length_cons]; omega
    · rw [if_neg q, List.length_cons]
      have := sp_rk_lt o v ((List.mem_cons.mp h).resolve_left q)
      omega
theorem sp_rk_dep {N K : Nat} {F G C : Nat → Nat} : ∀ o, sp_good N K F G C o → ∀ v, v ∈ o → ∀ a, a < K → G a = v → C a = 0 → F a ∈ o ∧ sp_rk o (F a) < sp_rk o v
  | [], _, v, h => absurd h List.not_mem_nil
  | j :: o, hg, v, h => by
    intro a ha h1 h2
    by_cases q : v = j
    · subst q
      have hf := hg.2.2.1 a ha h1 h2
      refine ⟨List.mem_cons_of_mem _ hf, ?_⟩
      have hne : ¬ F a = v := fun e => hg.2.1 (e ▸ hf)
      unfold sp_rk
      rw [if_pos rfl, if_neg hne]
      exact sp_rk_lt o _ hf
    · obtain ⟨g1, g2⟩ := sp_rk_dep o hg.2.2.2 v ((List.mem_cons.mp h).resolve_left q) a ha h1 h2
      refine ⟨List.mem_cons_of_mem _ g1, ?_⟩
      have hne : ¬ F a = j := fun e => hg.2.1 (e ▸ g1)
      unfold sp_rk
      rw [if_neg q, if_neg hne]
      exact g2
theorem sp_Vf_out {K : Nat} {T F G C : Nat → Nat} {o : List Nat} {w v : Nat} (h : ¬ v ∈ o) : ∀ f, sp_Vf K T F G C o f w v = -9
  | 0 => rfl
  | f + 1 => if_neg h
theorem sp_Vf_same {N K : Nat} {T F G C : Nat → Nat} {o : List Nat} (hg : sp_good N K F G C o) (hl : o.length ≤ 9) : ∀ (f1 f2 w v : Nat), v ∈ o → w * 9 + sp_rk o v < f1 → w * 9 + sp_rk o v < f2 → sp_Vf K T F G C o f1 w v = sp_Vf K T F G C o f2 w v
  | 0, _, _, _, _, h, _ => absurd h (Nat.not_lt_zero _)
  | _ + 1, 0, _, _, _, _, h => absurd h (Nat.not_lt_zero _)
  | f1 + 1, f2 + 1, w, v, hm, h1, h2 => by
    unfold sp_Vf
    rw [if_pos hm, if_pos hm]
    refine fold_cong _ (fun a ha c => sp_ac_cong (fun e1 e2 => ?_) c) _
    have hK := List.mem_range.mp ha
    by_cases hf : F a ∈ o
    · have hr := sp_rk_lt o _ hf
      by_cases hc : C a = 0
      · have hd := (sp_rk_dep o hg v hm a hK e1 hc).2
        rw [hc]
        exact sp_Vf_same hg hl f1 f2 (w - 0) (F a) hf (by omega) (by omega)
      · exact sp_Vf_same hg hl f1 f2 (w - C a) (F a) hf (by omega) (by omega)
    · rw [sp_Vf_out hf, sp_Vf_out hf]
def sp_V (N K : Nat) (T F G C : Nat → Nat) (w v : Nat) : Int := sp_Vf K T F G C (sp_so N K F G C) (w * 9 + 9) w v
theorem sp_so_len {N K : Nat} {F G C : Nat → Nat} : (sp_so N K F G C).length ≤ N := nd_len (sp_good_nd _ (sp_so_good N K F G C)) (sp_good_lt _ (sp_so_good N K F G C))
theorem sp_V_out {N K : Nat} {T F G C : Nat → Nat} {w v : Nat} (h : ¬ v ∈ sp_so N K F G C) : sp_V N K T F G C w v = -9 := sp_Vf_out h _
theorem sp_V_in {N K : Nat} {T F G C : Nat → Nat} {w v : Nat} (hN : N ≤ 8) (h : v ∈ sp_so N K F G C) : sp_V N K T F G C w v = (List.range K).foldl (sp_ac T F G C w v (sp_V N K T F G C)) 0 := by
  have hg := sp_so_good N K F G C
  have hl : (sp_so N K F G C).length ≤ N := sp_so_len
  have e : sp_V N K T F G C w v = (List.range K).foldl (sp_ac T F G C w v (sp_Vf K T F G C (sp_so N K F G C) (w * 9 + 8))) 0 := if_pos h
  rw [e]
  refine fold_cong _ (fun a ha c => sp_ac_cong (fun e1 e2 => ?_) c) _
  have hK := List.mem_range.mp ha
  show _ = sp_Vf K T F G C (sp_so N K F G C) ((w - C a) * 9 + 9) (w - C a) (F a)
  by_cases hf : F a ∈ sp_so N K F G C
  · have hr := sp_rk_lt _ _ hf
    have hr2 := sp_rk_lt _ _ h
    by_cases hc : C a = 0
    · have hd := (sp_rk_dep _ hg v h a hK e1 hc).2
      exact sp_Vf_same hg (by omega) _ _ _ _ hf (by omega) (by omega)
    · exact sp_Vf_same hg (by omega) _ _ _ _ hf (by omega) (by omega)
  · rw [sp_Vf_out hf, sp_Vf_out hf]
theorem sp_lt2_le {a b M : Int} (ha : a = -9 ∨ (0 ≤ a ∧ a ≤ M)) (hb : b = -9 ∨ (0 ≤ b ∧ b ≤ M)) : sp_lt2 a b = -9 ∨ (0 ≤ sp_lt2 a b ∧ sp_lt2 a b ≤ M) := by
  unfold sp_lt2
  split <;> omega
theorem sp_ac_le {T F G C : Nat → Nat} {w v : Nat} {val : Nat → Nat → Int} {M : Int} (hT : ∀ i, T i ≤ 20) (hM : 0 ≤ M) (hv : ∀ x y, x ≤ w → val x y = -9 ∨ (0 ≤ val x y ∧ val x y ≤ M)) : ∀ (l : List Nat) (c : Int), (c = -9 ∨ (0 ≤ c ∧ c ≤ M + 20)) → l.foldl (sp_ac T F G C w v val) c = -9 ∨ (0 ≤ l.foldl (sp_ac T F G C w v val) c ∧ l.foldl (sp_ac T F G C w v val) c ≤ M + 20)
  | [], c, hc => hc
  | a :: l, c, hc => by
    refine sp_ac_le hT hM hv l _ ?_
    unfold sp_ac
    split
    · refine sp_lt2_le hc ?_
      have h1 := hv (w - C a) (F a) (Nat.sub_le _ _)
      have h2 := hT (F a)
      unfold sp_dn
      split <;> omega
    · exact hc
theorem sp_Vf_le {K : Nat} {T F G C : Nat → Nat} {o : List Nat} (hT : ∀ i, T i ≤ 20) : ∀ (f w v : Nat), sp_Vf K T F G C o f w v = -9 ∨ (0 ≤ sp_Vf K T F G C o f w v ∧ sp_Vf K T F G C o f w v ≤ 20 * (f : Int))
  | 0, _, _ => Or.inl rfl
  | f + 1, w, v => by
    unfold sp_Vf
    split
    · have := sp_ac_le (w := w) (v := v) (F := F) (G := G) (C := C) (val := sp_Vf K T F G C o f) hT (M := 20 * (f : Int)) (by omega) (fun x y _ => sp_Vf_le hT f x y) (List.range K) 0 (Or.inr ⟨by omega, by omega⟩)
      omega
    · exact Or.inl rfl
theorem sp_V_le {N K : Nat} {T F G C : Nat → Nat} (hT : ∀ i, T i ≤ 20) (w v : Nat) (hw : w ≤ 60) : sp_V N K T F G C w v = -9 ∨ (0 ≤ sp_V N K T F G C w v ∧ sp_V N K T F G C w v ≤ 10980) := by
  have := sp_Vf_le (K := K) (F := F) (G := G) (C := C) (o := sp_so N K F G C) hT (w * 9 + 9) w v
  unfold sp_V
  omega
/-- bits of a list of stations -/
def sp_bs (o : List Nat) (ps : Nat) : Prop := ps < 256 ∧ ∀ x, x < 8 → ((ps / 2 ^ x) &&& 1 = 0 ↔ ¬ x ∈ o)
theorem sp_bs_0 : sp_bs [] 0 := ⟨by omega, fun x _ => by simp⟩
theorem sp_bs_push {o : List Nat} {ps j : Nat} (h : sp_bs o ps) (ha : j < 8) : sp_bs (j :: o) (ps ||| (1 * 2 ^ j)) := by
  obtain ⟨h1, h2⟩ := h
  have hp : 1 * 2 ^ j < 2 ^ 8 := by rw [Nat.one_mul]; exact Nat.pow_lt_pow_right (by omega) ha
  refine ⟨Nat.or_lt_two_pow (n := 8) (by omega) hp, fun x hx => ?_⟩
  have h3 := h2 x hx
  rw [sp_bit_i] at h3 ⊢
  rw [Nat.one_mul, fb_bit_set, List.mem_cons]
  by_cases q : x = j
  · simp [q]
  · simp [q, h3]
theorem and1_le (x : Nat) : x &&& 1 ≤ 1 := Nat.and_le_right
theorem pow2_le {j : Nat} (h : j < 8) : 2 ^ j ≤ 128 := Nat.le_trans (Nat.pow_le_pow_right (by omega) (show j ≤ 7 by omega)) (by decide)
theorem sp_to_0 (G : Nat → Nat) (v : Nat) : sp_to 0 G v = [] := rfl
theorem sp_to_y {G : Nat → Nat} {v j : Nat} (h : G j = v) : sp_to (j + 1) G v = sp_to j G v ++ [j] := by
  unfold sp_to
  rw [List.range_succ, List.filter_append]
  simp [h]
theorem sp_to_n {G : Nat → Nat} {v j : Nat} (h : ¬ G j = v) : sp_to (j + 1) G v = sp_to j G v := by
  unfold sp_to
  rw [List.range_succ, List.filter_append]
  simp [h]
theorem sp_to_le {j K : Nat} (h : j ≤ K) (G : Nat → Nat) (v : Nat) : (sp_to j G v).length ≤ (sp_to K G v).length := by
  have e : ∀ n, (sp_to j G v).length ≤ (sp_to (j + n) G v).length := by
    intro n
    induction n with
    | zero => exact Nat.le_refl _
    | succ n ih =>
      show _ ≤ (sp_to (j + n + 1) G v).length
      by_cases q : G (j + n) = v
      · rw [sp_to_y q, List.length_append]; omega
      · rw [sp_to_n q]; exact ih
  have := e (K - j)
  rw [show j + (K - j) = K by omega] at this
  exact this
/-- what has been gathered over all arcs to a station is its value -/
theorem sp_full {N K : Nat} {T F G C : Nat → Nat} {w u : Nat} {l : List Nat} (hN : N ≤ 8) (hu : u ∈ sp_so N K F G C) (h : l.filter (fun a => decide (G a = u)) = sp_to K G u) : l.foldl (sp_ac T F G C w u (sp_V N K T F G C)) 0 = sp_V N K T F G C w u := by
  rw [← sp_ac_f, h, sp_V_in hN hu]
  exact sp_ac_f (List.range K) 0
theorem sp_tk {l : List Nat} {i : Nat} (h : i < l.length) (f : Int → Nat → Int) (c : Int) : (l.take (i + 1)).foldl f c = f ((l.take i).foldl f c) (l.getD i 0) := by
  rw [List.take_add_one, List.foldl_append, List.getD_eq_getElem?_getD, List.getElem?_eq_getElem h]
  rfl
theorem sp_ac_id {T F G C : Nat → Nat} {w v : Nat} {val : Nat → Nat → Int} {c : Int} {a : Nat} (h : ¬ (G a = v ∧ C a ≤ w)) : sp_ac T F G C w v val c a = c := if_neg h
theorem sp_ac_at {T F G C : Nat → Nat} {w v : Nat} {val : Nat → Nat → Int} {c : Int} {a : Nat} (h : G a = v ∧ C a ≤ w) : sp_ac T F G C w v val c a = sp_lt2 c (sp_dn (val (w - C a) (F a)) (T (F a))) := if_pos h
