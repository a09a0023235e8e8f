set_option maxHeartbeats 4000000 in
set_option maxRecDepth 100000 in
theorem c_X6_cardsOf (l : Launch) (dC : Nat → ClassId) (dI : Nat → Nat → Nat) (cI cJ : ClassId) (sz : Nat) (m0 : Nat) (x1 : Nat) (x2 : Nat) (x3 : Nat) (x4 : Nat) (x5 : Nat) (x6 : Nat) (x7 : Nat) (x8 : Nat) (x9 : Nat) (y1 : Nat) (y2 : Nat) (y3 : Nat) (y4 : Nat) (y5 : Nat) (y6 : Nat) (y7 : Nat) (N : Nat) (K : Nat) (lo : Nat) (ns : Nat) (nd : Nat) (rm : Nat) (pls : Nat) (C : Nat → Nat) (LA : Nat → Nat) (LL : Nat → Nat) (q : Nat) (bq : q < 2000) (bLA : ∀ i, LA i < 16) (bLL : ∀ i, LL i ≤ 8) (bC : ∀ a, C a ≤ 9) : Met l yX6_cardsOf wsX6_cardsOf (zR 0 0 0 0) (va_Pc [.ref m0, .int (nI q)] (zP (dC, dI) [(cI, .int), (cJ, .long)] [(m0, .inr (6, [.int (nI N), .ref x1, .int (nI K), .ref x2, .ref x3, .ref x4, .int (nI lo), .ref x5, .ref x6, .ref x7, .ref x8, .int (nI ns), .int (nI nd), .ref x9, .ref y1, .ref y2, .int (nI rm), .ref y3, .ref y4, .ref y5, .ref y6, .ref y7, .int (nI pls)])), (x4, .inl (cI, 16, .inl (fun z_ => nI (C z_)))), (x5, .inl (cI, 16000, .inl (fun z_ => nI (LA z_)))), (x6, .inl (cI, 2000, .inl (fun z_ => nI (LL z_))))] sz nwA)) (va_Qi (fun (r : Int32) (u : (Nat)) => r = (nI u) ∧ (u = sp_cd C LA LL q) ∧ (u ≤ 72)) (zB (dC, dI) (fun (u : (Nat)) => [(m0, .inr (6, [.int (nI N), .ref x1, .int (nI K), .ref x2, .ref x3, .ref x4, .int (nI lo), .ref x5, .ref x6, .ref x7, .ref x8, .int (nI ns), .int (nI nd), .ref x9, .ref y1, .ref y2, .int (nI rm), .ref y3, .ref y4, .ref y5, .ref y6, .ref y7, .int (nI pls)])), (x4, .inl (cI, 16, .inl (fun z_ => nI (C z_)))), (x5, .inl (cI, 16000, .inl (fun z_ => nI (LA z_)))), (x6, .inl (cI, 2000, .inl (fun z_ => nI (LL z_))))]) (va_A [(m0, .inr (6, [.int (nI N), .ref x1, .int (nI K), .ref x2, .ref x3, .ref x4, .int (nI lo), .ref x5, .ref x6, .ref x7, .ref x8, .int (nI ns), .int (nI nd), .ref x9, .ref y1, .ref y2, .int (nI rm), .ref y3, .ref y4, .ref y5, .ref y6, .ref y7, .int (nI pls)])), (x4, .inl (cI, 16, .inl (fun z_ => nI (C z_)))), (x5, .inl (cI, 16000, .inl (fun z_ => nI (LA z_)))), (x6, .inl (cI, 2000, .inl (fun z_ => nI (LL z_))))] sz)) (va_A [(m0, .inr (6, [.int (nI N), .ref x1, .int (nI K), .ref x2, .ref x3, .ref x4, .int (nI lo), .ref x5, .ref x6, .ref x7, .ref x8, .int (nI ns), .int (nI nd), .ref x9, .ref y1, .ref y2, .int (nI rm), .ref y3, .ref y4, .ref y5, .ref y6, .ref y7, .int (nI pls)])), (x4, .inl (cI, 16, .inl (fun z_ => nI (C z_)))), (x5, .inl (cI, 16000, .inl (fun z_ => nI (LA z_)))), (x6, .inl (cI, 2000, .inl (fun z_ => nI (LL z_))))] sz)) 0 0 (va_A [(m0, .inr (6, [.int (nI N), .ref x1, .int (nI K), .ref x2, .ref x3, .ref x4, .int (nI lo), .ref x5, .ref x6, .ref x7, .ref x8, .int (nI ns), .int (nI nd), .ref x9, .ref y1, .ref y2, .int (nI rm), .ref y3, .ref y4, .ref y5, .ref y6, .ref y7, .int (nI pls)])), (x4, .inl (cI, 16, .inl (fun z_ => nI (C z_)))), (x5, .inl (cI, 16000, .inl (fun z_ => nI (LA z_)))), (x6, .inl (cI, 2000, .inl (fun z_ => nI (LL z_))))] sz) := by
  refine z_met_i (cc := cX6_cardsOf) (maxL := 4) (by decide) rfl (Nat.le_of_ble_eq_true rfl) ?_
  intro p e s m args below meth c Q A ls hx hb hml hown hts hin hA hK hP hD hN hl hRET
  have hown : s.vm.findClass RX6 = some m.cls := hown
  obtain ⟨H, eH⟩ : ∃ H : Heap, H = s.heap := ⟨_, rfl⟩
  rw [← eH] at hP
  obtain ⟨locs, eL⟩ : ∃ z : List Loc, z = [] := ⟨_, rfl⟩
  rw [← eH, ← eL]
  have hS : va_S A s.heap H locs := by rw [eH, eL]; exact va_S.rf
  have hl : lv_has ls 4 [(0, .ref m0), (1, .int (nI q))] := hl
  have w25 := hts (.fieldLink RX6 25 "PullCardsModel" "loopLong" "[I") (by decide +kernel)
  have uX6 : ∀ w ∈ wsX60, w ∈ wsX6_cardsOf := by decide +kernel
  have w19 := hts (.fieldLink RX6 19 "PullCardsModel" "cards" "[I") (by decide +kernel)
  have w22 := hts (.fieldLink RX6 22 "PullCardsModel" "loopArc" "[I") (by decide +kernel)
  refine lv_iconst (v := nI 0) hx hb dX6_cardsOf_0 (by decide) ?_
  refine lv_istore_n (lv' := [(2, .int (nI 0)), (0, .ref m0), (1, .int (nI q))]) hx hb dX6_cardsOf_1 rfl hl (by decide) rfl (fun ls hl => ?_)
  refine lv_iconst (v := nI 0) hx hb dX6_cardsOf_2 (by decide) ?_
  refine lv_istore_n (lv' := [(3, .int (nI 0)), (2, .int (nI 0)), (0, .ref m0), (1, .int (nI q))]) hx hb dX6_cardsOf_3 rfl hl (by decide) rfl (fun ls hl => ?_)
  have L4 : ∀ (n4 : Nat) (j : Nat) (g : Nat), (LL q - j) < n4 → (j ≤ LL q) → (g = fb_sm (fun i => C (LA (q * 8 + i))) j) → (g ≤ j * 9) → ∀ (H : Heap) (locs : List Loc), va_P (dC, dI) vwCl [(m0, .inr (6, [.int (nI N), .ref x1, .int (nI K), .ref x2, .ref x3, .ref x4, .int (nI lo), .ref x5, .ref x6, .ref x7, .ref x8, .int (nI ns), .int (nI nd), .ref x9, .ref y1, .ref y2, .int (nI rm), .ref y3, .ref y4, .ref y5, .ref y6, .ref y7, .int (nI pls)])), (x4, .inl (cI, 16, .inl (fun z_ => nI (C z_)))), (x5, .inl (cI, 16000, .inl (fun z_ => nI (LA z_)))), (x6, .inl (cI, 2000, .inl (fun z_ => nI (LL z_))))] H → va_D A [(m0, .inr (6, [.int (nI N), .ref x1, .int (nI K), .ref x2, .ref x3, .ref x4, .int (nI lo), .ref x5, .ref x6, .ref x7, .ref x8, .int (nI ns), .int (nI nd), .ref x9, .ref y1, .ref y2, .int (nI rm), .ref y3, .ref y4, .ref y5, .ref y6, .ref y7, .int (nI pls)])), (x4, .inl (cI, 16, .inl (fun z_ => nI (C z_)))), (x5, .inl (cI, 16000, .inl (fun z_ => nI (LA z_)))), (x6, .inl (cI, 2000, .inl (fun z_ => nI (LL z_))))] → va_S A s.heap H locs → ∀ (ls : Array Slot), lv_has ls 4 [(0, .ref m0), (1, .int (nI q)), (2, .int (nI g)), (3, .int (nI j))] → W p l e (zR 0 0 0 0) s m args below meth c H locs 0 0 Q (F0 m 4 ls []) := by
    intro n4
    induction n4 with
    | zero => intro j g hn; exact absurd hn (Nat.not_lt_zero _)
    | succ n4 ih =>
      intro j g hn i1 i2 i3 H locs hP hD hS ls hl
      have ih4 := ih
      have hn4 := hn
      clear ih hn
      have bb := bLL q
      refine lv_iload_n hx hb dX6_cardsOf_4 rfl (lv_at hl 3 rfl) ?_
      refine lv_aload_n hx hb dX6_cardsOf_5 rfl (lv_at hl 0 rfl) ?_
      refine z_get (D := (dC, dI)) (ci := 6) (v := .ref x6) (C := RX6) (T := TX6) (N := 23) hx hb hts uX6 hown hK hP 0 rfl rfl 8 (by decide) w25 rfl rfl dX6_cardsOf_6 ?_
      refine lv_iload_n hx hb dX6_cardsOf_9 rfl (lv_at hl 1 rfl) ?_
      refine z_iald (v := (nI (LL q))) hx hb hK hP 3 0 rfl rfl q rfl (by omega) rfl dX6_cardsOf_10 ?_
      have f10_0 := bLL q
      refine z_icmp_ge (tgt := 39) hx hb dX6_cardsOf_11 (by decide) (zcn_le (a := LL q) (b := j) rfl rfl (by omega)) (fun c_11 => ?_) (fun c_11 => ?_)
      · skip
        refine lv_iload_n hx hb dX6_cardsOf_39 rfl (lv_at hl 2 rfl) ?_
        have q_0 : g = sp_cd C LA LL q := by rw [i2, show j = LL q from by omega]; rfl
        have q_1 : g ≤ 72 := by first | assumption | omega
        exact hRET _ ls H locs ((nI g)) (g) dX6_cardsOf_40 ⟨rfl, q_0, q_1⟩ hP hD hS
      · skip
        refine lv_iload_n hx hb dX6_cardsOf_14 rfl (lv_at hl 2 rfl) ?_
        refine lv_aload_n hx hb dX6_cardsOf_15 rfl (lv_at hl 0 rfl) ?_
        refine z_get (D := (dC, dI)) (ci := 6) (v := .ref x4) (C := RX6) (T := TX6) (N := 23) hx hb hts uX6 hown hK hP 0 rfl rfl 5 (by decide) w19 rfl rfl dX6_cardsOf_16 ?_
        refine lv_aload_n hx hb dX6_cardsOf_19 rfl (lv_at hl 0 rfl) ?_
        refine z_get (D := (dC, dI)) (ci := 6) (v := .ref x5) (C := RX6) (T := TX6) (N := 23) hx hb hts uX6 hown hK hP 0 rfl rfl 7 (by decide) w22 rfl rfl dX6_cardsOf_20 ?_
        refine lv_bipush (v := nI 8) hx hb dX6_cardsOf_23 (by decide) ?_
        refine lv_iload_n hx hb dX6_cardsOf_25 rfl (lv_at hl 1 rfl) ?_
        refine z_imul (v := (nI (8 * q))) hx hb dX6_cardsOf_26 (pk_mul _ _) ?_
        refine lv_iload_n hx hb dX6_cardsOf_27 rfl (lv_at hl 3 rfl) ?_
        refine z_iadd (v := (nI ((8 * q) + j))) hx hb dX6_cardsOf_28 (nI_add _ _) ?_
        refine z_iald (v := (nI (LA ((8 * q) + j)))) hx hb hK hP 2 0 rfl rfl ((8 * q) + j) rfl (by omega) rfl dX6_cardsOf_29 ?_
        have f29_0 := bLA ((8 * q) + j)
        refine z_iald (v := (nI (C (LA ((8 * q) + j))))) hx hb hK hP 1 0 rfl rfl (LA ((8 * q) + j)) rfl (by omega) rfl dX6_cardsOf_30 ?_
        have f30_0 := bC (LA ((8 * q) + j))
        refine z_iadd (v := (nI (g + (C (LA ((8 * q) + j)))))) hx hb dX6_cardsOf_31 (nI_add _ _) ?_
        refine lv_istore_n (lv' := [(2, .int (nI (g + (C (LA ((8 * q) + j)))))), (0, .ref m0), (1, .int (nI q)), (3, .int (nI j))]) hx hb dX6_cardsOf_32 rfl hl (by decide) rfl (fun ls hl => ?_)
        refine lv_iinc (v := (nI (j + 1))) (lv' := [(3, .int (nI (j + 1))), (2, .int (nI (g + (C (LA ((8 * q) + j)))))), (0, .ref m0), (1, .int (nI q))]) hx hb dX6_cardsOf_33 hl (k := 3) rfl (z_incN j 1 (by decide)) (by decide) rfl (fun ls hl => ?_)
        refine lv_goto (tgt := 4) hx hb dX6_cardsOf_36 (by decide) ?_
        have o_i1 : (j + 1) ≤ LL q := by first | assumption | omega
        have o_i2 : (g + (C (LA ((8 * q) + j)))) = fb_sm (fun i => C (LA (q * 8 + i))) (j + 1) := by rw [fb_sm_succ, ← i2, Nat.mul_comm 8]
        have o_i3 : (g + (C (LA ((8 * q) + j)))) ≤ (j + 1) * 9 := by first | assumption | omega
        have o_mu : (LL q - (j + 1)) < n4 := by omega
        exact ih4 (j + 1) (g + (C (LA ((8 * q) + j)))) o_mu o_i1 o_i2 o_i3 H locs hP hD hS ls (lv_sub hl [2, 3, 1, 0] rfl)
  have o_i1 : 0 ≤ LL q := by first | assumption | omega
  have o_i2 : 0 = fb_sm (fun i => C (LA (q * 8 + i))) 0 := by rfl
  have o_i3 : 0 ≤ 0 * 9 := by first | assumption | omega
  exact L4 ((LL q - 0) + 1) 0 0 (Nat.lt_succ_self _) o_i1 o_i2 o_i3 H locs hP hD hS ls (lv_sub hl [2, 3, 1, 0] rfl)

set_option maxHeartbeats 4000000 in
set_option maxRecDepth 100000 in
theorem c_X6_timeOf (l : Launch) (dC : Nat → ClassId) (dI : Nat → Nat → Nat) (cI cJ : ClassId) (sz : Nat) (m0 : Nat) (x1 : Nat) (x2 : Nat) (x3 : Nat) (x4 : Nat) (x5 : Nat) (x6 : Nat) (x7 : Nat) (x8 : Nat) (x9 : Nat) (y1 : Nat) (y2 : Nat) (y3 : Nat) (y4 : Nat) (y5 : Nat) (y6 : Nat) (y7 : Nat) (N : Nat) (K : Nat) (lo : Nat) (ns : Nat) (nd : Nat) (rm : Nat) (pls : Nat) (T : Nat → Nat) (F : Nat → Nat) (LA : Nat → Nat) (LL : Nat → Nat) (q : Nat) (bq : q < 2000) (bLA : ∀ i, LA i < 16) (bLL : ∀ i, LL i ≤ 8) (bF : ∀ a, F a < 8) (bT : ∀ i, T i ≤ 20) : Met l yX6_timeOf wsX6_timeOf (zR 0 0 0 0) (va_Pc [.ref m0, .int (nI q)] (zP (dC, dI) [(cI, .int), (cJ, .long)] [(m0, .inr (6, [.int (nI N), .ref x1, .int (nI K), .ref x2, .ref x3, .ref x4, .int (nI lo), .ref x5, .ref x6, .ref x7, .ref x8, .int (nI ns), .int (nI nd), .ref x9, .ref y1, .ref y2, .int (nI rm), .ref y3, .ref y4, .ref y5, .ref y6, .ref y7, .int (nI pls)])), (x1, .inl (cI, 8, .inl (fun z_ => nI (T z_)))), (x2, .inl (cI, 16, .inl (fun z_ => nI (F z_)))), (x5, .inl (cI, 16000, .inl (fun z_ => nI (LA z_)))), (x6, .inl (cI, 2000, .inl (fun z_ => nI (LL z_))))] sz nwA)) (va_Qi (fun (r : Int32) (u : (Nat)) => r = (nI u) ∧ (u = sp_tm T F LA LL q) ∧ (u ≤ 160)) (zB (dC, dI) (fun (u : (Nat)) => [(m0, .inr (6, [.int (nI N), .ref x1, .int (nI K), .ref x2, .ref x3, .ref x4, .int (nI lo), .ref x5, .ref x6, .ref x7, .ref x8, .int (nI ns), .int (nI nd), .ref x9, .ref y1, .ref y2, .int (nI rm), .ref y3, .ref y4, .ref y5, .ref y6, .ref y7, .int (nI pls)])), (x1, .inl (cI, 8, .inl (fun z_ => nI (T z_)))), (x2, .inl (cI, 16, .inl (fun z_ => nI (F z_)))), (x5, .inl (cI, 16000, .inl (fun z_ => nI (LA z_)))), (x6, .inl (cI, 2000, .inl (fun z_ => nI (LL z_))))]) (va_A [(m0, .inr (6, [.int (nI N), .ref x1, .int (nI K), .ref x2, .ref x3, .ref x4, .int (nI lo), .ref x5, .ref x6, .ref x7, .ref x8, .int (nI ns), .int (nI nd), .ref x9, .ref y1, .ref y2, .int (nI rm), .ref y3, .ref y4, .ref y5, .ref y6, .ref y7, .int (nI pls)])), (x1, .inl (cI, 8, .inl (fun z_ => nI (T z_)))), (x2, .inl (cI, 16, .inl (fun z_ => nI (F z_)))), (x5, .inl (cI, 16000, .inl (fun z_ => nI (LA z_)))), (x6, .inl (cI, 2000, .inl (fun z_ => nI (LL z_))))] sz)) (va_A [(m0, .inr (6, [.int (nI N), .ref x1, .int (nI K), .ref x2, .ref x3, .ref x4, .int (nI lo), .ref x5, .ref x6, .ref x7, .ref x8, .int (nI ns), .int (nI nd), .ref x9, .ref y1, .ref y2, .int (nI rm), .ref y3, .ref y4, .ref y5, .ref y6, .ref y7, .int (nI pls)])), (x1, .inl (cI, 8, .inl (fun z_ => nI (T z_)))), (x2, .inl (cI, 16, .inl (fun z_ => nI (F z_)))), (x5, .inl (cI, 16000, .inl (fun z_ => nI (LA z_)))), (x6, .inl (cI, 2000, .inl (fun z_ => nI (LL z_))))] sz)) 0 0 (va_A [(m0, .inr (6, [.int (nI N), .ref x1, .int (nI K), .ref x2, .ref x3, .ref x4, .int (nI lo), .ref x5, .ref x6, .ref x7, .ref x8, .int (nI ns), .int (nI nd), .ref x9, .ref y1, .ref y2, .int (nI rm), .ref y3, .ref y4, .ref y5, .ref y6, .ref y7, .int (nI pls)])), (x1, .inl (cI, 8, .inl (fun z_ => nI (T z_)))), (x2, .inl (cI, 16, .inl (fun z_ => nI (F z_)))), (x5, .inl (cI, 16000, .inl (fun z_ => nI (LA z_)))), (x6, .inl (cI, 2000, .inl (fun z_ => nI (LL z_))))] sz) := by
  refine z_met_i (cc := cX6_timeOf) (maxL := 4) (by decide) rfl (Nat.le_of_ble_eq_true rfl) ?_
  intro p e s m args below meth c Q A ls hx hb hml hown hts hin hA hK hP hD hN hl hRET
  have hown : s.vm.findClass RX6 = some m.cls := hown
  obtain ⟨H, eH⟩ : ∃ H : Heap, H = s.heap := ⟨_, rfl⟩
  rw [← eH] at hP
  obtain ⟨locs, eL⟩ : ∃ z : List Loc, z = [] := ⟨_, rfl⟩
  rw [← eH, ← eL]
  have hS : va_S A s.heap H locs := by rw [eH, eL]; exact va_S.rf
  have hl : lv_has ls 4 [(0, .ref m0), (1, .int (nI q))] := hl
  have w25 := hts (.fieldLink RX6 25 "PullCardsModel" "loopLong" "[I") (by decide +kernel)
  have uX6 : ∀ w ∈ wsX60, w ∈ wsX6_timeOf := by decide +kernel
  have w7 := hts (.fieldLink RX6 7 "PullCardsModel" "time" "[I") (by decide +kernel)
  have w13 := hts (.fieldLink RX6 13 "PullCardsModel" "from" "[I") (by decide +kernel)
  have w22 := hts (.fieldLink RX6 22 "PullCardsModel" "loopArc" "[I") (by decide +kernel)
  refine lv_iconst (v := nI 0) hx hb dX6_timeOf_0 (by decide) ?_
  refine lv_istore_n (lv' := [(2, .int (nI 0)), (0, .ref m0), (1, .int (nI q))]) hx hb dX6_timeOf_1 rfl hl (by decide) rfl (fun ls hl => ?_)
  refine lv_iconst (v := nI 0) hx hb dX6_timeOf_2 (by decide) ?_
  refine lv_istore_n (lv' := [(3, .int (nI 0)), (2, .int (nI 0)), (0, .ref m0), (1, .int (nI q))]) hx hb dX6_timeOf_3 rfl hl (by decide) rfl (fun ls hl => ?_)
  have L4 : ∀ (n4 : Nat) (j : Nat) (g : Nat), (LL q - j) < n4 → (j ≤ LL q) → (g = fb_sm (fun i => T (F (LA (q * 8 + i)))) j) → (g ≤ j * 20) → ∀ (H : Heap) (locs : List Loc), va_P (dC, dI) vwCl [(m0, .inr (6, [.int (nI N), .ref x1, .int (nI K), .ref x2, .ref x3, .ref x4, .int (nI lo), .ref x5, .ref x6, .ref x7, .ref x8, .int (nI ns), .int (nI nd), .ref x9, .ref y1, .ref y2, .int (nI rm), .ref y3, .ref y4, .ref y5, .ref y6, .ref y7, .int (nI pls)])), (x1, .inl (cI, 8, .inl (fun z_ => nI (T z_)))), (x2, .inl (cI, 16, .inl (fun z_ => nI (F z_)))), (x5, .inl (cI, 16000, .inl (fun z_ => nI (LA z_)))), (x6, .inl (cI, 2000, .inl (fun z_ => nI (LL z_))))] H → va_D A [(m0, .inr (6, [.int (nI N), .ref x1, .int (nI K), .ref x2, .ref x3, .ref x4, .int (nI lo), .ref x5, .ref x6, .ref x7, .ref x8, .int (nI ns), .int (nI nd), .ref x9, .ref y1, .ref y2, .int (nI rm), .ref y3, .ref y4, .ref y5, .ref y6, .ref y7, .int (nI pls)])), (x1, .inl (cI, 8, .inl (fun z_ => nI (T z_)))), (x2, .inl (cI, 16, .inl (fun z_ => nI (F z_)))), (x5, .inl (cI, 16000, .inl (fun z_ => nI (LA z_)))), (x6, .inl (cI, 2000, .inl (fun z_ => nI (LL z_))))] → va_S A s.heap H locs → ∀ (ls : Array Slot), lv_has ls 4 [(0, .ref m0), (1, .int (nI q)), (2, .int (nI g)), (3, .int (nI j))] → W p l e (zR 0 0 0 0) s m args below meth c H locs 0 0 Q (F0 m 4 ls []) := by
    intro n4
    induction n4 with
    | zero => intro j g hn; exact absurd hn (Nat.not_lt_zero _)
    | succ n4 ih =>
      intro j g hn i1 i2 i3 H locs hP hD hS ls hl
      have ih4 := ih
      have hn4 := hn
      clear ih hn
      have bb := bLL q
      refine lv_iload_n hx hb dX6_timeOf_4 rfl (lv_at hl 3 rfl) ?_
      refine lv_aload_n hx hb dX6_timeOf_5 rfl (lv_at hl 0 rfl) ?_
      refine z_get (D := (dC, dI)) (ci := 6) (v := .ref x6) (C := RX6) (T := TX6) (N := 23) hx hb hts uX6 hown hK hP 0 rfl rfl 8 (by decide) w25 rfl rfl dX6_timeOf_6 ?_
      refine lv_iload_n hx hb dX6_timeOf_9 rfl (lv_at hl 1 rfl) ?_
      refine z_iald (v := (nI (LL q))) hx hb hK hP 4 0 rfl rfl q rfl (by omega) rfl dX6_timeOf_10 ?_
      have f10_0 := bLL q
      refine z_icmp_ge (tgt := 44) hx hb dX6_timeOf_11 (by decide) (zcn_le (a := LL q) (b := j) rfl rfl (by omega)) (fun c_11 => ?_) (fun c_11 => ?_)
      · skip
        refine lv_iload_n hx hb dX6_timeOf_44 rfl (lv_at hl 2 rfl) ?_
        have q_0 : g = sp_tm T F LA LL q := by rw [i2, show j = LL q from by omega]; rfl
        have q_1 : g ≤ 160 := by first | assumption | omega
        exact hRET _ ls H locs ((nI g)) (g) dX6_timeOf_45 ⟨rfl, q_0, q_1⟩ hP hD hS
      · skip
        refine lv_iload_n hx hb dX6_timeOf_14 rfl (lv_at hl 2 rfl) ?_
        refine lv_aload_n hx hb dX6_timeOf_15 rfl (lv_at hl 0 rfl) ?_
        refine z_get (D := (dC, dI)) (ci := 6) (v := .ref x1) (C := RX6) (T := TX6) (N := 23) hx hb hts uX6 hown hK hP 0 rfl rfl 1 (by decide) w7 rfl rfl dX6_timeOf_16 ?_
        refine lv_aload_n hx hb dX6_timeOf_19 rfl (lv_at hl 0 rfl) ?_
        refine z_get (D := (dC, dI)) (ci := 6) (v := .ref x2) (C := RX6) (T := TX6) (N := 23) hx hb hts uX6 hown hK hP 0 rfl rfl 3 (by decide) w13 rfl rfl dX6_timeOf_20 ?_
        refine lv_aload_n hx hb dX6_timeOf_23 rfl (lv_at hl 0 rfl) ?_
        refine z_get (D := (dC, dI)) (ci := 6) (v := .ref x5) (C := RX6) (T := TX6) (N := 23) hx hb hts uX6 hown hK hP 0 rfl rfl 7 (by decide) w22 rfl rfl dX6_timeOf_24 ?_
        refine lv_bipush (v := nI 8) hx hb dX6_timeOf_27 (by decide) ?_
        refine lv_iload_n hx hb dX6_timeOf_29 rfl (lv_at hl 1 rfl) ?_
        refine z_imul (v := (nI (8 * q))) hx hb dX6_timeOf_30 (pk_mul _ _) ?_
        refine lv_iload_n hx hb dX6_timeOf_31 rfl (lv_at hl 3 rfl) ?_
        refine z_iadd (v := (nI ((8 * q) + j))) hx hb dX6_timeOf_32 (nI_add _ _) ?_
        refine z_iald (v := (nI (LA ((8 * q) + j)))) hx hb hK hP 3 0 rfl rfl ((8 * q) + j) rfl (by omega) rfl dX6_timeOf_33 ?_
        have f33_0 := bLA ((8 * q) + j)
        refine z_iald (v := (nI (F (LA ((8 * q) + j))))) hx hb hK hP 2 0 rfl rfl (LA ((8 * q) + j)) rfl (by omega) rfl dX6_timeOf_34 ?_
        have f34_0 := bF (LA ((8 * q) + j))
        refine z_iald (v := (nI (T (F (LA ((8 * q) + j)))))) hx hb hK hP 1 0 rfl rfl (F (LA ((8 * q) + j))) rfl (by omega) rfl dX6_timeOf_35 ?_
        have f35_0 := bT (F (LA ((8 * q) + j)))
        refine z_iadd (v := (nI (g + (T (F (LA ((8 * q) + j))))))) hx hb dX6_timeOf_36 (nI_add _ _) ?_
        refine lv_istore_n (lv' := [(2, .int (nI (g + (T (F (LA ((8 * q) + j))))))), (0, .ref m0), (1, .int (nI q)), (3, .int (nI j))]) hx hb dX6_timeOf_37 rfl hl (by decide) rfl (fun ls hl => ?_)
        refine lv_iinc (v := (nI (j + 1))) (lv' := [(3, .int (nI (j + 1))), (2, .int (nI (g + (T (F (LA ((8 * q) + j))))))), (0, .ref m0), (1, .int (nI q))]) hx hb dX6_timeOf_38 hl (k := 3) rfl (z_incN j 1 (by decide)) (by decide) rfl (fun ls hl => ?_)
        refine lv_goto (tgt := 4) hx hb dX6_timeOf_41 (by decide) ?_
        have o_i1 : (j + 1) ≤ LL q := by first | assumption | omega
        have o_i2 : (g + (T (F (LA ((8 * q) + j))))) = fb_sm (fun i => T (F (LA (q * 8 + i)))) (j + 1) := by rw [fb_sm_succ, ← i2, Nat.mul_comm 8]
        have o_i3 : (g + (T (F (LA ((8 * q) + j))))) ≤ (j + 1) * 20 := by first | assumption | omega
        have o_mu : (LL q - (j + 1)) < n4 := by omega
        exact ih4 (j + 1) (g + (T (F (LA ((8 * q) + j))))) o_mu o_i1 o_i2 o_i3 H locs hP hD hS ls (lv_sub hl [2, 3, 1, 0] rfl)
  have o_i1 : 0 ≤ LL q := by first | assumption | omega
  have o_i2 : 0 = fb_sm (fun i => T (F (LA (q * 8 + i)))) 0 := by rfl
  have o_i3 : 0 ≤ 0 * 20 := by first | assumption | omega
  exact L4 ((LL q - 0) + 1) 0 0 (Nat.lt_succ_self _) o_i1 o_i2 o_i3 H locs hP hD hS ls (lv_sub hl [2, 3, 1, 0] rfl)

set_option maxHeartbeats 4000000 in
set_option maxRecDepth 100000 in
theorem c_X6_loops (l : Launch) (dC : Nat → ClassId) (dI : Nat → Nat → Nat) (cI cJ : ClassId) (sz : Nat) (m0 : Nat) (x1 : Nat) (x2 : Nat) (x3 : Nat) (x4 : Nat) (x5 : Nat) (x6 : Nat) (x7 : Nat) (x8 : Nat) (x9 : Nat) (y1 : Nat) (y2 : Nat) (y3 : Nat) (y4 : Nat) (y5 : Nat) (y6 : Nat) (y7 : Nat) (N : Nat) (K : Nat) (lo : Nat) (ns : Nat) (nd : Nat) (rm : Nat) (pls : Nat) (F : Nat → Nat) (G : Nat → Nat) (LA : Nat → Nat) (LL : Nat → Nat) (PT : Nat → Nat) (bN : N ≤ 8) (bK : K ≤ 16) (bF : ∀ a, F a < 8) (bG : ∀ a, G a < 8) (bLA : ∀ i, LA i < 16) (bLL : ∀ i, LL i ≤ 8) (bPT : ∀ i, PT i < 16) : Met l yX6_loops wsX6_loops (zR 2 0 0 50) (va_Pc [.ref m0] (zP (dC, dI) [(cI, .int), (cJ, .long)] [(m0, .inr (6, [.int (nI N), .ref x1, .int (nI K), .ref x2, .ref x3, .ref x4, .int (nI lo), .ref x5, .ref x6, .ref x7, .ref x8, .int (nI ns), .int (nI nd), .ref x9, .ref y1, .ref y2, .int (nI rm), .ref y3, .ref y4, .ref y5, .ref y6, .ref y7, .int (nI pls)])), (x2, .inl (cI, 16, .inl (fun z_ => nI (F z_)))), (x3, .inl (cI, 16, .inl (fun z_ => nI (G z_)))), (x5, .inl (cI, 16000, .inl (fun z_ => nI (LA z_)))), (x6, .inl (cI, 2000, .inl (fun z_ => nI (LL z_)))), (x7, .inl (cI, 9, .inl (fun z_ => nI (PT z_))))] sz nwA)) (va_Qi (fun (r : Int32) (u : (Nat → Nat) × (Nat → Nat) × (Nat → Nat) × (Nat)) => r = (nI u.2.2.2) ∧ (u.2.2.2 = (sp_all N K F G).length) ∧ (∀ i, u.1 i < 16) ∧ (∀ i, u.2.1 i ≤ 8) ∧ (∀ i, u.2.2.1 i < 16)) (zB (dC, dI) (fun (u : (Nat → Nat) × (Nat → Nat) × (Nat → Nat) × (Nat)) => [(m0, .inr (6, [.int (nI N), .ref x1, .int (nI K), .ref x2, .ref x3, .ref x4, .int (nI u.2.2.2), .ref x5, .ref x6, .ref x7, .ref x8, .int (nI ns), .int (nI nd), .ref x9, .ref y1, .ref y2, .int (nI rm), .ref y3, .ref y4, .ref y5, .ref y6, .ref y7, .int (nI pls)])), (x2, .inl (cI, 16, .inl (fun z_ => nI (F z_)))), (x3, .inl (cI, 16, .inl (fun z_ => nI (G z_)))), (x5, .inl (cI, 16000, .inl (fun z_ => nI (u.1 z_)))), (x6, .inl (cI, 2000, .inl (fun z_ => nI (u.2.1 z_)))), (x7, .inl (cI, 9, .inl (fun z_ => nI (u.2.2.1 z_))))]) (va_A [(m0, .inr (6, [.int (nI N), .ref x1, .int (nI K), .ref x2, .ref x3, .ref x4, .int (nI lo), .ref x5, .ref x6, .ref x7, .ref x8, .int (nI ns), .int (nI nd), .ref x9, .ref y1, .ref y2, .int (nI rm), .ref y3, .ref y4, .ref y5, .ref y6, .ref y7, .int (nI pls)])), (x2, .inl (cI, 16, .inl (fun z_ => nI (F z_)))), (x3, .inl (cI, 16, .inl (fun z_ => nI (G z_)))), (x5, .inl (cI, 16000, .inl (fun z_ => nI (LA z_)))), (x6, .inl (cI, 2000, .inl (fun z_ => nI (LL z_)))), (x7, .inl (cI, 9, .inl (fun z_ => nI (PT z_))))] sz)) (va_A [(m0, .inr (6, [.int (nI N), .ref x1, .int (nI K), .ref x2, .ref x3, .ref x4, .int (nI lo), .ref x5, .ref x6, .ref x7, .ref x8, .int (nI ns), .int (nI nd), .ref x9, .ref y1, .ref y2, .int (nI rm), .ref y3, .ref y4, .ref y5, .ref y6, .ref y7, .int (nI pls)])), (x2, .inl (cI, 16, .inl (fun z_ => nI (F z_)))), (x3, .inl (cI, 16, .inl (fun z_ => nI (G z_)))), (x5, .inl (cI, 16000, .inl (fun z_ => nI (LA z_)))), (x6, .inl (cI, 2000, .inl (fun z_ => nI (LL z_)))), (x7, .inl (cI, 9, .inl (fun z_ => nI (PT z_))))] sz)) 0 0 (va_A [(m0, .inr (6, [.int (nI N), .ref x1, .int (nI K), .ref x2, .ref x3, .ref x4, .int (nI lo), .ref x5, .ref x6, .ref x7, .ref x8, .int (nI ns), .int (nI nd), .ref x9, .ref y1, .ref y2, .int (nI rm), .ref y3, .ref y4, .ref y5, .ref y6, .ref y7, .int (nI pls)])), (x2, .inl (cI, 16, .inl (fun z_ => nI (F z_)))), (x3, .inl (cI, 16, .inl (fun z_ => nI (G z_)))), (x5, .inl (cI, 16000, .inl (fun z_ => nI (LA z_)))), (x6, .inl (cI, 2000, .inl (fun z_ => nI (LL z_)))), (x7, .inl (cI, 9, .inl (fun z_ => nI (PT z_))))] sz) := by
  refine z_met_i (cc := cX6_loops) (maxL := 1) (by decide) rfl (Nat.le_of_ble_eq_true rfl) ?_
  intro p e s m args below meth c Q A ls hx hb hml hown hts hin hA hK hP hD hN hl hRET
  have hown : s.vm.findClass RX6 = some m.cls := hown
  obtain ⟨H, eH⟩ : ∃ H : Heap, H = s.heap := ⟨_, rfl⟩
  rw [← eH] at hP
  obtain ⟨locs, eL⟩ : ∃ z : List Loc, z = [] := ⟨_, rfl⟩
  rw [← eH, ← eL]
  have hS : va_S A s.heap H locs := by rw [eH, eL]; exact va_S.rf
  have hl : lv_has ls 1 [(0, .ref m0)] := hl
  have w99 := hts (.fieldLink RX6 99 "PullCardsModel" "loops" "I") (by decide +kernel)
  have uX6 : ∀ w ∈ wsX60, w ∈ wsX6_loops := by decide +kernel
  refine lv_aload_n hx hb dX6_loops_0 rfl (lv_at hl 0 rfl) ?_
  refine z_callVv (As := []) (rest := []) (wr := []) ⟨hx, hb, hml, hown, hts⟩ (c_X6_find l dC dI cI cJ H.size m0 x1 x2 x3 x4 x5 x6 x7 x8 x9 y1 y2 y3 y4 y5 y6 y7 N K lo ns nd rm pls F G LA LL PT (by first | assumption | omega) (by first | assumption | omega) (by first | assumption | omega) (by first | assumption | omega) (by first | assumption | omega) (by first | assumption | omega) (by first | assumption | omega)) (cwV 0 hts gX6_loops_X6_find rfl rfl rfl (by decide +kernel) ⟨Nat.le_of_ble_eq_true rfl, Nat.le_of_ble_eq_true rfl⟩) hA hK hP hD hS [0, 1, 2, 3, 4, 5] [] [0, 1, 2, 3, 4, 5] rfl rfl (by decide) (by decide) (by decide) nwA_ok hN (ci := 6) rfl rfl 0 rfl hl.1 (Nat.le_of_ble_eq_true rfl) ⟨Nat.le_refl _, Nat.le_refl _⟩ rfl rfl dX6_loops_1 (fun (u : (Nat → Nat) × (Nat → Nat) × (Nat → Nat) × (Nat)) => [(m0, .inr (6, [.int (nI N), .ref x1, .int (nI K), .ref x2, .ref x3, .ref x4, .int (nI u.2.2.2), .ref x5, .ref x6, .ref x7, .ref x8, .int (nI ns), .int (nI nd), .ref x9, .ref y1, .ref y2, .int (nI rm), .ref y3, .ref y4, .ref y5, .ref y6, .ref y7, .int (nI pls)])), (x2, .inl (cI, 16, .inl (fun z_ => nI (F z_)))), (x3, .inl (cI, 16, .inl (fun z_ => nI (G z_)))), (x5, .inl (cI, 16000, .inl (fun z_ => nI (u.1 z_)))), (x6, .inl (cI, 2000, .inl (fun z_ => nI (u.2.1 z_)))), (x7, .inl (cI, 9, .inl (fun z_ => nI (u.2.2.1 z_))))]) (fun u => rfl) (by decide) (fun u H locs hw hP hD hS => ?_)
  obtain ⟨LA2_1, LL2_1, PT2_1, lo2_1⟩ := u
  have hP : va_P (dC, dI) vwCl [(m0, .inr (6, [.int (nI N), .ref x1, .int (nI K), .ref x2, .ref x3, .ref x4, .int (nI lo2_1), .ref x5, .ref x6, .ref x7, .ref x8, .int (nI ns), .int (nI nd), .ref x9, .ref y1, .ref y2, .int (nI rm), .ref y3, .ref y4, .ref y5, .ref y6, .ref y7, .int (nI pls)])), (x2, .inl (cI, 16, .inl (fun z_ => nI (F z_)))), (x3, .inl (cI, 16, .inl (fun z_ => nI (G z_)))), (x5, .inl (cI, 16000, .inl (fun z_ => nI (LA2_1 z_)))), (x6, .inl (cI, 2000, .inl (fun z_ => nI (LL2_1 z_)))), (x7, .inl (cI, 9, .inl (fun z_ => nI (PT2_1 z_))))] H := hP
  have hD : va_D A [(m0, .inr (6, [.int (nI N), .ref x1, .int (nI K), .ref x2, .ref x3, .ref x4, .int (nI lo2_1), .ref x5, .ref x6, .ref x7, .ref x8, .int (nI ns), .int (nI nd), .ref x9, .ref y1, .ref y2, .int (nI rm), .ref y3, .ref y4, .ref y5, .ref y6, .ref y7, .int (nI pls)])), (x2, .inl (cI, 16, .inl (fun z_ => nI (F z_)))), (x3, .inl (cI, 16, .inl (fun z_ => nI (G z_)))), (x5, .inl (cI, 16000, .inl (fun z_ => nI (LA2_1 z_)))), (x6, .inl (cI, 2000, .inl (fun z_ => nI (LL2_1 z_)))), (x7, .inl (cI, 9, .inl (fun z_ => nI (PT2_1 z_))))] := hD
  obtain ⟨p1_0, p1_1, p1_2, p1_3, p1_4⟩ := hw
  have p1_0 : sp_hold (sp_all N K F G) lo2_1 LA2_1 LL2_1 := p1_0
  have p1_1 : ∀ i, LA2_1 i < 16 := p1_1
  have p1_2 : ∀ i, LL2_1 i ≤ 8 := p1_2
  have p1_3 : ∀ i, PT2_1 i < 16 := p1_3
  have p1_4 : lo2_1 ≤ 636 := p1_4
  refine lv_aload_n hx hb dX6_loops_4 rfl (lv_at hl 0 rfl) ?_
  refine z_get (D := (dC, dI)) (ci := 6) (v := .int (nI lo2_1)) (C := RX6) (T := TX6) (N := 23) hx hb hts uX6 hown hK hP 0 rfl rfl 6 (by decide) w99 rfl rfl dX6_loops_5 ?_
  have q_0 : lo2_1 = (sp_all N K F G).length := by exact p1_0.1
  have q_1 : ∀ i, LA2_1 i < 16 := by first | assumption | omega
  have q_2 : ∀ i, LL2_1 i ≤ 8 := by first | assumption | omega
  have q_3 : ∀ i, PT2_1 i < 16 := by first | assumption | omega
  exact hRET _ ls H locs ((nI lo2_1)) (LA2_1, LL2_1, PT2_1, lo2_1) dX6_loops_8 ⟨rfl, q_0, q_1, q_2, q_3⟩ hP hD hS

set_option maxHeartbeats 4000000 in
set_option maxRecDepth 100000 in
theorem c_X6_loop (l : Launch) (dC : Nat → ClassId) (dI : Nat → Nat → Nat) (cI cJ : ClassId) (sz : Nat) (m0 : Nat) (x1 : Nat) (x2 : Nat) (x3 : Nat) (x4 : Nat) (x5 : Nat) (x6 : Nat) (x7 : Nat) (x8 : Nat) (x9 : Nat) (y1 : Nat) (y2 : Nat) (y3 : Nat) (y4 : Nat) (y5 : Nat) (y6 : Nat) (y7 : Nat) (N : Nat) (K : Nat) (lo : Nat) (ns : Nat) (nd : Nat) (rm : Nat) (pls : Nat) (F : Nat → Nat) (G : Nat → Nat) (LA : Nat → Nat) (LL : Nat → Nat) (PT : Nat → Nat) (z : Int) (i : Int) (bN : N ≤ 8) (bK : K ≤ 16) (bF : ∀ a, F a < 8) (bG : ∀ a, G a < 8) (bLA : ∀ i, LA i < 16) (bLL : ∀ i, LL i ≤ 8) (bPT : ∀ i, PT i < 16) (bz : -2147483648 ≤ z ∧ z < 2147483648) (bi : -2147483648 ≤ i ∧ i < 2147483648) : Met l yX6_loop wsX6_loop (zR 2 0 0 50) (va_Pc [.ref m0, .int (iI z), .int (iI i)] (zP (dC, dI) [(cI, .int), (cJ, .long)] [(m0, .inr (6, [.int (nI N), .ref x1, .int (nI K), .ref x2, .ref x3, .ref x4, .int (nI lo), .ref x5, .ref x6, .ref x7, .ref x8, .int (nI ns), .int (nI nd), .ref x9, .ref y1, .ref y2, .int (nI rm), .ref y3, .ref y4, .ref y5, .ref y6, .ref y7, .int (nI pls)])), (x2, .inl (cI, 16, .inl (fun z_ => nI (F z_)))), (x3, .inl (cI, 16, .inl (fun z_ => nI (G z_)))), (x5, .inl (cI, 16000, .inl (fun z_ => nI (LA z_)))), (x6, .inl (cI, 2000, .inl (fun z_ => nI (LL z_)))), (x7, .inl (cI, 9, .inl (fun z_ => nI (PT z_))))] sz nwA)) (va_Qi (fun (r : Int32) (u : (Int) × (Nat → Nat) × (Nat → Nat) × (Nat → Nat) × (Nat)) => r = (iI u.1) ∧ (u.1 = if 0 ≤ z ∧ z < ((sp_all N K F G).length : Int) then (if 0 ≤ i ∧ i < (((sp_all N K F G).getD z.toNat []).length : Int) then (((sp_all N K F G).getD z.toNat []).getD i.toNat 0 : Int) else -9) else -1) ∧ (∀ i, u.2.1 i < 16) ∧ (∀ i, u.2.2.1 i ≤ 8) ∧ (∀ i, u.2.2.2.1 i < 16)) (zB (dC, dI) (fun (u : (Int) × (Nat → Nat) × (Nat → Nat) × (Nat → Nat) × (Nat)) => [(m0, .inr (6, [.int (nI N), .ref x1, .int (nI K), .ref x2, .ref x3, .ref x4, .int (nI u.2.2.2.2), .ref x5, .ref x6, .ref x7, .ref x8, .int (nI ns), .int (nI nd), .ref x9, .ref y1, .ref y2, .int (nI rm), .ref y3, .ref y4, .ref y5, .ref y6, .ref y7, .int (nI pls)])), (x2, .inl (cI, 16, .inl (fun z_ => nI (F z_)))), (x3, .inl (cI, 16, .inl (fun z_ => nI (G z_)))), (x5, .inl (cI, 16000, .inl (fun z_ => nI (u.2.1 z_)))), (x6, .inl (cI, 2000, .inl (fun z_ => nI (u.2.2.1 z_)))), (x7, .inl (cI, 9, .inl (fun z_ => nI (u.2.2.2.1 z_))))]) (va_A [(m0, .inr (6, [.int (nI N), .ref x1, .int (nI K), .ref x2, .ref x3, .ref x4, .int (nI lo), .ref x5, .ref x6, .ref x7, .ref x8, .int (nI ns), .int (nI nd), .ref x9, .ref y1, .ref y2, .int (nI rm), .ref y3, .ref y4, .ref y5, .ref y6, .ref y7, .int (nI pls)])), (x2, .inl (cI, 16, .inl (fun z_ => nI (F z_)))), (x3, .inl (cI, 16, .inl (fun z_ => nI (G z_)))), (x5, .inl (cI, 16000, .inl (fun z_ => nI (LA z_)))), (x6, .inl (cI, 2000, .inl (fun z_ => nI (LL z_)))), (x7, .inl (cI, 9, .inl (fun z_ => nI (PT z_))))] sz)) (va_A [(m0, .inr (6, [.int (nI N), .ref x1, .int (nI K), .ref x2, .ref x3, .ref x4, .int (nI lo), .ref x5, .ref x6, .ref x7, .ref x8, .int (nI ns), .int (nI nd), .ref x9, .ref y1, .ref y2, .int (nI rm), .ref y3, .ref y4, .ref y5, .ref y6, .ref y7, .int (nI pls)])), (x2, .inl (cI, 16, .inl (fun z_ => nI (F z_)))), (x3, .inl (cI, 16, .inl (fun z_ => nI (G z_)))), (x5, .inl (cI, 16000, .inl (fun z_ => nI (LA z_)))), (x6, .inl (cI, 2000, .inl (fun z_ => nI (LL z_)))), (x7, .inl (cI, 9, .inl (fun z_ => nI (PT z_))))] sz)) 0 0 (va_A [(m0, .inr (6, [.int (nI N), .ref x1, .int (nI K), .ref x2, .ref x3, .ref x4, .int (nI lo), .ref x5, .ref x6, .ref x7, .ref x8, .int (nI ns), .int (nI nd), .ref x9, .ref y1, .ref y2, .int (nI rm), .ref y3, .ref y4, .ref y5, .ref y6, .ref y7, .int (nI pls)])), (x2, .inl (cI, 16, .inl (fun z_ => nI (F z_)))), (x3, .inl (cI, 16, .inl (fun z_ => nI (G z_)))), (x5, .inl (cI, 16000, .inl (fun z_ => nI (LA z_)))), (x6, .inl (cI, 2000, .inl (fun z_ => nI (LL z_)))), (x7, .inl (cI, 9, .inl (fun z_ => nI (PT z_))))] sz) := by
  refine z_met_i (cc := cX6_loop) (maxL := 3) (by decide) rfl (Nat.le_of_ble_eq_true rfl) ?_
  intro p e s m args below meth c Q A ls hx hb hml hown hts hin hA hK hP hD hN hl hRET
  have hown : s.vm.findClass RX6 = some m.cls := hown
  obtain ⟨H, eH⟩ : ∃ H : Heap, H = s.heap := ⟨_, rfl⟩
  rw [← eH] at hP
  obtain ⟨locs, eL⟩ : ∃ z : List Loc, z = [] := ⟨_, rfl⟩
  rw [← eH, ← eL]
  have hS : va_S A s.heap H locs := by rw [eH, eL]; exact va_S.rf
  have hl : lv_has ls 3 [(0, .ref m0), (1, .int (iI z)), (2, .int (iI i))] := hl
  have w99 := hts (.fieldLink RX6 99 "PullCardsModel" "loops" "I") (by decide +kernel)
  have uX6 : ∀ w ∈ wsX60, w ∈ wsX6_loop := by decide +kernel
  have w25 := hts (.fieldLink RX6 25 "PullCardsModel" "loopLong" "[I") (by decide +kernel)
  have w22 := hts (.fieldLink RX6 22 "PullCardsModel" "loopArc" "[I") (by decide +kernel)
  refine lv_aload_n hx hb dX6_loop_0 rfl (lv_at hl 0 rfl) ?_
  refine z_callVv (As := []) (rest := []) (wr := []) ⟨hx, hb, hml, hown, hts⟩ (c_X6_find l dC dI cI cJ H.size m0 x1 x2 x3 x4 x5 x6 x7 x8 x9 y1 y2 y3 y4 y5 y6 y7 N K lo ns nd rm pls F G LA LL PT (by first | assumption | omega) (by first | assumption | omega) (by first | assumption | omega) (by first | assumption | omega) (by first | assumption | omega) (by first | assumption | omega) (by first | assumption | omega)) (cwV 0 hts gX6_loop_X6_find rfl rfl rfl (by decide +kernel) ⟨Nat.le_of_ble_eq_true rfl, Nat.le_of_ble_eq_true rfl⟩) hA hK hP hD hS [0, 1, 2, 3, 4, 5] [] [0, 1, 2, 3, 4, 5] rfl rfl (by decide) (by decide) (by decide) nwA_ok hN (ci := 6) rfl rfl 0 rfl hl.1 (Nat.le_of_ble_eq_true rfl) ⟨Nat.le_refl _, Nat.le_refl _⟩ rfl rfl dX6_loop_1 (fun (u : (Nat → Nat) × (Nat → Nat) × (Nat → Nat) × (Nat)) => [(m0, .inr (6, [.int (nI N), .ref x1, .int (nI K), .ref x2, .ref x3, .ref x4, .int (nI u.2.2.2), .ref x5, .ref x6, .ref x7, .ref x8, .int (nI ns), .int (nI nd), .ref x9, .ref y1, .ref y2, .int (nI rm), .ref y3, .ref y4, .ref y5, .ref y6, .ref y7, .int (nI pls)])), (x2, .inl (cI, 16, .inl (fun z_ => nI (F z_)))), (x3, .inl (cI, 16, .inl (fun z_ => nI (G z_)))), (x5, .inl (cI, 16000, .inl (fun z_ => nI (u.1 z_)))), (x6, .inl (cI, 2000, .inl (fun z_ => nI (u.2.1 z_)))), (x7, .inl (cI, 9, .inl (fun z_ => nI (u.2.2.1 z_))))]) (fun u => rfl) (by decide) (fun u H locs hw hP hD hS => ?_)
  obtain ⟨LA2_1, LL2_1, PT2_1, lo2_1⟩ := u
  have hP : va_P (dC, dI) vwCl [(m0, .inr (6, [.int (nI N), .ref x1, .int (nI K), .ref x2, .ref x3, .ref x4, .int (nI lo2_1), .ref x5, .ref x6, .ref x7, .ref x8, .int (nI ns), .int (nI nd), .ref x9, .ref y1, .ref y2, .int (nI rm), .ref y3, .ref y4, .ref y5, .ref y6, .ref y7, .int (nI pls)])), (x2, .inl (cI, 16, .inl (fun z_ => nI (F z_)))), (x3, .inl (cI, 16, .inl (fun z_ => nI (G z_)))), (x5, .inl (cI, 16000, .inl (fun z_ => nI (LA2_1 z_)))), (x6, .inl (cI, 2000, .inl (fun z_ => nI (LL2_1 z_)))), (x7, .inl (cI, 9, .inl (fun z_ => nI (PT2_1 z_))))] H := hP
  have hD : va_D A [(m0, .inr (6, [.int (nI N), .ref x1, .int (nI K), .ref x2, .ref x3, .ref x4, .int (nI lo2_1), .ref x5, .ref x6, .ref x7, .ref x8, .int (nI ns), .int (nI nd), .ref x9, .ref y1, .ref y2, .int (nI rm), .ref y3, .ref y4, .ref y5, .ref y6, .ref y7, .int (nI pls)])), (x2, .inl (cI, 16, .inl (fun z_ => nI (F z_)))), (x3, .inl (cI, 16, .inl (fun z_ => nI (G z_)))), (x5, .inl (cI, 16000, .inl (fun z_ => nI (LA2_1 z_)))), (x6, .inl (cI, 2000, .inl (fun z_ => nI (LL2_1 z_)))), (x7, .inl (cI, 9, .inl (fun z_ => nI (PT2_1 z_))))] := hD
  obtain ⟨p1_0, p1_1, p1_2, p1_3, p1_4⟩ := hw
  have p1_0 : sp_hold (sp_all N K F G) lo2_1 LA2_1 LL2_1 := p1_0
  have p1_1 : ∀ i, LA2_1 i < 16 := p1_1
  have p1_2 : ∀ i, LL2_1 i ≤ 8 := p1_2
  have p1_3 : ∀ i, PT2_1 i < 16 := p1_3
  have p1_4 : lo2_1 ≤ 636 := p1_4
  have hlen := p1_0.1
  have b4 := p1_4
  refine lv_iload_n hx hb dX6_loop_4 rfl (lv_at hl 1 rfl) ?_
  refine lv_i2l (v := (lI z)) hx hb dX6_loop_5 (zl_i2l rfl (by omega)) ?_
  refine lv_lconst (v := lN 0) hx hb dX6_loop_6 (by decide) ?_
  refine lv_aload_n hx hb dX6_loop_7 rfl (lv_at hl 0 rfl) ?_
  refine z_get (D := (dC, dI)) (ci := 6) (v := .int (nI lo2_1)) (C := RX6) (T := TX6) (N := 23) hx hb hts uX6 hown hK hP 0 rfl rfl 6 (by decide) w99 rfl rfl dX6_loop_8 ?_
  refine lv_iconst (v := nI 1) hx hb dX6_loop_11 (by decide) ?_
  refine z_isub (v := (iI (((lo2_1 : Nat) : Int) - 1))) hx hb dX6_loop_12 (za_sub (iI_N _) (iI_N _)) ?_
  refine lv_i2l (v := (lI (((lo2_1 : Nat) : Int) - 1))) hx hb dX6_loop_13 (zl_i2l rfl (by omega)) ?_
  refine z_l1 (v := lI 0) (by decide) ?_
  refine z_callSi (As := [.long (lI z), .long (lI 0), .long (lI (((lo2_1 : Nat) : Int) - 1))]) (rest := []) (wr := [(m0, .inr (6, [.int (nI N), .ref x1, .int (nI K), .ref x2, .ref x3, .ref x4, .int (nI lo2_1), .ref x5, .ref x6, .ref x7, .ref x8, .int (nI ns), .int (nI nd), .ref x9, .ref y1, .ref y2, .int (nI rm), .ref y3, .ref y4, .ref y5, .ref y6, .ref y7, .int (nI pls)])), (x2, .inl (cI, 16, .inl (fun z_ => nI (F z_)))), (x3, .inl (cI, 16, .inl (fun z_ => nI (G z_)))), (x5, .inl (cI, 16000, .inl (fun z_ => nI (LA2_1 z_)))), (x6, .inl (cI, 2000, .inl (fun z_ => nI (LL2_1 z_)))), (x7, .inl (cI, 9, .inl (fun z_ => nI (PT2_1 z_))))]) ⟨hx, hb, hml, hown, hts⟩ (c_X6_in l dC dI cI cJ H.size z (0 : Int) (((lo2_1 : Nat) : Int) - 1) (by first | assumption | omega) (by first | assumption | omega) (by first | assumption | omega)) (va_cwS 3 hts gX6_loop_X6_in rfl rfl rfl (by decide +kernel) ⟨Nat.le_of_ble_eq_true rfl, Nat.le_of_ble_eq_true rfl⟩) hA hK hP hD hS [] [0, 1, 2, 3, 4, 5] [0, 1, 2, 3, 4, 5] rfl rfl (by decide) (by decide) (by decide) nwA_ok hN hl.1 (Nat.le_of_ble_eq_true rfl) ⟨Nat.le_refl _, Nat.le_refl _⟩ rfl rfl dX6_loop_14 (fun (u : (Nat)) => [(m0, .inr (6, [.int (nI N), .ref x1, .int (nI K), .ref x2, .ref x3, .ref x4, .int (nI lo2_1), .ref x5, .ref x6, .ref x7, .ref x8, .int (nI ns), .int (nI nd), .ref x9, .ref y1, .ref y2, .int (nI rm), .ref y3, .ref y4, .ref y5, .ref y6, .ref y7, .int (nI pls)])), (x2, .inl (cI, 16, .inl (fun z_ => nI (F z_)))), (x3, .inl (cI, 16, .inl (fun z_ => nI (G z_)))), (x5, .inl (cI, 16000, .inl (fun z_ => nI (LA2_1 z_)))), (x6, .inl (cI, 2000, .inl (fun z_ => nI (LL2_1 z_)))), (x7, .inl (cI, 9, .inl (fun z_ => nI (PT2_1 z_))))]) (fun u => rfl) (by decide) (fun r_14 u H locs hw hP hD hS => ?_)
  obtain ⟨rv_14, eu⟩ : ∃ z, z = u := ⟨_, rfl⟩
  subst eu
  have hP : va_P (dC, dI) vwCl [(m0, .inr (6, [.int (nI N), .ref x1, .int (nI K), .ref x2, .ref x3, .ref x4, .int (nI lo2_1), .ref x5, .ref x6, .ref x7, .ref x8, .int (nI ns), .int (nI nd), .ref x9, .ref y1, .ref y2, .int (nI rm), .ref y3, .ref y4, .ref y5, .ref y6, .ref y7, .int (nI pls)])), (x2, .inl (cI, 16, .inl (fun z_ => nI (F z_)))), (x3, .inl (cI, 16, .inl (fun z_ => nI (G z_)))), (x5, .inl (cI, 16000, .inl (fun z_ => nI (LA2_1 z_)))), (x6, .inl (cI, 2000, .inl (fun z_ => nI (LL2_1 z_)))), (x7, .inl (cI, 9, .inl (fun z_ => nI (PT2_1 z_))))] H := hP
  have hD : va_D A [(m0, .inr (6, [.int (nI N), .ref x1, .int (nI K), .ref x2, .ref x3, .ref x4, .int (nI lo2_1), .ref x5, .ref x6, .ref x7, .ref x8, .int (nI ns), .int (nI nd), .ref x9, .ref y1, .ref y2, .int (nI rm), .ref y3, .ref y4, .ref y5, .ref y6, .ref y7, .int (nI pls)])), (x2, .inl (cI, 16, .inl (fun z_ => nI (F z_)))), (x3, .inl (cI, 16, .inl (fun z_ => nI (G z_)))), (x5, .inl (cI, 16000, .inl (fun z_ => nI (LA2_1 z_)))), (x6, .inl (cI, 2000, .inl (fun z_ => nI (LL2_1 z_)))), (x7, .inl (cI, 9, .inl (fun z_ => nI (PT2_1 z_))))] := hD
  obtain ⟨er, p14_0⟩ := hw
  have p14_0 : (rv_14 = 1 ∧ ((0 : Int) ≤ z ∧ z ≤ (((lo2_1 : Nat) : Int) - 1))) ∨ (rv_14 = 0 ∧ ¬ ((0 : Int) ≤ z ∧ z ≤ (((lo2_1 : Nat) : Int) - 1))) := p14_0
  have er : r_14 = (nI rv_14) := er
  subst er
  rcases p14_0 with ⟨h14, c_14⟩ | ⟨h14, c_14⟩
  · skip
    subst h14
    refine lv_if_ne (tgt := 22) hx hb dX6_loop_17 (by decide) (fun _ => ?_) (fun c_x => absurd c_x (by decide))
    refine lv_iload_n hx hb dX6_loop_22 rfl (lv_at hl 2 rfl) ?_
    refine lv_i2l (v := (lI i)) hx hb dX6_loop_23 (zl_i2l rfl (by omega)) ?_
    refine lv_lconst (v := lN 0) hx hb dX6_loop_24 (by decide) ?_
    refine lv_aload_n hx hb dX6_loop_25 rfl (lv_at hl 0 rfl) ?_
    refine z_get (D := (dC, dI)) (ci := 6) (v := .ref x6) (C := RX6) (T := TX6) (N := 23) hx hb hts uX6 hown hK hP 0 rfl rfl 8 (by decide) w25 rfl rfl dX6_loop_26 ?_
    refine lv_iload_n hx hb dX6_loop_29 rfl (lv_at hl 1 rfl) ?_
    refine z_c0 (v := nI z.toNat) (z_ZtoN (by first | assumption | omega)) ?_
    refine z_iald (v := (nI (LL2_1 z.toNat))) hx hb hK hP 4 0 rfl rfl z.toNat rfl (by omega) rfl dX6_loop_30 ?_
    have bb := p1_2 z.toNat
    obtain ⟨e1, e2⟩ := p1_0.2 z.toNat (by omega)
    refine lv_iconst (v := nI 1) hx hb dX6_loop_31 (by decide) ?_
    refine z_isub (v := (iI (((LL2_1 z.toNat : Nat) : Int) - 1))) hx hb dX6_loop_32 (za_sub (iI_N _) (iI_N _)) ?_
    refine lv_i2l (v := (lI (((LL2_1 z.toNat : Nat) : Int) - 1))) hx hb dX6_loop_33 (zl_i2l rfl (by omega)) ?_
    refine z_l1 (v := lI 0) (by decide) ?_
    refine z_callSi (As := [.long (lI i), .long (lI 0), .long (lI (((LL2_1 z.toNat : Nat) : Int) - 1))]) (rest := []) (wr := [(m0, .inr (6, [.int (nI N), .ref x1, .int (nI K), .ref x2, .ref x3, .ref x4, .int (nI lo2_1), .ref x5, .ref x6, .ref x7, .ref x8, .int (nI ns), .int (nI nd), .ref x9, .ref y1, .ref y2, .int (nI rm), .ref y3, .ref y4, .ref y5, .ref y6, .ref y7, .int (nI pls)])), (x2, .inl (cI, 16, .inl (fun z_ => nI (F z_)))), (x3, .inl (cI, 16, .inl (fun z_ => nI (G z_)))), (x5, .inl (cI, 16000, .inl (fun z_ => nI (LA2_1 z_)))), (x6, .inl (cI, 2000, .inl (fun z_ => nI (LL2_1 z_)))), (x7, .inl (cI, 9, .inl (fun z_ => nI (PT2_1 z_))))]) ⟨hx, hb, hml, hown, hts⟩ (c_X6_in l dC dI cI cJ H.size i (0 : Int) (((LL2_1 z.toNat : Nat) : Int) - 1) (by first | assumption | omega) (by first | assumption | omega) (by first | assumption | omega)) (va_cwS 3 hts gX6_loop_X6_in rfl rfl rfl (by decide +kernel) ⟨Nat.le_of_ble_eq_true rfl, Nat.le_of_ble_eq_true rfl⟩) hA hK hP hD hS [] [0, 1, 2, 3, 4, 5] [0, 1, 2, 3, 4, 5] rfl rfl (by decide) (by decide) (by decide) nwA_ok hN hl.1 (Nat.le_of_ble_eq_true rfl) ⟨Nat.le_refl _, Nat.le_refl _⟩ rfl rfl dX6_loop_34 (fun (u : (Nat)) => [(m0, .inr (6, [.int (nI N), .ref x1, .int (nI K), .ref x2, .ref x3, .ref x4, .int (nI lo2_1), .ref x5, .ref x6, .ref x7, .ref x8, .int (nI ns), .int (nI nd), .ref x9, .ref y1, .ref y2, .int (nI rm), .ref y3, .ref y4, .ref y5, .ref y6, .ref y7, .int (nI pls)])), (x2, .inl (cI, 16, .inl (fun z_ => nI (F z_)))), (x3, .inl (cI, 16, .inl (fun z_ => nI (G z_)))), (x5, .inl (cI, 16000, .inl (fun z_ => nI (LA2_1 z_)))), (x6, .inl (cI, 2000, .inl (fun z_ => nI (LL2_1 z_)))), (x7, .inl (cI, 9, .inl (fun z_ => nI (PT2_1 z_))))]) (fun u => rfl) (by decide) (fun r_34 u H locs hw hP hD hS => ?_)
    obtain ⟨rv_34, eu⟩ : ∃ z, z = u := ⟨_, rfl⟩
    subst eu
    have hP : va_P (dC, dI) vwCl [(m0, .inr (6, [.int (nI N), .ref x1, .int (nI K), .ref x2, .ref x3, .ref x4, .int (nI lo2_1), .ref x5, .ref x6, .ref x7, .ref x8, .int (nI ns), .int (nI nd), .ref x9, .ref y1, .ref y2, .int (nI rm), .ref y3, .ref y4, .ref y5, .ref y6, .ref y7, .int (nI pls)])), (x2, .inl (cI, 16, .inl (fun z_ => nI (F z_)))), (x3, .inl (cI, 16, .inl (fun z_ => nI (G z_)))), (x5, .inl (cI, 16000, .inl (fun z_ => nI (LA2_1 z_)))), (x6, .inl (cI, 2000, .inl (fun z_ => nI (LL2_1 z_)))), (x7, .inl (cI, 9, .inl (fun z_ => nI (PT2_1 z_))))] H := hP
    have hD : va_D A [(m0, .inr (6, [.int (nI N), .ref x1, .int (nI K), .ref x2, .ref x3, .ref x4, .int (nI lo2_1), .ref x5, .ref x6, .ref x7, .ref x8, .int (nI ns), .int (nI nd), .ref x9, .ref y1, .ref y2, .int (nI rm), .ref y3, .ref y4, .ref y5, .ref y6, .ref y7, .int (nI pls)])), (x2, .inl (cI, 16, .inl (fun z_ => nI (F z_)))), (x3, .inl (cI, 16, .inl (fun z_ => nI (G z_)))), (x5, .inl (cI, 16000, .inl (fun z_ => nI (LA2_1 z_)))), (x6, .inl (cI, 2000, .inl (fun z_ => nI (LL2_1 z_)))), (x7, .inl (cI, 9, .inl (fun z_ => nI (PT2_1 z_))))] := hD
    obtain ⟨er, p34_0⟩ := hw
    have p34_0 : (rv_34 = 1 ∧ ((0 : Int) ≤ i ∧ i ≤ (((LL2_1 z.toNat : Nat) : Int) - 1))) ∨ (rv_34 = 0 ∧ ¬ ((0 : Int) ≤ i ∧ i ≤ (((LL2_1 z.toNat : Nat) : Int) - 1))) := p34_0
    have er : r_34 = (nI rv_34) := er
    subst er
    rcases p34_0 with ⟨h34, c_34⟩ | ⟨h34, c_34⟩
    · skip
      subst h34
      refine lv_if_eq (tgt := 54) hx hb dX6_loop_37 (by decide) (fun c_x => absurd c_x (by decide)) (fun _ => ?_)
      refine lv_aload_n hx hb dX6_loop_40 rfl (lv_at hl 0 rfl) ?_
      refine z_get (D := (dC, dI)) (ci := 6) (v := .ref x5) (C := RX6) (T := TX6) (N := 23) hx hb hts uX6 hown hK hP 0 rfl rfl 7 (by decide) w22 rfl rfl dX6_loop_41 ?_
      refine lv_bipush (v := nI 8) hx hb dX6_loop_44 (by decide) ?_
      refine lv_iload_n hx hb dX6_loop_46 rfl (lv_at hl 1 rfl) ?_
      refine z_c0 (v := nI z.toNat) (z_ZtoN (by first | assumption | omega)) ?_
      refine z_imul (v := (nI (8 * z.toNat))) hx hb dX6_loop_47 (pk_mul _ _) ?_
      refine lv_iload_n hx hb dX6_loop_48 rfl (lv_at hl 2 rfl) ?_
      refine z_c0 (v := nI i.toNat) (z_ZtoN (by first | assumption | omega)) ?_
      refine z_iadd (v := (nI ((8 * z.toNat) + i.toNat))) hx hb dX6_loop_49 (nI_add _ _) ?_
      refine z_iald (v := (nI (LA2_1 ((8 * z.toNat) + i.toNat)))) hx hb hK hP 3 0 rfl rfl ((8 * z.toNat) + i.toNat) rfl (by omega) rfl dX6_loop_50 ?_
      refine lv_goto (tgt := 56) hx hb dX6_loop_51 (by decide) ?_
      refine z_c0 (v := iI ((LA2_1 ((8 * z.toNat) + i.toNat) : Nat) : Int)) (iI_N _) ?_
      have q_0 : ((LA2_1 ((8 * z.toNat) + i.toNat) : Nat) : Int) = if 0 ≤ z ∧ z < ((sp_all N K F G).length : Int) then (if 0 ≤ i ∧ i < (((sp_all N K F G).getD z.toNat []).length : Int) then (((sp_all N K F G).getD z.toNat []).getD i.toNat 0 : Int) else -9) else -1 := by first | (rw [if_pos (by omega), if_pos (by omega), ← e2 i.toNat (by omega), Nat.mul_comm 8]; done) | (rw [if_pos (by omega), if_neg (by omega)]; done)
      have q_1 : ∀ i, LA2_1 i < 16 := by first | assumption | omega
      have q_2 : ∀ i, LL2_1 i ≤ 8 := by first | assumption | omega
      have q_3 : ∀ i, PT2_1 i < 16 := by first | assumption | omega
      exact hRET _ ls H locs ((iI ((LA2_1 ((8 * z.toNat) + i.toNat) : Nat) : Int))) (((LA2_1 ((8 * z.toNat) + i.toNat) : Nat) : Int), LA2_1, LL2_1, PT2_1, lo2_1) dX6_loop_56 ⟨rfl, q_0, q_1, q_2, q_3⟩ hP hD hS
    · skip
      subst h34
      refine lv_if_eq (tgt := 54) hx hb dX6_loop_37 (by decide) (fun _ => ?_) (fun c_x => absurd c_x (by decide))
      refine lv_bipush (v := iI (-9)) hx hb dX6_loop_54 (by decide) ?_
      have q_0 : (-9 : Int) = if 0 ≤ z ∧ z < ((sp_all N K F G).length : Int) then (if 0 ≤ i ∧ i < (((sp_all N K F G).getD z.toNat []).length : Int) then (((sp_all N K F G).getD z.toNat []).getD i.toNat 0 : Int) else -9) else -1 := by first | (rw [if_pos (by omega), if_pos (by omega), ← e2 i.toNat (by omega), Nat.mul_comm 8]; done) | (rw [if_pos (by omega), if_neg (by omega)]; done)
      have q_1 : ∀ i, LA2_1 i < 16 := by first | assumption | omega
      have q_2 : ∀ i, LL2_1 i ≤ 8 := by first | assumption | omega
      have q_3 : ∀ i, PT2_1 i < 16 := by first | assumption | omega
      exact hRET _ ls H locs ((iI (-9))) ((-9 : Int), LA2_1, LL2_1, PT2_1, lo2_1) dX6_loop_56 ⟨rfl, q_0, q_1, q_2, q_3⟩ hP hD hS
  · skip
    subst h14
    refine lv_if_ne (tgt := 22) hx hb dX6_loop_17 (by decide) (fun c_x => absurd c_x (by decide)) (fun _ => ?_)
    refine lv_iconst (v := iI (-1)) hx hb dX6_loop_20 (by decide) ?_
    have q_0 : (-1 : Int) = if 0 ≤ z ∧ z < ((sp_all N K F G).length : Int) then (if 0 ≤ i ∧ i < (((sp_all N K F G).getD z.toNat []).length : Int) then (((sp_all N K F G).getD z.toNat []).getD i.toNat 0 : Int) else -9) else -1 := by rw [if_neg (by omega)]
    have q_1 : ∀ i, LA2_1 i < 16 := by first | assumption | omega
    have q_2 : ∀ i, LL2_1 i ≤ 8 := by first | assumption | omega
    have q_3 : ∀ i, PT2_1 i < 16 := by first | assumption | omega
    exact hRET _ ls H locs ((iI (-1))) ((-1 : Int), LA2_1, LL2_1, PT2_1, lo2_1) dX6_loop_21 ⟨rfl, q_0, q_1, q_2, q_3⟩ hP hD hS

set_option maxHeartbeats 4000000 in
set_option maxRecDepth 100000 in
theorem c_X6_sum (l : Launch) (dC : Nat → ClassId) (dI : Nat → Nat → Nat) (cI cJ : ClassId) (sz : Nat) (m0 : Nat) (x1 : Nat) (x2 : Nat) (x3 : Nat) (x4 : Nat) (x5 : Nat) (x6 : Nat) (x7 : Nat) (x8 : Nat) (x9 : Nat) (y1 : Nat) (y2 : Nat) (y3 : Nat) (y4 : Nat) (y5 : Nat) (y6 : Nat) (y7 : Nat) (N : Nat) (K : Nat) (lo : Nat) (ns : Nat) (nd : Nat) (rm : Nat) (pls : Nat) (T : Nat → Nat) (F : Nat → Nat) (G : Nat → Nat) (C : Nat → Nat) (LA : Nat → Nat) (LL : Nat → Nat) (PT : Nat → Nat) (z : Int) (b : Nat) (bN : N ≤ 8) (bK : K ≤ 16) (bF : ∀ a, F a < 8) (bG : ∀ a, G a < 8) (bLA : ∀ i, LA i < 16) (bLL : ∀ i, LL i ≤ 8) (bPT : ∀ i, PT i < 16) (bT : ∀ i, T i ≤ 20) (bC : ∀ a, C a ≤ 9) (bz : -2147483648 ≤ z ∧ z < 2147483648) (bb : b ≤ 1) : Met l yX6_sum wsX6_sum (zR 2 0 0 50) (va_Pc [.ref m0, .int (iI z), .int (nI b)] (zP (dC, dI) [(cI, .int), (cJ, .long)] [(m0, .inr (6, [.int (nI N), .ref x1, .int (nI K), .ref x2, .ref x3, .ref x4, .int (nI lo), .ref x5, .ref x6, .ref x7, .ref x8, .int (nI ns), .int (nI nd), .ref x9, .ref y1, .ref y2, .int (nI rm), .ref y3, .ref y4, .ref y5, .ref y6, .ref y7, .int (nI pls)])), (x1, .inl (cI, 8, .inl (fun z_ => nI (T z_)))), (x2, .inl (cI, 16, .inl (fun z_ => nI (F z_)))), (x3, .inl (cI, 16, .inl (fun z_ => nI (G z_)))), (x4, .inl (cI, 16, .inl (fun z_ => nI (C z_)))), (x5, .inl (cI, 16000, .inl (fun z_ => nI (LA z_)))), (x6, .inl (cI, 2000, .inl (fun z_ => nI (LL z_)))), (x7, .inl (cI, 9, .inl (fun z_ => nI (PT z_))))] sz nwA)) (va_Qi (fun (r : Int32) (u : (Int) × (Nat → Nat) × (Nat → Nat) × (Nat → Nat) × (Nat)) => r = (iI u.1) ∧ (u.1 = if 0 ≤ z ∧ z < ((sp_all N K F G).length : Int) then (if b = 0 then (sp_tmL T F (sp_all N K F G) z.toNat : Int) else (sp_cdL C (sp_all N K F G) z.toNat : Int)) else -1) ∧ (∀ i, u.2.1 i < 16) ∧ (∀ i, u.2.2.1 i ≤ 8) ∧ (∀ i, u.2.2.2.1 i < 16)) (zB (dC, dI) (fun (u : (Int) × (Nat → Nat) × (Nat → Nat) × (Nat → Nat) × (Nat)) => [(m0, .inr (6, [.int (nI N), .ref x1, .int (nI K), .ref x2, .ref x3, .ref x4, .int (nI u.2.2.2.2), .ref x5, .ref x6, .ref x7, .ref x8, .int (nI ns), .int (nI nd), .ref x9, .ref y1, .ref y2, .int (nI rm), .ref y3, .ref y4, .ref y5, .ref y6, .ref y7, .int (nI pls)])), (x1, .inl (cI, 8, .inl (fun z_ => nI (T z_)))), (x2, .inl (cI, 16, .inl (fun z_ => nI (F z_)))), (x3, .inl (cI, 16, .inl (fun z_ => nI (G z_)))), (x4, .inl (cI, 16, .inl (fun z_ => nI (C z_)))), (x5, .inl (cI, 16000, .inl (fun z_ => nI (u.2.1 z_)))), (x6, .inl (cI, 2000, .inl (fun z_ => nI (u.2.2.1 z_)))), (x7, .inl (cI, 9, .inl (fun z_ => nI (u.2.2.2.1 z_))))]) (va_A [(m0, .inr (6, [.int (nI N), .ref x1, .int (nI K), .ref x2, .ref x3, .ref x4, .int (nI lo), .ref x5, .ref x6, .ref x7, .ref x8, .int (nI ns), .int (nI nd), .ref x9, .ref y1, .ref y2, .int (nI rm), .ref y3, .ref y4, .ref y5, .ref y6, .ref y7, .int (nI pls)])), (x1, .inl (cI, 8, .inl (fun z_ => nI (T z_)))), (x2, .inl (cI, 16, .inl (fun z_ => nI (F z_)))), (x3, .inl (cI, 16, .inl (fun z_ => nI (G z_)))), (x4, .inl (cI, 16, .inl (fun z_ => nI (C z_)))), (x5, .inl (cI, 16000, .inl (fun z_ => nI (LA z_)))), (x6, .inl (cI, 2000, .inl (fun z_ => nI (LL z_)))), (x7, .inl (cI, 9, .inl (fun z_ => nI (PT z_))))] sz)) (va_A [(m0, .inr (6, [.int (nI N), .ref x1, .int (nI K), .ref x2, .ref x3, .ref x4, .int (nI lo), .ref x5, .ref x6, .ref x7, .ref x8, .int (nI ns), .int (nI nd), .ref x9, .ref y1, .ref y2, .int (nI rm), .ref y3, .ref y4, .ref y5, .ref y6, .ref y7, .int (nI pls)])), (x1, .inl (cI, 8, .inl (fun z_ => nI (T z_)))), (x2, .inl (cI, 16, .inl (fun z_ => nI (F z_)))), (x3, .inl (cI, 16, .inl (fun z_ => nI (G z_)))), (x4, .inl (cI, 16, .inl (fun z_ => nI (C z_)))), (x5, .inl (cI, 16000, .inl (fun z_ => nI (LA z_)))), (x6, .inl (cI, 2000, .inl (fun z_ => nI (LL z_)))), (x7, .inl (cI, 9, .inl (fun z_ => nI (PT z_))))] sz)) 0 0 (va_A [(m0, .inr (6, [.int (nI N), .ref x1, .int (nI K), .ref x2, .ref x3, .ref x4, .int (nI lo), .ref x5, .ref x6, .ref x7, .ref x8, .int (nI ns), .int (nI nd), .ref x9, .ref y1, .ref y2, .int (nI rm), .ref y3, .ref y4, .ref y5, .ref y6, .ref y7, .int (nI pls)])), (x1, .inl (cI, 8, .inl (fun z_ => nI (T z_)))), (x2, .inl (cI, 16, .inl (fun z_ => nI (F z_)))), (x3, .inl (cI, 16, .inl (fun z_ => nI (G z_)))), (x4, .inl (cI, 16, .inl (fun z_ => nI (C z_)))), (x5, .inl (cI, 16000, .inl (fun z_ => nI (LA z_)))), (x6, .inl (cI, 2000, .inl (fun z_ => nI (LL z_)))), (x7, .inl (cI, 9, .inl (fun z_ => nI (PT z_))))] sz) := by
  refine z_met_i (cc := cX6_sum) (maxL := 3) (by decide) rfl (Nat.le_of_ble_eq_true rfl) ?_
  intro p e s m args below meth c Q A ls hx hb hml hown hts hin hA hK hP hD hN hl hRET
  have hown : s.vm.findClass RX6 = some m.cls := hown
  obtain ⟨H, eH⟩ : ∃ H : Heap, H = s.heap := ⟨_, rfl⟩
  rw [← eH] at hP
  obtain ⟨locs, eL⟩ : ∃ z : List Loc, z = [] := ⟨_, rfl⟩
  rw [← eH, ← eL]
  have hS : va_S A s.heap H locs := by rw [eH, eL]; exact va_S.rf
  have hl : lv_has ls 3 [(0, .ref m0), (1, .int (iI z)), (2, .int (nI b))] := hl
  have w99 := hts (.fieldLink RX6 99 "PullCardsModel" "loops" "I") (by decide +kernel)
  have uX6 : ∀ w ∈ wsX60, w ∈ wsX6_sum := by decide +kernel
  refine lv_aload_n hx hb dX6_sum_0 rfl (lv_at hl 0 rfl) ?_
  refine z_callVv (As := []) (rest := []) (wr := [(x1, .inl (cI, 8, .inl (fun z_ => nI (T z_)))), (x4, .inl (cI, 16, .inl (fun z_ => nI (C z_))))]) ⟨hx, hb, hml, hown, hts⟩ (c_X6_find l dC dI cI cJ H.size m0 x1 x2 x3 x4 x5 x6 x7 x8 x9 y1 y2 y3 y4 y5 y6 y7 N K lo ns nd rm pls F G LA LL PT (by first | assumption | omega) (by first | assumption | omega) (by first | assumption | omega) (by first | assumption | omega) (by first | assumption | omega) (by first | assumption | omega) (by first | assumption | omega)) (cwV 0 hts gX6_sum_X6_find rfl rfl rfl (by decide +kernel) ⟨Nat.le_of_ble_eq_true rfl, Nat.le_of_ble_eq_true rfl⟩) hA hK hP hD hS [0, 2, 3, 5, 6, 7] [1, 4] [2, 0, 3, 4, 1, 5, 6, 7] rfl rfl (by decide) (by decide) (by decide) nwA_ok hN (ci := 6) rfl rfl 0 rfl hl.1 (Nat.le_of_ble_eq_true rfl) ⟨Nat.le_refl _, Nat.le_refl _⟩ rfl rfl dX6_sum_1 (fun (u : (Nat → Nat) × (Nat → Nat) × (Nat → Nat) × (Nat)) => [(m0, .inr (6, [.int (nI N), .ref x1, .int (nI K), .ref x2, .ref x3, .ref x4, .int (nI u.2.2.2), .ref x5, .ref x6, .ref x7, .ref x8, .int (nI ns), .int (nI nd), .ref x9, .ref y1, .ref y2, .int (nI rm), .ref y3, .ref y4, .ref y5, .ref y6, .ref y7, .int (nI pls)])), (x1, .inl (cI, 8, .inl (fun z_ => nI (T z_)))), (x2, .inl (cI, 16, .inl (fun z_ => nI (F z_)))), (x3, .inl (cI, 16, .inl (fun z_ => nI (G z_)))), (x4, .inl (cI, 16, .inl (fun z_ => nI (C z_)))), (x5, .inl (cI, 16000, .inl (fun z_ => nI (u.1 z_)))), (x6, .inl (cI, 2000, .inl (fun z_ => nI (u.2.1 z_)))), (x7, .inl (cI, 9, .inl (fun z_ => nI (u.2.2.1 z_))))]) (fun u => rfl) (by decide) (fun u H locs hw hP hD hS => ?_)
  obtain ⟨LA2_1, LL2_1, PT2_1, lo2_1⟩ := u
  have hP : va_P (dC, dI) vwCl [(m0, .inr (6, [.int (nI N), .ref x1, .int (nI K), .ref x2, .ref x3, .ref x4, .int (nI lo2_1), .ref x5, .ref x6, .ref x7, .ref x8, .int (nI ns), .int (nI nd), .ref x9, .ref y1, .ref y2, .int (nI rm), .ref y3, .ref y4, .ref y5, .ref y6, .ref y7, .int (nI pls)])), (x1, .inl (cI, 8, .inl (fun z_ => nI (T z_)))), (x2, .inl (cI, 16, .inl (fun z_ => nI (F z_)))), (x3, .inl (cI, 16, .inl (fun z_ => nI (G z_)))), (x4, .inl (cI, 16, .inl (fun z_ => nI (C z_)))), (x5, .inl (cI, 16000, .inl (fun z_ => nI (LA2_1 z_)))), (x6, .inl (cI, 2000, .inl (fun z_ => nI (LL2_1 z_)))), (x7, .inl (cI, 9, .inl (fun z_ => nI (PT2_1 z_))))] H := hP
  have hD : va_D A [(m0, .inr (6, [.int (nI N), .ref x1, .int (nI K), .ref x2, .ref x3, .ref x4, .int (nI lo2_1), .ref x5, .ref x6, .ref x7, .ref x8, .int (nI ns), .int (nI nd), .ref x9, .ref y1, .ref y2, .int (nI rm), .ref y3, .ref y4, .ref y5, .ref y6, .ref y7, .int (nI pls)])), (x1, .inl (cI, 8, .inl (fun z_ => nI (T z_)))), (x2, .inl (cI, 16, .inl (fun z_ => nI (F z_)))), (x3, .inl (cI, 16, .inl (fun z_ => nI (G z_)))), (x4, .inl (cI, 16, .inl (fun z_ => nI (C z_)))), (x5, .inl (cI, 16000, .inl (fun z_ => nI (LA2_1 z_)))), (x6, .inl (cI, 2000, .inl (fun z_ => nI (LL2_1 z_)))), (x7, .inl (cI, 9, .inl (fun z_ => nI (PT2_1 z_))))] := hD
  obtain ⟨p1_0, p1_1, p1_2, p1_3, p1_4⟩ := hw
  have p1_0 : sp_hold (sp_all N K F G) lo2_1 LA2_1 LL2_1 := p1_0
  have p1_1 : ∀ i, LA2_1 i < 16 := p1_1
  have p1_2 : ∀ i, LL2_1 i ≤ 8 := p1_2
  have p1_3 : ∀ i, PT2_1 i < 16 := p1_3
  have p1_4 : lo2_1 ≤ 636 := p1_4
  have hlen := p1_0.1
  have b4 := p1_4
  refine lv_iload_n hx hb dX6_sum_4 rfl (lv_at hl 1 rfl) ?_
  refine lv_i2l (v := (lI z)) hx hb dX6_sum_5 (zl_i2l rfl (by omega)) ?_
  refine lv_lconst (v := lN 0) hx hb dX6_sum_6 (by decide) ?_
  refine lv_aload_n hx hb dX6_sum_7 rfl (lv_at hl 0 rfl) ?_
  refine z_get (D := (dC, dI)) (ci := 6) (v := .int (nI lo2_1)) (C := RX6) (T := TX6) (N := 23) hx hb hts uX6 hown hK hP 0 rfl rfl 6 (by decide) w99 rfl rfl dX6_sum_8 ?_
  refine lv_iconst (v := nI 1) hx hb dX6_sum_11 (by decide) ?_
  refine z_isub (v := (iI (((lo2_1 : Nat) : Int) - 1))) hx hb dX6_sum_12 (za_sub (iI_N _) (iI_N _)) ?_
  refine lv_i2l (v := (lI (((lo2_1 : Nat) : Int) - 1))) hx hb dX6_sum_13 (zl_i2l rfl (by omega)) ?_
  refine z_l1 (v := lI 0) (by decide) ?_
  refine z_callSi (As := [.long (lI z), .long (lI 0), .long (lI (((lo2_1 : Nat) : Int) - 1))]) (rest := []) (wr := [(m0, .inr (6, [.int (nI N), .ref x1, .int (nI K), .ref x2, .ref x3, .ref x4, .int (nI lo2_1), .ref x5, .ref x6, .ref x7, .ref x8, .int (nI ns), .int (nI nd), .ref x9, .ref y1, .ref y2, .int (nI rm), .ref y3, .ref y4, .ref y5, .ref y6, .ref y7, .int (nI pls)])), (x1, .inl (cI, 8, .inl (fun z_ => nI (T z_)))), (x2, .inl (cI, 16, .inl (fun z_ => nI (F z_)))), (x3, .inl (cI, 16, .inl (fun z_ => nI (G z_)))), (x4, .inl (cI, 16, .inl (fun z_ => nI (C z_)))), (x5, .inl (cI, 16000, .inl (fun z_ => nI (LA2_1 z_)))), (x6, .inl (cI, 2000, .inl (fun z_ => nI (LL2_1 z_)))), (x7, .inl (cI, 9, .inl (fun z_ => nI (PT2_1 z_))))]) ⟨hx, hb, hml, hown, hts⟩ (c_X6_in l dC dI cI cJ H.size z (0 : Int) (((lo2_1 : Nat) : Int) - 1) (by first | assumption | omega) (by first | assumption | omega) (by first | assumption | omega)) (va_cwS 3 hts gX6_sum_X6_in rfl rfl rfl (by decide +kernel) ⟨Nat.le_of_ble_eq_true rfl, Nat.le_of_ble_eq_true rfl⟩) hA hK hP hD hS [] [0, 1, 2, 3, 4, 5, 6, 7] [0, 1, 2, 3, 4, 5, 6, 7] rfl rfl (by decide) (by decide) (by decide) nwA_ok hN hl.1 (Nat.le_of_ble_eq_true rfl) ⟨Nat.le_refl _, Nat.le_refl _⟩ rfl rfl dX6_sum_14 (fun (u : (Nat)) => [(m0, .inr (6, [.int (nI N), .ref x1, .int (nI K), .ref x2, .ref x3, .ref x4, .int (nI lo2_1), .ref x5, .ref x6, .ref x7, .ref x8, .int (nI ns), .int (nI nd), .ref x9, .ref y1, .ref y2, .int (nI rm), .ref y3, .ref y4, .ref y5, .ref y6, .ref y7, .int (nI pls)])), (x1, .inl (cI, 8, .inl (fun z_ => nI (T z_)))), (x2, .inl (cI, 16, .inl (fun z_ => nI (F z_)))), (x3, .inl (cI, 16, .inl (fun z_ => nI (G z_)))), (x4, .inl (cI, 16, .inl (fun z_ => nI (C z_)))), (x5, .inl (cI, 16000, .inl (fun z_ => nI (LA2_1 z_)))), (x6, .inl (cI, 2000, .inl (fun z_ => nI (LL2_1 z_)))), (x7, .inl (cI, 9, .inl (fun z_ => nI (PT2_1 z_))))]) (fun u => rfl) (by decide) (fun r_14 u H locs hw hP hD hS => ?_)
  obtain ⟨rv_14, eu⟩ : ∃ z, z = u := ⟨_, rfl⟩
  subst eu
  have hP : va_P (dC, dI) vwCl [(m0, .inr (6, [.int (nI N), .ref x1, .int (nI K), .ref x2, .ref x3, .ref x4, .int (nI lo2_1), .ref x5, .ref x6, .ref x7, .ref x8, .int (nI ns), .int (nI nd), .ref x9, .ref y1, .ref y2, .int (nI rm), .ref y3, .ref y4, .ref y5, .ref y6, .ref y7, .int (nI pls)])), (x1, .inl (cI, 8, .inl (fun z_ => nI (T z_)))), (x2, .inl (cI, 16, .inl (fun z_ => nI (F z_)))), (x3, .inl (cI, 16, .inl (fun z_ => nI (G z_)))), (x4, .inl (cI, 16, .inl (fun z_ => nI (C z_)))), (x5, .inl (cI, 16000, .inl (fun z_ => nI (LA2_1 z_)))), (x6, .inl (cI, 2000, .inl (fun z_ => nI (LL2_1 z_)))), (x7, .inl (cI, 9, .inl (fun z_ => nI (PT2_1 z_))))] H := hP
  have hD : va_D A [(m0, .inr (6, [.int (nI N), .ref x1, .int (nI K), .ref x2, .ref x3, .ref x4, .int (nI lo2_1), .ref x5, .ref x6, .ref x7, .ref x8, .int (nI ns), .int (nI nd), .ref x9, .ref y1, .ref y2, .int (nI rm), .ref y3, .ref y4, .ref y5, .ref y6, .ref y7, .int (nI pls)])), (x1, .inl (cI, 8, .inl (fun z_ => nI (T z_)))), (x2, .inl (cI, 16, .inl (fun z_ => nI (F z_)))), (x3, .inl (cI, 16, .inl (fun z_ => nI (G z_)))), (x4, .inl (cI, 16, .inl (fun z_ => nI (C z_)))), (x5, .inl (cI, 16000, .inl (fun z_ => nI (LA2_1 z_)))), (x6, .inl (cI, 2000, .inl (fun z_ => nI (LL2_1 z_)))), (x7, .inl (cI, 9, .inl (fun z_ => nI (PT2_1 z_))))] := hD
  obtain ⟨er, p14_0⟩ := hw
  have p14_0 : (rv_14 = 1 ∧ ((0 : Int) ≤ z ∧ z ≤ (((lo2_1 : Nat) : Int) - 1))) ∨ (rv_14 = 0 ∧ ¬ ((0 : Int) ≤ z ∧ z ≤ (((lo2_1 : Nat) : Int) - 1))) := p14_0
  have er : r_14 = (nI rv_14) := er
  subst er
  rcases p14_0 with ⟨h14, c_14⟩ | ⟨h14, c_14⟩
  · skip
    subst h14
    refine lv_if_ne (tgt := 22) hx hb dX6_sum_17 (by decide) (fun _ => ?_) (fun c_x => absurd c_x (by decide))
    refine lv_iload_n hx hb dX6_sum_22 rfl (lv_at hl 2 rfl) ?_
    refine z_if_eq (tgt := 34) hx hb dX6_sum_23 (by decide) (zcn_eq (a := b) (b := 0) rfl nI_00 (by omega)) (fun c_23 => ?_) (fun c_23 => ?_)
    · skip
      refine lv_aload_n hx hb dX6_sum_34 rfl (lv_at hl 0 rfl) ?_
      refine lv_iload_n hx hb dX6_sum_35 rfl (lv_at hl 1 rfl) ?_
      refine z_c0 (v := nI z.toNat) (z_ZtoN (by first | assumption | omega)) ?_
      refine z_callVi (As := [.int (nI z.toNat)]) (rest := []) (wr := [(x3, .inl (cI, 16, .inl (fun z_ => nI (G z_)))), (x4, .inl (cI, 16, .inl (fun z_ => nI (C z_)))), (x7, .inl (cI, 9, .inl (fun z_ => nI (PT2_1 z_))))]) ⟨hx, hb, hml, hown, hts⟩ (c_X6_timeOf l dC dI cI cJ H.size m0 x1 x2 x3 x4 x5 x6 x7 x8 x9 y1 y2 y3 y4 y5 y6 y7 N K lo2_1 ns nd rm pls T F LA2_1 LL2_1 z.toNat (by first | assumption | omega) (by first | assumption | omega) (by first | assumption | omega) (by first | assumption | omega) (by first | assumption | omega)) (cwV 1 hts gX6_sum_X6_timeOf rfl rfl rfl (by decide +kernel) ⟨Nat.le_of_ble_eq_true rfl, Nat.le_of_ble_eq_true rfl⟩) hA hK hP hD hS [0, 1, 2, 5, 6] [3, 4, 7] [3, 4, 5, 0, 1, 6, 7, 2] rfl rfl (by decide) (by decide) (by decide) nwA_ok hN (ci := 6) rfl rfl 0 rfl hl.1 (Nat.le_of_ble_eq_true rfl) ⟨Nat.le_refl _, Nat.le_refl _⟩ rfl rfl dX6_sum_36 (fun (u : (Nat)) => [(m0, .inr (6, [.int (nI N), .ref x1, .int (nI K), .ref x2, .ref x3, .ref x4, .int (nI lo2_1), .ref x5, .ref x6, .ref x7, .ref x8, .int (nI ns), .int (nI nd), .ref x9, .ref y1, .ref y2, .int (nI rm), .ref y3, .ref y4, .ref y5, .ref y6, .ref y7, .int (nI pls)])), (x1, .inl (cI, 8, .inl (fun z_ => nI (T z_)))), (x2, .inl (cI, 16, .inl (fun z_ => nI (F z_)))), (x3, .inl (cI, 16, .inl (fun z_ => nI (G z_)))), (x4, .inl (cI, 16, .inl (fun z_ => nI (C z_)))), (x5, .inl (cI, 16000, .inl (fun z_ => nI (LA2_1 z_)))), (x6, .inl (cI, 2000, .inl (fun z_ => nI (LL2_1 z_)))), (x7, .inl (cI, 9, .inl (fun z_ => nI (PT2_1 z_))))]) (fun u => rfl) (by decide) (fun r_36 u H locs hw hP hD hS => ?_)
      obtain ⟨rv_36, eu⟩ : ∃ z, z = u := ⟨_, rfl⟩
      subst eu
      have hP : va_P (dC, dI) vwCl [(m0, .inr (6, [.int (nI N), .ref x1, .int (nI K), .ref x2, .ref x3, .ref x4, .int (nI lo2_1), .ref x5, .ref x6, .ref x7, .ref x8, .int (nI ns), .int (nI nd), .ref x9, .ref y1, .ref y2, .int (nI rm), .ref y3, .ref y4, .ref y5, .ref y6, .ref y7, .int (nI pls)])), (x1, .inl (cI, 8, .inl (fun z_ => nI (T z_)))), (x2, .inl (cI, 16, .inl (fun z_ => nI (F z_)))), (x3, .inl (cI, 16, .inl (fun z_ => nI (G z_)))), (x4, .inl (cI, 16, .inl (fun z_ => nI (C z_)))), (x5, .inl (cI, 16000, .inl (fun z_ => nI (LA2_1 z_)))), (x6, .inl (cI, 2000, .inl (fun z_ => nI (LL2_1 z_)))), (x7, .inl (cI, 9, .inl (fun z_ => nI (PT2_1 z_))))] H := hP
      have hD : va_D A [(m0, .inr (6, [.int (nI N), .ref x1, .int (nI K), .ref x2, .ref x3, .ref x4, .int (nI lo2_1), .ref x5, .ref x6, .ref x7, .ref x8, .int (nI ns), .int (nI nd), .ref x9, .ref y1, .ref y2, .int (nI rm), .ref y3, .ref y4, .ref y5, .ref y6, .ref y7, .int (nI pls)])), (x1, .inl (cI, 8, .inl (fun z_ => nI (T z_)))), (x2, .inl (cI, 16, .inl (fun z_ => nI (F z_)))), (x3, .inl (cI, 16, .inl (fun z_ => nI (G z_)))), (x4, .inl (cI, 16, .inl (fun z_ => nI (C z_)))), (x5, .inl (cI, 16000, .inl (fun z_ => nI (LA2_1 z_)))), (x6, .inl (cI, 2000, .inl (fun z_ => nI (LL2_1 z_)))), (x7, .inl (cI, 9, .inl (fun z_ => nI (PT2_1 z_))))] := hD
      obtain ⟨er, p36_0, p36_1⟩ := hw
      have p36_0 : rv_36 = sp_tm T F LA2_1 LL2_1 z.toNat := p36_0
      have p36_1 : rv_36 ≤ 160 := p36_1
      have er : r_36 = (nI rv_36) := er
      subst er
      refine z_c0 (v := iI ((rv_36 : Nat) : Int)) (iI_N _) ?_
      have q_0 : ((rv_36 : Nat) : Int) = if 0 ≤ z ∧ z < ((sp_all N K F G).length : Int) then (if b = 0 then (sp_tmL T F (sp_all N K F G) z.toNat : Int) else (sp_cdL C (sp_all N K F G) z.toNat : Int)) else -1 := by first | rw [if_neg (by omega)] | (rw [if_pos (by omega), if_pos (by omega), ← sp_tm_L p1_0 (by omega), ← p36_0]) | (rw [if_pos (by omega), if_neg (by omega), ← sp_cd_L p1_0 (by omega), ← p28_0])
      have q_1 : ∀ i, LA2_1 i < 16 := by first | assumption | omega
      have q_2 : ∀ i, LL2_1 i ≤ 8 := by first | assumption | omega
      have q_3 : ∀ i, PT2_1 i < 16 := by first | assumption | omega
      exact hRET _ ls H locs ((iI ((rv_36 : Nat) : Int))) (((rv_36 : Nat) : Int), LA2_1, LL2_1, PT2_1, lo2_1) dX6_sum_39 ⟨rfl, q_0, q_1, q_2, q_3⟩ hP hD hS
    · skip
      refine lv_aload_n hx hb dX6_sum_26 rfl (lv_at hl 0 rfl) ?_
      refine lv_iload_n hx hb dX6_sum_27 rfl (lv_at hl 1 rfl) ?_
      refine z_c0 (v := nI z.toNat) (z_ZtoN (by first | assumption | omega)) ?_
      refine z_callVi (As := [.int (nI z.toNat)]) (rest := []) (wr := [(x1, .inl (cI, 8, .inl (fun z_ => nI (T z_)))), (x2, .inl (cI, 16, .inl (fun z_ => nI (F z_)))), (x3, .inl (cI, 16, .inl (fun z_ => nI (G z_)))), (x7, .inl (cI, 9, .inl (fun z_ => nI (PT2_1 z_))))]) ⟨hx, hb, hml, hown, hts⟩ (c_X6_cardsOf l dC dI cI cJ H.size m0 x1 x2 x3 x4 x5 x6 x7 x8 x9 y1 y2 y3 y4 y5 y6 y7 N K lo2_1 ns nd rm pls C LA2_1 LL2_1 z.toNat (by first | assumption | omega) (by first | assumption | omega) (by first | assumption | omega) (by first | assumption | omega)) (cwV 1 hts gX6_sum_X6_cardsOf rfl rfl rfl (by decide +kernel) ⟨Nat.le_of_ble_eq_true rfl, Nat.le_of_ble_eq_true rfl⟩) hA hK hP hD hS [0, 4, 5, 6] [1, 2, 3, 7] [4, 0, 1, 2, 5, 6, 7, 3] rfl rfl (by decide) (by decide) (by decide) nwA_ok hN (ci := 6) rfl rfl 0 rfl hl.1 (Nat.le_of_ble_eq_true rfl) ⟨Nat.le_refl _, Nat.le_refl _⟩ rfl rfl dX6_sum_28 (fun (u : (Nat)) => [(m0, .inr (6, [.int (nI N), .ref x1, .int (nI K), .ref x2, .ref x3, .ref x4, .int (nI lo2_1), .ref x5, .ref x6, .ref x7, .ref x8, .int (nI ns), .int (nI nd), .ref x9, .ref y1, .ref y2, .int (nI rm), .ref y3, .ref y4, .ref y5, .ref y6, .ref y7, .int (nI pls)])), (x1, .inl (cI, 8, .inl (fun z_ => nI (T z_)))), (x2, .inl (cI, 16, .inl (fun z_ => nI (F z_)))), (x3, .inl (cI, 16, .inl (fun z_ => nI (G z_)))), (x4, .inl (cI, 16, .inl (fun z_ => nI (C z_)))), (x5, .inl (cI, 16000, .inl (fun z_ => nI (LA2_1 z_)))), (x6, .inl (cI, 2000, .inl (fun z_ => nI (LL2_1 z_)))), (x7, .inl (cI, 9, .inl (fun z_ => nI (PT2_1 z_))))]) (fun u => rfl) (by decide) (fun r_28 u H locs hw hP hD hS => ?_)
      obtain ⟨rv_28, eu⟩ : ∃ z, z = u := ⟨_, rfl⟩
      subst eu
      have hP : va_P (dC, dI) vwCl [(m0, .inr (6, [.int (nI N), .ref x1, .int (nI K), .ref x2, .ref x3, .ref x4, .int (nI lo2_1), .ref x5, .ref x6, .ref x7, .ref x8, .int (nI ns), .int (nI nd), .ref x9, .ref y1, .ref y2, .int (nI rm), .ref y3, .ref y4, .ref y5, .ref y6, .ref y7, .int (nI pls)])), (x1, .inl (cI, 8, .inl (fun z_ => nI (T z_)))), (x2, .inl (cI, 16, .inl (fun z_ => nI (F z_)))), (x3, .inl (cI, 16, .inl (fun z_ => nI (G z_)))), (x4, .inl (cI, 16, .inl (fun z_ => nI (C z_)))), (x5, .inl (cI, 16000, .inl (fun z_ => nI (LA2_1 z_)))), (x6, .inl (cI, 2000, .inl (fun z_ => nI (LL2_1 z_)))), (x7, .inl (cI, 9, .inl (fun z_ => nI (PT2_1 z_))))] H := hP
      have hD : va_D A [(m0, .inr (6, [.int (nI N), .ref x1, .int (nI K), .ref x2, .ref x3, .ref x4, .int (nI lo2_1), .ref x5, .ref x6, .ref x7, .ref x8, .int (nI ns), .int (nI nd), .ref x9, .ref y1, .ref y2, .int (nI rm), .ref y3, .ref y4, .ref y5, .ref y6, .ref y7, .int (nI pls)])), (x1, .inl (cI, 8, .inl (fun z_ => nI (T z_)))), (x2, .inl (cI, 16, .inl (fun z_ => nI (F z_)))), (x3, .inl (cI, 16, .inl (fun z_ => nI (G z_)))), (x4, .inl (cI, 16, .inl (fun z_ => nI (C z_)))), (x5, .inl (cI, 16000, .inl (fun z_ => nI (LA2_1 z_)))), (x6, .inl (cI, 2000, .inl (fun z_ => nI (LL2_1 z_)))), (x7, .inl (cI, 9, .inl (fun z_ => nI (PT2_1 z_))))] := hD
      obtain ⟨er, p28_0, p28_1⟩ := hw
      have p28_0 : rv_28 = sp_cd C LA2_1 LL2_1 z.toNat := p28_0
      have p28_1 : rv_28 ≤ 72 := p28_1
      have er : r_28 = (nI rv_28) := er
      subst er
      refine lv_goto (tgt := 39) hx hb dX6_sum_31 (by decide) ?_
      refine z_c0 (v := iI ((rv_28 : Nat) : Int)) (iI_N _) ?_
      have q_0 : ((rv_28 : Nat) : Int) = if 0 ≤ z ∧ z < ((sp_all N K F G).length : Int) then (if b = 0 then (sp_tmL T F (sp_all N K F G) z.toNat : Int) else (sp_cdL C (sp_all N K F G) z.toNat : Int)) else -1 := by first | rw [if_neg (by omega)] | (rw [if_pos (by omega), if_pos (by omega), ← sp_tm_L p1_0 (by omega), ← p36_0]) | (rw [if_pos (by omega), if_neg (by omega), ← sp_cd_L p1_0 (by omega), ← p28_0])
      have q_1 : ∀ i, LA2_1 i < 16 := by first | assumption | omega
      have q_2 : ∀ i, LL2_1 i ≤ 8 := by first | assumption | omega
      have q_3 : ∀ i, PT2_1 i < 16 := by first | assumption | omega
      exact hRET _ ls H locs ((iI ((rv_28 : Nat) : Int))) (((rv_28 : Nat) : Int), LA2_1, LL2_1, PT2_1, lo2_1) dX6_sum_39 ⟨rfl, q_0, q_1, q_2, q_3⟩ hP hD hS
  · skip
    subst h14
    refine lv_if_ne (tgt := 22) hx hb dX6_sum_17 (by decide) (fun c_x => absurd c_x (by decide)) (fun _ => ?_)
    refine lv_iconst (v := iI (-1)) hx hb dX6_sum_20 (by decide) ?_
    have q_0 : (-1 : Int) = if 0 ≤ z ∧ z < ((sp_all N K F G).length : Int) then (if b = 0 then (sp_tmL T F (sp_all N K F G) z.toNat : Int) else (sp_cdL C (sp_all N K F G) z.toNat : Int)) else -1 := by first | rw [if_neg (by omega)] | (rw [if_pos (by omega), if_pos (by omega), ← sp_tm_L p1_0 (by omega), ← p36_0]) | (rw [if_pos (by omega), if_neg (by omega), ← sp_cd_L p1_0 (by omega), ← p28_0])
    have q_1 : ∀ i, LA2_1 i < 16 := by first | assumption | omega
    have q_2 : ∀ i, LL2_1 i ≤ 8 := by first | assumption | omega
    have q_3 : ∀ i, PT2_1 i < 16 := by first | assumption | omega
    exact hRET _ ls H locs ((iI (-1))) ((-1 : Int), LA2_1, LL2_1, PT2_1, lo2_1) dX6_sum_21 ⟨rfl, q_0, q_1, q_2, q_3⟩ hP hD hS

set_option maxHeartbeats 4000000 in
set_option maxRecDepth 100000 in
theorem c_X6_slow (l : Launch) (dC : Nat → ClassId) (dI : Nat → Nat → Nat) (cI cJ : ClassId) (sz : Nat) (m0 : Nat) (x1 : Nat) (x2 : Nat) (x3 : Nat) (x4 : Nat) (x5 : Nat) (x6 : Nat) (x7 : Nat) (x8 : Nat) (x9 : Nat) (y1 : Nat) (y2 : Nat) (y3 : Nat) (y4 : Nat) (y5 : Nat) (y6 : Nat) (y7 : Nat) (N : Nat) (K : Nat) (lo : Nat) (ns : Nat) (nd : Nat) (rm : Nat) (pls : Nat) (T : Nat → Nat) (F : Nat → Nat) (C : Nat → Nat) (LA : Nat → Nat) (LL : Nat → Nat) (blo : lo ≤ 636) (bLA : ∀ i, LA i < 16) (bLL : ∀ i, LL i ≤ 8) (bF : ∀ a, F a < 8) (bT : ∀ i, T i ≤ 20) (bC : ∀ a, C a ≤ 9) (htm : ∀ q, q < lo → 0 < (sp_tm T F LA LL) q) : Met l yX6_slow wsX6_slow (zR 1 0 0 23) (va_Pc [.ref m0] (zP (dC, dI) [(cI, .int), (cJ, .long)] [(m0, .inr (6, [.int (nI N), .ref x1, .int (nI K), .ref x2, .ref x3, .ref x4, .int (nI lo), .ref x5, .ref x6, .ref x7, .ref x8, .int (nI ns), .int (nI nd), .ref x9, .ref y1, .ref y2, .int (nI rm), .ref y3, .ref y4, .ref y5, .ref y6, .ref y7, .int (nI pls)])), (x1, .inl (cI, 8, .inl (fun z_ => nI (T z_)))), (x2, .inl (cI, 16, .inl (fun z_ => nI (F z_)))), (x4, .inl (cI, 16, .inl (fun z_ => nI (C z_)))), (x5, .inl (cI, 16000, .inl (fun z_ => nI (LA z_)))), (x6, .inl (cI, 2000, .inl (fun z_ => nI (LL z_))))] sz nwA)) (va_Qi (fun (r : Int32) (u : (Int)) => r = (iI u) ∧ (u = (sp_sl (sp_tm T F LA LL) (sp_cd C LA LL) lo).1)) (zB (dC, dI) (fun (u : (Int)) => [(m0, .inr (6, [.int (nI N), .ref x1, .int (nI K), .ref x2, .ref x3, .ref x4, .int (nI lo), .ref x5, .ref x6, .ref x7, .ref x8, .int (nI ns), .int (nI nd), .ref x9, .ref y1, .ref y2, .int (nI rm), .ref y3, .ref y4, .ref y5, .ref y6, .ref y7, .int (nI pls)])), (x1, .inl (cI, 8, .inl (fun z_ => nI (T z_)))), (x2, .inl (cI, 16, .inl (fun z_ => nI (F z_)))), (x4, .inl (cI, 16, .inl (fun z_ => nI (C z_)))), (x5, .inl (cI, 16000, .inl (fun z_ => nI (LA z_)))), (x6, .inl (cI, 2000, .inl (fun z_ => nI (LL z_))))]) (va_A [(m0, .inr (6, [.int (nI N), .ref x1, .int (nI K), .ref x2, .ref x3, .ref x4, .int (nI lo), .ref x5, .ref x6, .ref x7, .ref x8, .int (nI ns), .int (nI nd), .ref x9, .ref y1, .ref y2, .int (nI rm), .ref y3, .ref y4, .ref y5, .ref y6, .ref y7, .int (nI pls)])), (x1, .inl (cI, 8, .inl (fun z_ => nI (T z_)))), (x2, .inl (cI, 16, .inl (fun z_ => nI (F z_)))), (x4, .inl (cI, 16, .inl (fun z_ => nI (C z_)))), (x5, .inl (cI, 16000, .inl (fun z_ => nI (LA z_)))), (x6, .inl (cI, 2000, .inl (fun z_ => nI (LL z_))))] sz)) (va_A [(m0, .inr (6, [.int (nI N), .ref x1, .int (nI K), .ref x2, .ref x3, .ref x4, .int (nI lo), .ref x5, .ref x6, .ref x7, .ref x8, .int (nI ns), .int (nI nd), .ref x9, .ref y1, .ref y2, .int (nI rm), .ref y3, .ref y4, .ref y5, .ref y6, .ref y7, .int (nI pls)])), (x1, .inl (cI, 8, .inl (fun z_ => nI (T z_)))), (x2, .inl (cI, 16, .inl (fun z_ => nI (F z_)))), (x4, .inl (cI, 16, .inl (fun z_ => nI (C z_)))), (x5, .inl (cI, 16000, .inl (fun z_ => nI (LA z_)))), (x6, .inl (cI, 2000, .inl (fun z_ => nI (LL z_))))] sz)) 0 0 (va_A [(m0, .inr (6, [.int (nI N), .ref x1, .int (nI K), .ref x2, .ref x3, .ref x4, .int (nI lo), .ref x5, .ref x6, .ref x7, .ref x8, .int (nI ns), .int (nI nd), .ref x9, .ref y1, .ref y2, .int (nI rm), .ref y3, .ref y4, .ref y5, .ref y6, .ref y7, .int (nI pls)])), (x1, .inl (cI, 8, .inl (fun z_ => nI (T z_)))), (x2, .inl (cI, 16, .inl (fun z_ => nI (F z_)))), (x4, .inl (cI, 16, .inl (fun z_ => nI (C z_)))), (x5, .inl (cI, 16000, .inl (fun z_ => nI (LA z_)))), (x6, .inl (cI, 2000, .inl (fun z_ => nI (LL z_))))] sz) := by
  refine z_met_i (cc := cX6_slow) (maxL := 3) (by decide) rfl (Nat.le_of_ble_eq_true rfl) ?_
  intro p e s m args below meth c Q A ls hx hb hml hown hts hin hA hK hP hD hN hl hRET
  have hown : s.vm.findClass RX6 = some m.cls := hown
  obtain ⟨H, eH⟩ : ∃ H : Heap, H = s.heap := ⟨_, rfl⟩
  rw [← eH] at hP
  obtain ⟨locs, eL⟩ : ∃ z : List Loc, z = [] := ⟨_, rfl⟩
  rw [← eH, ← eL]
  have hS : va_S A s.heap H locs := by rw [eH, eL]; exact va_S.rf
  have hl : lv_has ls 3 [(0, .ref m0)] := hl
  have w99 := hts (.fieldLink RX6 99 "PullCardsModel" "loops" "I") (by decide +kernel)
  have uX6 : ∀ w ∈ wsX60, w ∈ wsX6_slow := by decide +kernel
  refine lv_bipush (v := iI (-9)) hx hb dX6_slow_0 (by decide) ?_
  refine lv_istore_n (lv' := [(1, .int (iI (-9))), (0, .ref m0)]) hx hb dX6_slow_2 rfl hl (by decide) rfl (fun ls hl => ?_)
  refine lv_iconst (v := nI 0) hx hb dX6_slow_3 (by decide) ?_
  refine lv_istore_n (lv' := [(2, .int (nI 0)), (1, .int (iI (-9))), (0, .ref m0)]) hx hb dX6_slow_4 rfl hl (by decide) rfl (fun ls hl => ?_)
  have L5 : ∀ (n5 : Nat) (j : Nat) (b : Int), (lo - j) < n5 → (j ≤ lo) → (b = (sp_sl (sp_tm T F LA LL) (sp_cd C LA LL) j).1) → (b = -9 ∨ (0 ≤ b ∧ b < j ∧ (sp_sl (sp_tm T F LA LL) (sp_cd C LA LL) j).2.1 = (sp_tm T F LA LL) b.toNat ∧ (sp_sl (sp_tm T F LA LL) (sp_cd C LA LL) j).2.2 = (sp_cd C LA LL) b.toNat)) → (b = -9 → (sp_sl (sp_tm T F LA LL) (sp_cd C LA LL) j).2.1 = 0 ∧ (sp_sl (sp_tm T F LA LL) (sp_cd C LA LL) j).2.2 = 1) → (0 < (sp_sl (sp_tm T F LA LL) (sp_cd C LA LL) j).2.2) → ∀ (H : Heap) (locs : List Loc), va_P (dC, dI) vwCl [(m0, .inr (6, [.int (nI N), .ref x1, .int (nI K), .ref x2, .ref x3, .ref x4, .int (nI lo), .ref x5, .ref x6, .ref x7, .ref x8, .int (nI ns), .int (nI nd), .ref x9, .ref y1, .ref y2, .int (nI rm), .ref y3, .ref y4, .ref y5, .ref y6, .ref y7, .int (nI pls)])), (x1, .inl (cI, 8, .inl (fun z_ => nI (T z_)))), (x2, .inl (cI, 16, .inl (fun z_ => nI (F z_)))), (x4, .inl (cI, 16, .inl (fun z_ => nI (C z_)))), (x5, .inl (cI, 16000, .inl (fun z_ => nI (LA z_)))), (x6, .inl (cI, 2000, .inl (fun z_ => nI (LL z_))))] H → va_D A [(m0, .inr (6, [.int (nI N), .ref x1, .int (nI K), .ref x2, .ref x3, .ref x4, .int (nI lo), .ref x5, .ref x6, .ref x7, .ref x8, .int (nI ns), .int (nI nd), .ref x9, .ref y1, .ref y2, .int (nI rm), .ref y3, .ref y4, .ref y5, .ref y6, .ref y7, .int (nI pls)])), (x1, .inl (cI, 8, .inl (fun z_ => nI (T z_)))), (x2, .inl (cI, 16, .inl (fun z_ => nI (F z_)))), (x4, .inl (cI, 16, .inl (fun z_ => nI (C z_)))), (x5, .inl (cI, 16000, .inl (fun z_ => nI (LA z_)))), (x6, .inl (cI, 2000, .inl (fun z_ => nI (LL z_))))] → va_S A s.heap H locs → ∀ (ls : Array Slot), lv_has ls 3 [(0, .ref m0), (1, .int (iI b)), (2, .int (nI j))] → W p l e (zR 1 0 0 23) s m args below meth c H locs 0 0 Q (F0 m 5 ls []) := by
    intro n5
    induction n5 with
    | zero => intro j b hn; exact absurd hn (Nat.not_lt_zero _)
    | succ n5 ih =>
      intro j b hn i1 i2 i3 i4 i5 H locs hP hD hS ls hl
      have ih5 := ih
      have hn5 := hn
      clear ih hn
      refine lv_iload_n hx hb dX6_slow_5 rfl (lv_at hl 2 rfl) ?_
      refine lv_aload_n hx hb dX6_slow_6 rfl (lv_at hl 0 rfl) ?_
      refine z_get (D := (dC, dI)) (ci := 6) (v := .int (nI lo)) (C := RX6) (T := TX6) (N := 23) hx hb hts uX6 hown hK hP 0 rfl rfl 6 (by decide) w99 rfl rfl dX6_slow_7 ?_
      refine z_icmp_ge (tgt := 66) hx hb dX6_slow_10 (by decide) (zcn_le (a := lo) (b := j) rfl rfl (by omega)) (fun c_10 => ?_) (fun c_10 => ?_)
      · skip
        refine lv_iload_n hx hb dX6_slow_66 rfl (lv_at hl 1 rfl) ?_
        have q_0 : b = (sp_sl (sp_tm T F LA LL) (sp_cd C LA LL) lo).1 := by rw [i2, show j = lo from by omega]
        exact hRET _ ls H locs ((iI b)) (b) dX6_slow_67 ⟨rfl, q_0⟩ hP hD hS
      · skip
        refine lv_aload_n hx hb dX6_slow_13 rfl (lv_at hl 0 rfl) ?_
        refine lv_iload_n hx hb dX6_slow_14 rfl (lv_at hl 2 rfl) ?_
        refine z_callVi (As := [.int (nI j)]) (rest := []) (wr := [(x1, .inl (cI, 8, .inl (fun z_ => nI (T z_)))), (x2, .inl (cI, 16, .inl (fun z_ => nI (F z_))))]) ⟨hx, hb, hml, hown, hts⟩ (c_X6_cardsOf l dC dI cI cJ H.size m0 x1 x2 x3 x4 x5 x6 x7 x8 x9 y1 y2 y3 y4 y5 y6 y7 N K lo ns nd rm pls C LA LL j (by first | assumption | omega) (by first | assumption | omega) (by first | assumption | omega) (by first | assumption | omega)) (cwV 1 hts gX6_slow_X6_cardsOf rfl rfl rfl (by decide +kernel) ⟨Nat.le_of_ble_eq_true rfl, Nat.le_of_ble_eq_true rfl⟩) hA hK hP hD hS [0, 3, 4, 5] [1, 2] [2, 0, 1, 3, 4, 5] rfl rfl (by decide) (by decide) (by decide) nwA_ok hN (ci := 6) rfl rfl 0 rfl hl.1 (Nat.le_of_ble_eq_true rfl) ⟨Nat.le_refl _, Nat.le_refl _⟩ rfl rfl dX6_slow_15 (fun (u : (Nat)) => [(m0, .inr (6, [.int (nI N), .ref x1, .int (nI K), .ref x2, .ref x3, .ref x4, .int (nI lo), .ref x5, .ref x6, .ref x7, .ref x8, .int (nI ns), .int (nI nd), .ref x9, .ref y1, .ref y2, .int (nI rm), .ref y3, .ref y4, .ref y5, .ref y6, .ref y7, .int (nI pls)])), (x1, .inl (cI, 8, .inl (fun z_ => nI (T z_)))), (x2, .inl (cI, 16, .inl (fun z_ => nI (F z_)))), (x4, .inl (cI, 16, .inl (fun z_ => nI (C z_)))), (x5, .inl (cI, 16000, .inl (fun z_ => nI (LA z_)))), (x6, .inl (cI, 2000, .inl (fun z_ => nI (LL z_))))]) (fun u => rfl) (by decide) (fun r_15 u H locs hw hP hD hS => ?_)
        obtain ⟨rv_15, eu⟩ : ∃ z, z = u := ⟨_, rfl⟩
        subst eu
        have hP : va_P (dC, dI) vwCl [(m0, .inr (6, [.int (nI N), .ref x1, .int (nI K), .ref x2, .ref x3, .ref x4, .int (nI lo), .ref x5, .ref x6, .ref x7, .ref x8, .int (nI ns), .int (nI nd), .ref x9, .ref y1, .ref y2, .int (nI rm), .ref y3, .ref y4, .ref y5, .ref y6, .ref y7, .int (nI pls)])), (x1, .inl (cI, 8, .inl (fun z_ => nI (T z_)))), (x2, .inl (cI, 16, .inl (fun z_ => nI (F z_)))), (x4, .inl (cI, 16, .inl (fun z_ => nI (C z_)))), (x5, .inl (cI, 16000, .inl (fun z_ => nI (LA z_)))), (x6, .inl (cI, 2000, .inl (fun z_ => nI (LL z_))))] H := hP
        have hD : va_D A [(m0, .inr (6, [.int (nI N), .ref x1, .int (nI K), .ref x2, .ref x3, .ref x4, .int (nI lo), .ref x5, .ref x6, .ref x7, .ref x8, .int (nI ns), .int (nI nd), .ref x9, .ref y1, .ref y2, .int (nI rm), .ref y3, .ref y4, .ref y5, .ref y6, .ref y7, .int (nI pls)])), (x1, .inl (cI, 8, .inl (fun z_ => nI (T z_)))), (x2, .inl (cI, 16, .inl (fun z_ => nI (F z_)))), (x4, .inl (cI, 16, .inl (fun z_ => nI (C z_)))), (x5, .inl (cI, 16000, .inl (fun z_ => nI (LA z_)))), (x6, .inl (cI, 2000, .inl (fun z_ => nI (LL z_))))] := hD
        obtain ⟨er, p15_0, p15_1⟩ := hw
        have p15_0 : rv_15 = sp_cd C LA LL j := p15_0
        have p15_1 : rv_15 ≤ 72 := p15_1
        have er : r_15 = (nI rv_15) := er
        subst er
        refine z_if_ne (tgt := 23) hx hb dX6_slow_18 (by decide) (zcn_eq (a := rv_15) (b := 0) rfl nI_00 (by omega)) (fun c_18 => ?_) (fun c_18 => ?_)
        · skip
          refine lv_iload_n hx hb dX6_slow_23 rfl (lv_at hl 1 rfl) ?_
          refine lv_bipush (v := iI (-9)) hx hb dX6_slow_24 (by decide) ?_
          refine z_icmp_eq (tgt := 54) hx hb dX6_slow_26 (by decide) (zc_eq (a := b) (b := -9) rfl rfl (by omega)) (fun c_26 => ?_) (fun c_26 => ?_)
          · skip
            have es := sp_sl_y (tm := (sp_tm T F LA LL)) (cd := (sp_cd C LA LL)) (l := j) (by rw [(i4 c_26).1, (i4 c_26).2, Nat.zero_mul, Nat.mul_one]; exact htm j (by omega))
            refine lv_iload_n hx hb dX6_slow_54 rfl (lv_at hl 2 rfl) ?_
            refine lv_goto (tgt := 59) hx hb dX6_slow_55 (by decide) ?_
            refine z_c0 (v := iI ((j : Nat) : Int)) (iI_N _) ?_
            refine lv_istore_n (lv' := [(1, .int (iI ((j : Nat) : Int))), (0, .ref m0), (2, .int (nI j))]) hx hb dX6_slow_59 rfl hl (by decide) rfl (fun ls hl => ?_)
            refine lv_iinc (v := (nI (j + 1))) (lv' := [(2, .int (nI (j + 1))), (1, .int (iI ((j : Nat) : Int))), (0, .ref m0)]) hx hb dX6_slow_60 hl (k := 2) rfl (z_incN j 1 (by decide)) (by decide) rfl (fun ls hl => ?_)
            refine lv_goto (tgt := 5) hx hb dX6_slow_63 (by decide) ?_
            have o_i1 : (j + 1) ≤ lo := by first | assumption | omega
            have o_i2 : ((j : Nat) : Int) = (sp_sl (sp_tm T F LA LL) (sp_cd C LA LL) (j + 1)).1 := by first | (rw [es]; done) | (rw [es]; exact i2)
            have o_i3 : ((j : Nat) : Int) = -9 ∨ (0 ≤ ((j : Nat) : Int) ∧ ((j : Nat) : Int) < (j + 1) ∧ (sp_sl (sp_tm T F LA LL) (sp_cd C LA LL) (j + 1)).2.1 = (sp_tm T F LA LL) ((j : Nat) : Int).toNat ∧ (sp_sl (sp_tm T F LA LL) (sp_cd C LA LL) (j + 1)).2.2 = (sp_cd C LA LL) ((j : Nat) : Int).toNat) := by first | (right; exact ⟨i3b.1, by omega, by rw [es]; exact i3b.2.2.1, by rw [es]; exact i3b.2.2.2⟩) | (right; refine ⟨by omega, by omega, ?_, ?_⟩; (rw [es, Int.toNat_natCast]); (rw [es, Int.toNat_natCast]))
            have o_i4 : ((j : Nat) : Int) = -9 → (sp_sl (sp_tm T F LA LL) (sp_cd C LA LL) (j + 1)).2.1 = 0 ∧ (sp_sl (sp_tm T F LA LL) (sp_cd C LA LL) (j + 1)).2.2 = 1 := by intro h; exfalso; omega
            have o_i5 : 0 < (sp_sl (sp_tm T F LA LL) (sp_cd C LA LL) (j + 1)).2.2 := by rw [es]; (first | exact i5 | (show 0 < sp_cd C LA LL j; omega))
            have o_mu : (lo - (j + 1)) < n5 := by omega
            exact ih5 (j + 1) ((j : Nat) : Int) o_mu o_i1 o_i2 o_i3 o_i4 o_i5 H locs hP hD hS ls (lv_sub hl [2, 1, 0] rfl)
          · skip
            have i3b := i3.resolve_left c_26
            refine lv_aload_n hx hb dX6_slow_29 rfl (lv_at hl 0 rfl) ?_
            refine lv_iload_n hx hb dX6_slow_30 rfl (lv_at hl 2 rfl) ?_
            refine z_callVi (As := [.int (nI j)]) (rest := []) (wr := [(x4, .inl (cI, 16, .inl (fun z_ => nI (C z_))))]) ⟨hx, hb, hml, hown, hts⟩ (c_X6_timeOf l dC dI cI cJ H.size m0 x1 x2 x3 x4 x5 x6 x7 x8 x9 y1 y2 y3 y4 y5 y6 y7 N K lo ns nd rm pls T F LA LL j (by first | assumption | omega) (by first | assumption | omega) (by first | assumption | omega) (by first | assumption | omega) (by first | assumption | omega)) (cwV 1 hts gX6_slow_X6_timeOf rfl rfl rfl (by decide +kernel) ⟨Nat.le_of_ble_eq_true rfl, Nat.le_of_ble_eq_true rfl⟩) hA hK hP hD hS [0, 1, 2, 4, 5] [3] [1, 2, 3, 0, 4, 5] rfl rfl (by decide) (by decide) (by decide) nwA_ok hN (ci := 6) rfl rfl 0 rfl hl.1 (Nat.le_of_ble_eq_true rfl) ⟨Nat.le_refl _, Nat.le_refl _⟩ rfl rfl dX6_slow_31 (fun (u : (Nat)) => [(m0, .inr (6, [.int (nI N), .ref x1, .int (nI K), .ref x2, .ref x3, .ref x4, .int (nI lo), .ref x5, .ref x6, .ref x7, .ref x8, .int (nI ns), .int (nI nd), .ref x9, .ref y1, .ref y2, .int (nI rm), .ref y3, .ref y4, .ref y5, .ref y6, .ref y7, .int (nI pls)])), (x1, .inl (cI, 8, .inl (fun z_ => nI (T z_)))), (x2, .inl (cI, 16, .inl (fun z_ => nI (F z_)))), (x4, .inl (cI, 16, .inl (fun z_ => nI (C z_)))), (x5, .inl (cI, 16000, .inl (fun z_ => nI (LA z_)))), (x6, .inl (cI, 2000, .inl (fun z_ => nI (LL z_))))]) (fun u => rfl) (by decide) (fun r_31 u H locs hw hP hD hS => ?_)
            obtain ⟨rv_31, eu⟩ : ∃ z, z = u := ⟨_, rfl⟩
            subst eu
            have hP : va_P (dC, dI) vwCl [(m0, .inr (6, [.int (nI N), .ref x1, .int (nI K), .ref x2, .ref x3, .ref x4, .int (nI lo), .ref x5, .ref x6, .ref x7, .ref x8, .int (nI ns), .int (nI nd), .ref x9, .ref y1, .ref y2, .int (nI rm), .ref y3, .ref y4, .ref y5, .ref y6, .ref y7, .int (nI pls)])), (x1, .inl (cI, 8, .inl (fun z_ => nI (T z_)))), (x2, .inl (cI, 16, .inl (fun z_ => nI (F z_)))), (x4, .inl (cI, 16, .inl (fun z_ => nI (C z_)))), (x5, .inl (cI, 16000, .inl (fun z_ => nI (LA z_)))), (x6, .inl (cI, 2000, .inl (fun z_ => nI (LL z_))))] H := hP
            have hD : va_D A [(m0, .inr (6, [.int (nI N), .ref x1, .int (nI K), .ref x2, .ref x3, .ref x4, .int (nI lo), .ref x5, .ref x6, .ref x7, .ref x8, .int (nI ns), .int (nI nd), .ref x9, .ref y1, .ref y2, .int (nI rm), .ref y3, .ref y4, .ref y5, .ref y6, .ref y7, .int (nI pls)])), (x1, .inl (cI, 8, .inl (fun z_ => nI (T z_)))), (x2, .inl (cI, 16, .inl (fun z_ => nI (F z_)))), (x4, .inl (cI, 16, .inl (fun z_ => nI (C z_)))), (x5, .inl (cI, 16000, .inl (fun z_ => nI (LA z_)))), (x6, .inl (cI, 2000, .inl (fun z_ => nI (LL z_))))] := hD
            obtain ⟨er, p31_0, p31_1⟩ := hw
            have p31_0 : rv_31 = sp_tm T F LA LL j := p31_0
            have p31_1 : rv_31 ≤ 160 := p31_1
            have er : r_31 = (nI rv_31) := er
            subst er
            refine lv_aload_n hx hb dX6_slow_34 rfl (lv_at hl 0 rfl) ?_
            refine lv_iload_n hx hb dX6_slow_35 rfl (lv_at hl 1 rfl) ?_
            refine z_c0 (v := nI b.toNat) (z_ZtoN (by first | assumption | omega)) ?_
            refine z_callVi (As := [.int (nI b.toNat)]) (rest := [.int (nI rv_31)]) (wr := [(x1, .inl (cI, 8, .inl (fun z_ => nI (T z_)))), (x2, .inl (cI, 16, .inl (fun z_ => nI (F z_))))]) ⟨hx, hb, hml, hown, hts⟩ (c_X6_cardsOf l dC dI cI cJ H.size m0 x1 x2 x3 x4 x5 x6 x7 x8 x9 y1 y2 y3 y4 y5 y6 y7 N K lo ns nd rm pls C LA LL b.toNat (by first | assumption | omega) (by first | assumption | omega) (by first | assumption | omega) (by first | assumption | omega)) (cwV 1 hts gX6_slow_X6_cardsOf rfl rfl rfl (by decide +kernel) ⟨Nat.le_of_ble_eq_true rfl, Nat.le_of_ble_eq_true rfl⟩) hA hK hP hD hS [0, 3, 4, 5] [1, 2] [2, 0, 1, 3, 4, 5] rfl rfl (by decide) (by decide) (by decide) nwA_ok hN (ci := 6) rfl rfl 0 rfl hl.1 (Nat.le_of_ble_eq_true rfl) ⟨Nat.le_refl _, Nat.le_refl _⟩ rfl rfl dX6_slow_36 (fun (u : (Nat)) => [(m0, .inr (6, [.int (nI N), .ref x1, .int (nI K), .ref x2, .ref x3, .ref x4, .int (nI lo), .ref x5, .ref x6, .ref x7, .ref x8, .int (nI ns), .int (nI nd), .ref x9, .ref y1, .ref y2, .int (nI rm), .ref y3, .ref y4, .ref y5, .ref y6, .ref y7, .int (nI pls)])), (x1, .inl (cI, 8, .inl (fun z_ => nI (T z_)))), (x2, .inl (cI, 16, .inl (fun z_ => nI (F z_)))), (x4, .inl (cI, 16, .inl (fun z_ => nI (C z_)))), (x5, .inl (cI, 16000, .inl (fun z_ => nI (LA z_)))), (x6, .inl (cI, 2000, .inl (fun z_ => nI (LL z_))))]) (fun u => rfl) (by decide) (fun r_36 u H locs hw hP hD hS => ?_)
            obtain ⟨rv_36, eu⟩ : ∃ z, z = u := ⟨_, rfl⟩
            subst eu
            have hP : va_P (dC, dI) vwCl [(m0, .inr (6, [.int (nI N), .ref x1, .int (nI K), .ref x2, .ref x3, .ref x4, .int (nI lo), .ref x5, .ref x6, .ref x7, .ref x8, .int (nI ns), .int (nI nd), .ref x9, .ref y1, .ref y2, .int (nI rm), .ref y3, .ref y4, .ref y5, .ref y6, .ref y7, .int (nI pls)])), (x1, .inl (cI, 8, .inl (fun z_ => nI (T z_)))), (x2, .inl (cI, 16, .inl (fun z_ => nI (F z_)))), (x4, .inl (cI, 16, .inl (fun z_ => nI (C z_)))), (x5, .inl (cI, 16000, .inl (fun z_ => nI (LA z_)))), (x6, .inl (cI, 2000, .inl (fun z_ => nI (LL z_))))] H := hP
            have hD : va_D A [(m0, .inr (6, [.int (nI N), .ref x1, .int (nI K), .ref x2, .ref x3, .ref x4, .int (nI lo), .ref x5, .ref x6, .ref x7, .ref x8, .int (nI ns), .int (nI nd), .ref x9, .ref y1, .ref y2, .int (nI rm), .ref y3, .ref y4, .ref y5, .ref y6, .ref y7, .int (nI pls)])), (x1, .inl (cI, 8, .inl (fun z_ => nI (T z_)))), (x2, .inl (cI, 16, .inl (fun z_ => nI (F z_)))), (x4, .inl (cI, 16, .inl (fun z_ => nI (C z_)))), (x5, .inl (cI, 16000, .inl (fun z_ => nI (LA z_)))), (x6, .inl (cI, 2000, .inl (fun z_ => nI (LL z_))))] := hD
            obtain ⟨er, p36_0, p36_1⟩ := hw
            have p36_0 : rv_36 = sp_cd C LA LL b.toNat := p36_0
            have p36_1 : rv_36 ≤ 72 := p36_1
            have er : r_36 = (nI rv_36) := er
            subst er
            refine z_imul (v := (nI (rv_31 * rv_36))) hx hb dX6_slow_39 (pk_mul _ _) ?_
            refine lv_aload_n hx hb dX6_slow_40 rfl (lv_at hl 0 rfl) ?_
            refine lv_iload_n hx hb dX6_slow_41 rfl (lv_at hl 1 rfl) ?_
            refine z_c0 (v := nI b.toNat) (z_ZtoN (by first | assumption | omega)) ?_
            refine z_callVi (As := [.int (nI b.toNat)]) (rest := [.int (nI (rv_31 * rv_36))]) (wr := [(x4, .inl (cI, 16, .inl (fun z_ => nI (C z_))))]) ⟨hx, hb, hml, hown, hts⟩ (c_X6_timeOf l dC dI cI cJ H.size m0 x1 x2 x3 x4 x5 x6 x7 x8 x9 y1 y2 y3 y4 y5 y6 y7 N K lo ns nd rm pls T F LA LL b.toNat (by first | assumption | omega) (by first | assumption | omega) (by first | assumption | omega) (by first | assumption | omega) (by first | assumption | omega)) (cwV 1 hts gX6_slow_X6_timeOf rfl rfl rfl (by decide +kernel) ⟨Nat.le_of_ble_eq_true rfl, Nat.le_of_ble_eq_true rfl⟩) hA hK hP hD hS [0, 1, 2, 4, 5] [3] [1, 2, 3, 0, 4, 5] rfl rfl (by decide) (by decide) (by decide) nwA_ok hN (ci := 6) rfl rfl 0 rfl hl.1 (Nat.le_of_ble_eq_true rfl) ⟨Nat.le_refl _, Nat.le_refl _⟩ rfl rfl dX6_slow_42 (fun (u : (Nat)) => [(m0, .inr (6, [.int (nI N), .ref x1, .int (nI K), .ref x2, .ref x3, .ref x4, .int (nI lo), .ref x5, .ref x6, .ref x7, .ref x8, .int (nI ns), .int (nI nd), .ref x9, .ref y1, .ref y2, .int (nI rm), .ref y3, .ref y4, .ref y5, .ref y6, .ref y7, .int (nI pls)])), (x1, .inl (cI, 8, .inl (fun z_ => nI (T z_)))), (x2, .inl (cI, 16, .inl (fun z_ => nI (F z_)))), (x4, .inl (cI, 16, .inl (fun z_ => nI (C z_)))), (x5, .inl (cI, 16000, .inl (fun z_ => nI (LA z_)))), (x6, .inl (cI, 2000, .inl (fun z_ => nI (LL z_))))]) (fun u => rfl) (by decide) (fun r_42 u H locs hw hP hD hS => ?_)
            obtain ⟨rv_42, eu⟩ : ∃ z, z = u := ⟨_, rfl⟩
            subst eu
            have hP : va_P (dC, dI) vwCl [(m0, .inr (6, [.int (nI N), .ref x1, .int (nI K), .ref x2, .ref x3, .ref x4, .int (nI lo), .ref x5, .ref x6, .ref x7, .ref x8, .int (nI ns), .int (nI nd), .ref x9, .ref y1, .ref y2, .int (nI rm), .ref y3, .ref y4, .ref y5, .ref y6, .ref y7, .int (nI pls)])), (x1, .inl (cI, 8, .inl (fun z_ => nI (T z_)))), (x2, .inl (cI, 16, .inl (fun z_ => nI (F z_)))), (x4, .inl (cI, 16, .inl (fun z_ => nI (C z_)))), (x5, .inl (cI, 16000, .inl (fun z_ => nI (LA z_)))), (x6, .inl (cI, 2000, .inl (fun z_ => nI (LL z_))))] H := hP
            have hD : va_D A [(m0, .inr (6, [.int (nI N), .ref x1, .int (nI K), .ref x2, .ref x3, .ref x4, .int (nI lo), .ref x5, .ref x6, .ref x7, .ref x8, .int (nI ns), .int (nI nd), .ref x9, .ref y1, .ref y2, .int (nI rm), .ref y3, .ref y4, .ref y5, .ref y6, .ref y7, .int (nI pls)])), (x1, .inl (cI, 8, .inl (fun z_ => nI (T z_)))), (x2, .inl (cI, 16, .inl (fun z_ => nI (F z_)))), (x4, .inl (cI, 16, .inl (fun z_ => nI (C z_)))), (x5, .inl (cI, 16000, .inl (fun z_ => nI (LA z_)))), (x6, .inl (cI, 2000, .inl (fun z_ => nI (LL z_))))] := hD
            obtain ⟨er, p42_0, p42_1⟩ := hw
            have p42_0 : rv_42 = sp_tm T F LA LL b.toNat := p42_0
            have p42_1 : rv_42 ≤ 160 := p42_1
            have er : r_42 = (nI rv_42) := er
            subst er
            refine lv_aload_n hx hb dX6_slow_45 rfl (lv_at hl 0 rfl) ?_
            refine lv_iload_n hx hb dX6_slow_46 rfl (lv_at hl 2 rfl) ?_
            refine z_callVi (As := [.int (nI j)]) (rest := [.int (nI rv_42), .int (nI (rv_31 * rv_36))]) (wr := [(x1, .inl (cI, 8, .inl (fun z_ => nI (T z_)))), (x2, .inl (cI, 16, .inl (fun z_ => nI (F z_))))]) ⟨hx, hb, hml, hown, hts⟩ (c_X6_cardsOf l dC dI cI cJ H.size m0 x1 x2 x3 x4 x5 x6 x7 x8 x9 y1 y2 y3 y4 y5 y6 y7 N K lo ns nd rm pls C LA LL j (by first | assumption | omega) (by first | assumption | omega) (by first | assumption | omega) (by first | assumption | omega)) (cwV 1 hts gX6_slow_X6_cardsOf rfl rfl rfl (by decide +kernel) ⟨Nat.le_of_ble_eq_true rfl, Nat.le_of_ble_eq_true rfl⟩) hA hK hP hD hS [0, 3, 4, 5] [1, 2] [2, 0, 1, 3, 4, 5] rfl rfl (by decide) (by decide) (by decide) nwA_ok hN (ci := 6) rfl rfl 0 rfl hl.1 (Nat.le_of_ble_eq_true rfl) ⟨Nat.le_refl _, Nat.le_refl _⟩ rfl rfl dX6_slow_47 (fun (u : (Nat)) => [(m0, .inr (6, [.int (nI N), .ref x1, .int (nI K), .ref x2, .ref x3, .ref x4, .int (nI lo), .ref x5, .ref x6, .ref x7, .ref x8, .int (nI ns), .int (nI nd), .ref x9, .ref y1, .ref y2, .int (nI rm), .ref y3, .ref y4, .ref y5, .ref y6, .ref y7, .int (nI pls)])), (x1, .inl (cI, 8, .inl (fun z_ => nI (T z_)))), (x2, .inl (cI, 16, .inl (fun z_ => nI (F z_)))), (x4, .inl (cI, 16, .inl (fun z_ => nI (C z_)))), (x5, .inl (cI, 16000, .inl (fun z_ => nI (LA z_)))), (x6, .inl (cI, 2000, .inl (fun z_ => nI (LL z_))))]) (fun u => rfl) (by decide) (fun r_47 u H locs hw hP hD hS => ?_)
            obtain ⟨rv_47, eu⟩ : ∃ z, z = u := ⟨_, rfl⟩
            subst eu
            have hP : va_P (dC, dI) vwCl [(m0, .inr (6, [.int (nI N), .ref x1, .int (nI K), .ref x2, .ref x3, .ref x4, .int (nI lo), .ref x5, .ref x6, .ref x7, .ref x8, .int (nI ns), .int (nI nd), .ref x9, .ref y1, .ref y2, .int (nI rm), .ref y3, .ref y4, .ref y5, .ref y6, .ref y7, .int (nI pls)])), (x1, .inl (cI, 8, .inl (fun z_ => nI (T z_)))), (x2, .inl (cI, 16, .inl (fun z_ => nI (F z_)))), (x4, .inl (cI, 16, .inl (fun z_ => nI (C z_)))), (x5, .inl (cI, 16000, .inl (fun z_ => nI (LA z_)))), (x6, .inl (cI, 2000, .inl (fun z_ => nI (LL z_))))] H := hP
            have hD : va_D A [(m0, .inr (6, [.int (nI N), .ref x1, .int (nI K), .ref x2, .ref x3, .ref x4, .int (nI lo), .ref x5, .ref x6, .ref x7, .ref x8, .int (nI ns), .int (nI nd), .ref x9, .ref y1, .ref y2, .int (nI rm), .ref y3, .ref y4, .ref y5, .ref y6, .ref y7, .int (nI pls)])), (x1, .inl (cI, 8, .inl (fun z_ => nI (T z_)))), (x2, .inl (cI, 16, .inl (fun z_ => nI (F z_)))), (x4, .inl (cI, 16, .inl (fun z_ => nI (C z_)))), (x5, .inl (cI, 16000, .inl (fun z_ => nI (LA z_)))), (x6, .inl (cI, 2000, .inl (fun z_ => nI (LL z_))))] := hD
            obtain ⟨er, p47_0, p47_1⟩ := hw
            have p47_0 : rv_47 = sp_cd C LA LL j := p47_0
            have p47_1 : rv_47 ≤ 72 := p47_1
            have er : r_47 = (nI rv_47) := er
            subst er
            refine z_imul (v := (nI (rv_42 * rv_47))) hx hb dX6_slow_50 (pk_mul _ _) ?_
            have m1 := Nat.mul_le_mul p31_1 p36_1
            have m2 := Nat.mul_le_mul p42_1 p47_1
            refine z_icmp_le (tgt := 58) hx hb dX6_slow_51 (by decide) (zcn_le (a := rv_31 * rv_36) (b := rv_42 * rv_47) rfl rfl (by omega)) (fun c_51 => ?_) (fun c_51 => ?_)
            · skip
              have es := sp_sl_n (tm := (sp_tm T F LA LL)) (cd := (sp_cd C LA LL)) (l := j) (by rw [i3b.2.2.1, i3b.2.2.2, ← p31_0, ← p36_0, ← p42_0, ← p47_0]; exact c_51)
              refine lv_iload_n hx hb dX6_slow_58 rfl (lv_at hl 1 rfl) ?_
              refine lv_istore_n (lv' := [(1, .int (iI b)), (0, .ref m0), (2, .int (nI j))]) hx hb dX6_slow_59 rfl hl (by decide) rfl (fun ls hl => ?_)
              refine lv_iinc (v := (nI (j + 1))) (lv' := [(2, .int (nI (j + 1))), (1, .int (iI b)), (0, .ref m0)]) hx hb dX6_slow_60 hl (k := 2) rfl (z_incN j 1 (by decide)) (by decide) rfl (fun ls hl => ?_)
              refine lv_goto (tgt := 5) hx hb dX6_slow_63 (by decide) ?_
              have o_i1 : (j + 1) ≤ lo := by first | assumption | omega
              have o_i2 : b = (sp_sl (sp_tm T F LA LL) (sp_cd C LA LL) (j + 1)).1 := by first | (rw [es]; done) | (rw [es]; exact i2)
              have o_i3 : b = -9 ∨ (0 ≤ b ∧ b < (j + 1) ∧ (sp_sl (sp_tm T F LA LL) (sp_cd C LA LL) (j + 1)).2.1 = (sp_tm T F LA LL) b.toNat ∧ (sp_sl (sp_tm T F LA LL) (sp_cd C LA LL) (j + 1)).2.2 = (sp_cd C LA LL) b.toNat) := by first | (right; exact ⟨i3b.1, by omega, by rw [es]; exact i3b.2.2.1, by rw [es]; exact i3b.2.2.2⟩) | (right; refine ⟨by omega, by omega, ?_, ?_⟩; (rw [es, Int.toNat_natCast]); (rw [es, Int.toNat_natCast]))
              have o_i4 : b = -9 → (sp_sl (sp_tm T F LA LL) (sp_cd C LA LL) (j + 1)).2.1 = 0 ∧ (sp_sl (sp_tm T F LA LL) (sp_cd C LA LL) (j + 1)).2.2 = 1 := by intro h; exfalso; omega
              have o_i5 : 0 < (sp_sl (sp_tm T F LA LL) (sp_cd C LA LL) (j + 1)).2.2 := by rw [es]; (first | exact i5 | (show 0 < sp_cd C LA LL j; omega))
              have o_mu : (lo - (j + 1)) < n5 := by omega
              exact ih5 (j + 1) b o_mu o_i1 o_i2 o_i3 o_i4 o_i5 H locs hP hD hS ls (lv_sub hl [2, 1, 0] rfl)
            · skip
              have es := sp_sl_y (tm := (sp_tm T F LA LL)) (cd := (sp_cd C LA LL)) (l := j) (by rw [i3b.2.2.1, i3b.2.2.2, ← p31_0, ← p36_0, ← p42_0, ← p47_0]; omega)
              refine lv_iload_n hx hb dX6_slow_54 rfl (lv_at hl 2 rfl) ?_
              refine lv_goto (tgt := 59) hx hb dX6_slow_55 (by decide) ?_
              refine z_c0 (v := iI ((j : Nat) : Int)) (iI_N _) ?_
              refine lv_istore_n (lv' := [(1, .int (iI ((j : Nat) : Int))), (0, .ref m0), (2, .int (nI j))]) hx hb dX6_slow_59 rfl hl (by decide) rfl (fun ls hl => ?_)
              refine lv_iinc (v := (nI (j + 1))) (lv' := [(2, .int (nI (j + 1))), (1, .int (iI ((j : Nat) : Int))), (0, .ref m0)]) hx hb dX6_slow_60 hl (k := 2) rfl (z_incN j 1 (by decide)) (by decide) rfl (fun ls hl => ?_)
              refine lv_goto (tgt := 5) hx hb dX6_slow_63 (by decide) ?_
              have o_i1 : (j + 1) ≤ lo := by first | assumption | omega
              have o_i2 : ((j : Nat) : Int) = (sp_sl (sp_tm T F LA LL) (sp_cd C LA LL) (j + 1)).1 := by first | (rw [es]; done) | (rw [es]; exact i2)
              have o_i3 : ((j : Nat) : Int) = -9 ∨ (0 ≤ ((j : Nat) : Int) ∧ ((j : Nat) : Int) < (j + 1) ∧ (sp_sl (sp_tm T F LA LL) (sp_cd C LA LL) (j + 1)).2.1 = (sp_tm T F LA LL) ((j : Nat) : Int).toNat ∧ (sp_sl (sp_tm T F LA LL) (sp_cd C LA LL) (j + 1)).2.2 = (sp_cd C LA LL) ((j : Nat) : Int).toNat) := by first | (right; exact ⟨i3b.1, by omega, by rw [es]; exact i3b.2.2.1, by rw [es]; exact i3b.2.2.2⟩) | (right; refine ⟨by omega, by omega, ?_, ?_⟩; (rw [es, Int.toNat_natCast]); (rw [es, Int.toNat_natCast]))
              have o_i4 : ((j : Nat) : Int) = -9 → (sp_sl (sp_tm T F LA LL) (sp_cd C LA LL) (j + 1)).2.1 = 0 ∧ (sp_sl (sp_tm T F LA LL) (sp_cd C LA LL) (j + 1)).2.2 = 1 := by intro h; exfalso; omega
              have o_i5 : 0 < (sp_sl (sp_tm T F LA LL) (sp_cd C LA LL) (j + 1)).2.2 := by rw [es]; (first | exact i5 | (show 0 < sp_cd C LA LL j; omega))
              have o_mu : (lo - (j + 1)) < n5 := by omega
              exact ih5 (j + 1) ((j : Nat) : Int) o_mu o_i1 o_i2 o_i3 o_i4 o_i5 H locs hP hD hS ls (lv_sub hl [2, 1, 0] rfl)
        · skip
          refine lv_iload_n hx hb dX6_slow_21 rfl (lv_at hl 2 rfl) ?_
          refine z_c0 (v := iI ((j : Nat) : Int)) (iI_N _) ?_
          have q_0 : ((j : Nat) : Int) = (sp_sl (sp_tm T F LA LL) (sp_cd C LA LL) lo).1 := by exact (sp_sl_dead2 (by rw [← p15_0]; exact c_18) (htm j (by omega)) i5 (by omega)).symm
          exact hRET _ ls H locs ((iI ((j : Nat) : Int))) (((j : Nat) : Int)) dX6_slow_22 ⟨rfl, q_0⟩ hP hD hS
  have o_i1 : 0 ≤ lo := by first | assumption | omega
  have o_i2 : (-9 : Int) = (sp_sl (sp_tm T F LA LL) (sp_cd C LA LL) 0).1 := by rfl
  have o_i3 : (-9 : Int) = -9 ∨ (0 ≤ (-9 : Int) ∧ (-9 : Int) < 0 ∧ (sp_sl (sp_tm T F LA LL) (sp_cd C LA LL) 0).2.1 = (sp_tm T F LA LL) (-9 : Int).toNat ∧ (sp_sl (sp_tm T F LA LL) (sp_cd C LA LL) 0).2.2 = (sp_cd C LA LL) (-9 : Int).toNat) := by exact Or.inl rfl
  have o_i4 : (-9 : Int) = -9 → (sp_sl (sp_tm T F LA LL) (sp_cd C LA LL) 0).2.1 = 0 ∧ (sp_sl (sp_tm T F LA LL) (sp_cd C LA LL) 0).2.2 = 1 := by intro _; exact ⟨rfl, rfl⟩
  have o_i5 : 0 < (sp_sl (sp_tm T F LA LL) (sp_cd C LA LL) 0).2.2 := by exact Nat.one_pos
  exact L5 ((lo - 0) + 1) 0 (-9 : Int) (Nat.lt_succ_self _) o_i1 o_i2 o_i3 o_i4 o_i5 H locs hP hD hS ls (lv_sub hl [2, 1, 0] rfl)

set_option maxHeartbeats 4000000 in
set_option maxRecDepth 100000 in
theorem c_X6_common (l : Launch) (dC : Nat → ClassId) (dI : Nat → Nat → Nat) (cI cJ : ClassId) (sz : Nat) (a : Nat) (b : Nat) (ba : a ≤ 1125899906842624) (bb : b ≤ 1125899906842624) : Met l yX6_common wsX6_common (zR 0 0 0 0) (va_Pc [.long (lN a), .long (lN b)] (zP (dC, dI) [(cI, .int), (cJ, .long)] [] sz nwA)) (va_Ql (fun (r : Int64) (u : (Nat)) => r = (lN u) ∧ (u = Nat.gcd a b)) (zB (dC, dI) (fun (u : (Nat)) => []) (va_A [] sz)) (va_A [] sz)) 0 0 (va_A [] sz) := by
  refine z_met_l (cc := cX6_common) (maxL := 10) (by decide) rfl (Nat.le_of_ble_eq_true rfl) ?_
  intro p e s m args below meth c Q A ls hx hb hml hown hts hin hA hK hP hD hN hl hRET
  have hown : s.vm.findClass RX6 = some m.cls := hown
  obtain ⟨H, eH⟩ : ∃ H : Heap, H = s.heap := ⟨_, rfl⟩
  rw [← eH] at hP
  obtain ⟨locs, eL⟩ : ∃ z : List Loc, z = [] := ⟨_, rfl⟩
  rw [← eH, ← eL]
  have hS : va_S A s.heap H locs := by rw [eH, eL]; exact va_S.rf
  have hl : lv_has ls 10 [(0, .long (lN a)), (2, .long (lN b))] := hl
  refine lv_lload_n hx hb dX6_common_0 rfl (lv_at hl 0 rfl) ?_
  refine lv_lstore (lv' := [(4, .long (lN a)), (0, .long (lN a)), (2, .long (lN b))]) hx hb dX6_common_1 hl (by decide) rfl (fun ls hl => ?_)
  refine lv_lload_n hx hb dX6_common_3 rfl (lv_at hl 2 rfl) ?_
  refine lv_lstore (lv' := [(6, .long (lN b)), (4, .long (lN a)), (0, .long (lN a)), (2, .long (lN b))]) hx hb dX6_common_4 hl (by decide) rfl (fun ls hl => ?_)
  have L6 : ∀ (n6 : Nat) (x : Nat) (y : Nat), (y) < n6 → (Nat.gcd x y = Nat.gcd a b) → (x ≤ 1125899906842624) → (y ≤ 1125899906842624) → ∀ (H : Heap) (locs : List Loc), va_P (dC, dI) vwCl [] H → va_D A [] → va_S A s.heap H locs → ∀ (ls : Array Slot), lv_has ls 10 [(0, .long (lN a)), (2, .long (lN b)), (4, .long (lN x)), (6, .long (lN y))] → W p l e (zR 0 0 0 0) s m args below meth c H locs 0 0 Q (F0 m 6 ls []) := by
    intro n6
    induction n6 with
    | zero => intro x y hn; exact absurd hn (Nat.not_lt_zero _)
    | succ n6 ih =>
      intro x y hn i3 i4 i5 H locs hP hD hS ls hl
      have ih6 := ih
      have hn6 := hn
      clear ih hn
      refine lv_lload hx hb dX6_common_6 (lv_at hl 3 rfl) ?_
      refine lv_lconst (v := lN 0) hx hb dX6_common_8 (by decide) ?_
      refine W.lcmp hx hb dX6_common_9 ?_
      refine z_if_eq (tgt := 31) hx hb dX6_common_10 (by decide) ((zm_eq _ _).trans (zl_eq (a := ((y : Nat) : Int)) (b := 0) (lI_N _) (lI_N _) (by omega))) (fun c_10 => ?_) (fun c_10 => ?_)
      · skip
        refine lv_lload hx hb dX6_common_31 (lv_at hl 2 rfl) ?_
        have q_0 : x = Nat.gcd a b := by rw [← i3, show y = 0 by omega, Nat.gcd_zero_right]
        exact hRET _ ls H locs ((lN x)) (x) dX6_common_33 ⟨rfl, q_0⟩ hP hD hS
      · skip
        refine lv_lload hx hb dX6_common_13 (lv_at hl 2 rfl) ?_
        refine lv_lload hx hb dX6_common_15 (lv_at hl 3 rfl) ?_
        refine z_lrem (v := lN (x % y)) hx hb dX6_common_17 (zn_lne0 (b := y) rfl (by omega)) (zn_lrem rfl rfl (by omega)) ?_
        have hmod := Nat.mod_lt x (show 0 < y by omega)
        refine lv_lstore (lv' := [(8, .long (lN (x % y))), (0, .long (lN a)), (2, .long (lN b)), (4, .long (lN x)), (6, .long (lN y))]) hx hb dX6_common_18 hl (by decide) rfl (fun ls hl => ?_)
        refine lv_lload hx hb dX6_common_20 (lv_at hl 4 rfl) ?_
        refine lv_lstore (lv' := [(4, .long (lN y)), (8, .long (lN (x % y))), (0, .long (lN a)), (2, .long (lN b)), (6, .long (lN y))]) hx hb dX6_common_22 hl (by decide) rfl (fun ls hl => ?_)
        refine lv_lload hx hb dX6_common_24 (lv_at hl 1 rfl) ?_
        refine lv_lstore (lv' := [(6, .long (lN (x % y))), (4, .long (lN y)), (8, .long (lN (x % y))), (0, .long (lN a)), (2, .long (lN b))]) hx hb dX6_common_26 hl (by decide) rfl (fun ls hl => ?_)
        refine lv_goto (tgt := 6) hx hb dX6_common_28 (by decide) ?_
        have o_i3 : Nat.gcd y (x % y) = Nat.gcd a b := by rw [sp_gcd_s, i3]
        have o_i4 : y ≤ 1125899906842624 := by first | assumption | omega
        have o_i5 : (x % y) ≤ 1125899906842624 := by first | assumption | omega
        have o_mu : ((x % y)) < n6 := by omega
        exact ih6 y (x % y) o_mu o_i3 o_i4 o_i5 H locs hP hD hS ls (lv_sub hl [3, 4, 1, 0] rfl)
  have o_i3 : Nat.gcd a b = Nat.gcd a b := by rfl
  have o_i4 : a ≤ 1125899906842624 := by first | assumption | omega
  have o_i5 : b ≤ 1125899906842624 := by first | assumption | omega
  exact L6 ((b) + 1) a b (Nat.lt_succ_self _) o_i3 o_i4 o_i5 H locs hP hD hS ls (lv_sub hl [2, 3, 1, 0] rfl)

set_option maxHeartbeats 4000000 in
set_option maxRecDepth 100000 in
theorem c_X6_fraction (l : Launch) (dC : Nat → ClassId) (dI : Nat → Nat → Nat) (cI cJ : ClassId) (sz : Nat) (a : Nat) (b : Nat) (uu : Nat) (ba : a ≤ 1125899906842624) (bb : 1 ≤ b ∧ b ≤ 4398046511104) (bu : uu ≤ 1) : Met l yX6_fraction wsX6_fraction (zR 1 0 0 29) (va_Pc [.long (lN a), .long (lN b), .int (nI uu)] (zP (dC, dI) [(cI, .int), (cJ, .long)] [] sz nwA)) (va_Ql (fun (r : Int64) (u : (Nat)) => r = (lN u) ∧ (u = sp_fr a b uu)) (zB (dC, dI) (fun (u : (Nat)) => []) (va_A [] sz)) (va_A [] sz)) 0 0 (va_A [] sz) := by
  refine z_met_l (cc := cX6_fraction) (maxL := 7) (by decide) rfl (Nat.le_of_ble_eq_true rfl) ?_
  intro p e s m args below meth c Q A ls hx hb hml hown hts hin hA hK hP hD hN hl hRET
  have hown : s.vm.findClass RX6 = some m.cls := hown
  obtain ⟨H, eH⟩ : ∃ H : Heap, H = s.heap := ⟨_, rfl⟩
  rw [← eH] at hP
  obtain ⟨locs, eL⟩ : ∃ z : List Loc, z = [] := ⟨_, rfl⟩
  rw [← eH, ← eL]
  have hS : va_S A s.heap H locs := by rw [eH, eL]; exact va_S.rf
  have hl : lv_has ls 7 [(0, .long (lN a)), (2, .long (lN b)), (4, .int (nI uu))] := hl
  have hg1 : 1 ≤ Nat.gcd a b := Nat.gcd_pos_of_pos_right a (by omega)
  have hg2 : Nat.gcd a b ≤ b := Nat.gcd_le_right a (by omega)
  refine lv_lload_n hx hb dX6_fraction_0 rfl (lv_at hl 0 rfl) ?_
  refine lv_lload_n hx hb dX6_fraction_1 rfl (lv_at hl 1 rfl) ?_
  refine z_callSl (As := [.long (lN a), .long (lN b)]) (rest := []) (wr := []) ⟨hx, hb, hml, hown, hts⟩ (c_X6_common l dC dI cI cJ H.size a b (by first | assumption | omega) (by first | assumption | omega)) (va_cwS 2 hts gX6_fraction_X6_common rfl rfl rfl (by decide +kernel) ⟨Nat.le_of_ble_eq_true rfl, Nat.le_of_ble_eq_true rfl⟩) hA hK hP hD hS [] [] [] rfl rfl (by decide) (by decide) (by decide) nwA_ok hN hl.1 (Nat.le_of_ble_eq_true rfl) ⟨Nat.le_refl _, Nat.le_refl _⟩ rfl rfl dX6_fraction_2 (fun (u : (Nat)) => []) (fun u => rfl) (by decide) (fun r_2 u H locs hw hP hD hS => ?_)
  obtain ⟨rv_2, eu⟩ : ∃ z, z = u := ⟨_, rfl⟩
  subst eu
  have hP : va_P (dC, dI) vwCl [] H := hP
  have hD : va_D A [] := hD
  obtain ⟨er, p2_0⟩ := hw
  have p2_0 : rv_2 = Nat.gcd a b := p2_0
  have er : r_2 = (lN rv_2) := er
  subst er
  subst p2_0
  refine lv_lstore (lv' := [(5, .long (lN (Nat.gcd a b))), (0, .long (lN a)), (2, .long (lN b)), (4, .int (nI uu))]) hx hb dX6_fraction_5 hl (by decide) rfl (fun ls hl => ?_)
  refine lv_iload hx hb dX6_fraction_7 (lv_at hl 3 rfl) ?_
  refine z_if_eq (tgt := 19) hx hb dX6_fraction_9 (by decide) (zcn_eq (a := uu) (b := 0) rfl nI_00 (by omega)) (fun c_9 => ?_) (fun c_9 => ?_)
  · skip
    refine lv_lload_n hx hb dX6_fraction_19 rfl (lv_at hl 2 rfl) ?_
    refine lv_lload hx hb dX6_fraction_20 (lv_at hl 0 rfl) ?_
    refine z_ldiv (v := lN (b / (Nat.gcd a b))) hx hb dX6_fraction_22 (zn_lne0 (b := (Nat.gcd a b)) rfl (by omega)) (zn_ldiv rfl rfl (by omega)) ?_
    have q_0 : (b / (Nat.gcd a b)) = sp_fr a b uu := by unfold sp_fr; (repeat (first | rw [if_pos (by omega)] | rw [if_neg (by omega)])); try omega
    exact hRET _ ls H locs ((lN (b / (Nat.gcd a b)))) (b / (Nat.gcd a b)) dX6_fraction_23 ⟨rfl, q_0⟩ hP hD hS
  · skip
    refine lv_lload_n hx hb dX6_fraction_12 rfl (lv_at hl 1 rfl) ?_
    refine lv_lload hx hb dX6_fraction_13 (lv_at hl 0 rfl) ?_
    refine z_ldiv (v := lN (a / (Nat.gcd a b))) hx hb dX6_fraction_15 (zn_lne0 (b := (Nat.gcd a b)) rfl (by omega)) (zn_ldiv rfl rfl (by omega)) ?_
    refine lv_goto (tgt := 23) hx hb dX6_fraction_16 (by decide) ?_
    have q_0 : (a / (Nat.gcd a b)) = sp_fr a b uu := by unfold sp_fr; (repeat (first | rw [if_pos (by omega)] | rw [if_neg (by omega)])); try omega
    exact hRET _ ls H locs ((lN (a / (Nat.gcd a b)))) (a / (Nat.gcd a b)) dX6_fraction_23 ⟨rfl, q_0⟩ hP hD hS

set_option maxHeartbeats 4000000 in
set_option maxRecDepth 100000 in
theorem c_X6_slowest (l : Launch) (dC : Nat → ClassId) (dI : Nat → Nat → Nat) (cI cJ : ClassId) (sz : Nat) (m0 : Nat) (x1 : Nat) (x2 : Nat) (x3 : Nat) (x4 : Nat) (x5 : Nat) (x6 : Nat) (x7 : Nat) (x8 : Nat) (x9 : Nat) (y1 : Nat) (y2 : Nat) (y3 : Nat) (y4 : Nat) (y5 : Nat) (y6 : Nat) (y7 : Nat) (N : Nat) (K : Nat) (lo : Nat) (ns : Nat) (nd : Nat) (rm : Nat) (pls : Nat) (T : Nat → Nat) (F : Nat → Nat) (G : Nat → Nat) (C : Nat → Nat) (LA : Nat → Nat) (LL : Nat → Nat) (PT : Nat → Nat) (bN : N ≤ 8) (bK : K ≤ 16) (bF : ∀ a, F a < 8) (bG : ∀ a, G a < 8) (bLA : ∀ i, LA i < 16) (bLL : ∀ i, LL i ≤ 8) (bPT : ∀ i, PT i < 16) (bT : ∀ i, T i ≤ 20) (bC : ∀ a, C a ≤ 9) (bTP : ∀ a, a < K → 1 ≤ T (F a)) : Met l yX6_slowest wsX6_slowest (zR 2 0 0 50) (va_Pc [.ref m0] (zP (dC, dI) [(cI, .int), (cJ, .long)] [(m0, .inr (6, [.int (nI N), .ref x1, .int (nI K), .ref x2, .ref x3, .ref x4, .int (nI lo), .ref x5, .ref x6, .ref x7, .ref x8, .int (nI ns), .int (nI nd), .ref x9, .ref y1, .ref y2, .int (nI rm), .ref y3, .ref y4, .ref y5, .ref y6, .ref y7, .int (nI pls)])), (x1, .inl (cI, 8, .inl (fun z_ => nI (T z_)))), (x2, .inl (cI, 16, .inl (fun z_ => nI (F z_)))), (x3, .inl (cI, 16, .inl (fun z_ => nI (G z_)))), (x4, .inl (cI, 16, .inl (fun z_ => nI (C z_)))), (x5, .inl (cI, 16000, .inl (fun z_ => nI (LA z_)))), (x6, .inl (cI, 2000, .inl (fun z_ => nI (LL z_)))), (x7, .inl (cI, 9, .inl (fun z_ => nI (PT z_))))] sz nwA)) (va_Qi (fun (r : Int32) (u : (Int) × (Nat → Nat) × (Nat → Nat) × (Nat → Nat) × (Nat)) => r = (iI u.1) ∧ (u.1 = sp_slow T F C (sp_all N K F G)) ∧ (∀ i, u.2.1 i < 16) ∧ (∀ i, u.2.2.1 i ≤ 8) ∧ (∀ i, u.2.2.2.1 i < 16)) (zB (dC, dI) (fun (u : (Int) × (Nat → Nat) × (Nat → Nat) × (Nat → Nat) × (Nat)) => [(m0, .inr (6, [.int (nI N), .ref x1, .int (nI K), .ref x2, .ref x3, .ref x4, .int (nI u.2.2.2.2), .ref x5, .ref x6, .ref x7, .ref x8, .int (nI ns), .int (nI nd), .ref x9, .ref y1, .ref y2, .int (nI rm), .ref y3, .ref y4, .ref y5, .ref y6, .ref y7, .int (nI pls)])), (x1, .inl (cI, 8, .inl (fun z_ => nI (T z_)))), (x2, .inl (cI, 16, .inl (fun z_ => nI (F z_)))), (x3, .inl (cI, 16, .inl (fun z_ => nI (G z_)))), (x4, .inl (cI, 16, .inl (fun z_ => nI (C z_)))), (x5, .inl (cI, 16000, .inl (fun z_ => nI (u.2.1 z_)))), (x6, .inl (cI, 2000, .inl (fun z_ => nI (u.2.2.1 z_)))), (x7, .inl (cI, 9, .inl (fun z_ => nI (u.2.2.2.1 z_))))]) (va_A [(m0, .inr (6, [.int (nI N), .ref x1, .int (nI K), .ref x2, .ref x3, .ref x4, .int (nI lo), .ref x5, .ref x6, .ref x7, .ref x8, .int (nI ns), .int (nI nd), .ref x9, .ref y1, .ref y2, .int (nI rm), .ref y3, .ref y4, .ref y5, .ref y6, .ref y7, .int (nI pls)])), (x1, .inl (cI, 8, .inl (fun z_ => nI (T z_)))), (x2, .inl (cI, 16, .inl (fun z_ => nI (F z_)))), (x3, .inl (cI, 16, .inl (fun z_ => nI (G z_)))), (x4, .inl (cI, 16, .inl (fun z_ => nI (C z_)))), (x5, .inl (cI, 16000, .inl (fun z_ => nI (LA z_)))), (x6, .inl (cI, 2000, .inl (fun z_ => nI (LL z_)))), (x7, .inl (cI, 9, .inl (fun z_ => nI (PT z_))))] sz)) (va_A [(m0, .inr (6, [.int (nI N), .ref x1, .int (nI K), .ref x2, .ref x3, .ref x4, .int (nI lo), .ref x5, .ref x6, .ref x7, .ref x8, .int (nI ns), .int (nI nd), .ref x9, .ref y1, .ref y2, .int (nI rm), .ref y3, .ref y4, .ref y5, .ref y6, .ref y7, .int (nI pls)])), (x1, .inl (cI, 8, .inl (fun z_ => nI (T z_)))), (x2, .inl (cI, 16, .inl (fun z_ => nI (F z_)))), (x3, .inl (cI, 16, .inl (fun z_ => nI (G z_)))), (x4, .inl (cI, 16, .inl (fun z_ => nI (C z_)))), (x5, .inl (cI, 16000, .inl (fun z_ => nI (LA z_)))), (x6, .inl (cI, 2000, .inl (fun z_ => nI (LL z_)))), (x7, .inl (cI, 9, .inl (fun z_ => nI (PT z_))))] sz)) 0 0 (va_A [(m0, .inr (6, [.int (nI N), .ref x1, .int (nI K), .ref x2, .ref x3, .ref x4, .int (nI lo), .ref x5, .ref x6, .ref x7, .ref x8, .int (nI ns), .int (nI nd), .ref x9, .ref y1, .ref y2, .int (nI rm), .ref y3, .ref y4, .ref y5, .ref y6, .ref y7, .int (nI pls)])), (x1, .inl (cI, 8, .inl (fun z_ => nI (T z_)))), (x2, .inl (cI, 16, .inl (fun z_ => nI (F z_)))), (x3, .inl (cI, 16, .inl (fun z_ => nI (G z_)))), (x4, .inl (cI, 16, .inl (fun z_ => nI (C z_)))), (x5, .inl (cI, 16000, .inl (fun z_ => nI (LA z_)))), (x6, .inl (cI, 2000, .inl (fun z_ => nI (LL z_)))), (x7, .inl (cI, 9, .inl (fun z_ => nI (PT z_))))] sz) := by
  refine z_met_i (cc := cX6_slowest) (maxL := 1) (by decide) rfl (Nat.le_of_ble_eq_true rfl) ?_
  intro p e s m args below meth c Q A ls hx hb hml hown hts hin hA hK hP hD hN hl hRET
  have hown : s.vm.findClass RX6 = some m.cls := hown
  obtain ⟨H, eH⟩ : ∃ H : Heap, H = s.heap := ⟨_, rfl⟩
  rw [← eH] at hP
  obtain ⟨locs, eL⟩ : ∃ z : List Loc, z = [] := ⟨_, rfl⟩
  rw [← eH, ← eL]
  have hS : va_S A s.heap H locs := by rw [eH, eL]; exact va_S.rf
  have hl : lv_has ls 1 [(0, .ref m0)] := hl
  refine lv_aload_n hx hb dX6_slowest_0 rfl (lv_at hl 0 rfl) ?_
  refine z_callVv (As := []) (rest := []) (wr := [(x1, .inl (cI, 8, .inl (fun z_ => nI (T z_)))), (x4, .inl (cI, 16, .inl (fun z_ => nI (C z_))))]) ⟨hx, hb, hml, hown, hts⟩ (c_X6_find l dC dI cI cJ H.size m0 x1 x2 x3 x4 x5 x6 x7 x8 x9 y1 y2 y3 y4 y5 y6 y7 N K lo ns nd rm pls F G LA LL PT (by first | assumption | omega) (by first | assumption | omega) (by first | assumption | omega) (by first | assumption | omega) (by first | assumption | omega) (by first | assumption | omega) (by first | assumption | omega)) (cwV 0 hts gX6_slowest_X6_find rfl rfl rfl (by decide +kernel) ⟨Nat.le_of_ble_eq_true rfl, Nat.le_of_ble_eq_true rfl⟩) hA hK hP hD hS [0, 2, 3, 5, 6, 7] [1, 4] [2, 0, 3, 4, 1, 5, 6, 7] rfl rfl (by decide) (by decide) (by decide) nwA_ok hN (ci := 6) rfl rfl 0 rfl hl.1 (Nat.le_of_ble_eq_true rfl) ⟨Nat.le_refl _, Nat.le_refl _⟩ rfl rfl dX6_slowest_1 (fun (u : (Nat → Nat) × (Nat → Nat) × (Nat → Nat) × (Nat)) => [(m0, .inr (6, [.int (nI N), .ref x1, .int (nI K), .ref x2, .ref x3, .ref x4, .int (nI u.2.2.2), .ref x5, .ref x6, .ref x7, .ref x8, .int (nI ns), .int (nI nd), .ref x9, .ref y1, .ref y2, .int (nI rm), .ref y3, .ref y4, .ref y5, .ref y6, .ref y7, .int (nI pls)])), (x1, .inl (cI, 8, .inl (fun z_ => nI (T z_)))), (x2, .inl (cI, 16, .inl (fun z_ => nI (F z_)))), (x3, .inl (cI, 16, .inl (fun z_ => nI (G z_)))), (x4, .inl (cI, 16, .inl (fun z_ => nI (C z_)))), (x5, .inl (cI, 16000, .inl (fun z_ => nI (u.1 z_)))), (x6, .inl (cI, 2000, .inl (fun z_ => nI (u.2.1 z_)))), (x7, .inl (cI, 9, .inl (fun z_ => nI (u.2.2.1 z_))))]) (fun u => rfl) (by decide) (fun u H locs hw hP hD hS => ?_)
  obtain ⟨LA2_1, LL2_1, PT2_1, lo2_1⟩ := u
  have hP : va_P (dC, dI) vwCl [(m0, .inr (6, [.int (nI N), .ref x1, .int (nI K), .ref x2, .ref x3, .ref x4, .int (nI lo2_1), .ref x5, .ref x6, .ref x7, .ref x8, .int (nI ns), .int (nI nd), .ref x9, .ref y1, .ref y2, .int (nI rm), .ref y3, .ref y4, .ref y5, .ref y6, .ref y7, .int (nI pls)])), (x1, .inl (cI, 8, .inl (fun z_ => nI (T z_)))), (x2, .inl (cI, 16, .inl (fun z_ => nI (F z_)))), (x3, .inl (cI, 16, .inl (fun z_ => nI (G z_)))), (x4, .inl (cI, 16, .inl (fun z_ => nI (C z_)))), (x5, .inl (cI, 16000, .inl (fun z_ => nI (LA2_1 z_)))), (x6, .inl (cI, 2000, .inl (fun z_ => nI (LL2_1 z_)))), (x7, .inl (cI, 9, .inl (fun z_ => nI (PT2_1 z_))))] H := hP
  have hD : va_D A [(m0, .inr (6, [.int (nI N), .ref x1, .int (nI K), .ref x2, .ref x3, .ref x4, .int (nI lo2_1), .ref x5, .ref x6, .ref x7, .ref x8, .int (nI ns), .int (nI nd), .ref x9, .ref y1, .ref y2, .int (nI rm), .ref y3, .ref y4, .ref y5, .ref y6, .ref y7, .int (nI pls)])), (x1, .inl (cI, 8, .inl (fun z_ => nI (T z_)))), (x2, .inl (cI, 16, .inl (fun z_ => nI (F z_)))), (x3, .inl (cI, 16, .inl (fun z_ => nI (G z_)))), (x4, .inl (cI, 16, .inl (fun z_ => nI (C z_)))), (x5, .inl (cI, 16000, .inl (fun z_ => nI (LA2_1 z_)))), (x6, .inl (cI, 2000, .inl (fun z_ => nI (LL2_1 z_)))), (x7, .inl (cI, 9, .inl (fun z_ => nI (PT2_1 z_))))] := hD
  obtain ⟨p1_0, p1_1, p1_2, p1_3, p1_4⟩ := hw
  have p1_0 : sp_hold (sp_all N K F G) lo2_1 LA2_1 LL2_1 := p1_0
  have p1_1 : ∀ i, LA2_1 i < 16 := p1_1
  have p1_2 : ∀ i, LL2_1 i ≤ 8 := p1_2
  have p1_3 : ∀ i, PT2_1 i < 16 := p1_3
  have p1_4 : lo2_1 ≤ 636 := p1_4
  have hlen := p1_0.1
  have b4 := p1_4
  have htm : ∀ q, q < lo2_1 → 0 < sp_tm T F LA2_1 LL2_1 q := fun q hq => by rw [sp_tm_L p1_0 hq]; exact sp_tmL_pos (by omega) bTP
  refine lv_aload_n hx hb dX6_slowest_4 rfl (lv_at hl 0 rfl) ?_
  refine z_callVi (As := []) (rest := []) (wr := [(x3, .inl (cI, 16, .inl (fun z_ => nI (G z_)))), (x7, .inl (cI, 9, .inl (fun z_ => nI (PT2_1 z_))))]) ⟨hx, hb, hml, hown, hts⟩ (c_X6_slow l dC dI cI cJ H.size m0 x1 x2 x3 x4 x5 x6 x7 x8 x9 y1 y2 y3 y4 y5 y6 y7 N K lo2_1 ns nd rm pls T F C LA2_1 LL2_1 (by first | assumption | omega) (by first | assumption | omega) (by first | assumption | omega) (by first | assumption | omega) (by first | assumption | omega) (by first | assumption | omega) (by exact htm)) (cwV 0 hts gX6_slowest_X6_slow rfl rfl rfl (by decide +kernel) ⟨Nat.le_of_ble_eq_true rfl, Nat.le_of_ble_eq_true rfl⟩) hA hK hP hD hS [0, 1, 2, 4, 5, 6] [3, 7] [2, 3, 4, 0, 5, 6, 7, 1] rfl rfl (by decide) (by decide) (by decide) nwA_ok hN (ci := 6) rfl rfl 0 rfl hl.1 (Nat.le_of_ble_eq_true rfl) ⟨Nat.le_refl _, Nat.le_refl _⟩ rfl rfl dX6_slowest_5 (fun (u : (Int)) => [(m0, .inr (6, [.int (nI N), .ref x1, .int (nI K), .ref x2, .ref x3, .ref x4, .int (nI lo2_1), .ref x5, .ref x6, .ref x7, .ref x8, .int (nI ns), .int (nI nd), .ref x9, .ref y1, .ref y2, .int (nI rm), .ref y3, .ref y4, .ref y5, .ref y6, .ref y7, .int (nI pls)])), (x1, .inl (cI, 8, .inl (fun z_ => nI (T z_)))), (x2, .inl (cI, 16, .inl (fun z_ => nI (F z_)))), (x3, .inl (cI, 16, .inl (fun z_ => nI (G z_)))), (x4, .inl (cI, 16, .inl (fun z_ => nI (C z_)))), (x5, .inl (cI, 16000, .inl (fun z_ => nI (LA2_1 z_)))), (x6, .inl (cI, 2000, .inl (fun z_ => nI (LL2_1 z_)))), (x7, .inl (cI, 9, .inl (fun z_ => nI (PT2_1 z_))))]) (fun u => rfl) (by decide) (fun r_5 u H locs hw hP hD hS => ?_)
  obtain ⟨rv_5, eu⟩ : ∃ z, z = u := ⟨_, rfl⟩
  subst eu
  have hP : va_P (dC, dI) vwCl [(m0, .inr (6, [.int (nI N), .ref x1, .int (nI K), .ref x2, .ref x3, .ref x4, .int (nI lo2_1), .ref x5, .ref x6, .ref x7, .ref x8, .int (nI ns), .int (nI nd), .ref x9, .ref y1, .ref y2, .int (nI rm), .ref y3, .ref y4, .ref y5, .ref y6, .ref y7, .int (nI pls)])), (x1, .inl (cI, 8, .inl (fun z_ => nI (T z_)))), (x2, .inl (cI, 16, .inl (fun z_ => nI (F z_)))), (x3, .inl (cI, 16, .inl (fun z_ => nI (G z_)))), (x4, .inl (cI, 16, .inl (fun z_ => nI (C z_)))), (x5, .inl (cI, 16000, .inl (fun z_ => nI (LA2_1 z_)))), (x6, .inl (cI, 2000, .inl (fun z_ => nI (LL2_1 z_)))), (x7, .inl (cI, 9, .inl (fun z_ => nI (PT2_1 z_))))] H := hP
  have hD : va_D A [(m0, .inr (6, [.int (nI N), .ref x1, .int (nI K), .ref x2, .ref x3, .ref x4, .int (nI lo2_1), .ref x5, .ref x6, .ref x7, .ref x8, .int (nI ns), .int (nI nd), .ref x9, .ref y1, .ref y2, .int (nI rm), .ref y3, .ref y4, .ref y5, .ref y6, .ref y7, .int (nI pls)])), (x1, .inl (cI, 8, .inl (fun z_ => nI (T z_)))), (x2, .inl (cI, 16, .inl (fun z_ => nI (F z_)))), (x3, .inl (cI, 16, .inl (fun z_ => nI (G z_)))), (x4, .inl (cI, 16, .inl (fun z_ => nI (C z_)))), (x5, .inl (cI, 16000, .inl (fun z_ => nI (LA2_1 z_)))), (x6, .inl (cI, 2000, .inl (fun z_ => nI (LL2_1 z_)))), (x7, .inl (cI, 9, .inl (fun z_ => nI (PT2_1 z_))))] := hD
  obtain ⟨er, p5_0⟩ := hw
  have p5_0 : rv_5 = (sp_sl (sp_tm T F LA2_1 LL2_1) (sp_cd C LA2_1 LL2_1) lo2_1).1 := p5_0
  have er : r_5 = (iI rv_5) := er
  subst er
  have hsl : rv_5 = sp_slow T F C (sp_all N K F G) := by rw [p5_0]; unfold sp_slow; rw [← hlen, sp_sl_cong lo2_1 (fun q hq => sp_tm_L p1_0 hq) (fun q hq => sp_cd_L p1_0 hq)]
  have q_0 : rv_5 = sp_slow T F C (sp_all N K F G) := by exact hsl
  have q_1 : ∀ i, LA2_1 i < 16 := by first | assumption | omega
  have q_2 : ∀ i, LL2_1 i ≤ 8 := by first | assumption | omega
  have q_3 : ∀ i, PT2_1 i < 16 := by first | assumption | omega
  exact hRET _ ls H locs ((iI rv_5)) (rv_5, LA2_1, LL2_1, PT2_1, lo2_1) dX6_slowest_8 ⟨rfl, q_0, q_1, q_2, q_3⟩ hP hD hS

set_option maxHeartbeats 4000000 in
set_option maxRecDepth 100000 in
theorem c_X6_pace (l : Launch) (dC : Nat → ClassId) (dI : Nat → Nat → Nat) (cI cJ : ClassId) (sz : Nat) (m0 : Nat) (x1 : Nat) (x2 : Nat) (x3 : Nat) (x4 : Nat) (x5 : Nat) (x6 : Nat) (x7 : Nat) (x8 : Nat) (x9 : Nat) (y1 : Nat) (y2 : Nat) (y3 : Nat) (y4 : Nat) (y5 : Nat) (y6 : Nat) (y7 : Nat) (N : Nat) (K : Nat) (lo : Nat) (ns : Nat) (nd : Nat) (rm : Nat) (pls : Nat) (T : Nat → Nat) (F : Nat → Nat) (G : Nat → Nat) (C : Nat → Nat) (LA : Nat → Nat) (LL : Nat → Nat) (PT : Nat → Nat) (uu : Nat) (bN : N ≤ 8) (bK : K ≤ 16) (bF : ∀ a, F a < 8) (bG : ∀ a, G a < 8) (bLA : ∀ i, LA i < 16) (bLL : ∀ i, LL i ≤ 8) (bPT : ∀ i, PT i < 16) (bT : ∀ i, T i ≤ 20) (bC : ∀ a, C a ≤ 9) (bTP : ∀ a, a < K → 1 ≤ T (F a)) (bu : uu ≤ 1) : Met l yX6_pace wsX6_pace (zR 2 0 0 55) (va_Pc [.ref m0, .int (nI uu)] (zP (dC, dI) [(cI, .int), (cJ, .long)] [(m0, .inr (6, [.int (nI N), .ref x1, .int (nI K), .ref x2, .ref x3, .ref x4, .int (nI lo), .ref x5, .ref x6, .ref x7, .ref x8, .int (nI ns), .int (nI nd), .ref x9, .ref y1, .ref y2, .int (nI rm), .ref y3, .ref y4, .ref y5, .ref y6, .ref y7, .int (nI pls)])), (x1, .inl (cI, 8, .inl (fun z_ => nI (T z_)))), (x2, .inl (cI, 16, .inl (fun z_ => nI (F z_)))), (x3, .inl (cI, 16, .inl (fun z_ => nI (G z_)))), (x4, .inl (cI, 16, .inl (fun z_ => nI (C z_)))), (x5, .inl (cI, 16000, .inl (fun z_ => nI (LA z_)))), (x6, .inl (cI, 2000, .inl (fun z_ => nI (LL z_)))), (x7, .inl (cI, 9, .inl (fun z_ => nI (PT z_))))] sz nwA)) (va_Ql (fun (r : Int64) (u : (Int) × (Nat → Nat) × (Nat → Nat) × (Nat → Nat) × (Nat)) => r = (lI u.1) ∧ (u.1 = sp_pace T F C (sp_all N K F G) uu) ∧ (∀ i, u.2.1 i < 16) ∧ (∀ i, u.2.2.1 i ≤ 8) ∧ (∀ i, u.2.2.2.1 i < 16)) (zB (dC, dI) (fun (u : (Int) × (Nat → Nat) × (Nat → Nat) × (Nat → Nat) × (Nat)) => [(m0, .inr (6, [.int (nI N), .ref x1, .int (nI K), .ref x2, .ref x3, .ref x4, .int (nI u.2.2.2.2), .ref x5, .ref x6, .ref x7, .ref x8, .int (nI ns), .int (nI nd), .ref x9, .ref y1, .ref y2, .int (nI rm), .ref y3, .ref y4, .ref y5, .ref y6, .ref y7, .int (nI pls)])), (x1, .inl (cI, 8, .inl (fun z_ => nI (T z_)))), (x2, .inl (cI, 16, .inl (fun z_ => nI (F z_)))), (x3, .inl (cI, 16, .inl (fun z_ => nI (G z_)))), (x4, .inl (cI, 16, .inl (fun z_ => nI (C z_)))), (x5, .inl (cI, 16000, .inl (fun z_ => nI (u.2.1 z_)))), (x6, .inl (cI, 2000, .inl (fun z_ => nI (u.2.2.1 z_)))), (x7, .inl (cI, 9, .inl (fun z_ => nI (u.2.2.2.1 z_))))]) (va_A [(m0, .inr (6, [.int (nI N), .ref x1, .int (nI K), .ref x2, .ref x3, .ref x4, .int (nI lo), .ref x5, .ref x6, .ref x7, .ref x8, .int (nI ns), .int (nI nd), .ref x9, .ref y1, .ref y2, .int (nI rm), .ref y3, .ref y4, .ref y5, .ref y6, .ref y7, .int (nI pls)])), (x1, .inl (cI, 8, .inl (fun z_ => nI (T z_)))), (x2, .inl (cI, 16, .inl (fun z_ => nI (F z_)))), (x3, .inl (cI, 16, .inl (fun z_ => nI (G z_)))), (x4, .inl (cI, 16, .inl (fun z_ => nI (C z_)))), (x5, .inl (cI, 16000, .inl (fun z_ => nI (LA z_)))), (x6, .inl (cI, 2000, .inl (fun z_ => nI (LL z_)))), (x7, .inl (cI, 9, .inl (fun z_ => nI (PT z_))))] sz)) (va_A [(m0, .inr (6, [.int (nI N), .ref x1, .int (nI K), .ref x2, .ref x3, .ref x4, .int (nI lo), .ref x5, .ref x6, .ref x7, .ref x8, .int (nI ns), .int (nI nd), .ref x9, .ref y1, .ref y2, .int (nI rm), .ref y3, .ref y4, .ref y5, .ref y6, .ref y7, .int (nI pls)])), (x1, .inl (cI, 8, .inl (fun z_ => nI (T z_)))), (x2, .inl (cI, 16, .inl (fun z_ => nI (F z_)))), (x3, .inl (cI, 16, .inl (fun z_ => nI (G z_)))), (x4, .inl (cI, 16, .inl (fun z_ => nI (C z_)))), (x5, .inl (cI, 16000, .inl (fun z_ => nI (LA z_)))), (x6, .inl (cI, 2000, .inl (fun z_ => nI (LL z_)))), (x7, .inl (cI, 9, .inl (fun z_ => nI (PT z_))))] sz)) 0 0 (va_A [(m0, .inr (6, [.int (nI N), .ref x1, .int (nI K), .ref x2, .ref x3, .ref x4, .int (nI lo), .ref x5, .ref x6, .ref x7, .ref x8, .int (nI ns), .int (nI nd), .ref x9, .ref y1, .ref y2, .int (nI rm), .ref y3, .ref y4, .ref y5, .ref y6, .ref y7, .int (nI pls)])), (x1, .inl (cI, 8, .inl (fun z_ => nI (T z_)))), (x2, .inl (cI, 16, .inl (fun z_ => nI (F z_)))), (x3, .inl (cI, 16, .inl (fun z_ => nI (G z_)))), (x4, .inl (cI, 16, .inl (fun z_ => nI (C z_)))), (x5, .inl (cI, 16000, .inl (fun z_ => nI (LA z_)))), (x6, .inl (cI, 2000, .inl (fun z_ => nI (LL z_)))), (x7, .inl (cI, 9, .inl (fun z_ => nI (PT z_))))] sz) := by
  refine z_met_l (cc := cX6_pace) (maxL := 3) (by decide) rfl (Nat.le_of_ble_eq_true rfl) ?_
  intro p e s m args below meth c Q A ls hx hb hml hown hts hin hA hK hP hD hN hl hRET
  have hown : s.vm.findClass RX6 = some m.cls := hown
  obtain ⟨H, eH⟩ : ∃ H : Heap, H = s.heap := ⟨_, rfl⟩
  rw [← eH] at hP
  obtain ⟨locs, eL⟩ : ∃ z : List Loc, z = [] := ⟨_, rfl⟩
  rw [← eH, ← eL]
  have hS : va_S A s.heap H locs := by rw [eH, eL]; exact va_S.rf
  have hl : lv_has ls 3 [(0, .ref m0), (1, .int (nI uu))] := hl
  refine lv_aload_n hx hb dX6_pace_0 rfl (lv_at hl 0 rfl) ?_
  refine z_callVv (As := []) (rest := []) (wr := [(x1, .inl (cI, 8, .inl (fun z_ => nI (T z_)))), (x4, .inl (cI, 16, .inl (fun z_ => nI (C z_))))]) ⟨hx, hb, hml, hown, hts⟩ (c_X6_find l dC dI cI cJ H.size m0 x1 x2 x3 x4 x5 x6 x7 x8 x9 y1 y2 y3 y4 y5 y6 y7 N K lo ns nd rm pls F G LA LL PT (by first | assumption | omega) (by first | assumption | omega) (by first | assumption | omega) (by first | assumption | omega) (by first | assumption | omega) (by first | assumption | omega) (by first | assumption | omega)) (cwV 0 hts gX6_pace_X6_find rfl rfl rfl (by decide +kernel) ⟨Nat.le_of_ble_eq_true rfl, Nat.le_of_ble_eq_true rfl⟩) hA hK hP hD hS [0, 2, 3, 5, 6, 7] [1, 4] [2, 0, 3, 4, 1, 5, 6, 7] rfl rfl (by decide) (by decide) (by decide) nwA_ok hN (ci := 6) rfl rfl 0 rfl hl.1 (Nat.le_of_ble_eq_true rfl) ⟨Nat.le_refl _, Nat.le_refl _⟩ rfl rfl dX6_pace_1 (fun (u : (Nat → Nat) × (Nat → Nat) × (Nat → Nat) × (Nat)) => [(m0, .inr (6, [.int (nI N), .ref x1, .int (nI K), .ref x2, .ref x3, .ref x4, .int (nI u.2.2.2), .ref x5, .ref x6, .ref x7, .ref x8, .int (nI ns), .int (nI nd), .ref x9, .ref y1, .ref y2, .int (nI rm), .ref y3, .ref y4, .ref y5, .ref y6, .ref y7, .int (nI pls)])), (x1, .inl (cI, 8, .inl (fun z_ => nI (T z_)))), (x2, .inl (cI, 16, .inl (fun z_ => nI (F z_)))), (x3, .inl (cI, 16, .inl (fun z_ => nI (G z_)))), (x4, .inl (cI, 16, .inl (fun z_ => nI (C z_)))), (x5, .inl (cI, 16000, .inl (fun z_ => nI (u.1 z_)))), (x6, .inl (cI, 2000, .inl (fun z_ => nI (u.2.1 z_)))), (x7, .inl (cI, 9, .inl (fun z_ => nI (u.2.2.1 z_))))]) (fun u => rfl) (by decide) (fun u H locs hw hP hD hS => ?_)
  obtain ⟨LA2_1, LL2_1, PT2_1, lo2_1⟩ := u
  have hP : va_P (dC, dI) vwCl [(m0, .inr (6, [.int (nI N), .ref x1, .int (nI K), .ref x2, .ref x3, .ref x4, .int (nI lo2_1), .ref x5, .ref x6, .ref x7, .ref x8, .int (nI ns), .int (nI nd), .ref x9, .ref y1, .ref y2, .int (nI rm), .ref y3, .ref y4, .ref y5, .ref y6, .ref y7, .int (nI pls)])), (x1, .inl (cI, 8, .inl (fun z_ => nI (T z_)))), (x2, .inl (cI, 16, .inl (fun z_ => nI (F z_)))), (x3, .inl (cI, 16, .inl (fun z_ => nI (G z_)))), (x4, .inl (cI, 16, .inl (fun z_ => nI (C z_)))), (x5, .inl (cI, 16000, .inl (fun z_ => nI (LA2_1 z_)))), (x6, .inl (cI, 2000, .inl (fun z_ => nI (LL2_1 z_)))), (x7, .inl (cI, 9, .inl (fun z_ => nI (PT2_1 z_))))] H := hP
  have hD : va_D A [(m0, .inr (6, [.int (nI N), .ref x1, .int (nI K), .ref x2, .ref x3, .ref x4, .int (nI lo2_1), .ref x5, .ref x6, .ref x7, .ref x8, .int (nI ns), .int (nI nd), .ref x9, .ref y1, .ref y2, .int (nI rm), .ref y3, .ref y4, .ref y5, .ref y6, .ref y7, .int (nI pls)])), (x1, .inl (cI, 8, .inl (fun z_ => nI (T z_)))), (x2, .inl (cI, 16, .inl (fun z_ => nI (F z_)))), (x3, .inl (cI, 16, .inl (fun z_ => nI (G z_)))), (x4, .inl (cI, 16, .inl (fun z_ => nI (C z_)))), (x5, .inl (cI, 16000, .inl (fun z_ => nI (LA2_1 z_)))), (x6, .inl (cI, 2000, .inl (fun z_ => nI (LL2_1 z_)))), (x7, .inl (cI, 9, .inl (fun z_ => nI (PT2_1 z_))))] := hD
  obtain ⟨p1_0, p1_1, p1_2, p1_3, p1_4⟩ := hw
  have p1_0 : sp_hold (sp_all N K F G) lo2_1 LA2_1 LL2_1 := p1_0
  have p1_1 : ∀ i, LA2_1 i < 16 := p1_1
  have p1_2 : ∀ i, LL2_1 i ≤ 8 := p1_2
  have p1_3 : ∀ i, PT2_1 i < 16 := p1_3
  have p1_4 : lo2_1 ≤ 636 := p1_4
  have hlen := p1_0.1
  have b4 := p1_4
  have htm : ∀ q, q < lo2_1 → 0 < sp_tm T F LA2_1 LL2_1 q := fun q hq => by rw [sp_tm_L p1_0 hq]; exact sp_tmL_pos (by omega) bTP
  refine lv_aload_n hx hb dX6_pace_4 rfl (lv_at hl 0 rfl) ?_
  refine z_callVi (As := []) (rest := []) (wr := [(x3, .inl (cI, 16, .inl (fun z_ => nI (G z_)))), (x7, .inl (cI, 9, .inl (fun z_ => nI (PT2_1 z_))))]) ⟨hx, hb, hml, hown, hts⟩ (c_X6_slow l dC dI cI cJ H.size m0 x1 x2 x3 x4 x5 x6 x7 x8 x9 y1 y2 y3 y4 y5 y6 y7 N K lo2_1 ns nd rm pls T F C LA2_1 LL2_1 (by first | assumption | omega) (by first | assumption | omega) (by first | assumption | omega) (by first | assumption | omega) (by first | assumption | omega) (by first | assumption | omega) (by exact htm)) (cwV 0 hts gX6_pace_X6_slow rfl rfl rfl (by decide +kernel) ⟨Nat.le_of_ble_eq_true rfl, Nat.le_of_ble_eq_true rfl⟩) hA hK hP hD hS [0, 1, 2, 4, 5, 6] [3, 7] [2, 3, 4, 0, 5, 6, 7, 1] rfl rfl (by decide) (by decide) (by decide) nwA_ok hN (ci := 6) rfl rfl 0 rfl hl.1 (Nat.le_of_ble_eq_true rfl) ⟨Nat.le_refl _, Nat.le_refl _⟩ rfl rfl dX6_pace_5 (fun (u : (Int)) => [(m0, .inr (6, [.int (nI N), .ref x1, .int (nI K), .ref x2, .ref x3, .ref x4, .int (nI lo2_1), .ref x5, .ref x6, .ref x7, .ref x8, .int (nI ns), .int (nI nd), .ref x9, .ref y1, .ref y2, .int (nI rm), .ref y3, .ref y4, .ref y5, .ref y6, .ref y7, .int (nI pls)])), (x1, .inl (cI, 8, .inl (fun z_ => nI (T z_)))), (x2, .inl (cI, 16, .inl (fun z_ => nI (F z_)))), (x3, .inl (cI, 16, .inl (fun z_ => nI (G z_)))), (x4, .inl (cI, 16, .inl (fun z_ => nI (C z_)))), (x5, .inl (cI, 16000, .inl (fun z_ => nI (LA2_1 z_)))), (x6, .inl (cI, 2000, .inl (fun z_ => nI (LL2_1 z_)))), (x7, .inl (cI, 9, .inl (fun z_ => nI (PT2_1 z_))))]) (fun u => rfl) (by decide) (fun r_5 u H locs hw hP hD hS => ?_)
  obtain ⟨rv_5, eu⟩ : ∃ z, z = u := ⟨_, rfl⟩
  subst eu
  have hP : va_P (dC, dI) vwCl [(m0, .inr (6, [.int (nI N), .ref x1, .int (nI K), .ref x2, .ref x3, .ref x4, .int (nI lo2_1), .ref x5, .ref x6, .ref x7, .ref x8, .int (nI ns), .int (nI nd), .ref x9, .ref y1, .ref y2, .int (nI rm), .ref y3, .ref y4, .ref y5, .ref y6, .ref y7, .int (nI pls)])), (x1, .inl (cI, 8, .inl (fun z_ => nI (T z_)))), (x2, .inl (cI, 16, .inl (fun z_ => nI (F z_)))), (x3, .inl (cI, 16, .inl (fun z_ => nI (G z_)))), (x4, .inl (cI, 16, .inl (fun z_ => nI (C z_)))), (x5, .inl (cI, 16000, .inl (fun z_ => nI (LA2_1 z_)))), (x6, .inl (cI, 2000, .inl (fun z_ => nI (LL2_1 z_)))), (x7, .inl (cI, 9, .inl (fun z_ => nI (PT2_1 z_))))] H := hP
  have hD : va_D A [(m0, .inr (6, [.int (nI N), .ref x1, .int (nI K), .ref x2, .ref x3, .ref x4, .int (nI lo2_1), .ref x5, .ref x6, .ref x7, .ref x8, .int (nI ns), .int (nI nd), .ref x9, .ref y1, .ref y2, .int (nI rm), .ref y3, .ref y4, .ref y5, .ref y6, .ref y7, .int (nI pls)])), (x1, .inl (cI, 8, .inl (fun z_ => nI (T z_)))), (x2, .inl (cI, 16, .inl (fun z_ => nI (F z_)))), (x3, .inl (cI, 16, .inl (fun z_ => nI (G z_)))), (x4, .inl (cI, 16, .inl (fun z_ => nI (C z_)))), (x5, .inl (cI, 16000, .inl (fun z_ => nI (LA2_1 z_)))), (x6, .inl (cI, 2000, .inl (fun z_ => nI (LL2_1 z_)))), (x7, .inl (cI, 9, .inl (fun z_ => nI (PT2_1 z_))))] := hD
  obtain ⟨er, p5_0⟩ := hw
  have p5_0 : rv_5 = (sp_sl (sp_tm T F LA2_1 LL2_1) (sp_cd C LA2_1 LL2_1) lo2_1).1 := p5_0
  have er : r_5 = (iI rv_5) := er
  subst er
  have hsl : rv_5 = sp_slow T F C (sp_all N K F G) := by rw [p5_0]; unfold sp_slow; rw [← hlen, sp_sl_cong lo2_1 (fun q hq => sp_tm_L p1_0 hq) (fun q hq => sp_cd_L p1_0 hq)]
  have hsr := sp_sl_rng (tm := sp_tm T F LA2_1 LL2_1) (cd := sp_cd C LA2_1 LL2_1) lo2_1
  rw [← p5_0] at hsr
  refine lv_istore_n (lv' := [(2, .int (iI rv_5)), (0, .ref m0), (1, .int (nI uu))]) hx hb dX6_pace_8 rfl hl (by decide) rfl (fun ls hl => ?_)
  refine lv_iload_n hx hb dX6_pace_9 rfl (lv_at hl 0 rfl) ?_
  refine lv_bipush (v := iI (-9)) hx hb dX6_pace_10 (by decide) ?_
  refine z_icmp_eq (tgt := 23) hx hb dX6_pace_12 (by decide) (zc_eq (a := rv_5) (b := -9) rfl rfl (by omega)) (fun c_12 => ?_) (fun c_12 => ?_)
  · skip
    refine lv_ldc2 (v := (-9 : Int64)) hx hb hown (hts (.constantLong RX6 126 (-9)) (by decide +kernel)) dX6_pace_23 ?_
    refine z_l0 (v := (lI (-9))) (by decide) ?_
    refine lv_goto (tgt := 45) hx hb dX6_pace_26 (by decide) ?_
    have q_0 : (-9 : Int) = sp_pace T F C (sp_all N K F G) uu := by unfold sp_pace; rw [← hsl]; (first | (rw [if_pos (Or.inl c_12)]; done) | (rw [← hcd, ← p17_0, if_pos (Or.inr c_20)]; done) | (rw [← hcd, ← htm2, ← p31_0, ← p37_0, if_neg (by omega), p42_0]; done))
    have q_1 : ∀ i, LA2_1 i < 16 := by first | assumption | omega
    have q_2 : ∀ i, LL2_1 i ≤ 8 := by first | assumption | omega
    have q_3 : ∀ i, PT2_1 i < 16 := by first | assumption | omega
    exact hRET _ ls H locs ((lI (-9))) ((-9 : Int), LA2_1, LL2_1, PT2_1, lo2_1) dX6_pace_45 ⟨rfl, q_0, q_1, q_2, q_3⟩ hP hD hS
  · skip
    refine lv_aload_n hx hb dX6_pace_15 rfl (lv_at hl 1 rfl) ?_
    refine lv_iload_n hx hb dX6_pace_16 rfl (lv_at hl 0 rfl) ?_
    refine z_c0 (v := nI rv_5.toNat) (z_ZtoN (by first | assumption | omega)) ?_
    refine z_callVi (As := [.int (nI rv_5.toNat)]) (rest := []) (wr := [(x1, .inl (cI, 8, .inl (fun z_ => nI (T z_)))), (x2, .inl (cI, 16, .inl (fun z_ => nI (F z_)))), (x3, .inl (cI, 16, .inl (fun z_ => nI (G z_)))), (x7, .inl (cI, 9, .inl (fun z_ => nI (PT2_1 z_))))]) ⟨hx, hb, hml, hown, hts⟩ (c_X6_cardsOf l dC dI cI cJ H.size m0 x1 x2 x3 x4 x5 x6 x7 x8 x9 y1 y2 y3 y4 y5 y6 y7 N K lo2_1 ns nd rm pls C LA2_1 LL2_1 rv_5.toNat (by first | assumption | omega) (by first | assumption | omega) (by first | assumption | omega) (by first | assumption | omega)) (cwV 1 hts gX6_pace_X6_cardsOf rfl rfl rfl (by decide +kernel) ⟨Nat.le_of_ble_eq_true rfl, Nat.le_of_ble_eq_true rfl⟩) hA hK hP hD hS [0, 4, 5, 6] [1, 2, 3, 7] [4, 0, 1, 2, 5, 6, 7, 3] rfl rfl (by decide) (by decide) (by decide) nwA_ok hN (ci := 6) rfl rfl 0 rfl hl.1 (Nat.le_of_ble_eq_true rfl) ⟨Nat.le_refl _, Nat.le_refl _⟩ rfl rfl dX6_pace_17 (fun (u : (Nat)) => [(m0, .inr (6, [.int (nI N), .ref x1, .int (nI K), .ref x2, .ref x3, .ref x4, .int (nI lo2_1), .ref x5, .ref x6, .ref x7, .ref x8, .int (nI ns), .int (nI nd), .ref x9, .ref y1, .ref y2, .int (nI rm), .ref y3, .ref y4, .ref y5, .ref y6, .ref y7, .int (nI pls)])), (x1, .inl (cI, 8, .inl (fun z_ => nI (T z_)))), (x2, .inl (cI, 16, .inl (fun z_ => nI (F z_)))), (x3, .inl (cI, 16, .inl (fun z_ => nI (G z_)))), (x4, .inl (cI, 16, .inl (fun z_ => nI (C z_)))), (x5, .inl (cI, 16000, .inl (fun z_ => nI (LA2_1 z_)))), (x6, .inl (cI, 2000, .inl (fun z_ => nI (LL2_1 z_)))), (x7, .inl (cI, 9, .inl (fun z_ => nI (PT2_1 z_))))]) (fun u => rfl) (by decide) (fun r_17 u H locs hw hP hD hS => ?_)
    obtain ⟨rv_17, eu⟩ : ∃ z, z = u := ⟨_, rfl⟩
    subst eu
    have hP : va_P (dC, dI) vwCl [(m0, .inr (6, [.int (nI N), .ref x1, .int (nI K), .ref x2, .ref x3, .ref x4, .int (nI lo2_1), .ref x5, .ref x6, .ref x7, .ref x8, .int (nI ns), .int (nI nd), .ref x9, .ref y1, .ref y2, .int (nI rm), .ref y3, .ref y4, .ref y5, .ref y6, .ref y7, .int (nI pls)])), (x1, .inl (cI, 8, .inl (fun z_ => nI (T z_)))), (x2, .inl (cI, 16, .inl (fun z_ => nI (F z_)))), (x3, .inl (cI, 16, .inl (fun z_ => nI (G z_)))), (x4, .inl (cI, 16, .inl (fun z_ => nI (C z_)))), (x5, .inl (cI, 16000, .inl (fun z_ => nI (LA2_1 z_)))), (x6, .inl (cI, 2000, .inl (fun z_ => nI (LL2_1 z_)))), (x7, .inl (cI, 9, .inl (fun z_ => nI (PT2_1 z_))))] H := hP
    have hD : va_D A [(m0, .inr (6, [.int (nI N), .ref x1, .int (nI K), .ref x2, .ref x3, .ref x4, .int (nI lo2_1), .ref x5, .ref x6, .ref x7, .ref x8, .int (nI ns), .int (nI nd), .ref x9, .ref y1, .ref y2, .int (nI rm), .ref y3, .ref y4, .ref y5, .ref y6, .ref y7, .int (nI pls)])), (x1, .inl (cI, 8, .inl (fun z_ => nI (T z_)))), (x2, .inl (cI, 16, .inl (fun z_ => nI (F z_)))), (x3, .inl (cI, 16, .inl (fun z_ => nI (G z_)))), (x4, .inl (cI, 16, .inl (fun z_ => nI (C z_)))), (x5, .inl (cI, 16000, .inl (fun z_ => nI (LA2_1 z_)))), (x6, .inl (cI, 2000, .inl (fun z_ => nI (LL2_1 z_)))), (x7, .inl (cI, 9, .inl (fun z_ => nI (PT2_1 z_))))] := hD
    obtain ⟨er, p17_0, p17_1⟩ := hw
    have p17_0 : rv_17 = sp_cd C LA2_1 LL2_1 rv_5.toNat := p17_0
    have p17_1 : rv_17 ≤ 72 := p17_1
    have er : r_17 = (nI rv_17) := er
    subst er
    have hcd := sp_cd_L (C := C) p1_0 (show rv_5.toNat < lo2_1 by omega)
    refine z_if_ne (tgt := 29) hx hb dX6_pace_20 (by decide) (zcn_eq (a := rv_17) (b := 0) rfl nI_00 (by omega)) (fun c_20 => ?_) (fun c_20 => ?_)
    · skip
      refine lv_aload_n hx hb dX6_pace_29 rfl (lv_at hl 1 rfl) ?_
      refine lv_iload_n hx hb dX6_pace_30 rfl (lv_at hl 0 rfl) ?_
      refine z_c0 (v := nI rv_5.toNat) (z_ZtoN (by first | assumption | omega)) ?_
      refine z_callVi (As := [.int (nI rv_5.toNat)]) (rest := []) (wr := [(x3, .inl (cI, 16, .inl (fun z_ => nI (G z_)))), (x4, .inl (cI, 16, .inl (fun z_ => nI (C z_)))), (x7, .inl (cI, 9, .inl (fun z_ => nI (PT2_1 z_))))]) ⟨hx, hb, hml, hown, hts⟩ (c_X6_timeOf l dC dI cI cJ H.size m0 x1 x2 x3 x4 x5 x6 x7 x8 x9 y1 y2 y3 y4 y5 y6 y7 N K lo2_1 ns nd rm pls T F LA2_1 LL2_1 rv_5.toNat (by first | assumption | omega) (by first | assumption | omega) (by first | assumption | omega) (by first | assumption | omega) (by first | assumption | omega)) (cwV 1 hts gX6_pace_X6_timeOf rfl rfl rfl (by decide +kernel) ⟨Nat.le_of_ble_eq_true rfl, Nat.le_of_ble_eq_true rfl⟩) hA hK hP hD hS [0, 1, 2, 5, 6] [3, 4, 7] [3, 4, 5, 0, 1, 6, 7, 2] rfl rfl (by decide) (by decide) (by decide) nwA_ok hN (ci := 6) rfl rfl 0 rfl hl.1 (Nat.le_of_ble_eq_true rfl) ⟨Nat.le_refl _, Nat.le_refl _⟩ rfl rfl dX6_pace_31 (fun (u : (Nat)) => [(m0, .inr (6, [.int (nI N), .ref x1, .int (nI K), .ref x2, .ref x3, .ref x4, .int (nI lo2_1), .ref x5, .ref x6, .ref x7, .ref x8, .int (nI ns), .int (nI nd), .ref x9, .ref y1, .ref y2, .int (nI rm), .ref y3, .ref y4, .ref y5, .ref y6, .ref y7, .int (nI pls)])), (x1, .inl (cI, 8, .inl (fun z_ => nI (T z_)))), (x2, .inl (cI, 16, .inl (fun z_ => nI (F z_)))), (x3, .inl (cI, 16, .inl (fun z_ => nI (G z_)))), (x4, .inl (cI, 16, .inl (fun z_ => nI (C z_)))), (x5, .inl (cI, 16000, .inl (fun z_ => nI (LA2_1 z_)))), (x6, .inl (cI, 2000, .inl (fun z_ => nI (LL2_1 z_)))), (x7, .inl (cI, 9, .inl (fun z_ => nI (PT2_1 z_))))]) (fun u => rfl) (by decide) (fun r_31 u H locs hw hP hD hS => ?_)
      obtain ⟨rv_31, eu⟩ : ∃ z, z = u := ⟨_, rfl⟩
      subst eu
      have hP : va_P (dC, dI) vwCl [(m0, .inr (6, [.int (nI N), .ref x1, .int (nI K), .ref x2, .ref x3, .ref x4, .int (nI lo2_1), .ref x5, .ref x6, .ref x7, .ref x8, .int (nI ns), .int (nI nd), .ref x9, .ref y1, .ref y2, .int (nI rm), .ref y3, .ref y4, .ref y5, .ref y6, .ref y7, .int (nI pls)])), (x1, .inl (cI, 8, .inl (fun z_ => nI (T z_)))), (x2, .inl (cI, 16, .inl (fun z_ => nI (F z_)))), (x3, .inl (cI, 16, .inl (fun z_ => nI (G z_)))), (x4, .inl (cI, 16, .inl (fun z_ => nI (C z_)))), (x5, .inl (cI, 16000, .inl (fun z_ => nI (LA2_1 z_)))), (x6, .inl (cI, 2000, .inl (fun z_ => nI (LL2_1 z_)))), (x7, .inl (cI, 9, .inl (fun z_ => nI (PT2_1 z_))))] H := hP
      have hD : va_D A [(m0, .inr (6, [.int (nI N), .ref x1, .int (nI K), .ref x2, .ref x3, .ref x4, .int (nI lo2_1), .ref x5, .ref x6, .ref x7, .ref x8, .int (nI ns), .int (nI nd), .ref x9, .ref y1, .ref y2, .int (nI rm), .ref y3, .ref y4, .ref y5, .ref y6, .ref y7, .int (nI pls)])), (x1, .inl (cI, 8, .inl (fun z_ => nI (T z_)))), (x2, .inl (cI, 16, .inl (fun z_ => nI (F z_)))), (x3, .inl (cI, 16, .inl (fun z_ => nI (G z_)))), (x4, .inl (cI, 16, .inl (fun z_ => nI (C z_)))), (x5, .inl (cI, 16000, .inl (fun z_ => nI (LA2_1 z_)))), (x6, .inl (cI, 2000, .inl (fun z_ => nI (LL2_1 z_)))), (x7, .inl (cI, 9, .inl (fun z_ => nI (PT2_1 z_))))] := hD
      obtain ⟨er, p31_0, p31_1⟩ := hw
      have p31_0 : rv_31 = sp_tm T F LA2_1 LL2_1 rv_5.toNat := p31_0
      have p31_1 : rv_31 ≤ 160 := p31_1
      have er : r_31 = (nI rv_31) := er
      subst er
      have htm2 := sp_tm_L (T := T) (F := F) p1_0 (show rv_5.toNat < lo2_1 by omega)
      refine lv_i2l (v := (lN rv_31)) hx hb dX6_pace_34 (zl_i2lN rfl (by omega)) ?_
      refine lv_aload_n hx hb dX6_pace_35 rfl (lv_at hl 1 rfl) ?_
      refine lv_iload_n hx hb dX6_pace_36 rfl (lv_at hl 0 rfl) ?_
      refine z_c0 (v := nI rv_5.toNat) (z_ZtoN (by first | assumption | omega)) ?_
      refine z_callVi (As := [.int (nI rv_5.toNat)]) (rest := [.long (lN rv_31)]) (wr := [(x1, .inl (cI, 8, .inl (fun z_ => nI (T z_)))), (x2, .inl (cI, 16, .inl (fun z_ => nI (F z_)))), (x3, .inl (cI, 16, .inl (fun z_ => nI (G z_)))), (x7, .inl (cI, 9, .inl (fun z_ => nI (PT2_1 z_))))]) ⟨hx, hb, hml, hown, hts⟩ (c_X6_cardsOf l dC dI cI cJ H.size m0 x1 x2 x3 x4 x5 x6 x7 x8 x9 y1 y2 y3 y4 y5 y6 y7 N K lo2_1 ns nd rm pls C LA2_1 LL2_1 rv_5.toNat (by first | assumption | omega) (by first | assumption | omega) (by first | assumption | omega) (by first | assumption | omega)) (cwV 1 hts gX6_pace_X6_cardsOf rfl rfl rfl (by decide +kernel) ⟨Nat.le_of_ble_eq_true rfl, Nat.le_of_ble_eq_true rfl⟩) hA hK hP hD hS [0, 4, 5, 6] [1, 2, 3, 7] [4, 0, 1, 2, 5, 6, 7, 3] rfl rfl (by decide) (by decide) (by decide) nwA_ok hN (ci := 6) rfl rfl 0 rfl hl.1 (Nat.le_of_ble_eq_true rfl) ⟨Nat.le_refl _, Nat.le_refl _⟩ rfl rfl dX6_pace_37 (fun (u : (Nat)) => [(m0, .inr (6, [.int (nI N), .ref x1, .int (nI K), .ref x2, .ref x3, .ref x4, .int (nI lo2_1), .ref x5, .ref x6, .ref x7, .ref x8, .int (nI ns), .int (nI nd), .ref x9, .ref y1, .ref y2, .int (nI rm), .ref y3, .ref y4, .ref y5, .ref y6, .ref y7, .int (nI pls)])), (x1, .inl (cI, 8, .inl (fun z_ => nI (T z_)))), (x2, .inl (cI, 16, .inl (fun z_ => nI (F z_)))), (x3, .inl (cI, 16, .inl (fun z_ => nI (G z_)))), (x4, .inl (cI, 16, .inl (fun z_ => nI (C z_)))), (x5, .inl (cI, 16000, .inl (fun z_ => nI (LA2_1 z_)))), (x6, .inl (cI, 2000, .inl (fun z_ => nI (LL2_1 z_)))), (x7, .inl (cI, 9, .inl (fun z_ => nI (PT2_1 z_))))]) (fun u => rfl) (by decide) (fun r_37 u H locs hw hP hD hS => ?_)
      obtain ⟨rv_37, eu⟩ : ∃ z, z = u := ⟨_, rfl⟩
      subst eu
      have hP : va_P (dC, dI) vwCl [(m0, .inr (6, [.int (nI N), .ref x1, .int (nI K), .ref x2, .ref x3, .ref x4, .int (nI lo2_1), .ref x5, .ref x6, .ref x7, .ref x8, .int (nI ns), .int (nI nd), .ref x9, .ref y1, .ref y2, .int (nI rm), .ref y3, .ref y4, .ref y5, .ref y6, .ref y7, .int (nI pls)])), (x1, .inl (cI, 8, .inl (fun z_ => nI (T z_)))), (x2, .inl (cI, 16, .inl (fun z_ => nI (F z_)))), (x3, .inl (cI, 16, .inl (fun z_ => nI (G z_)))), (x4, .inl (cI, 16, .inl (fun z_ => nI (C z_)))), (x5, .inl (cI, 16000, .inl (fun z_ => nI (LA2_1 z_)))), (x6, .inl (cI, 2000, .inl (fun z_ => nI (LL2_1 z_)))), (x7, .inl (cI, 9, .inl (fun z_ => nI (PT2_1 z_))))] H := hP
      have hD : va_D A [(m0, .inr (6, [.int (nI N), .ref x1, .int (nI K), .ref x2, .ref x3, .ref x4, .int (nI lo2_1), .ref x5, .ref x6, .ref x7, .ref x8, .int (nI ns), .int (nI nd), .ref x9, .ref y1, .ref y2, .int (nI rm), .ref y3, .ref y4, .ref y5, .ref y6, .ref y7, .int (nI pls)])), (x1, .inl (cI, 8, .inl (fun z_ => nI (T z_)))), (x2, .inl (cI, 16, .inl (fun z_ => nI (F z_)))), (x3, .inl (cI, 16, .inl (fun z_ => nI (G z_)))), (x4, .inl (cI, 16, .inl (fun z_ => nI (C z_)))), (x5, .inl (cI, 16000, .inl (fun z_ => nI (LA2_1 z_)))), (x6, .inl (cI, 2000, .inl (fun z_ => nI (LL2_1 z_)))), (x7, .inl (cI, 9, .inl (fun z_ => nI (PT2_1 z_))))] := hD
      obtain ⟨er, p37_0, p37_1⟩ := hw
      have p37_0 : rv_37 = sp_cd C LA2_1 LL2_1 rv_5.toNat := p37_0
      have p37_1 : rv_37 ≤ 72 := p37_1
      have er : r_37 = (nI rv_37) := er
      subst er
      refine lv_i2l (v := (lN rv_37)) hx hb dX6_pace_40 (zl_i2lN rfl (by omega)) ?_
      refine lv_iload_n hx hb dX6_pace_41 rfl (lv_at hl 2 rfl) ?_
      refine z_callSl (As := [.long (lN rv_31), .long (lN rv_37), .int (nI uu)]) (rest := []) (wr := [(m0, .inr (6, [.int (nI N), .ref x1, .int (nI K), .ref x2, .ref x3, .ref x4, .int (nI lo2_1), .ref x5, .ref x6, .ref x7, .ref x8, .int (nI ns), .int (nI nd), .ref x9, .ref y1, .ref y2, .int (nI rm), .ref y3, .ref y4, .ref y5, .ref y6, .ref y7, .int (nI pls)])), (x1, .inl (cI, 8, .inl (fun z_ => nI (T z_)))), (x2, .inl (cI, 16, .inl (fun z_ => nI (F z_)))), (x3, .inl (cI, 16, .inl (fun z_ => nI (G z_)))), (x4, .inl (cI, 16, .inl (fun z_ => nI (C z_)))), (x5, .inl (cI, 16000, .inl (fun z_ => nI (LA2_1 z_)))), (x6, .inl (cI, 2000, .inl (fun z_ => nI (LL2_1 z_)))), (x7, .inl (cI, 9, .inl (fun z_ => nI (PT2_1 z_))))]) ⟨hx, hb, hml, hown, hts⟩ (c_X6_fraction l dC dI cI cJ H.size rv_31 rv_37 uu (by first | assumption | omega) (by omega) (by first | assumption | omega)) (va_cwS 3 hts gX6_pace_X6_fraction rfl rfl rfl (by decide +kernel) ⟨Nat.le_of_ble_eq_true rfl, Nat.le_of_ble_eq_true rfl⟩) hA hK hP hD hS [] [0, 1, 2, 3, 4, 5, 6, 7] [0, 1, 2, 3, 4, 5, 6, 7] rfl rfl (by decide) (by decide) (by decide) nwA_ok hN hl.1 (Nat.le_of_ble_eq_true rfl) ⟨Nat.le_refl _, Nat.le_refl _⟩ rfl rfl dX6_pace_42 (fun (u : (Nat)) => [(m0, .inr (6, [.int (nI N), .ref x1, .int (nI K), .ref x2, .ref x3, .ref x4, .int (nI lo2_1), .ref x5, .ref x6, .ref x7, .ref x8, .int (nI ns), .int (nI nd), .ref x9, .ref y1, .ref y2, .int (nI rm), .ref y3, .ref y4, .ref y5, .ref y6, .ref y7, .int (nI pls)])), (x1, .inl (cI, 8, .inl (fun z_ => nI (T z_)))), (x2, .inl (cI, 16, .inl (fun z_ => nI (F z_)))), (x3, .inl (cI, 16, .inl (fun z_ => nI (G z_)))), (x4, .inl (cI, 16, .inl (fun z_ => nI (C z_)))), (x5, .inl (cI, 16000, .inl (fun z_ => nI (LA2_1 z_)))), (x6, .inl (cI, 2000, .inl (fun z_ => nI (LL2_1 z_)))), (x7, .inl (cI, 9, .inl (fun z_ => nI (PT2_1 z_))))]) (fun u => rfl) (by decide) (fun r_42 u H locs hw hP hD hS => ?_)
      obtain ⟨rv_42, eu⟩ : ∃ z, z = u := ⟨_, rfl⟩
      subst eu
      have hP : va_P (dC, dI) vwCl [(m0, .inr (6, [.int (nI N), .ref x1, .int (nI K), .ref x2, .ref x3, .ref x4, .int (nI lo2_1), .ref x5, .ref x6, .ref x7, .ref x8, .int (nI ns), .int (nI nd), .ref x9, .ref y1, .ref y2, .int (nI rm), .ref y3, .ref y4, .ref y5, .ref y6, .ref y7, .int (nI pls)])), (x1, .inl (cI, 8, .inl (fun z_ => nI (T z_)))), (x2, .inl (cI, 16, .inl (fun z_ => nI (F z_)))), (x3, .inl (cI, 16, .inl (fun z_ => nI (G z_)))), (x4, .inl (cI, 16, .inl (fun z_ => nI (C z_)))), (x5, .inl (cI, 16000, .inl (fun z_ => nI (LA2_1 z_)))), (x6, .inl (cI, 2000, .inl (fun z_ => nI (LL2_1 z_)))), (x7, .inl (cI, 9, .inl (fun z_ => nI (PT2_1 z_))))] H := hP
      have hD : va_D A [(m0, .inr (6, [.int (nI N), .ref x1, .int (nI K), .ref x2, .ref x3, .ref x4, .int (nI lo2_1), .ref x5, .ref x6, .ref x7, .ref x8, .int (nI ns), .int (nI nd), .ref x9, .ref y1, .ref y2, .int (nI rm), .ref y3, .ref y4, .ref y5, .ref y6, .ref y7, .int (nI pls)])), (x1, .inl (cI, 8, .inl (fun z_ => nI (T z_)))), (x2, .inl (cI, 16, .inl (fun z_ => nI (F z_)))), (x3, .inl (cI, 16, .inl (fun z_ => nI (G z_)))), (x4, .inl (cI, 16, .inl (fun z_ => nI (C z_)))), (x5, .inl (cI, 16000, .inl (fun z_ => nI (LA2_1 z_)))), (x6, .inl (cI, 2000, .inl (fun z_ => nI (LL2_1 z_)))), (x7, .inl (cI, 9, .inl (fun z_ => nI (PT2_1 z_))))] := hD
      obtain ⟨er, p42_0⟩ := hw
      have p42_0 : rv_42 = sp_fr rv_31 rv_37 uu := p42_0
      have er : r_42 = (lN rv_42) := er
      subst er
      refine z_l0 (v := lI ((rv_42 : Nat) : Int)) (lI_N _) ?_
      have q_0 : ((rv_42 : Nat) : Int) = sp_pace T F C (sp_all N K F G) uu := by unfold sp_pace; rw [← hsl]; (first | (rw [if_pos (Or.inl c_12)]; done) | (rw [← hcd, ← p17_0, if_pos (Or.inr c_20)]; done) | (rw [← hcd, ← htm2, ← p31_0, ← p37_0, if_neg (by omega), p42_0]; done))
      have q_1 : ∀ i, LA2_1 i < 16 := by first | assumption | omega
      have q_2 : ∀ i, LL2_1 i ≤ 8 := by first | assumption | omega
      have q_3 : ∀ i, PT2_1 i < 16 := by first | assumption | omega
      exact hRET _ ls H locs ((lI ((rv_42 : Nat) : Int))) (((rv_42 : Nat) : Int), LA2_1, LL2_1, PT2_1, lo2_1) dX6_pace_45 ⟨rfl, q_0, q_1, q_2, q_3⟩ hP hD hS
    · skip
      refine lv_ldc2 (v := (-9 : Int64)) hx hb hown (hts (.constantLong RX6 126 (-9)) (by decide +kernel)) dX6_pace_23 ?_
      refine z_l0 (v := (lI (-9))) (by decide) ?_
      refine lv_goto (tgt := 45) hx hb dX6_pace_26 (by decide) ?_
      have q_0 : (-9 : Int) = sp_pace T F C (sp_all N K F G) uu := by unfold sp_pace; rw [← hsl]; (first | (rw [if_pos (Or.inl c_12)]; done) | (rw [← hcd, ← p17_0, if_pos (Or.inr c_20)]; done) | (rw [← hcd, ← htm2, ← p31_0, ← p37_0, if_neg (by omega), p42_0]; done))
      have q_1 : ∀ i, LA2_1 i < 16 := by first | assumption | omega
      have q_2 : ∀ i, LL2_1 i ≤ 8 := by first | assumption | omega
      have q_3 : ∀ i, PT2_1 i < 16 := by first | assumption | omega
      exact hRET _ ls H locs ((lI (-9))) ((-9 : Int), LA2_1, LL2_1, PT2_1, lo2_1) dX6_pace_45 ⟨rfl, q_0, q_1, q_2, q_3⟩ hP hD hS

set_option maxHeartbeats 4000000 in
set_option maxRecDepth 100000 in
theorem c_X6_note (l : Launch) (dC : Nat → ClassId) (dI : Nat → Nat → Nat) (cI cJ : ClassId) (sz : Nat) (m0 : Nat) (x1 : Nat) (x2 : Nat) (x3 : Nat) (x4 : Nat) (x5 : Nat) (x6 : Nat) (x7 : Nat) (x8 : Nat) (x9 : Nat) (y1 : Nat) (y2 : Nat) (y3 : Nat) (y4 : Nat) (y5 : Nat) (y6 : Nat) (y7 : Nat) (N : Nat) (K : Nat) (lo : Nat) (ns : Nat) (nd : Nat) (rm : Nat) (pls : Nat) (F : Nat → Nat) (G : Nat → Nat) (C : Nat → Nat) (LA : Nat → Nat) (LL : Nat → Nat) (PT : Nat → Nat) (NT : Nat → Nat) (bN : N ≤ 8) (bK : K ≤ 16) (bF : ∀ a, F a < 8) (bG : ∀ a, G a < 8) (bLA : ∀ i, LA i < 16) (bLL : ∀ i, LL i ≤ 8) (bPT : ∀ i, PT i < 16) (bC : ∀ a, C a ≤ 9) : Met l yX6_note wsX6_note (zR 2 0 0 50) (va_Pc [.ref m0] (zP (dC, dI) [(cI, .int), (cJ, .long)] [(m0, .inr (6, [.int (nI N), .ref x1, .int (nI K), .ref x2, .ref x3, .ref x4, .int (nI lo), .ref x5, .ref x6, .ref x7, .ref x8, .int (nI ns), .int (nI nd), .ref x9, .ref y1, .ref y2, .int (nI rm), .ref y3, .ref y4, .ref y5, .ref y6, .ref y7, .int (nI pls)])), (x2, .inl (cI, 16, .inl (fun z_ => nI (F z_)))), (x3, .inl (cI, 16, .inl (fun z_ => nI (G z_)))), (x4, .inl (cI, 16, .inl (fun z_ => nI (C z_)))), (x5, .inl (cI, 16000, .inl (fun z_ => nI (LA z_)))), (x6, .inl (cI, 2000, .inl (fun z_ => nI (LL z_)))), (x7, .inl (cI, 9, .inl (fun z_ => nI (PT z_)))), (x9, .inl (cI, 2000, .inl (fun z_ => nI (NT z_))))] sz nwA)) (va_Qi (fun (r : Int32) (u : (Nat → Nat) × (Nat → Nat) × (Nat → Nat) × (Nat) × (Nat → Nat) × (Nat)) => r = (nI u.2.2.2.1) ∧ (u.2.2.2.1 = (sp_all N K F G).length) ∧ (∀ i, u.1 i < 16) ∧ (∀ i, u.2.1 i ≤ 8) ∧ (∀ i, u.2.2.1 i < 16) ∧ (u.2.2.2.2.2 = (sp_all N K F G).length) ∧ (∀ q, q < u.2.2.2.2.2 → u.2.2.2.2.1 q = sp_cdL C (sp_all N K F G) q)) (zB (dC, dI) (fun (u : (Nat → Nat) × (Nat → Nat) × (Nat → Nat) × (Nat) × (Nat → Nat) × (Nat)) => [(m0, .inr (6, [.int (nI N), .ref x1, .int (nI K), .ref x2, .ref x3, .ref x4, .int (nI u.2.2.2.1), .ref x5, .ref x6, .ref x7, .ref x8, .int (nI 1), .int (nI u.2.2.2.2.2), .ref x9, .ref y1, .ref y2, .int (nI rm), .ref y3, .ref y4, .ref y5, .ref y6, .ref y7, .int (nI pls)])), (x2, .inl (cI, 16, .inl (fun z_ => nI (F z_)))), (x3, .inl (cI, 16, .inl (fun z_ => nI (G z_)))), (x4, .inl (cI, 16, .inl (fun z_ => nI (C z_)))), (x5, .inl (cI, 16000, .inl (fun z_ => nI (u.1 z_)))), (x6, .inl (cI, 2000, .inl (fun z_ => nI (u.2.1 z_)))), (x7, .inl (cI, 9, .inl (fun z_ => nI (u.2.2.1 z_)))), (x9, .inl (cI, 2000, .inl (fun z_ => nI (u.2.2.2.2.1 z_))))]) (va_A [(m0, .inr (6, [.int (nI N), .ref x1, .int (nI K), .ref x2, .ref x3, .ref x4, .int (nI lo), .ref x5, .ref x6, .ref x7, .ref x8, .int (nI ns), .int (nI nd), .ref x9, .ref y1, .ref y2, .int (nI rm), .ref y3, .ref y4, .ref y5, .ref y6, .ref y7, .int (nI pls)])), (x2, .inl (cI, 16, .inl (fun z_ => nI (F z_)))), (x3, .inl (cI, 16, .inl (fun z_ => nI (G z_)))), (x4, .inl (cI, 16, .inl (fun z_ => nI (C z_)))), (x5, .inl (cI, 16000, .inl (fun z_ => nI (LA z_)))), (x6, .inl (cI, 2000, .inl (fun z_ => nI (LL z_)))), (x7, .inl (cI, 9, .inl (fun z_ => nI (PT z_)))), (x9, .inl (cI, 2000, .inl (fun z_ => nI (NT z_))))] sz)) (va_A [(m0, .inr (6, [.int (nI N), .ref x1, .int (nI K), .ref x2, .ref x3, .ref x4, .int (nI lo), .ref x5, .ref x6, .ref x7, .ref x8, .int (nI ns), .int (nI nd), .ref x9, .ref y1, .ref y2, .int (nI rm), .ref y3, .ref y4, .ref y5, .ref y6, .ref y7, .int (nI pls)])), (x2, .inl (cI, 16, .inl (fun z_ => nI (F z_)))), (x3, .inl (cI, 16, .inl (fun z_ => nI (G z_)))), (x4, .inl (cI, 16, .inl (fun z_ => nI (C z_)))), (x5, .inl (cI, 16000, .inl (fun z_ => nI (LA z_)))), (x6, .inl (cI, 2000, .inl (fun z_ => nI (LL z_)))), (x7, .inl (cI, 9, .inl (fun z_ => nI (PT z_)))), (x9, .inl (cI, 2000, .inl (fun z_ => nI (NT z_))))] sz)) 0 0 (va_A [(m0, .inr (6, [.int (nI N), .ref x1, .int (nI K), .ref x2, .ref x3, .ref x4, .int (nI lo), .ref x5, .ref x6, .ref x7, .ref x8, .int (nI ns), .int (nI nd), .ref x9, .ref y1, .ref y2, .int (nI rm), .ref y3, .ref y4, .ref y5, .ref y6, .ref y7, .int (nI pls)])), (x2, .inl (cI, 16, .inl (fun z_ => nI (F z_)))), (x3, .inl (cI, 16, .inl (fun z_ => nI (G z_)))), (x4, .inl (cI, 16, .inl (fun z_ => nI (C z_)))), (x5, .inl (cI, 16000, .inl (fun z_ => nI (LA z_)))), (x6, .inl (cI, 2000, .inl (fun z_ => nI (LL z_)))), (x7, .inl (cI, 9, .inl (fun z_ => nI (PT z_)))), (x9, .inl (cI, 2000, .inl (fun z_ => nI (NT z_))))] sz) := by
  refine z_met_i (cc := cX6_note) (maxL := 2) (by decide) rfl (Nat.le_of_ble_eq_true rfl) ?_
  intro p e s m args below meth c Q A ls hx hb hml hown hts hin hA hK hP hD hN hl hRET
  have hown : s.vm.findClass RX6 = some m.cls := hown
  obtain ⟨H, eH⟩ : ∃ H : Heap, H = s.heap := ⟨_, rfl⟩
  rw [← eH] at hP
  obtain ⟨locs, eL⟩ : ∃ z : List Loc, z = [] := ⟨_, rfl⟩
  rw [← eH, ← eL]
  have hS : va_S A s.heap H locs := by rw [eH, eL]; exact va_S.rf
  have hl : lv_has ls 2 [(0, .ref m0)] := hl
  have w72 := hts (.fieldLink RX6 72 "PullCardsModel" "isNoted" "Z") (by decide +kernel)
  have uX6 : ∀ w ∈ wsX60, w ∈ wsX6_note := by decide +kernel
  have w99 := hts (.fieldLink RX6 99 "PullCardsModel" "loops" "I") (by decide +kernel)
  have w138 := hts (.fieldLink RX6 138 "PullCardsModel" "noted" "I") (by decide +kernel)
  have w34 := hts (.fieldLink RX6 34 "PullCardsModel" "notedCards" "[I") (by decide +kernel)
  refine lv_aload_n hx hb dX6_note_0 rfl (lv_at hl 0 rfl) ?_
  refine z_callVv (As := []) (rest := []) (wr := [(x4, .inl (cI, 16, .inl (fun z_ => nI (C z_)))), (x9, .inl (cI, 2000, .inl (fun z_ => nI (NT z_))))]) ⟨hx, hb, hml, hown, hts⟩ (c_X6_find l dC dI cI cJ H.size m0 x1 x2 x3 x4 x5 x6 x7 x8 x9 y1 y2 y3 y4 y5 y6 y7 N K lo ns nd rm pls F G LA LL PT (by first | assumption | omega) (by first | assumption | omega) (by first | assumption | omega) (by first | assumption | omega) (by first | assumption | omega) (by first | assumption | omega) (by first | assumption | omega)) (cwV 0 hts gX6_note_X6_find rfl rfl rfl (by decide +kernel) ⟨Nat.le_of_ble_eq_true rfl, Nat.le_of_ble_eq_true rfl⟩) hA hK hP hD hS [0, 1, 2, 4, 5, 6] [3, 7] [2, 3, 4, 0, 5, 6, 7, 1] rfl rfl (by decide) (by decide) (by decide) nwA_ok hN (ci := 6) rfl rfl 0 rfl hl.1 (Nat.le_of_ble_eq_true rfl) ⟨Nat.le_refl _, Nat.le_refl _⟩ rfl rfl dX6_note_1 (fun (u : (Nat → Nat) × (Nat → Nat) × (Nat → Nat) × (Nat)) => [(m0, .inr (6, [.int (nI N), .ref x1, .int (nI K), .ref x2, .ref x3, .ref x4, .int (nI u.2.2.2), .ref x5, .ref x6, .ref x7, .ref x8, .int (nI ns), .int (nI nd), .ref x9, .ref y1, .ref y2, .int (nI rm), .ref y3, .ref y4, .ref y5, .ref y6, .ref y7, .int (nI pls)])), (x2, .inl (cI, 16, .inl (fun z_ => nI (F z_)))), (x3, .inl (cI, 16, .inl (fun z_ => nI (G z_)))), (x4, .inl (cI, 16, .inl (fun z_ => nI (C z_)))), (x5, .inl (cI, 16000, .inl (fun z_ => nI (u.1 z_)))), (x6, .inl (cI, 2000, .inl (fun z_ => nI (u.2.1 z_)))), (x7, .inl (cI, 9, .inl (fun z_ => nI (u.2.2.1 z_)))), (x9, .inl (cI, 2000, .inl (fun z_ => nI (NT z_))))]) (fun u => rfl) (by decide) (fun u H locs hw hP hD hS => ?_)
  obtain ⟨LA2_1, LL2_1, PT2_1, lo2_1⟩ := u
  have hP : va_P (dC, dI) vwCl [(m0, .inr (6, [.int (nI N), .ref x1, .int (nI K), .ref x2, .ref x3, .ref x4, .int (nI lo2_1), .ref x5, .ref x6, .ref x7, .ref x8, .int (nI ns), .int (nI nd), .ref x9, .ref y1, .ref y2, .int (nI rm), .ref y3, .ref y4, .ref y5, .ref y6, .ref y7, .int (nI pls)])), (x2, .inl (cI, 16, .inl (fun z_ => nI (F z_)))), (x3, .inl (cI, 16, .inl (fun z_ => nI (G z_)))), (x4, .inl (cI, 16, .inl (fun z_ => nI (C z_)))), (x5, .inl (cI, 16000, .inl (fun z_ => nI (LA2_1 z_)))), (x6, .inl (cI, 2000, .inl (fun z_ => nI (LL2_1 z_)))), (x7, .inl (cI, 9, .inl (fun z_ => nI (PT2_1 z_)))), (x9, .inl (cI, 2000, .inl (fun z_ => nI (NT z_))))] H := hP
  have hD : va_D A [(m0, .inr (6, [.int (nI N), .ref x1, .int (nI K), .ref x2, .ref x3, .ref x4, .int (nI lo2_1), .ref x5, .ref x6, .ref x7, .ref x8, .int (nI ns), .int (nI nd), .ref x9, .ref y1, .ref y2, .int (nI rm), .ref y3, .ref y4, .ref y5, .ref y6, .ref y7, .int (nI pls)])), (x2, .inl (cI, 16, .inl (fun z_ => nI (F z_)))), (x3, .inl (cI, 16, .inl (fun z_ => nI (G z_)))), (x4, .inl (cI, 16, .inl (fun z_ => nI (C z_)))), (x5, .inl (cI, 16000, .inl (fun z_ => nI (LA2_1 z_)))), (x6, .inl (cI, 2000, .inl (fun z_ => nI (LL2_1 z_)))), (x7, .inl (cI, 9, .inl (fun z_ => nI (PT2_1 z_)))), (x9, .inl (cI, 2000, .inl (fun z_ => nI (NT z_))))] := hD
  obtain ⟨p1_0, p1_1, p1_2, p1_3, p1_4⟩ := hw
  have p1_0 : sp_hold (sp_all N K F G) lo2_1 LA2_1 LL2_1 := p1_0
  have p1_1 : ∀ i, LA2_1 i < 16 := p1_1
  have p1_2 : ∀ i, LL2_1 i ≤ 8 := p1_2
  have p1_3 : ∀ i, PT2_1 i < 16 := p1_3
  have p1_4 : lo2_1 ≤ 636 := p1_4
  have hlen := p1_0.1
  have b4 := p1_4
  refine lv_aload_n hx hb dX6_note_4 rfl (lv_at hl 0 rfl) ?_
  refine lv_iconst (v := nI 1) hx hb dX6_note_5 (by decide) ?_
  refine z_put (D := (dC, dI)) (ci := 6) (v := .int (nI 1)) (C := RX6) (T := TX6) (N := 23) hx hb hts uX6 tyX6 tyX6_ok nmX6 hown hK hP hD hS 0 rfl rfl 11 (by decide) w72 rfl rfl (by decide) (by decide) (Nat.le_of_ble_eq_true rfl) [(m0, .inr (6, [.int (nI N), .ref x1, .int (nI K), .ref x2, .ref x3, .ref x4, .int (nI lo2_1), .ref x5, .ref x6, .ref x7, .ref x8, .int (nI 1), .int (nI nd), .ref x9, .ref y1, .ref y2, .int (nI rm), .ref y3, .ref y4, .ref y5, .ref y6, .ref y7, .int (nI pls)])), (x2, .inl (cI, 16, .inl (fun z_ => nI (F z_)))), (x3, .inl (cI, 16, .inl (fun z_ => nI (G z_)))), (x4, .inl (cI, 16, .inl (fun z_ => nI (C z_)))), (x5, .inl (cI, 16000, .inl (fun z_ => nI (LA2_1 z_)))), (x6, .inl (cI, 2000, .inl (fun z_ => nI (LL2_1 z_)))), (x7, .inl (cI, 9, .inl (fun z_ => nI (PT2_1 z_)))), (x9, .inl (cI, 2000, .inl (fun z_ => nI (NT z_))))] rfl dX6_note_6 (fun H locs hP hD hS => ?_)
  refine lv_aload_n hx hb dX6_note_9 rfl (lv_at hl 0 rfl) ?_
  refine lv_aload_n hx hb dX6_note_10 rfl (lv_at hl 0 rfl) ?_
  refine z_get (D := (dC, dI)) (ci := 6) (v := .int (nI lo2_1)) (C := RX6) (T := TX6) (N := 23) hx hb hts uX6 hown hK hP 0 rfl rfl 6 (by decide) w99 rfl rfl dX6_note_11 ?_
  refine z_put (D := (dC, dI)) (ci := 6) (v := .int (nI lo2_1)) (C := RX6) (T := TX6) (N := 23) hx hb hts uX6 tyX6 tyX6_ok nmX6 hown hK hP hD hS 0 rfl rfl 12 (by decide) w138 rfl rfl rfl rfl (Nat.le_of_ble_eq_true rfl) [(m0, .inr (6, [.int (nI N), .ref x1, .int (nI K), .ref x2, .ref x3, .ref x4, .int (nI lo2_1), .ref x5, .ref x6, .ref x7, .ref x8, .int (nI 1), .int (nI lo2_1), .ref x9, .ref y1, .ref y2, .int (nI rm), .ref y3, .ref y4, .ref y5, .ref y6, .ref y7, .int (nI pls)])), (x2, .inl (cI, 16, .inl (fun z_ => nI (F z_)))), (x3, .inl (cI, 16, .inl (fun z_ => nI (G z_)))), (x4, .inl (cI, 16, .inl (fun z_ => nI (C z_)))), (x5, .inl (cI, 16000, .inl (fun z_ => nI (LA2_1 z_)))), (x6, .inl (cI, 2000, .inl (fun z_ => nI (LL2_1 z_)))), (x7, .inl (cI, 9, .inl (fun z_ => nI (PT2_1 z_)))), (x9, .inl (cI, 2000, .inl (fun z_ => nI (NT z_))))] rfl dX6_note_14 (fun H locs hP hD hS => ?_)
  refine lv_iconst (v := nI 0) hx hb dX6_note_17 (by decide) ?_
  refine lv_istore_n (lv' := [(1, .int (nI 0)), (0, .ref m0)]) hx hb dX6_note_18 rfl hl (by decide) rfl (fun ls hl => ?_)
  have L19 : ∀ (n19 : Nat) (j : Nat) (NT1 : Nat → Nat), (lo2_1 - j) < n19 → (j ≤ lo2_1) → (∀ q, q < j → NT1 q = sp_cdL C (sp_all N K F G) q) → ∀ (H : Heap) (locs : List Loc), va_P (dC, dI) vwCl [(m0, .inr (6, [.int (nI N), .ref x1, .int (nI K), .ref x2, .ref x3, .ref x4, .int (nI lo2_1), .ref x5, .ref x6, .ref x7, .ref x8, .int (nI 1), .int (nI lo2_1), .ref x9, .ref y1, .ref y2, .int (nI rm), .ref y3, .ref y4, .ref y5, .ref y6, .ref y7, .int (nI pls)])), (x2, .inl (cI, 16, .inl (fun z_ => nI (F z_)))), (x3, .inl (cI, 16, .inl (fun z_ => nI (G z_)))), (x4, .inl (cI, 16, .inl (fun z_ => nI (C z_)))), (x5, .inl (cI, 16000, .inl (fun z_ => nI (LA2_1 z_)))), (x6, .inl (cI, 2000, .inl (fun z_ => nI (LL2_1 z_)))), (x7, .inl (cI, 9, .inl (fun z_ => nI (PT2_1 z_)))), (x9, .inl (cI, 2000, .inl (fun z_ => nI (NT1 z_))))] H → va_D A [(m0, .inr (6, [.int (nI N), .ref x1, .int (nI K), .ref x2, .ref x3, .ref x4, .int (nI lo2_1), .ref x5, .ref x6, .ref x7, .ref x8, .int (nI 1), .int (nI lo2_1), .ref x9, .ref y1, .ref y2, .int (nI rm), .ref y3, .ref y4, .ref y5, .ref y6, .ref y7, .int (nI pls)])), (x2, .inl (cI, 16, .inl (fun z_ => nI (F z_)))), (x3, .inl (cI, 16, .inl (fun z_ => nI (G z_)))), (x4, .inl (cI, 16, .inl (fun z_ => nI (C z_)))), (x5, .inl (cI, 16000, .inl (fun z_ => nI (LA2_1 z_)))), (x6, .inl (cI, 2000, .inl (fun z_ => nI (LL2_1 z_)))), (x7, .inl (cI, 9, .inl (fun z_ => nI (PT2_1 z_)))), (x9, .inl (cI, 2000, .inl (fun z_ => nI (NT1 z_))))] → va_S A s.heap H locs → ∀ (ls : Array Slot), lv_has ls 2 [(0, .ref m0), (1, .int (nI j))] → W p l e (zR 2 0 0 50) s m args below meth c H locs 0 0 Q (F0 m 19 ls []) := by
    intro n19
    induction n19 with
    | zero => intro j NT1 hn; exact absurd hn (Nat.not_lt_zero _)
    | succ n19 ih =>
      intro j NT1 hn i1 i2 H locs hP hD hS ls hl
      have ih19 := ih
      have hn19 := hn
      clear ih hn
      refine lv_iload_n hx hb dX6_note_19 rfl (lv_at hl 1 rfl) ?_
      refine lv_aload_n hx hb dX6_note_20 rfl (lv_at hl 0 rfl) ?_
      refine z_get (D := (dC, dI)) (ci := 6) (v := .int (nI lo2_1)) (C := RX6) (T := TX6) (N := 23) hx hb hts uX6 hown hK hP 0 rfl rfl 6 (by decide) w99 rfl rfl dX6_note_21 ?_
      refine z_icmp_ge (tgt := 44) hx hb dX6_note_24 (by decide) (zcn_le (a := lo2_1) (b := j) rfl rfl (by omega)) (fun c_24 => ?_) (fun c_24 => ?_)
      · skip
        refine lv_aload_n hx hb dX6_note_44 rfl (lv_at hl 0 rfl) ?_
        refine z_get (D := (dC, dI)) (ci := 6) (v := .int (nI lo2_1)) (C := RX6) (T := TX6) (N := 23) hx hb hts uX6 hown hK hP 0 rfl rfl 6 (by decide) w99 rfl rfl dX6_note_45 ?_
        have q_0 : lo2_1 = (sp_all N K F G).length := by exact hlen
        have q_1 : ∀ i, LA2_1 i < 16 := by first | assumption | omega
        have q_2 : ∀ i, LL2_1 i ≤ 8 := by first | assumption | omega
        have q_3 : ∀ i, PT2_1 i < 16 := by first | assumption | omega
        have q_4 : lo2_1 = (sp_all N K F G).length := by exact hlen
        have q_5 : ∀ q, q < lo2_1 → NT1 q = sp_cdL C (sp_all N K F G) q := by intro q hq; exact i2 q (by omega)
        exact hRET _ ls H locs ((nI lo2_1)) (LA2_1, LL2_1, PT2_1, lo2_1, NT1, lo2_1) dX6_note_48 ⟨rfl, q_0, q_1, q_2, q_3, q_4, q_5⟩ hP hD hS
      · skip
        refine lv_aload_n hx hb dX6_note_27 rfl (lv_at hl 0 rfl) ?_
        refine z_get (D := (dC, dI)) (ci := 6) (v := .ref x9) (C := RX6) (T := TX6) (N := 23) hx hb hts uX6 hown hK hP 0 rfl rfl 13 (by decide) w34 rfl rfl dX6_note_28 ?_
        refine lv_iload_n hx hb dX6_note_31 rfl (lv_at hl 1 rfl) ?_
        refine lv_aload_n hx hb dX6_note_32 rfl (lv_at hl 0 rfl) ?_
        refine lv_iload_n hx hb dX6_note_33 rfl (lv_at hl 1 rfl) ?_
        refine z_callVi (As := [.int (nI j)]) (rest := [.int (nI j), .ref x9]) (wr := [(x2, .inl (cI, 16, .inl (fun z_ => nI (F z_)))), (x3, .inl (cI, 16, .inl (fun z_ => nI (G z_)))), (x7, .inl (cI, 9, .inl (fun z_ => nI (PT2_1 z_)))), (x9, .inl (cI, 2000, .inl (fun z_ => nI (NT1 z_))))]) ⟨hx, hb, hml, hown, hts⟩ (c_X6_cardsOf l dC dI cI cJ H.size m0 x1 x2 x3 x4 x5 x6 x7 x8 x9 y1 y2 y3 y4 y5 y6 y7 N K lo2_1 1 lo2_1 rm pls C LA2_1 LL2_1 j (by first | assumption | omega) (by first | assumption | omega) (by first | assumption | omega) (by first | assumption | omega)) (cwV 1 hts gX6_note_X6_cardsOf rfl rfl rfl (by decide +kernel) ⟨Nat.le_of_ble_eq_true rfl, Nat.le_of_ble_eq_true rfl⟩) hA hK hP hD hS [0, 3, 4, 5] [1, 2, 6, 7] [4, 0, 1, 5, 6, 7, 2, 3] rfl rfl (by decide) (by decide) (by decide) nwA_ok hN (ci := 6) rfl rfl 0 rfl hl.1 (Nat.le_of_ble_eq_true rfl) ⟨Nat.le_refl _, Nat.le_refl _⟩ rfl rfl dX6_note_34 (fun (u : (Nat)) => [(m0, .inr (6, [.int (nI N), .ref x1, .int (nI K), .ref x2, .ref x3, .ref x4, .int (nI lo2_1), .ref x5, .ref x6, .ref x7, .ref x8, .int (nI 1), .int (nI lo2_1), .ref x9, .ref y1, .ref y2, .int (nI rm), .ref y3, .ref y4, .ref y5, .ref y6, .ref y7, .int (nI pls)])), (x2, .inl (cI, 16, .inl (fun z_ => nI (F z_)))), (x3, .inl (cI, 16, .inl (fun z_ => nI (G z_)))), (x4, .inl (cI, 16, .inl (fun z_ => nI (C z_)))), (x5, .inl (cI, 16000, .inl (fun z_ => nI (LA2_1 z_)))), (x6, .inl (cI, 2000, .inl (fun z_ => nI (LL2_1 z_)))), (x7, .inl (cI, 9, .inl (fun z_ => nI (PT2_1 z_)))), (x9, .inl (cI, 2000, .inl (fun z_ => nI (NT1 z_))))]) (fun u => rfl) (by decide) (fun r_34 u H locs hw hP hD hS => ?_)
        obtain ⟨rv_34, eu⟩ : ∃ z, z = u := ⟨_, rfl⟩
        subst eu
        have hP : va_P (dC, dI) vwCl [(m0, .inr (6, [.int (nI N), .ref x1, .int (nI K), .ref x2, .ref x3, .ref x4, .int (nI lo2_1), .ref x5, .ref x6, .ref x7, .ref x8, .int (nI 1), .int (nI lo2_1), .ref x9, .ref y1, .ref y2, .int (nI rm), .ref y3, .ref y4, .ref y5, .ref y6, .ref y7, .int (nI pls)])), (x2, .inl (cI, 16, .inl (fun z_ => nI (F z_)))), (x3, .inl (cI, 16, .inl (fun z_ => nI (G z_)))), (x4, .inl (cI, 16, .inl (fun z_ => nI (C z_)))), (x5, .inl (cI, 16000, .inl (fun z_ => nI (LA2_1 z_)))), (x6, .inl (cI, 2000, .inl (fun z_ => nI (LL2_1 z_)))), (x7, .inl (cI, 9, .inl (fun z_ => nI (PT2_1 z_)))), (x9, .inl (cI, 2000, .inl (fun z_ => nI (NT1 z_))))] H := hP
        have hD : va_D A [(m0, .inr (6, [.int (nI N), .ref x1, .int (nI K), .ref x2, .ref x3, .ref x4, .int (nI lo2_1), .ref x5, .ref x6, .ref x7, .ref x8, .int (nI 1), .int (nI lo2_1), .ref x9, .ref y1, .ref y2, .int (nI rm), .ref y3, .ref y4, .ref y5, .ref y6, .ref y7, .int (nI pls)])), (x2, .inl (cI, 16, .inl (fun z_ => nI (F z_)))), (x3, .inl (cI, 16, .inl (fun z_ => nI (G z_)))), (x4, .inl (cI, 16, .inl (fun z_ => nI (C z_)))), (x5, .inl (cI, 16000, .inl (fun z_ => nI (LA2_1 z_)))), (x6, .inl (cI, 2000, .inl (fun z_ => nI (LL2_1 z_)))), (x7, .inl (cI, 9, .inl (fun z_ => nI (PT2_1 z_)))), (x9, .inl (cI, 2000, .inl (fun z_ => nI (NT1 z_))))] := hD
        obtain ⟨er, p34_0, p34_1⟩ := hw
        have p34_0 : rv_34 = sp_cd C LA2_1 LL2_1 j := p34_0
        have p34_1 : rv_34 ≤ 72 := p34_1
        have er : r_34 = (nI rv_34) := er
        subst er
        refine z_iast hx hb hK hP hD hS 7 0 rfl rfl j rfl (by omega) (upd_N NT1 j rv_34) [(m0, .inr (6, [.int (nI N), .ref x1, .int (nI K), .ref x2, .ref x3, .ref x4, .int (nI lo2_1), .ref x5, .ref x6, .ref x7, .ref x8, .int (nI 1), .int (nI lo2_1), .ref x9, .ref y1, .ref y2, .int (nI rm), .ref y3, .ref y4, .ref y5, .ref y6, .ref y7, .int (nI pls)])), (x2, .inl (cI, 16, .inl (fun z_ => nI (F z_)))), (x3, .inl (cI, 16, .inl (fun z_ => nI (G z_)))), (x4, .inl (cI, 16, .inl (fun z_ => nI (C z_)))), (x5, .inl (cI, 16000, .inl (fun z_ => nI (LA2_1 z_)))), (x6, .inl (cI, 2000, .inl (fun z_ => nI (LL2_1 z_)))), (x7, .inl (cI, 9, .inl (fun z_ => nI (PT2_1 z_)))), (x9, .inl (cI, 2000, .inl (fun z_ => nI ((up NT1 j rv_34) z_))))] rfl dX6_note_37 (fun H locs hP hD hS => ?_)
        refine lv_iinc (v := (nI (j + 1))) (lv' := [(1, .int (nI (j + 1))), (0, .ref m0)]) hx hb dX6_note_38 hl (k := 1) rfl (z_incN j 1 (by decide)) (by decide) rfl (fun ls hl => ?_)
        refine lv_goto (tgt := 19) hx hb dX6_note_41 (by decide) ?_
        have o_i1 : (j + 1) ≤ lo2_1 := by first | assumption | omega
        have o_i2 : ∀ q, q < (j + 1) → (up NT1 j rv_34) q = sp_cdL C (sp_all N K F G) q := by exact lt_s (fun q hq => by rw [up_n _ _ (by omega)]; exact i2 q hq) (by rw [up_s, p34_0]; exact sp_cd_L p1_0 (by omega))
        have o_mu : (lo2_1 - (j + 1)) < n19 := by omega
        exact ih19 (j + 1) (up NT1 j rv_34) o_mu o_i1 o_i2 H locs hP hD hS ls (lv_sub hl [1, 0] rfl)
  have o_i1 : 0 ≤ lo2_1 := by first | assumption | omega
  have o_i2 : ∀ q, q < 0 → NT q = sp_cdL C (sp_all N K F G) q := by intro q h; omega
  exact L19 ((lo2_1 - 0) + 1) 0 NT (Nat.lt_succ_self _) o_i1 o_i2 H locs hP hD hS ls (lv_sub hl [1, 0] rfl)

set_option maxHeartbeats 4000000 in
set_option maxRecDepth 100000 in
theorem c_X6_audit (l : Launch) (dC : Nat → ClassId) (dI : Nat → Nat → Nat) (cI cJ : ClassId) (sz : Nat) (m0 : Nat) (x1 : Nat) (x2 : Nat) (x3 : Nat) (x4 : Nat) (x5 : Nat) (x6 : Nat) (x7 : Nat) (x8 : Nat) (x9 : Nat) (y1 : Nat) (y2 : Nat) (y3 : Nat) (y4 : Nat) (y5 : Nat) (y6 : Nat) (y7 : Nat) (N : Nat) (K : Nat) (lo : Nat) (ns : Nat) (nd : Nat) (rm : Nat) (pls : Nat) (F : Nat → Nat) (G : Nat → Nat) (C : Nat → Nat) (LA : Nat → Nat) (LL : Nat → Nat) (PT : Nat → Nat) (NT : Nat → Nat) (lt : Nat) (NC : Nat → Nat) (bN : N ≤ 8) (bK : K ≤ 16) (bF : ∀ a, F a < 8) (bG : ∀ a, G a < 8) (bLA : ∀ i, LA i < 16) (bLL : ∀ i, LL i ≤ 8) (bPT : ∀ i, PT i < 16) (bC : ∀ a, C a ≤ 9) (bNC : ∀ a, NC a ≤ 9) (blt : lt ≤ 1) (bns : ns ≤ 1) (hnt : ns = 1 → nd = (sp_all N K F G).length ∧ ∀ q, q < nd → NT q = sp_cdL NC (sp_all N K F G) q) : Met l yX6_audit wsX6_audit (zR 2 0 0 50) (va_Pc [.ref m0, .int (nI lt)] (zP (dC, dI) [(cI, .int), (cJ, .long)] [(m0, .inr (6, [.int (nI N), .ref x1, .int (nI K), .ref x2, .ref x3, .ref x4, .int (nI lo), .ref x5, .ref x6, .ref x7, .ref x8, .int (nI ns), .int (nI nd), .ref x9, .ref y1, .ref y2, .int (nI rm), .ref y3, .ref y4, .ref y5, .ref y6, .ref y7, .int (nI pls)])), (x2, .inl (cI, 16, .inl (fun z_ => nI (F z_)))), (x3, .inl (cI, 16, .inl (fun z_ => nI (G z_)))), (x4, .inl (cI, 16, .inl (fun z_ => nI (C z_)))), (x5, .inl (cI, 16000, .inl (fun z_ => nI (LA z_)))), (x6, .inl (cI, 2000, .inl (fun z_ => nI (LL z_)))), (x7, .inl (cI, 9, .inl (fun z_ => nI (PT z_)))), (x9, .inl (cI, 2000, .inl (fun z_ => nI (NT z_))))] sz nwA)) (va_Qi (fun (r : Int32) (u : (Int) × (Nat → Nat) × (Nat → Nat) × (Nat → Nat) × (Nat)) => r = (iI u.1) ∧ (u.1 = if ns = 0 then -3 else (sp_adt lt C NC (sp_all N K F G) : Int)) ∧ (∀ i, u.2.1 i < 16) ∧ (∀ i, u.2.2.1 i ≤ 8) ∧ (∀ i, u.2.2.2.1 i < 16)) (zB (dC, dI) (fun (u : (Int) × (Nat → Nat) × (Nat → Nat) × (Nat → Nat) × (Nat)) => [(m0, .inr (6, [.int (nI N), .ref x1, .int (nI K), .ref x2, .ref x3, .ref x4, .int (nI u.2.2.2.2), .ref x5, .ref x6, .ref x7, .ref x8, .int (nI ns), .int (nI nd), .ref x9, .ref y1, .ref y2, .int (nI rm), .ref y3, .ref y4, .ref y5, .ref y6, .ref y7, .int (nI pls)])), (x2, .inl (cI, 16, .inl (fun z_ => nI (F z_)))), (x3, .inl (cI, 16, .inl (fun z_ => nI (G z_)))), (x4, .inl (cI, 16, .inl (fun z_ => nI (C z_)))), (x5, .inl (cI, 16000, .inl (fun z_ => nI (u.2.1 z_)))), (x6, .inl (cI, 2000, .inl (fun z_ => nI (u.2.2.1 z_)))), (x7, .inl (cI, 9, .inl (fun z_ => nI (u.2.2.2.1 z_)))), (x9, .inl (cI, 2000, .inl (fun z_ => nI (NT z_))))]) (va_A [(m0, .inr (6, [.int (nI N), .ref x1, .int (nI K), .ref x2, .ref x3, .ref x4, .int (nI lo), .ref x5, .ref x6, .ref x7, .ref x8, .int (nI ns), .int (nI nd), .ref x9, .ref y1, .ref y2, .int (nI rm), .ref y3, .ref y4, .ref y5, .ref y6, .ref y7, .int (nI pls)])), (x2, .inl (cI, 16, .inl (fun z_ => nI (F z_)))), (x3, .inl (cI, 16, .inl (fun z_ => nI (G z_)))), (x4, .inl (cI, 16, .inl (fun z_ => nI (C z_)))), (x5, .inl (cI, 16000, .inl (fun z_ => nI (LA z_)))), (x6, .inl (cI, 2000, .inl (fun z_ => nI (LL z_)))), (x7, .inl (cI, 9, .inl (fun z_ => nI (PT z_)))), (x9, .inl (cI, 2000, .inl (fun z_ => nI (NT z_))))] sz)) (va_A [(m0, .inr (6, [.int (nI N), .ref x1, .int (nI K), .ref x2, .ref x3, .ref x4, .int (nI lo), .ref x5, .ref x6, .ref x7, .ref x8, .int (nI ns), .int (nI nd), .ref x9, .ref y1, .ref y2, .int (nI rm), .ref y3, .ref y4, .ref y5, .ref y6, .ref y7, .int (nI pls)])), (x2, .inl (cI, 16, .inl (fun z_ => nI (F z_)))), (x3, .inl (cI, 16, .inl (fun z_ => nI (G z_)))), (x4, .inl (cI, 16, .inl (fun z_ => nI (C z_)))), (x5, .inl (cI, 16000, .inl (fun z_ => nI (LA z_)))), (x6, .inl (cI, 2000, .inl (fun z_ => nI (LL z_)))), (x7, .inl (cI, 9, .inl (fun z_ => nI (PT z_)))), (x9, .inl (cI, 2000, .inl (fun z_ => nI (NT z_))))] sz)) 0 0 (va_A [(m0, .inr (6, [.int (nI N), .ref x1, .int (nI K), .ref x2, .ref x3, .ref x4, .int (nI lo), .ref x5, .ref x6, .ref x7, .ref x8, .int (nI ns), .int (nI nd), .ref x9, .ref y1, .ref y2, .int (nI rm), .ref y3, .ref y4, .ref y5, .ref y6, .ref y7, .int (nI pls)])), (x2, .inl (cI, 16, .inl (fun z_ => nI (F z_)))), (x3, .inl (cI, 16, .inl (fun z_ => nI (G z_)))), (x4, .inl (cI, 16, .inl (fun z_ => nI (C z_)))), (x5, .inl (cI, 16000, .inl (fun z_ => nI (LA z_)))), (x6, .inl (cI, 2000, .inl (fun z_ => nI (LL z_)))), (x7, .inl (cI, 9, .inl (fun z_ => nI (PT z_)))), (x9, .inl (cI, 2000, .inl (fun z_ => nI (NT z_))))] sz) := by
  refine z_met_i (cc := cX6_audit) (maxL := 5) (by decide) rfl (Nat.le_of_ble_eq_true rfl) ?_
  intro p e s m args below meth c Q A ls hx hb hml hown hts hin hA hK hP hD hN hl hRET
  have hown : s.vm.findClass RX6 = some m.cls := hown
  obtain ⟨H, eH⟩ : ∃ H : Heap, H = s.heap := ⟨_, rfl⟩
  rw [← eH] at hP
  obtain ⟨locs, eL⟩ : ∃ z : List Loc, z = [] := ⟨_, rfl⟩
  rw [← eH, ← eL]
  have hS : va_S A s.heap H locs := by rw [eH, eL]; exact va_S.rf
  have hl : lv_has ls 5 [(0, .ref m0), (1, .int (nI lt))] := hl
  have w72 := hts (.fieldLink RX6 72 "PullCardsModel" "isNoted" "Z") (by decide +kernel)
  have uX6 : ∀ w ∈ wsX60, w ∈ wsX6_audit := by decide +kernel
  have w138 := hts (.fieldLink RX6 138 "PullCardsModel" "noted" "I") (by decide +kernel)
  have w34 := hts (.fieldLink RX6 34 "PullCardsModel" "notedCards" "[I") (by decide +kernel)
  refine lv_aload_n hx hb dX6_audit_0 rfl (lv_at hl 0 rfl) ?_
  refine z_get (D := (dC, dI)) (ci := 6) (v := .int (nI ns)) (C := RX6) (T := TX6) (N := 23) hx hb hts uX6 hown hK hP 0 rfl rfl 11 (by decide) w72 rfl rfl dX6_audit_1 ?_
  refine z_if_ne (tgt := 10) hx hb dX6_audit_4 (by decide) (zcn_eq (a := ns) (b := 0) rfl nI_00 (by omega)) (fun c_4 => ?_) (fun c_4 => ?_)
  · skip
    refine lv_aload_n hx hb dX6_audit_10 rfl (lv_at hl 0 rfl) ?_
    refine z_callVv (As := []) (rest := []) (wr := [(x4, .inl (cI, 16, .inl (fun z_ => nI (C z_)))), (x9, .inl (cI, 2000, .inl (fun z_ => nI (NT z_))))]) ⟨hx, hb, hml, hown, hts⟩ (c_X6_find l dC dI cI cJ H.size m0 x1 x2 x3 x4 x5 x6 x7 x8 x9 y1 y2 y3 y4 y5 y6 y7 N K lo ns nd rm pls F G LA LL PT (by first | assumption | omega) (by first | assumption | omega) (by first | assumption | omega) (by first | assumption | omega) (by first | assumption | omega) (by first | assumption | omega) (by first | assumption | omega)) (cwV 0 hts gX6_audit_X6_find rfl rfl rfl (by decide +kernel) ⟨Nat.le_of_ble_eq_true rfl, Nat.le_of_ble_eq_true rfl⟩) hA hK hP hD hS [0, 1, 2, 4, 5, 6] [3, 7] [2, 3, 4, 0, 5, 6, 7, 1] rfl rfl (by decide) (by decide) (by decide) nwA_ok hN (ci := 6) rfl rfl 0 rfl hl.1 (Nat.le_of_ble_eq_true rfl) ⟨Nat.le_refl _, Nat.le_refl _⟩ rfl rfl dX6_audit_11 (fun (u : (Nat → Nat) × (Nat → Nat) × (Nat → Nat) × (Nat)) => [(m0, .inr (6, [.int (nI N), .ref x1, .int (nI K), .ref x2, .ref x3, .ref x4, .int (nI u.2.2.2), .ref x5, .ref x6, .ref x7, .ref x8, .int (nI ns), .int (nI nd), .ref x9, .ref y1, .ref y2, .int (nI rm), .ref y3, .ref y4, .ref y5, .ref y6, .ref y7, .int (nI pls)])), (x2, .inl (cI, 16, .inl (fun z_ => nI (F z_)))), (x3, .inl (cI, 16, .inl (fun z_ => nI (G z_)))), (x4, .inl (cI, 16, .inl (fun z_ => nI (C z_)))), (x5, .inl (cI, 16000, .inl (fun z_ => nI (u.1 z_)))), (x6, .inl (cI, 2000, .inl (fun z_ => nI (u.2.1 z_)))), (x7, .inl (cI, 9, .inl (fun z_ => nI (u.2.2.1 z_)))), (x9, .inl (cI, 2000, .inl (fun z_ => nI (NT z_))))]) (fun u => rfl) (by decide) (fun u H locs hw hP hD hS => ?_)
    obtain ⟨LA2_11, LL2_11, PT2_11, lo2_11⟩ := u
    have hP : va_P (dC, dI) vwCl [(m0, .inr (6, [.int (nI N), .ref x1, .int (nI K), .ref x2, .ref x3, .ref x4, .int (nI lo2_11), .ref x5, .ref x6, .ref x7, .ref x8, .int (nI ns), .int (nI nd), .ref x9, .ref y1, .ref y2, .int (nI rm), .ref y3, .ref y4, .ref y5, .ref y6, .ref y7, .int (nI pls)])), (x2, .inl (cI, 16, .inl (fun z_ => nI (F z_)))), (x3, .inl (cI, 16, .inl (fun z_ => nI (G z_)))), (x4, .inl (cI, 16, .inl (fun z_ => nI (C z_)))), (x5, .inl (cI, 16000, .inl (fun z_ => nI (LA2_11 z_)))), (x6, .inl (cI, 2000, .inl (fun z_ => nI (LL2_11 z_)))), (x7, .inl (cI, 9, .inl (fun z_ => nI (PT2_11 z_)))), (x9, .inl (cI, 2000, .inl (fun z_ => nI (NT z_))))] H := hP
    have hD : va_D A [(m0, .inr (6, [.int (nI N), .ref x1, .int (nI K), .ref x2, .ref x3, .ref x4, .int (nI lo2_11), .ref x5, .ref x6, .ref x7, .ref x8, .int (nI ns), .int (nI nd), .ref x9, .ref y1, .ref y2, .int (nI rm), .ref y3, .ref y4, .ref y5, .ref y6, .ref y7, .int (nI pls)])), (x2, .inl (cI, 16, .inl (fun z_ => nI (F z_)))), (x3, .inl (cI, 16, .inl (fun z_ => nI (G z_)))), (x4, .inl (cI, 16, .inl (fun z_ => nI (C z_)))), (x5, .inl (cI, 16000, .inl (fun z_ => nI (LA2_11 z_)))), (x6, .inl (cI, 2000, .inl (fun z_ => nI (LL2_11 z_)))), (x7, .inl (cI, 9, .inl (fun z_ => nI (PT2_11 z_)))), (x9, .inl (cI, 2000, .inl (fun z_ => nI (NT z_))))] := hD
    obtain ⟨p11_0, p11_1, p11_2, p11_3, p11_4⟩ := hw
    have p11_0 : sp_hold (sp_all N K F G) lo2_11 LA2_11 LL2_11 := p11_0
    have p11_1 : ∀ i, LA2_11 i < 16 := p11_1
    have p11_2 : ∀ i, LL2_11 i ≤ 8 := p11_2
    have p11_3 : ∀ i, PT2_11 i < 16 := p11_3
    have p11_4 : lo2_11 ≤ 636 := p11_4
    have hlen := p11_0.1
    have b4 := p11_4
    have hnd := hnt (by omega)
    refine lv_iconst (v := nI 0) hx hb dX6_audit_14 (by decide) ?_
    refine lv_istore_n (lv' := [(2, .int (nI 0)), (0, .ref m0), (1, .int (nI lt))]) hx hb dX6_audit_15 rfl hl (by decide) rfl (fun ls hl => ?_)
    refine lv_iconst (v := nI 0) hx hb dX6_audit_16 (by decide) ?_
    refine lv_istore_n (lv' := [(3, .int (nI 0)), (2, .int (nI 0)), (0, .ref m0), (1, .int (nI lt))]) hx hb dX6_audit_17 rfl hl (by decide) rfl (fun ls hl => ?_)
    have L18 : ∀ (n18 : Nat) (j : Nat) (g : Nat), (nd - j) < n18 → (j ≤ nd) → (g = fb_ct (sp_chg lt (sp_cdL C (sp_all N K F G)) (sp_cdL NC (sp_all N K F G))) j) → (g ≤ j) → ∀ (H : Heap) (locs : List Loc), va_P (dC, dI) vwCl [(m0, .inr (6, [.int (nI N), .ref x1, .int (nI K), .ref x2, .ref x3, .ref x4, .int (nI lo2_11), .ref x5, .ref x6, .ref x7, .ref x8, .int (nI ns), .int (nI nd), .ref x9, .ref y1, .ref y2, .int (nI rm), .ref y3, .ref y4, .ref y5, .ref y6, .ref y7, .int (nI pls)])), (x2, .inl (cI, 16, .inl (fun z_ => nI (F z_)))), (x3, .inl (cI, 16, .inl (fun z_ => nI (G z_)))), (x4, .inl (cI, 16, .inl (fun z_ => nI (C z_)))), (x5, .inl (cI, 16000, .inl (fun z_ => nI (LA2_11 z_)))), (x6, .inl (cI, 2000, .inl (fun z_ => nI (LL2_11 z_)))), (x7, .inl (cI, 9, .inl (fun z_ => nI (PT2_11 z_)))), (x9, .inl (cI, 2000, .inl (fun z_ => nI (NT z_))))] H → va_D A [(m0, .inr (6, [.int (nI N), .ref x1, .int (nI K), .ref x2, .ref x3, .ref x4, .int (nI lo2_11), .ref x5, .ref x6, .ref x7, .ref x8, .int (nI ns), .int (nI nd), .ref x9, .ref y1, .ref y2, .int (nI rm), .ref y3, .ref y4, .ref y5, .ref y6, .ref y7, .int (nI pls)])), (x2, .inl (cI, 16, .inl (fun z_ => nI (F z_)))), (x3, .inl (cI, 16, .inl (fun z_ => nI (G z_)))), (x4, .inl (cI, 16, .inl (fun z_ => nI (C z_)))), (x5, .inl (cI, 16000, .inl (fun z_ => nI (LA2_11 z_)))), (x6, .inl (cI, 2000, .inl (fun z_ => nI (LL2_11 z_)))), (x7, .inl (cI, 9, .inl (fun z_ => nI (PT2_11 z_)))), (x9, .inl (cI, 2000, .inl (fun z_ => nI (NT z_))))] → va_S A s.heap H locs → ∀ (ls : Array Slot), lv_has ls 5 [(0, .ref m0), (1, .int (nI lt)), (2, .int (nI g)), (3, .int (nI j))] → W p l e (zR 2 0 0 50) s m args below meth c H locs 0 0 Q (F0 m 18 ls []) := by
      intro n18
      induction n18 with
      | zero => intro j g hn; exact absurd hn (Nat.not_lt_zero _)
      | succ n18 ih =>
        intro j g hn i1 i2 i3 H locs hP hD hS ls hl
        have ih18 := ih
        have hn18 := hn
        clear ih hn
        refine lv_iload_n hx hb dX6_audit_18 rfl (lv_at hl 3 rfl) ?_
        refine lv_aload_n hx hb dX6_audit_19 rfl (lv_at hl 0 rfl) ?_
        refine z_get (D := (dC, dI)) (ci := 6) (v := .int (nI nd)) (C := RX6) (T := TX6) (N := 23) hx hb hts uX6 hown hK hP 0 rfl rfl 12 (by decide) w138 rfl rfl dX6_audit_20 ?_
        refine z_icmp_ge (tgt := 81) hx hb dX6_audit_23 (by decide) (zcn_le (a := nd) (b := j) rfl rfl (by omega)) (fun c_23 => ?_) (fun c_23 => ?_)
        · skip
          refine lv_iload_n hx hb dX6_audit_81 rfl (lv_at hl 2 rfl) ?_
          refine z_c0 (v := iI ((g : Nat) : Int)) (iI_N _) ?_
          have q_0 : ((g : Nat) : Int) = if ns = 0 then -3 else (sp_adt lt C NC (sp_all N K F G) : Int) := by rw [if_neg c_4, i2, show j = nd by omega, hnd.1]; rfl
          have q_1 : ∀ i, LA2_11 i < 16 := by first | assumption | omega
          have q_2 : ∀ i, LL2_11 i ≤ 8 := by first | assumption | omega
          have q_3 : ∀ i, PT2_11 i < 16 := by first | assumption | omega
          exact hRET _ ls H locs ((iI ((g : Nat) : Int))) (((g : Nat) : Int), LA2_11, LL2_11, PT2_11, lo2_11) dX6_audit_82 ⟨rfl, q_0, q_1, q_2, q_3⟩ hP hD hS
        · skip
          refine lv_aload_n hx hb dX6_audit_26 rfl (lv_at hl 0 rfl) ?_
          refine lv_iload_n hx hb dX6_audit_27 rfl (lv_at hl 3 rfl) ?_
          refine z_callVi (As := [.int (nI j)]) (rest := []) (wr := [(x2, .inl (cI, 16, .inl (fun z_ => nI (F z_)))), (x3, .inl (cI, 16, .inl (fun z_ => nI (G z_)))), (x7, .inl (cI, 9, .inl (fun z_ => nI (PT2_11 z_)))), (x9, .inl (cI, 2000, .inl (fun z_ => nI (NT z_))))]) ⟨hx, hb, hml, hown, hts⟩ (c_X6_cardsOf l dC dI cI cJ H.size m0 x1 x2 x3 x4 x5 x6 x7 x8 x9 y1 y2 y3 y4 y5 y6 y7 N K lo2_11 ns nd rm pls C LA2_11 LL2_11 j (by first | assumption | omega) (by first | assumption | omega) (by first | assumption | omega) (by first | assumption | omega)) (cwV 1 hts gX6_audit_X6_cardsOf rfl rfl rfl (by decide +kernel) ⟨Nat.le_of_ble_eq_true rfl, Nat.le_of_ble_eq_true rfl⟩) hA hK hP hD hS [0, 3, 4, 5] [1, 2, 6, 7] [4, 0, 1, 5, 6, 7, 2, 3] rfl rfl (by decide) (by decide) (by decide) nwA_ok hN (ci := 6) rfl rfl 0 rfl hl.1 (Nat.le_of_ble_eq_true rfl) ⟨Nat.le_refl _, Nat.le_refl _⟩ rfl rfl dX6_audit_28 (fun (u : (Nat)) => [(m0, .inr (6, [.int (nI N), .ref x1, .int (nI K), .ref x2, .ref x3, .ref x4, .int (nI lo2_11), .ref x5, .ref x6, .ref x7, .ref x8, .int (nI ns), .int (nI nd), .ref x9, .ref y1, .ref y2, .int (nI rm), .ref y3, .ref y4, .ref y5, .ref y6, .ref y7, .int (nI pls)])), (x2, .inl (cI, 16, .inl (fun z_ => nI (F z_)))), (x3, .inl (cI, 16, .inl (fun z_ => nI (G z_)))), (x4, .inl (cI, 16, .inl (fun z_ => nI (C z_)))), (x5, .inl (cI, 16000, .inl (fun z_ => nI (LA2_11 z_)))), (x6, .inl (cI, 2000, .inl (fun z_ => nI (LL2_11 z_)))), (x7, .inl (cI, 9, .inl (fun z_ => nI (PT2_11 z_)))), (x9, .inl (cI, 2000, .inl (fun z_ => nI (NT z_))))]) (fun u => rfl) (by decide) (fun r_28 u H locs hw hP hD hS => ?_)
          obtain ⟨rv_28, eu⟩ : ∃ z, z = u := ⟨_, rfl⟩
          subst eu
          have hP : va_P (dC, dI) vwCl [(m0, .inr (6, [.int (nI N), .ref x1, .int (nI K), .ref x2, .ref x3, .ref x4, .int (nI lo2_11), .ref x5, .ref x6, .ref x7, .ref x8, .int (nI ns), .int (nI nd), .ref x9, .ref y1, .ref y2, .int (nI rm), .ref y3, .ref y4, .ref y5, .ref y6, .ref y7, .int (nI pls)])), (x2, .inl (cI, 16, .inl (fun z_ => nI (F z_)))), (x3, .inl (cI, 16, .inl (fun z_ => nI (G z_)))), (x4, .inl (cI, 16, .inl (fun z_ => nI (C z_)))), (x5, .inl (cI, 16000, .inl (fun z_ => nI (LA2_11 z_)))), (x6, .inl (cI, 2000, .inl (fun z_ => nI (LL2_11 z_)))), (x7, .inl (cI, 9, .inl (fun z_ => nI (PT2_11 z_)))), (x9, .inl (cI, 2000, .inl (fun z_ => nI (NT z_))))] H := hP
          have hD : va_D A [(m0, .inr (6, [.int (nI N), .ref x1, .int (nI K), .ref x2, .ref x3, .ref x4, .int (nI lo2_11), .ref x5, .ref x6, .ref x7, .ref x8, .int (nI ns), .int (nI nd), .ref x9, .ref y1, .ref y2, .int (nI rm), .ref y3, .ref y4, .ref y5, .ref y6, .ref y7, .int (nI pls)])), (x2, .inl (cI, 16, .inl (fun z_ => nI (F z_)))), (x3, .inl (cI, 16, .inl (fun z_ => nI (G z_)))), (x4, .inl (cI, 16, .inl (fun z_ => nI (C z_)))), (x5, .inl (cI, 16000, .inl (fun z_ => nI (LA2_11 z_)))), (x6, .inl (cI, 2000, .inl (fun z_ => nI (LL2_11 z_)))), (x7, .inl (cI, 9, .inl (fun z_ => nI (PT2_11 z_)))), (x9, .inl (cI, 2000, .inl (fun z_ => nI (NT z_))))] := hD
          obtain ⟨er, p28_0, p28_1⟩ := hw
          have p28_0 : rv_28 = sp_cd C LA2_11 LL2_11 j := p28_0
          have p28_1 : rv_28 ≤ 72 := p28_1
          have er : r_28 = (nI rv_28) := er
          subst er
          have hcj := sp_cd_L (C := C) p11_0 (show j < lo2_11 by omega)
          have hnj := hnd.2 j (by omega)
          have hnb := sp_cdL_le (C := NC) p11_0 p11_2 bNC (show j < lo2_11 by omega)
          refine lv_istore (lv' := [(4, .int (nI rv_28)), (0, .ref m0), (1, .int (nI lt)), (2, .int (nI g)), (3, .int (nI j))]) hx hb dX6_audit_31 hl (by decide) rfl (fun ls hl => ?_)
          refine lv_iload_n hx hb dX6_audit_33 rfl (lv_at hl 3 rfl) ?_
          refine lv_iload_n hx hb dX6_audit_34 rfl (lv_at hl 2 rfl) ?_
          refine z_if_eq (tgt := 57) hx hb dX6_audit_35 (by decide) (zcn_eq (a := lt) (b := 0) rfl nI_00 (by omega)) (fun c_35 => ?_) (fun c_35 => ?_)
          · skip
            refine lv_iload hx hb dX6_audit_57 (lv_at hl 0 rfl) ?_
            refine lv_aload_n hx hb dX6_audit_59 rfl (lv_at hl 1 rfl) ?_
            refine z_get (D := (dC, dI)) (ci := 6) (v := .ref x9) (C := RX6) (T := TX6) (N := 23) hx hb hts uX6 hown hK hP 0 rfl rfl 13 (by decide) w34 rfl rfl dX6_audit_60 ?_
            refine lv_iload_n hx hb dX6_audit_63 rfl (lv_at hl 4 rfl) ?_
            refine z_iald (v := (nI (NT j))) hx hb hK hP 7 0 rfl rfl j rfl (by omega) rfl dX6_audit_64 ?_
            refine z_icmp_le (tgt := 72) hx hb dX6_audit_65 (by decide) (zcn_le (a := rv_28) (b := NT j) rfl rfl (by omega)) (fun c_65 => ?_) (fun c_65 => ?_)
            · skip
              refine lv_iconst (v := nI 0) hx hb dX6_audit_72 (by decide) ?_
              refine z_iadd (v := (nI (g + 0))) hx hb dX6_audit_73 (nI_add _ _) ?_
              refine lv_istore_n (lv' := [(2, .int (nI (g + 0))), (4, .int (nI rv_28)), (0, .ref m0), (1, .int (nI lt)), (3, .int (nI j))]) hx hb dX6_audit_74 rfl hl (by decide) rfl (fun ls hl => ?_)
              refine lv_iinc (v := (nI (j + 1))) (lv' := [(3, .int (nI (j + 1))), (2, .int (nI (g + 0))), (4, .int (nI rv_28)), (0, .ref m0), (1, .int (nI lt))]) hx hb dX6_audit_75 hl (k := 4) rfl (z_incN j 1 (by decide)) (by decide) rfl (fun ls hl => ?_)
              refine lv_goto (tgt := 18) hx hb dX6_audit_78 (by decide) ?_
              have o_i1 : (j + 1) ≤ nd := by first | assumption | omega
              have o_i2 : (g + 0) = fb_ct (sp_chg lt (sp_cdL C (sp_all N K F G)) (sp_cdL NC (sp_all N K F G))) (j + 1) := by rw [fb_ct_succ, ← i2]; (first | rw [sp_chg_0 (by omega)] | rw [sp_chg_1 (by omega)]); rw [← hcj, ← hnj, ← p28_0]; split <;> rename_i hz <;> simp only [decide_eq_true_eq] at hz <;> omega
              have o_i3 : (g + 0) ≤ (j + 1) := by first | assumption | omega
              have o_mu : (nd - (j + 1)) < n18 := by omega
              exact ih18 (j + 1) (g + 0) o_mu o_i1 o_i2 o_i3 H locs hP hD hS ls (lv_sub hl [3, 4, 1, 0] rfl)
            · skip
              refine lv_iconst (v := nI 1) hx hb dX6_audit_68 (by decide) ?_
              refine lv_goto (tgt := 73) hx hb dX6_audit_69 (by decide) ?_
              refine z_iadd (v := (nI (g + 1))) hx hb dX6_audit_73 (nI_add _ _) ?_
              refine lv_istore_n (lv' := [(2, .int (nI (g + 1))), (4, .int (nI rv_28)), (0, .ref m0), (1, .int (nI lt)), (3, .int (nI j))]) hx hb dX6_audit_74 rfl hl (by decide) rfl (fun ls hl => ?_)
              refine lv_iinc (v := (nI (j + 1))) (lv' := [(3, .int (nI (j + 1))), (2, .int (nI (g + 1))), (4, .int (nI rv_28)), (0, .ref m0), (1, .int (nI lt))]) hx hb dX6_audit_75 hl (k := 4) rfl (z_incN j 1 (by decide)) (by decide) rfl (fun ls hl => ?_)
              refine lv_goto (tgt := 18) hx hb dX6_audit_78 (by decide) ?_
              have o_i1 : (j + 1) ≤ nd := by first | assumption | omega
              have o_i2 : (g + 1) = fb_ct (sp_chg lt (sp_cdL C (sp_all N K F G)) (sp_cdL NC (sp_all N K F G))) (j + 1) := by rw [fb_ct_succ, ← i2]; (first | rw [sp_chg_0 (by omega)] | rw [sp_chg_1 (by omega)]); rw [← hcj, ← hnj, ← p28_0]; split <;> rename_i hz <;> simp only [decide_eq_true_eq] at hz <;> omega
              have o_i3 : (g + 1) ≤ (j + 1) := by first | assumption | omega
              have o_mu : (nd - (j + 1)) < n18 := by omega
              exact ih18 (j + 1) (g + 1) o_mu o_i1 o_i2 o_i3 H locs hP hD hS ls (lv_sub hl [3, 4, 1, 0] rfl)
          · skip
            refine lv_iload hx hb dX6_audit_38 (lv_at hl 0 rfl) ?_
            refine lv_aload_n hx hb dX6_audit_40 rfl (lv_at hl 1 rfl) ?_
            refine z_get (D := (dC, dI)) (ci := 6) (v := .ref x9) (C := RX6) (T := TX6) (N := 23) hx hb hts uX6 hown hK hP 0 rfl rfl 13 (by decide) w34 rfl rfl dX6_audit_41 ?_
            refine lv_iload_n hx hb dX6_audit_44 rfl (lv_at hl 4 rfl) ?_
            refine z_iald (v := (nI (NT j))) hx hb hK hP 7 0 rfl rfl j rfl (by omega) rfl dX6_audit_45 ?_
            refine z_icmp_ge (tgt := 53) hx hb dX6_audit_46 (by decide) (zcn_le (a := NT j) (b := rv_28) rfl rfl (by omega)) (fun c_46 => ?_) (fun c_46 => ?_)
            · skip
              refine lv_iconst (v := nI 0) hx hb dX6_audit_53 (by decide) ?_
              refine lv_goto (tgt := 73) hx hb dX6_audit_54 (by decide) ?_
              refine z_iadd (v := (nI (g + 0))) hx hb dX6_audit_73 (nI_add _ _) ?_
              refine lv_istore_n (lv' := [(2, .int (nI (g + 0))), (4, .int (nI rv_28)), (0, .ref m0), (1, .int (nI lt)), (3, .int (nI j))]) hx hb dX6_audit_74 rfl hl (by decide) rfl (fun ls hl => ?_)
              refine lv_iinc (v := (nI (j + 1))) (lv' := [(3, .int (nI (j + 1))), (2, .int (nI (g + 0))), (4, .int (nI rv_28)), (0, .ref m0), (1, .int (nI lt))]) hx hb dX6_audit_75 hl (k := 4) rfl (z_incN j 1 (by decide)) (by decide) rfl (fun ls hl => ?_)
              refine lv_goto (tgt := 18) hx hb dX6_audit_78 (by decide) ?_
              have o_i1 : (j + 1) ≤ nd := by first | assumption | omega
              have o_i2 : (g + 0) = fb_ct (sp_chg lt (sp_cdL C (sp_all N K F G)) (sp_cdL NC (sp_all N K F G))) (j + 1) := by rw [fb_ct_succ, ← i2]; (first | rw [sp_chg_0 (by omega)] | rw [sp_chg_1 (by omega)]); rw [← hcj, ← hnj, ← p28_0]; split <;> rename_i hz <;> simp only [decide_eq_true_eq] at hz <;> omega
              have o_i3 : (g + 0) ≤ (j + 1) := by first | assumption | omega
              have o_mu : (nd - (j + 1)) < n18 := by omega
              exact ih18 (j + 1) (g + 0) o_mu o_i1 o_i2 o_i3 H locs hP hD hS ls (lv_sub hl [3, 4, 1, 0] rfl)
            · skip
              refine lv_iconst (v := nI 1) hx hb dX6_audit_49 (by decide) ?_
              refine lv_goto (tgt := 73) hx hb dX6_audit_50 (by decide) ?_
              refine z_iadd (v := (nI (g + 1))) hx hb dX6_audit_73 (nI_add _ _) ?_
              refine lv_istore_n (lv' := [(2, .int (nI (g + 1))), (4, .int (nI rv_28)), (0, .ref m0), (1, .int (nI lt)), (3, .int (nI j))]) hx hb dX6_audit_74 rfl hl (by decide) rfl (fun ls hl => ?_)
              refine lv_iinc (v := (nI (j + 1))) (lv' := [(3, .int (nI (j + 1))), (2, .int (nI (g + 1))), (4, .int (nI rv_28)), (0, .ref m0), (1, .int (nI lt))]) hx hb dX6_audit_75 hl (k := 4) rfl (z_incN j 1 (by decide)) (by decide) rfl (fun ls hl => ?_)
              refine lv_goto (tgt := 18) hx hb dX6_audit_78 (by decide) ?_
              have o_i1 : (j + 1) ≤ nd := by first | assumption | omega
              have o_i2 : (g + 1) = fb_ct (sp_chg lt (sp_cdL C (sp_all N K F G)) (sp_cdL NC (sp_all N K F G))) (j + 1) := by rw [fb_ct_succ, ← i2]; (first | rw [sp_chg_0 (by omega)] | rw [sp_chg_1 (by omega)]); rw [← hcj, ← hnj, ← p28_0]; split <;> rename_i hz <;> simp only [decide_eq_true_eq] at hz <;> omega
              have o_i3 : (g + 1) ≤ (j + 1) := by first | assumption | omega
              have o_mu : (nd - (j + 1)) < n18 := by omega
              exact ih18 (j + 1) (g + 1) o_mu o_i1 o_i2 o_i3 H locs hP hD hS ls (lv_sub hl [3, 4, 1, 0] rfl)
    have o_i1 : 0 ≤ nd := by first | assumption | omega
    have o_i2 : 0 = fb_ct (sp_chg lt (sp_cdL C (sp_all N K F G)) (sp_cdL NC (sp_all N K F G))) 0 := by rfl
    have o_i3 : 0 ≤ 0 := by first | assumption | omega
    exact L18 ((nd - 0) + 1) 0 0 (Nat.lt_succ_self _) o_i1 o_i2 o_i3 H locs hP hD hS ls (lv_sub hl [2, 3, 1, 0] rfl)
  · skip
    refine lv_bipush (v := iI (-3)) hx hb dX6_audit_7 (by decide) ?_
    have q_0 : (-3 : Int) = if ns = 0 then -3 else (sp_adt lt C NC (sp_all N K F G) : Int) := by rw [if_pos c_4]
    have q_1 : ∀ i, LA i < 16 := by first | assumption | omega
    have q_2 : ∀ i, LL i ≤ 8 := by first | assumption | omega
    have q_3 : ∀ i, PT i < 16 := by first | assumption | omega
    exact hRET _ ls H locs ((iI (-3))) ((-3 : Int), LA, LL, PT, lo) dX6_audit_9 ⟨rfl, q_0, q_1, q_2, q_3⟩ hP hD hS

set_option maxHeartbeats 4000000 in
set_option maxRecDepth 100000 in
theorem c_X6_isFast (l : Launch) (dC : Nat → ClassId) (dI : Nat → Nat → Nat) (cI cJ : ClassId) (sz : Nat) (m0 : Nat) (x1 : Nat) (x2 : Nat) (x3 : Nat) (x4 : Nat) (x5 : Nat) (x6 : Nat) (x7 : Nat) (x8 : Nat) (x9 : Nat) (y1 : Nat) (y2 : Nat) (y3 : Nat) (y4 : Nat) (y5 : Nat) (y6 : Nat) (y7 : Nat) (N : Nat) (K : Nat) (lo : Nat) (ns : Nat) (nd : Nat) (rm : Nat) (pls : Nat) (T : Nat → Nat) (F : Nat → Nat) (C : Nat → Nat) (LA : Nat → Nat) (LL : Nat → Nat) (ab : Nat) (be : Nat) (blo : lo ≤ 636) (bLA : ∀ i, LA i < 16) (bLL : ∀ i, LL i ≤ 8) (bF : ∀ a, F a < 8) (bT : ∀ i, T i ≤ 20) (bC : ∀ a, C a ≤ 9) (bab : 1 ≤ ab ∧ ab ≤ 1000) (bbe : 1 ≤ be ∧ be ≤ 1000) : Met l yX6_isFast wsX6_isFast (zR 1 0 0 23) (va_Pc [.ref m0, .int (nI ab), .int (nI be)] (zP (dC, dI) [(cI, .int), (cJ, .long)] [(m0, .inr (6, [.int (nI N), .ref x1, .int (nI K), .ref x2, .ref x3, .ref x4, .int (nI lo), .ref x5, .ref x6, .ref x7, .ref x8, .int (nI ns), .int (nI nd), .ref x9, .ref y1, .ref y2, .int (nI rm), .ref y3, .ref y4, .ref y5, .ref y6, .ref y7, .int (nI pls)])), (x1, .inl (cI, 8, .inl (fun z_ => nI (T z_)))), (x2, .inl (cI, 16, .inl (fun z_ => nI (F z_)))), (x4, .inl (cI, 16, .inl (fun z_ => nI (C z_)))), (x5, .inl (cI, 16000, .inl (fun z_ => nI (LA z_)))), (x6, .inl (cI, 2000, .inl (fun z_ => nI (LL z_))))] sz nwA)) (va_Qi (fun (r : Int32) (u : (Nat)) => r = (nI u) ∧ ((u = 1 ∧ sp_fast (sp_tm T F LA LL) (sp_cd C LA LL) ab be lo = true) ∨ (u = 0 ∧ sp_fast (sp_tm T F LA LL) (sp_cd C LA LL) ab be lo = false))) (zB (dC, dI) (fun (u : (Nat)) => [(m0, .inr (6, [.int (nI N), .ref x1, .int (nI K), .ref x2, .ref x3, .ref x4, .int (nI lo), .ref x5, .ref x6, .ref x7, .ref x8, .int (nI ns), .int (nI nd), .ref x9, .ref y1, .ref y2, .int (nI rm), .ref y3, .ref y4, .ref y5, .ref y6, .ref y7, .int (nI pls)])), (x1, .inl (cI, 8, .inl (fun z_ => nI (T z_)))), (x2, .inl (cI, 16, .inl (fun z_ => nI (F z_)))), (x4, .inl (cI, 16, .inl (fun z_ => nI (C z_)))), (x5, .inl (cI, 16000, .inl (fun z_ => nI (LA z_)))), (x6, .inl (cI, 2000, .inl (fun z_ => nI (LL z_))))]) (va_A [(m0, .inr (6, [.int (nI N), .ref x1, .int (nI K), .ref x2, .ref x3, .ref x4, .int (nI lo), .ref x5, .ref x6, .ref x7, .ref x8, .int (nI ns), .int (nI nd), .ref x9, .ref y1, .ref y2, .int (nI rm), .ref y3, .ref y4, .ref y5, .ref y6, .ref y7, .int (nI pls)])), (x1, .inl (cI, 8, .inl (fun z_ => nI (T z_)))), (x2, .inl (cI, 16, .inl (fun z_ => nI (F z_)))), (x4, .inl (cI, 16, .inl (fun z_ => nI (C z_)))), (x5, .inl (cI, 16000, .inl (fun z_ => nI (LA z_)))), (x6, .inl (cI, 2000, .inl (fun z_ => nI (LL z_))))] sz)) (va_A [(m0, .inr (6, [.int (nI N), .ref x1, .int (nI K), .ref x2, .ref x3, .ref x4, .int (nI lo), .ref x5, .ref x6, .ref x7, .ref x8, .int (nI ns), .int (nI nd), .ref x9, .ref y1, .ref y2, .int (nI rm), .ref y3, .ref y4, .ref y5, .ref y6, .ref y7, .int (nI pls)])), (x1, .inl (cI, 8, .inl (fun z_ => nI (T z_)))), (x2, .inl (cI, 16, .inl (fun z_ => nI (F z_)))), (x4, .inl (cI, 16, .inl (fun z_ => nI (C z_)))), (x5, .inl (cI, 16000, .inl (fun z_ => nI (LA z_)))), (x6, .inl (cI, 2000, .inl (fun z_ => nI (LL z_))))] sz)) 0 0 (va_A [(m0, .inr (6, [.int (nI N), .ref x1, .int (nI K), .ref x2, .ref x3, .ref x4, .int (nI lo), .ref x5, .ref x6, .ref x7, .ref x8, .int (nI ns), .int (nI nd), .ref x9, .ref y1, .ref y2, .int (nI rm), .ref y3, .ref y4, .ref y5, .ref y6, .ref y7, .int (nI pls)])), (x1, .inl (cI, 8, .inl (fun z_ => nI (T z_)))), (x2, .inl (cI, 16, .inl (fun z_ => nI (F z_)))), (x4, .inl (cI, 16, .inl (fun z_ => nI (C z_)))), (x5, .inl (cI, 16000, .inl (fun z_ => nI (LA z_)))), (x6, .inl (cI, 2000, .inl (fun z_ => nI (LL z_))))] sz) := by
  refine z_met_z (cc := cX6_isFast) (maxL := 6) (by decide) rfl (Nat.le_of_ble_eq_true rfl) ?_
  intro p e s m args below meth c Q A ls hx hb hml hown hts hin hA hK hP hD hN hl hRET
  have hown : s.vm.findClass RX6 = some m.cls := hown
  obtain ⟨H, eH⟩ : ∃ H : Heap, H = s.heap := ⟨_, rfl⟩
  rw [← eH] at hP
  obtain ⟨locs, eL⟩ : ∃ z : List Loc, z = [] := ⟨_, rfl⟩
  rw [← eH, ← eL]
  have hS : va_S A s.heap H locs := by rw [eH, eL]; exact va_S.rf
  have hl : lv_has ls 6 [(0, .ref m0), (1, .int (nI ab)), (2, .int (nI be))] := hl
  have w99 := hts (.fieldLink RX6 99 "PullCardsModel" "loops" "I") (by decide +kernel)
  have uX6 : ∀ w ∈ wsX60, w ∈ wsX6_isFast := by decide +kernel
  refine lv_iconst (v := nI 1) hx hb dX6_isFast_0 (by decide) ?_
  refine lv_istore_n (lv' := [(3, .int (nI 1)), (0, .ref m0), (1, .int (nI ab)), (2, .int (nI be))]) hx hb dX6_isFast_1 rfl hl (by decide) rfl (fun ls hl => ?_)
  refine lv_iconst (v := nI 0) hx hb dX6_isFast_2 (by decide) ?_
  refine lv_istore (lv' := [(4, .int (nI 0)), (3, .int (nI 1)), (0, .ref m0), (1, .int (nI ab)), (2, .int (nI be))]) hx hb dX6_isFast_3 hl (by decide) rfl (fun ls hl => ?_)
  have L5 : ∀ (n5 : Nat) (j : Nat) (b : Nat), (lo - j) < n5 → (j ≤ lo) → ((b = 1 ∧ (∀ q, q < j → 0 < (sp_cd C LA LL) q ∧ (sp_tm T F LA LL) q * be ≤ ab * (sp_cd C LA LL) q)) ∨ (b = 0 ∧ sp_fast (sp_tm T F LA LL) (sp_cd C LA LL) ab be lo = false)) → (b ≤ 1) → ∀ (H : Heap) (locs : List Loc), va_P (dC, dI) vwCl [(m0, .inr (6, [.int (nI N), .ref x1, .int (nI K), .ref x2, .ref x3, .ref x4, .int (nI lo), .ref x5, .ref x6, .ref x7, .ref x8, .int (nI ns), .int (nI nd), .ref x9, .ref y1, .ref y2, .int (nI rm), .ref y3, .ref y4, .ref y5, .ref y6, .ref y7, .int (nI pls)])), (x1, .inl (cI, 8, .inl (fun z_ => nI (T z_)))), (x2, .inl (cI, 16, .inl (fun z_ => nI (F z_)))), (x4, .inl (cI, 16, .inl (fun z_ => nI (C z_)))), (x5, .inl (cI, 16000, .inl (fun z_ => nI (LA z_)))), (x6, .inl (cI, 2000, .inl (fun z_ => nI (LL z_))))] H → va_D A [(m0, .inr (6, [.int (nI N), .ref x1, .int (nI K), .ref x2, .ref x3, .ref x4, .int (nI lo), .ref x5, .ref x6, .ref x7, .ref x8, .int (nI ns), .int (nI nd), .ref x9, .ref y1, .ref y2, .int (nI rm), .ref y3, .ref y4, .ref y5, .ref y6, .ref y7, .int (nI pls)])), (x1, .inl (cI, 8, .inl (fun z_ => nI (T z_)))), (x2, .inl (cI, 16, .inl (fun z_ => nI (F z_)))), (x4, .inl (cI, 16, .inl (fun z_ => nI (C z_)))), (x5, .inl (cI, 16000, .inl (fun z_ => nI (LA z_)))), (x6, .inl (cI, 2000, .inl (fun z_ => nI (LL z_))))] → va_S A s.heap H locs → ∀ (ls : Array Slot), lv_has ls 6 [(0, .ref m0), (1, .int (nI ab)), (2, .int (nI be)), (3, .int (nI b)), (4, .int (nI j))] → W p l e (zR 1 0 0 23) s m args below meth c H locs 0 0 Q (F0 m 5 ls []) := by
    intro n5
    induction n5 with
    | zero => intro j b hn; exact absurd hn (Nat.not_lt_zero _)
    | succ n5 ih =>
      intro j b hn i1 i2 i3 H locs hP hD hS ls hl
      have ih5 := ih
      have hn5 := hn
      clear ih hn
      refine lv_iload hx hb dX6_isFast_5 (lv_at hl 4 rfl) ?_
      refine lv_aload_n hx hb dX6_isFast_7 rfl (lv_at hl 0 rfl) ?_
      refine z_get (D := (dC, dI)) (ci := 6) (v := .int (nI lo)) (C := RX6) (T := TX6) (N := 23) hx hb hts uX6 hown hK hP 0 rfl rfl 6 (by decide) w99 rfl rfl dX6_isFast_8 ?_
      refine z_icmp_ge (tgt := 58) hx hb dX6_isFast_11 (by decide) (zcn_le (a := lo) (b := j) rfl rfl (by omega)) (fun c_11 => ?_) (fun c_11 => ?_)
      · skip
        refine lv_iload_n hx hb dX6_isFast_58 rfl (lv_at hl 3 rfl) ?_
        have q_0 : (b = 1 ∧ sp_fast (sp_tm T F LA LL) (sp_cd C LA LL) ab be lo = true) ∨ (b = 0 ∧ sp_fast (sp_tm T F LA LL) (sp_cd C LA LL) ab be lo = false) := by rcases i2 with ⟨hz, h⟩ | ⟨hz, h⟩ <;> first | exact Or.inr ⟨hz, h⟩ | exact Or.inl ⟨hz, sp_fast_t (fun q hq => h q (by omega))⟩ | (exfalso; omega)
        exact hRET _ ls H locs ((nI b)) (b) dX6_isFast_59 (by exact z_nb (by omega)) ⟨rfl, q_0⟩ hP hD hS
      · skip
        refine lv_iload_n hx hb dX6_isFast_14 rfl (lv_at hl 3 rfl) ?_
        refine z_if_eq (tgt := 58) hx hb dX6_isFast_15 (by decide) (zcn_eq (a := b) (b := 0) rfl nI_00 (by omega)) (fun c_15 => ?_) (fun c_15 => ?_)
        · skip
          refine lv_iload_n hx hb dX6_isFast_58 rfl (lv_at hl 3 rfl) ?_
          have q_0 : (b = 1 ∧ sp_fast (sp_tm T F LA LL) (sp_cd C LA LL) ab be lo = true) ∨ (b = 0 ∧ sp_fast (sp_tm T F LA LL) (sp_cd C LA LL) ab be lo = false) := by rcases i2 with ⟨hz, h⟩ | ⟨hz, h⟩ <;> first | exact Or.inr ⟨hz, h⟩ | exact Or.inl ⟨hz, sp_fast_t (fun q hq => h q (by omega))⟩ | (exfalso; omega)
          exact hRET _ ls H locs ((nI b)) (b) dX6_isFast_59 (by exact z_nb (by omega)) ⟨rfl, q_0⟩ hP hD hS
        · skip
          refine lv_aload_n hx hb dX6_isFast_18 rfl (lv_at hl 0 rfl) ?_
          refine lv_iload hx hb dX6_isFast_19 (lv_at hl 4 rfl) ?_
          refine z_callVi (As := [.int (nI j)]) (rest := []) (wr := [(x1, .inl (cI, 8, .inl (fun z_ => nI (T z_)))), (x2, .inl (cI, 16, .inl (fun z_ => nI (F z_))))]) ⟨hx, hb, hml, hown, hts⟩ (c_X6_cardsOf l dC dI cI cJ H.size m0 x1 x2 x3 x4 x5 x6 x7 x8 x9 y1 y2 y3 y4 y5 y6 y7 N K lo ns nd rm pls C LA LL j (by first | assumption | omega) (by first | assumption | omega) (by first | assumption | omega) (by first | assumption | omega)) (cwV 1 hts gX6_isFast_X6_cardsOf rfl rfl rfl (by decide +kernel) ⟨Nat.le_of_ble_eq_true rfl, Nat.le_of_ble_eq_true rfl⟩) hA hK hP hD hS [0, 3, 4, 5] [1, 2] [2, 0, 1, 3, 4, 5] rfl rfl (by decide) (by decide) (by decide) nwA_ok hN (ci := 6) rfl rfl 0 rfl hl.1 (Nat.le_of_ble_eq_true rfl) ⟨Nat.le_refl _, Nat.le_refl _⟩ rfl rfl dX6_isFast_21 (fun (u : (Nat)) => [(m0, .inr (6, [.int (nI N), .ref x1, .int (nI K), .ref x2, .ref x3, .ref x4, .int (nI lo), .ref x5, .ref x6, .ref x7, .ref x8, .int (nI ns), .int (nI nd), .ref x9, .ref y1, .ref y2, .int (nI rm), .ref y3, .ref y4, .ref y5, .ref y6, .ref y7, .int (nI pls)])), (x1, .inl (cI, 8, .inl (fun z_ => nI (T z_)))), (x2, .inl (cI, 16, .inl (fun z_ => nI (F z_)))), (x4, .inl (cI, 16, .inl (fun z_ => nI (C z_)))), (x5, .inl (cI, 16000, .inl (fun z_ => nI (LA z_)))), (x6, .inl (cI, 2000, .inl (fun z_ => nI (LL z_))))]) (fun u => rfl) (by decide) (fun r_21 u H locs hw hP hD hS => ?_)
          obtain ⟨rv_21, eu⟩ : ∃ z, z = u := ⟨_, rfl⟩
          subst eu
          have hP : va_P (dC, dI) vwCl [(m0, .inr (6, [.int (nI N), .ref x1, .int (nI K), .ref x2, .ref x3, .ref x4, .int (nI lo), .ref x5, .ref x6, .ref x7, .ref x8, .int (nI ns), .int (nI nd), .ref x9, .ref y1, .ref y2, .int (nI rm), .ref y3, .ref y4, .ref y5, .ref y6, .ref y7, .int (nI pls)])), (x1, .inl (cI, 8, .inl (fun z_ => nI (T z_)))), (x2, .inl (cI, 16, .inl (fun z_ => nI (F z_)))), (x4, .inl (cI, 16, .inl (fun z_ => nI (C z_)))), (x5, .inl (cI, 16000, .inl (fun z_ => nI (LA z_)))), (x6, .inl (cI, 2000, .inl (fun z_ => nI (LL z_))))] H := hP
          have hD : va_D A [(m0, .inr (6, [.int (nI N), .ref x1, .int (nI K), .ref x2, .ref x3, .ref x4, .int (nI lo), .ref x5, .ref x6, .ref x7, .ref x8, .int (nI ns), .int (nI nd), .ref x9, .ref y1, .ref y2, .int (nI rm), .ref y3, .ref y4, .ref y5, .ref y6, .ref y7, .int (nI pls)])), (x1, .inl (cI, 8, .inl (fun z_ => nI (T z_)))), (x2, .inl (cI, 16, .inl (fun z_ => nI (F z_)))), (x4, .inl (cI, 16, .inl (fun z_ => nI (C z_)))), (x5, .inl (cI, 16000, .inl (fun z_ => nI (LA z_)))), (x6, .inl (cI, 2000, .inl (fun z_ => nI (LL z_))))] := hD
          obtain ⟨er, p21_0, p21_1⟩ := hw
          have p21_0 : rv_21 = sp_cd C LA LL j := p21_0
          have p21_1 : rv_21 ≤ 72 := p21_1
          have er : r_21 = (nI rv_21) := er
          subst er
          refine lv_istore (lv' := [(5, .int (nI rv_21)), (0, .ref m0), (1, .int (nI ab)), (2, .int (nI be)), (3, .int (nI b)), (4, .int (nI j))]) hx hb dX6_isFast_24 hl (by decide) rfl (fun ls hl => ?_)
          refine lv_iload hx hb dX6_isFast_26 (lv_at hl 0 rfl) ?_
          refine z_if_le (tgt := 50) hx hb dX6_isFast_28 (by decide) (zcn_le (a := rv_21) (b := 0) rfl nI_00 (by omega)) (fun c_28 => ?_) (fun c_28 => ?_)
          · skip
            refine lv_iconst (v := nI 0) hx hb dX6_isFast_50 (by decide) ?_
            refine lv_istore_n (lv' := [(3, .int (nI 0)), (5, .int (nI rv_21)), (0, .ref m0), (1, .int (nI ab)), (2, .int (nI be)), (4, .int (nI j))]) hx hb dX6_isFast_51 rfl hl (by decide) rfl (fun ls hl => ?_)
            refine lv_iinc (v := (nI (j + 1))) (lv' := [(4, .int (nI (j + 1))), (3, .int (nI 0)), (5, .int (nI rv_21)), (0, .ref m0), (1, .int (nI ab)), (2, .int (nI be))]) hx hb dX6_isFast_52 hl (k := 5) rfl (z_incN j 1 (by decide)) (by decide) rfl (fun ls hl => ?_)
            refine lv_goto (tgt := 5) hx hb dX6_isFast_55 (by decide) ?_
            have o_i1 : (j + 1) ≤ lo := by first | assumption | omega
            have o_i2 : (0 = 1 ∧ (∀ q, q < (j + 1) → 0 < (sp_cd C LA LL) q ∧ (sp_tm T F LA LL) q * be ≤ ab * (sp_cd C LA LL) q)) ∨ (0 = 0 ∧ sp_fast (sp_tm T F LA LL) (sp_cd C LA LL) ab be lo = false) := by rcases i2 with ⟨hz, h⟩ | ⟨hz, h⟩ <;> first | exact Or.inr ⟨rfl, sp_fast_f j (by omega) (by rw [← p21_0]; omega)⟩ | exact Or.inr ⟨rfl, sp_fast_f j (by omega) (by rw [← p21_0, ← p34_0]; omega)⟩ | exact Or.inl ⟨rfl, lt_s h (by rw [← p21_0, ← p34_0]; omega)⟩ | (exfalso; omega)
            have o_i3 : 0 ≤ 1 := by first | assumption | omega
            have o_mu : (lo - (j + 1)) < n5 := by omega
            exact ih5 (j + 1) 0 o_mu o_i1 o_i2 o_i3 H locs hP hD hS ls (lv_sub hl [3, 4, 5, 1, 0] rfl)
          · skip
            refine lv_aload_n hx hb dX6_isFast_31 rfl (lv_at hl 1 rfl) ?_
            refine lv_iload hx hb dX6_isFast_32 (lv_at hl 5 rfl) ?_
            refine z_callVi (As := [.int (nI j)]) (rest := []) (wr := [(x4, .inl (cI, 16, .inl (fun z_ => nI (C z_))))]) ⟨hx, hb, hml, hown, hts⟩ (c_X6_timeOf l dC dI cI cJ H.size m0 x1 x2 x3 x4 x5 x6 x7 x8 x9 y1 y2 y3 y4 y5 y6 y7 N K lo ns nd rm pls T F LA LL j (by first | assumption | omega) (by first | assumption | omega) (by first | assumption | omega) (by first | assumption | omega) (by first | assumption | omega)) (cwV 1 hts gX6_isFast_X6_timeOf rfl rfl rfl (by decide +kernel) ⟨Nat.le_of_ble_eq_true rfl, Nat.le_of_ble_eq_true rfl⟩) hA hK hP hD hS [0, 1, 2, 4, 5] [3] [1, 2, 3, 0, 4, 5] rfl rfl (by decide) (by decide) (by decide) nwA_ok hN (ci := 6) rfl rfl 0 rfl hl.1 (Nat.le_of_ble_eq_true rfl) ⟨Nat.le_refl _, Nat.le_refl _⟩ rfl rfl dX6_isFast_34 (fun (u : (Nat)) => [(m0, .inr (6, [.int (nI N), .ref x1, .int (nI K), .ref x2, .ref x3, .ref x4, .int (nI lo), .ref x5, .ref x6, .ref x7, .ref x8, .int (nI ns), .int (nI nd), .ref x9, .ref y1, .ref y2, .int (nI rm), .ref y3, .ref y4, .ref y5, .ref y6, .ref y7, .int (nI pls)])), (x1, .inl (cI, 8, .inl (fun z_ => nI (T z_)))), (x2, .inl (cI, 16, .inl (fun z_ => nI (F z_)))), (x4, .inl (cI, 16, .inl (fun z_ => nI (C z_)))), (x5, .inl (cI, 16000, .inl (fun z_ => nI (LA z_)))), (x6, .inl (cI, 2000, .inl (fun z_ => nI (LL z_))))]) (fun u => rfl) (by decide) (fun r_34 u H locs hw hP hD hS => ?_)
            obtain ⟨rv_34, eu⟩ : ∃ z, z = u := ⟨_, rfl⟩
            subst eu
            have hP : va_P (dC, dI) vwCl [(m0, .inr (6, [.int (nI N), .ref x1, .int (nI K), .ref x2, .ref x3, .ref x4, .int (nI lo), .ref x5, .ref x6, .ref x7, .ref x8, .int (nI ns), .int (nI nd), .ref x9, .ref y1, .ref y2, .int (nI rm), .ref y3, .ref y4, .ref y5, .ref y6, .ref y7, .int (nI pls)])), (x1, .inl (cI, 8, .inl (fun z_ => nI (T z_)))), (x2, .inl (cI, 16, .inl (fun z_ => nI (F z_)))), (x4, .inl (cI, 16, .inl (fun z_ => nI (C z_)))), (x5, .inl (cI, 16000, .inl (fun z_ => nI (LA z_)))), (x6, .inl (cI, 2000, .inl (fun z_ => nI (LL z_))))] H := hP
            have hD : va_D A [(m0, .inr (6, [.int (nI N), .ref x1, .int (nI K), .ref x2, .ref x3, .ref x4, .int (nI lo), .ref x5, .ref x6, .ref x7, .ref x8, .int (nI ns), .int (nI nd), .ref x9, .ref y1, .ref y2, .int (nI rm), .ref y3, .ref y4, .ref y5, .ref y6, .ref y7, .int (nI pls)])), (x1, .inl (cI, 8, .inl (fun z_ => nI (T z_)))), (x2, .inl (cI, 16, .inl (fun z_ => nI (F z_)))), (x4, .inl (cI, 16, .inl (fun z_ => nI (C z_)))), (x5, .inl (cI, 16000, .inl (fun z_ => nI (LA z_)))), (x6, .inl (cI, 2000, .inl (fun z_ => nI (LL z_))))] := hD
            obtain ⟨er, p34_0, p34_1⟩ := hw
            have p34_0 : rv_34 = sp_tm T F LA LL j := p34_0
            have p34_1 : rv_34 ≤ 160 := p34_1
            have er : r_34 = (nI rv_34) := er
            subst er
            refine lv_iload_n hx hb dX6_isFast_37 rfl (lv_at hl 3 rfl) ?_
            refine z_imul (v := (nI (rv_34 * be))) hx hb dX6_isFast_38 (pk_mul _ _) ?_
            refine lv_iload_n hx hb dX6_isFast_39 rfl (lv_at hl 2 rfl) ?_
            refine lv_iload hx hb dX6_isFast_40 (lv_at hl 0 rfl) ?_
            refine z_imul (v := (nI (ab * rv_21))) hx hb dX6_isFast_42 (pk_mul _ _) ?_
            have m1 := Nat.mul_le_mul p34_1 bbe.2
            have m2 := Nat.mul_le_mul bab.2 p21_1
            refine z_icmp_gt (tgt := 50) hx hb dX6_isFast_43 (by decide) (zcn_lt (a := ab * rv_21) (b := rv_34 * be) rfl rfl (by omega)) (fun c_43 => ?_) (fun c_43 => ?_)
            · skip
              refine lv_iconst (v := nI 0) hx hb dX6_isFast_50 (by decide) ?_
              refine lv_istore_n (lv' := [(3, .int (nI 0)), (5, .int (nI rv_21)), (0, .ref m0), (1, .int (nI ab)), (2, .int (nI be)), (4, .int (nI j))]) hx hb dX6_isFast_51 rfl hl (by decide) rfl (fun ls hl => ?_)
              refine lv_iinc (v := (nI (j + 1))) (lv' := [(4, .int (nI (j + 1))), (3, .int (nI 0)), (5, .int (nI rv_21)), (0, .ref m0), (1, .int (nI ab)), (2, .int (nI be))]) hx hb dX6_isFast_52 hl (k := 5) rfl (z_incN j 1 (by decide)) (by decide) rfl (fun ls hl => ?_)
              refine lv_goto (tgt := 5) hx hb dX6_isFast_55 (by decide) ?_
              have o_i1 : (j + 1) ≤ lo := by first | assumption | omega
              have o_i2 : (0 = 1 ∧ (∀ q, q < (j + 1) → 0 < (sp_cd C LA LL) q ∧ (sp_tm T F LA LL) q * be ≤ ab * (sp_cd C LA LL) q)) ∨ (0 = 0 ∧ sp_fast (sp_tm T F LA LL) (sp_cd C LA LL) ab be lo = false) := by rcases i2 with ⟨hz, h⟩ | ⟨hz, h⟩ <;> first | exact Or.inr ⟨rfl, sp_fast_f j (by omega) (by rw [← p21_0]; omega)⟩ | exact Or.inr ⟨rfl, sp_fast_f j (by omega) (by rw [← p21_0, ← p34_0]; omega)⟩ | exact Or.inl ⟨rfl, lt_s h (by rw [← p21_0, ← p34_0]; omega)⟩ | (exfalso; omega)
              have o_i3 : 0 ≤ 1 := by first | assumption | omega
              have o_mu : (lo - (j + 1)) < n5 := by omega
              exact ih5 (j + 1) 0 o_mu o_i1 o_i2 o_i3 H locs hP hD hS ls (lv_sub hl [3, 4, 5, 1, 0] rfl)
            · skip
              refine lv_iconst (v := nI 1) hx hb dX6_isFast_46 (by decide) ?_
              refine lv_goto (tgt := 51) hx hb dX6_isFast_47 (by decide) ?_
              refine lv_istore_n (lv' := [(3, .int (nI 1)), (5, .int (nI rv_21)), (0, .ref m0), (1, .int (nI ab)), (2, .int (nI be)), (4, .int (nI j))]) hx hb dX6_isFast_51 rfl hl (by decide) rfl (fun ls hl => ?_)
              refine lv_iinc (v := (nI (j + 1))) (lv' := [(4, .int (nI (j + 1))), (3, .int (nI 1)), (5, .int (nI rv_21)), (0, .ref m0), (1, .int (nI ab)), (2, .int (nI be))]) hx hb dX6_isFast_52 hl (k := 5) rfl (z_incN j 1 (by decide)) (by decide) rfl (fun ls hl => ?_)
              refine lv_goto (tgt := 5) hx hb dX6_isFast_55 (by decide) ?_
              have o_i1 : (j + 1) ≤ lo := by first | assumption | omega
              have o_i2 : (1 = 1 ∧ (∀ q, q < (j + 1) → 0 < (sp_cd C LA LL) q ∧ (sp_tm T F LA LL) q * be ≤ ab * (sp_cd C LA LL) q)) ∨ (1 = 0 ∧ sp_fast (sp_tm T F LA LL) (sp_cd C LA LL) ab be lo = false) := by rcases i2 with ⟨hz, h⟩ | ⟨hz, h⟩ <;> first | exact Or.inr ⟨rfl, sp_fast_f j (by omega) (by rw [← p21_0]; omega)⟩ | exact Or.inr ⟨rfl, sp_fast_f j (by omega) (by rw [← p21_0, ← p34_0]; omega)⟩ | exact Or.inl ⟨rfl, lt_s h (by rw [← p21_0, ← p34_0]; omega)⟩ | (exfalso; omega)
              have o_i3 : 1 ≤ 1 := by first | assumption | omega
              have o_mu : (lo - (j + 1)) < n5 := by omega
              exact ih5 (j + 1) 1 o_mu o_i1 o_i2 o_i3 H locs hP hD hS ls (lv_sub hl [3, 4, 5, 1, 0] rfl)
  have o_i1 : 0 ≤ lo := by first | assumption | omega
  have o_i2 : (1 = 1 ∧ (∀ q, q < 0 → 0 < (sp_cd C LA LL) q ∧ (sp_tm T F LA LL) q * be ≤ ab * (sp_cd C LA LL) q)) ∨ (1 = 0 ∧ sp_fast (sp_tm T F LA LL) (sp_cd C LA LL) ab be lo = false) := by exact Or.inl ⟨rfl, fun q h => by omega⟩
  have o_i3 : 1 ≤ 1 := by first | assumption | omega
  exact L5 ((lo - 0) + 1) 0 1 (Nat.lt_succ_self _) o_i1 o_i2 o_i3 H locs hP hD hS ls (lv_sub hl [2, 3, 4, 1, 0] rfl)

set_option maxHeartbeats 4000000 in
set_option maxRecDepth 100000 in
theorem c_X6_cards (l : Launch) (dC : Nat → ClassId) (dI : Nat → Nat → Nat) (cI cJ : ClassId) (sz : Nat) (m0 : Nat) (x1 : Nat) (x2 : Nat) (x3 : Nat) (x4 : Nat) (x5 : Nat) (x6 : Nat) (x7 : Nat) (x8 : Nat) (x9 : Nat) (y1 : Nat) (y2 : Nat) (y3 : Nat) (y4 : Nat) (y5 : Nat) (y6 : Nat) (y7 : Nat) (N : Nat) (K : Nat) (lo : Nat) (ns : Nat) (nd : Nat) (rm : Nat) (pls : Nat) (T : Nat → Nat) (F : Nat → Nat) (G : Nat → Nat) (C : Nat → Nat) (LA : Nat → Nat) (LL : Nat → Nat) (PT : Nat → Nat) (z : Int) (ab : Int) (be : Int) (bN : N ≤ 8) (bK : K ≤ 16) (bF : ∀ a, F a < 8) (bG : ∀ a, G a < 8) (bLA : ∀ i, LA i < 16) (bLL : ∀ i, LL i ≤ 8) (bPT : ∀ i, PT i < 16) (bT : ∀ i, T i ≤ 20) (bC : ∀ a, C a ≤ 9) (bTP : ∀ a, a < K → 1 ≤ T (F a)) (bz : -2147483648 ≤ z ∧ z < 2147483648) (bab : -2147483648 ≤ ab ∧ ab < 2147483648) (bbe : -2147483648 ≤ be ∧ be < 2147483648) : Met l yX6_cards wsX6_cards (zR 2 0 0 50) (va_Pc [.ref m0, .int (iI z), .int (iI ab), .int (iI be)] (zP (dC, dI) [(cI, .int), (cJ, .long)] [(m0, .inr (6, [.int (nI N), .ref x1, .int (nI K), .ref x2, .ref x3, .ref x4, .int (nI lo), .ref x5, .ref x6, .ref x7, .ref x8, .int (nI ns), .int (nI nd), .ref x9, .ref y1, .ref y2, .int (nI rm), .ref y3, .ref y4, .ref y5, .ref y6, .ref y7, .int (nI pls)])), (x1, .inl (cI, 8, .inl (fun z_ => nI (T z_)))), (x2, .inl (cI, 16, .inl (fun z_ => nI (F z_)))), (x3, .inl (cI, 16, .inl (fun z_ => nI (G z_)))), (x4, .inl (cI, 16, .inl (fun z_ => nI (C z_)))), (x5, .inl (cI, 16000, .inl (fun z_ => nI (LA z_)))), (x6, .inl (cI, 2000, .inl (fun z_ => nI (LL z_)))), (x7, .inl (cI, 9, .inl (fun z_ => nI (PT z_))))] sz nwA)) (va_Qi (fun (r : Int32) (u : (Int) × (Nat → Nat) × (Nat → Nat) × (Nat → Nat) × (Nat)) => r = (iI u.1) ∧ ((¬ (0 ≤ z ∧ z < (K : Int)) ∧ u.1 = -1) ∨ ((0 ≤ z ∧ z < (K : Int)) ∧ ¬ ((1 ≤ ab ∧ ab ≤ 1000) ∧ (1 ≤ be ∧ be ≤ 1000)) ∧ u.1 = -2) ∨ ((0 ≤ z ∧ z < (K : Int)) ∧ ((1 ≤ ab ∧ ab ≤ 1000) ∧ (1 ≤ be ∧ be ≤ 1000)) ∧ sp_rch T F C (sp_all N K F G) z.toNat ab.toNat be.toNat u.1)) ∧ (∀ i, u.2.1 i < 16) ∧ (∀ i, u.2.2.1 i ≤ 8) ∧ (∀ i, u.2.2.2.1 i < 16)) (zB (dC, dI) (fun (u : (Int) × (Nat → Nat) × (Nat → Nat) × (Nat → Nat) × (Nat)) => [(m0, .inr (6, [.int (nI N), .ref x1, .int (nI K), .ref x2, .ref x3, .ref x4, .int (nI u.2.2.2.2), .ref x5, .ref x6, .ref x7, .ref x8, .int (nI ns), .int (nI nd), .ref x9, .ref y1, .ref y2, .int (nI rm), .ref y3, .ref y4, .ref y5, .ref y6, .ref y7, .int (nI pls)])), (x1, .inl (cI, 8, .inl (fun z_ => nI (T z_)))), (x2, .inl (cI, 16, .inl (fun z_ => nI (F z_)))), (x3, .inl (cI, 16, .inl (fun z_ => nI (G z_)))), (x4, .inl (cI, 16, .inl (fun z_ => nI (C z_)))), (x5, .inl (cI, 16000, .inl (fun z_ => nI (u.2.1 z_)))), (x6, .inl (cI, 2000, .inl (fun z_ => nI (u.2.2.1 z_)))), (x7, .inl (cI, 9, .inl (fun z_ => nI (u.2.2.2.1 z_))))]) (va_A [(m0, .inr (6, [.int (nI N), .ref x1, .int (nI K), .ref x2, .ref x3, .ref x4, .int (nI lo), .ref x5, .ref x6, .ref x7, .ref x8, .int (nI ns), .int (nI nd), .ref x9, .ref y1, .ref y2, .int (nI rm), .ref y3, .ref y4, .ref y5, .ref y6, .ref y7, .int (nI pls)])), (x1, .inl (cI, 8, .inl (fun z_ => nI (T z_)))), (x2, .inl (cI, 16, .inl (fun z_ => nI (F z_)))), (x3, .inl (cI, 16, .inl (fun z_ => nI (G z_)))), (x4, .inl (cI, 16, .inl (fun z_ => nI (C z_)))), (x5, .inl (cI, 16000, .inl (fun z_ => nI (LA z_)))), (x6, .inl (cI, 2000, .inl (fun z_ => nI (LL z_)))), (x7, .inl (cI, 9, .inl (fun z_ => nI (PT z_))))] sz)) (va_A [(m0, .inr (6, [.int (nI N), .ref x1, .int (nI K), .ref x2, .ref x3, .ref x4, .int (nI lo), .ref x5, .ref x6, .ref x7, .ref x8, .int (nI ns), .int (nI nd), .ref x9, .ref y1, .ref y2, .int (nI rm), .ref y3, .ref y4, .ref y5, .ref y6, .ref y7, .int (nI pls)])), (x1, .inl (cI, 8, .inl (fun z_ => nI (T z_)))), (x2, .inl (cI, 16, .inl (fun z_ => nI (F z_)))), (x3, .inl (cI, 16, .inl (fun z_ => nI (G z_)))), (x4, .inl (cI, 16, .inl (fun z_ => nI (C z_)))), (x5, .inl (cI, 16000, .inl (fun z_ => nI (LA z_)))), (x6, .inl (cI, 2000, .inl (fun z_ => nI (LL z_)))), (x7, .inl (cI, 9, .inl (fun z_ => nI (PT z_))))] sz)) 0 0 (va_A [(m0, .inr (6, [.int (nI N), .ref x1, .int (nI K), .ref x2, .ref x3, .ref x4, .int (nI lo), .ref x5, .ref x6, .ref x7, .ref x8, .int (nI ns), .int (nI nd), .ref x9, .ref y1, .ref y2, .int (nI rm), .ref y3, .ref y4, .ref y5, .ref y6, .ref y7, .int (nI pls)])), (x1, .inl (cI, 8, .inl (fun z_ => nI (T z_)))), (x2, .inl (cI, 16, .inl (fun z_ => nI (F z_)))), (x3, .inl (cI, 16, .inl (fun z_ => nI (G z_)))), (x4, .inl (cI, 16, .inl (fun z_ => nI (C z_)))), (x5, .inl (cI, 16000, .inl (fun z_ => nI (LA z_)))), (x6, .inl (cI, 2000, .inl (fun z_ => nI (LL z_)))), (x7, .inl (cI, 9, .inl (fun z_ => nI (PT z_))))] sz) := by
  refine z_met_i (cc := cX6_cards) (maxL := 7) (by decide) rfl (Nat.le_of_ble_eq_true rfl) ?_
  intro p e s m args below meth c Q A ls hx hb hml hown hts hin hA hK hP hD hN hl hRET
  have hown : s.vm.findClass RX6 = some m.cls := hown
  obtain ⟨H, eH⟩ : ∃ H : Heap, H = s.heap := ⟨_, rfl⟩
  rw [← eH] at hP
  obtain ⟨locs, eL⟩ : ∃ z : List Loc, z = [] := ⟨_, rfl⟩
  rw [← eH, ← eL]
  have hS : va_S A s.heap H locs := by rw [eH, eL]; exact va_S.rf
  have hl : lv_has ls 7 [(0, .ref m0), (1, .int (iI z)), (2, .int (iI ab)), (3, .int (iI be))] := hl
  have w19 := hts (.fieldLink RX6 19 "PullCardsModel" "cards" "[I") (by decide +kernel)
  have uX6 : ∀ w ∈ wsX60, w ∈ wsX6_cards := by decide +kernel
  refine lv_aload_n hx hb dX6_cards_0 rfl (lv_at hl 0 rfl) ?_
  refine lv_iload_n hx hb dX6_cards_1 rfl (lv_at hl 1 rfl) ?_
  refine z_callVi (As := [.int (iI z)]) (rest := []) (wr := [(x1, .inl (cI, 8, .inl (fun z_ => nI (T z_)))), (x2, .inl (cI, 16, .inl (fun z_ => nI (F z_)))), (x3, .inl (cI, 16, .inl (fun z_ => nI (G z_)))), (x4, .inl (cI, 16, .inl (fun z_ => nI (C z_)))), (x5, .inl (cI, 16000, .inl (fun z_ => nI (LA z_)))), (x6, .inl (cI, 2000, .inl (fun z_ => nI (LL z_)))), (x7, .inl (cI, 9, .inl (fun z_ => nI (PT z_))))]) ⟨hx, hb, hml, hown, hts⟩ (c_X6_isArc l dC dI cI cJ H.size m0 x1 x2 x3 x4 x5 x6 x7 x8 x9 y1 y2 y3 y4 y5 y6 y7 N K lo ns nd rm pls z (by first | assumption | omega) (by first | assumption | omega) (by first | assumption | omega)) (cwV 1 hts gX6_cards_X6_isArc rfl rfl rfl (by decide +kernel) ⟨Nat.le_of_ble_eq_true rfl, Nat.le_of_ble_eq_true rfl⟩) hA hK hP hD hS [0] [1, 2, 3, 4, 5, 6, 7] [7, 0, 1, 2, 3, 4, 5, 6] rfl rfl (by decide) (by decide) (by decide) nwA_ok hN (ci := 6) rfl rfl 0 rfl hl.1 (Nat.le_of_ble_eq_true rfl) ⟨Nat.le_refl _, Nat.le_refl _⟩ rfl rfl dX6_cards_2 (fun (u : (Nat)) => [(m0, .inr (6, [.int (nI N), .ref x1, .int (nI K), .ref x2, .ref x3, .ref x4, .int (nI lo), .ref x5, .ref x6, .ref x7, .ref x8, .int (nI ns), .int (nI nd), .ref x9, .ref y1, .ref y2, .int (nI rm), .ref y3, .ref y4, .ref y5, .ref y6, .ref y7, .int (nI pls)])), (x1, .inl (cI, 8, .inl (fun z_ => nI (T z_)))), (x2, .inl (cI, 16, .inl (fun z_ => nI (F z_)))), (x3, .inl (cI, 16, .inl (fun z_ => nI (G z_)))), (x4, .inl (cI, 16, .inl (fun z_ => nI (C z_)))), (x5, .inl (cI, 16000, .inl (fun z_ => nI (LA z_)))), (x6, .inl (cI, 2000, .inl (fun z_ => nI (LL z_)))), (x7, .inl (cI, 9, .inl (fun z_ => nI (PT z_))))]) (fun u => rfl) (by decide) (fun r_2 u H locs hw hP hD hS => ?_)
  obtain ⟨rv_2, eu⟩ : ∃ z, z = u := ⟨_, rfl⟩
  subst eu
  have hP : va_P (dC, dI) vwCl [(m0, .inr (6, [.int (nI N), .ref x1, .int (nI K), .ref x2, .ref x3, .ref x4, .int (nI lo), .ref x5, .ref x6, .ref x7, .ref x8, .int (nI ns), .int (nI nd), .ref x9, .ref y1, .ref y2, .int (nI rm), .ref y3, .ref y4, .ref y5, .ref y6, .ref y7, .int (nI pls)])), (x1, .inl (cI, 8, .inl (fun z_ => nI (T z_)))), (x2, .inl (cI, 16, .inl (fun z_ => nI (F z_)))), (x3, .inl (cI, 16, .inl (fun z_ => nI (G z_)))), (x4, .inl (cI, 16, .inl (fun z_ => nI (C z_)))), (x5, .inl (cI, 16000, .inl (fun z_ => nI (LA z_)))), (x6, .inl (cI, 2000, .inl (fun z_ => nI (LL z_)))), (x7, .inl (cI, 9, .inl (fun z_ => nI (PT z_))))] H := hP
  have hD : va_D A [(m0, .inr (6, [.int (nI N), .ref x1, .int (nI K), .ref x2, .ref x3, .ref x4, .int (nI lo), .ref x5, .ref x6, .ref x7, .ref x8, .int (nI ns), .int (nI nd), .ref x9, .ref y1, .ref y2, .int (nI rm), .ref y3, .ref y4, .ref y5, .ref y6, .ref y7, .int (nI pls)])), (x1, .inl (cI, 8, .inl (fun z_ => nI (T z_)))), (x2, .inl (cI, 16, .inl (fun z_ => nI (F z_)))), (x3, .inl (cI, 16, .inl (fun z_ => nI (G z_)))), (x4, .inl (cI, 16, .inl (fun z_ => nI (C z_)))), (x5, .inl (cI, 16000, .inl (fun z_ => nI (LA z_)))), (x6, .inl (cI, 2000, .inl (fun z_ => nI (LL z_)))), (x7, .inl (cI, 9, .inl (fun z_ => nI (PT z_))))] := hD
  obtain ⟨er, p2_0⟩ := hw
  have p2_0 : (rv_2 = 1 ∧ (0 ≤ z ∧ z < (K : Int))) ∨ (rv_2 = 0 ∧ ¬ (0 ≤ z ∧ z < (K : Int))) := p2_0
  have er : r_2 = (nI rv_2) := er
  subst er
  rcases p2_0 with ⟨h2, c_2⟩ | ⟨h2, c_2⟩
  · skip
    subst h2
    refine lv_if_ne (tgt := 10) hx hb dX6_cards_5 (by decide) (fun _ => ?_) (fun c_x => absurd c_x (by decide))
    refine lv_iload_n hx hb dX6_cards_10 rfl (lv_at hl 2 rfl) ?_
    refine lv_i2l (v := (lI ab)) hx hb dX6_cards_11 (zl_i2l rfl (by omega)) ?_
    refine lv_lconst (v := lN 1) hx hb dX6_cards_12 (by decide) ?_
    refine lv_ldc2 (v := (1000 : Int64)) hx hb hown (hts (.constantLong RX6 141 (1000)) (by decide +kernel)) dX6_cards_13 ?_
    refine z_l0 (v := (lN 1000)) (by decide) ?_
    refine z_l0 (v := lI 1000) (by decide) ?_
    refine z_l1 (v := lI 1) (by decide) ?_
    refine z_callSi (As := [.long (lI ab), .long (lI 1), .long (lI 1000)]) (rest := []) (wr := [(m0, .inr (6, [.int (nI N), .ref x1, .int (nI K), .ref x2, .ref x3, .ref x4, .int (nI lo), .ref x5, .ref x6, .ref x7, .ref x8, .int (nI ns), .int (nI nd), .ref x9, .ref y1, .ref y2, .int (nI rm), .ref y3, .ref y4, .ref y5, .ref y6, .ref y7, .int (nI pls)])), (x1, .inl (cI, 8, .inl (fun z_ => nI (T z_)))), (x2, .inl (cI, 16, .inl (fun z_ => nI (F z_)))), (x3, .inl (cI, 16, .inl (fun z_ => nI (G z_)))), (x4, .inl (cI, 16, .inl (fun z_ => nI (C z_)))), (x5, .inl (cI, 16000, .inl (fun z_ => nI (LA z_)))), (x6, .inl (cI, 2000, .inl (fun z_ => nI (LL z_)))), (x7, .inl (cI, 9, .inl (fun z_ => nI (PT z_))))]) ⟨hx, hb, hml, hown, hts⟩ (c_X6_in l dC dI cI cJ H.size ab (1 : Int) (1000 : Int) (by first | assumption | omega) (by first | assumption | omega) (by first | assumption | omega)) (va_cwS 3 hts gX6_cards_X6_in rfl rfl rfl (by decide +kernel) ⟨Nat.le_of_ble_eq_true rfl, Nat.le_of_ble_eq_true rfl⟩) hA hK hP hD hS [] [0, 1, 2, 3, 4, 5, 6, 7] [0, 1, 2, 3, 4, 5, 6, 7] rfl rfl (by decide) (by decide) (by decide) nwA_ok hN hl.1 (Nat.le_of_ble_eq_true rfl) ⟨Nat.le_refl _, Nat.le_refl _⟩ rfl rfl dX6_cards_16 (fun (u : (Nat)) => [(m0, .inr (6, [.int (nI N), .ref x1, .int (nI K), .ref x2, .ref x3, .ref x4, .int (nI lo), .ref x5, .ref x6, .ref x7, .ref x8, .int (nI ns), .int (nI nd), .ref x9, .ref y1, .ref y2, .int (nI rm), .ref y3, .ref y4, .ref y5, .ref y6, .ref y7, .int (nI pls)])), (x1, .inl (cI, 8, .inl (fun z_ => nI (T z_)))), (x2, .inl (cI, 16, .inl (fun z_ => nI (F z_)))), (x3, .inl (cI, 16, .inl (fun z_ => nI (G z_)))), (x4, .inl (cI, 16, .inl (fun z_ => nI (C z_)))), (x5, .inl (cI, 16000, .inl (fun z_ => nI (LA z_)))), (x6, .inl (cI, 2000, .inl (fun z_ => nI (LL z_)))), (x7, .inl (cI, 9, .inl (fun z_ => nI (PT z_))))]) (fun u => rfl) (by decide) (fun r_16 u H locs hw hP hD hS => ?_)
    obtain ⟨rv_16, eu⟩ : ∃ z, z = u := ⟨_, rfl⟩
    subst eu
    have hP : va_P (dC, dI) vwCl [(m0, .inr (6, [.int (nI N), .ref x1, .int (nI K), .ref x2, .ref x3, .ref x4, .int (nI lo), .ref x5, .ref x6, .ref x7, .ref x8, .int (nI ns), .int (nI nd), .ref x9, .ref y1, .ref y2, .int (nI rm), .ref y3, .ref y4, .ref y5, .ref y6, .ref y7, .int (nI pls)])), (x1, .inl (cI, 8, .inl (fun z_ => nI (T z_)))), (x2, .inl (cI, 16, .inl (fun z_ => nI (F z_)))), (x3, .inl (cI, 16, .inl (fun z_ => nI (G z_)))), (x4, .inl (cI, 16, .inl (fun z_ => nI (C z_)))), (x5, .inl (cI, 16000, .inl (fun z_ => nI (LA z_)))), (x6, .inl (cI, 2000, .inl (fun z_ => nI (LL z_)))), (x7, .inl (cI, 9, .inl (fun z_ => nI (PT z_))))] H := hP
    have hD : va_D A [(m0, .inr (6, [.int (nI N), .ref x1, .int (nI K), .ref x2, .ref x3, .ref x4, .int (nI lo), .ref x5, .ref x6, .ref x7, .ref x8, .int (nI ns), .int (nI nd), .ref x9, .ref y1, .ref y2, .int (nI rm), .ref y3, .ref y4, .ref y5, .ref y6, .ref y7, .int (nI pls)])), (x1, .inl (cI, 8, .inl (fun z_ => nI (T z_)))), (x2, .inl (cI, 16, .inl (fun z_ => nI (F z_)))), (x3, .inl (cI, 16, .inl (fun z_ => nI (G z_)))), (x4, .inl (cI, 16, .inl (fun z_ => nI (C z_)))), (x5, .inl (cI, 16000, .inl (fun z_ => nI (LA z_)))), (x6, .inl (cI, 2000, .inl (fun z_ => nI (LL z_)))), (x7, .inl (cI, 9, .inl (fun z_ => nI (PT z_))))] := hD
    obtain ⟨er, p16_0⟩ := hw
    have p16_0 : (rv_16 = 1 ∧ ((1 : Int) ≤ ab ∧ ab ≤ (1000 : Int))) ∨ (rv_16 = 0 ∧ ¬ ((1 : Int) ≤ ab ∧ ab ≤ (1000 : Int))) := p16_0
    have er : r_16 = (nI rv_16) := er
    subst er
    rcases p16_0 with ⟨h16, c_16⟩ | ⟨h16, c_16⟩
    · skip
      subst h16
      refine lv_if_eq (tgt := 34) hx hb dX6_cards_19 (by decide) (fun c_x => absurd c_x (by decide)) (fun _ => ?_)
      refine lv_iload_n hx hb dX6_cards_22 rfl (lv_at hl 3 rfl) ?_
      refine lv_i2l (v := (lI be)) hx hb dX6_cards_23 (zl_i2l rfl (by omega)) ?_
      refine lv_lconst (v := lN 1) hx hb dX6_cards_24 (by decide) ?_
      refine lv_ldc2 (v := (1000 : Int64)) hx hb hown (hts (.constantLong RX6 141 (1000)) (by decide +kernel)) dX6_cards_25 ?_
      refine z_l0 (v := (lN 1000)) (by decide) ?_
      refine z_l0 (v := lI 1000) (by decide) ?_
      refine z_l1 (v := lI 1) (by decide) ?_
      refine z_callSi (As := [.long (lI be), .long (lI 1), .long (lI 1000)]) (rest := []) (wr := [(m0, .inr (6, [.int (nI N), .ref x1, .int (nI K), .ref x2, .ref x3, .ref x4, .int (nI lo), .ref x5, .ref x6, .ref x7, .ref x8, .int (nI ns), .int (nI nd), .ref x9, .ref y1, .ref y2, .int (nI rm), .ref y3, .ref y4, .ref y5, .ref y6, .ref y7, .int (nI pls)])), (x1, .inl (cI, 8, .inl (fun z_ => nI (T z_)))), (x2, .inl (cI, 16, .inl (fun z_ => nI (F z_)))), (x3, .inl (cI, 16, .inl (fun z_ => nI (G z_)))), (x4, .inl (cI, 16, .inl (fun z_ => nI (C z_)))), (x5, .inl (cI, 16000, .inl (fun z_ => nI (LA z_)))), (x6, .inl (cI, 2000, .inl (fun z_ => nI (LL z_)))), (x7, .inl (cI, 9, .inl (fun z_ => nI (PT z_))))]) ⟨hx, hb, hml, hown, hts⟩ (c_X6_in l dC dI cI cJ H.size be (1 : Int) (1000 : Int) (by first | assumption | omega) (by first | assumption | omega) (by first | assumption | omega)) (va_cwS 3 hts gX6_cards_X6_in rfl rfl rfl (by decide +kernel) ⟨Nat.le_of_ble_eq_true rfl, Nat.le_of_ble_eq_true rfl⟩) hA hK hP hD hS [] [0, 1, 2, 3, 4, 5, 6, 7] [0, 1, 2, 3, 4, 5, 6, 7] rfl rfl (by decide) (by decide) (by decide) nwA_ok hN hl.1 (Nat.le_of_ble_eq_true rfl) ⟨Nat.le_refl _, Nat.le_refl _⟩ rfl rfl dX6_cards_28 (fun (u : (Nat)) => [(m0, .inr (6, [.int (nI N), .ref x1, .int (nI K), .ref x2, .ref x3, .ref x4, .int (nI lo), .ref x5, .ref x6, .ref x7, .ref x8, .int (nI ns), .int (nI nd), .ref x9, .ref y1, .ref y2, .int (nI rm), .ref y3, .ref y4, .ref y5, .ref y6, .ref y7, .int (nI pls)])), (x1, .inl (cI, 8, .inl (fun z_ => nI (T z_)))), (x2, .inl (cI, 16, .inl (fun z_ => nI (F z_)))), (x3, .inl (cI, 16, .inl (fun z_ => nI (G z_)))), (x4, .inl (cI, 16, .inl (fun z_ => nI (C z_)))), (x5, .inl (cI, 16000, .inl (fun z_ => nI (LA z_)))), (x6, .inl (cI, 2000, .inl (fun z_ => nI (LL z_)))), (x7, .inl (cI, 9, .inl (fun z_ => nI (PT z_))))]) (fun u => rfl) (by decide) (fun r_28 u H locs hw hP hD hS => ?_)
      obtain ⟨rv_28, eu⟩ : ∃ z, z = u := ⟨_, rfl⟩
      subst eu
      have hP : va_P (dC, dI) vwCl [(m0, .inr (6, [.int (nI N), .ref x1, .int (nI K), .ref x2, .ref x3, .ref x4, .int (nI lo), .ref x5, .ref x6, .ref x7, .ref x8, .int (nI ns), .int (nI nd), .ref x9, .ref y1, .ref y2, .int (nI rm), .ref y3, .ref y4, .ref y5, .ref y6, .ref y7, .int (nI pls)])), (x1, .inl (cI, 8, .inl (fun z_ => nI (T z_)))), (x2, .inl (cI, 16, .inl (fun z_ => nI (F z_)))), (x3, .inl (cI, 16, .inl (fun z_ => nI (G z_)))), (x4, .inl (cI, 16, .inl (fun z_ => nI (C z_)))), (x5, .inl (cI, 16000, .inl (fun z_ => nI (LA z_)))), (x6, .inl (cI, 2000, .inl (fun z_ => nI (LL z_)))), (x7, .inl (cI, 9, .inl (fun z_ => nI (PT z_))))] H := hP
      have hD : va_D A [(m0, .inr (6, [.int (nI N), .ref x1, .int (nI K), .ref x2, .ref x3, .ref x4, .int (nI lo), .ref x5, .ref x6, .ref x7, .ref x8, .int (nI ns), .int (nI nd), .ref x9, .ref y1, .ref y2, .int (nI rm), .ref y3, .ref y4, .ref y5, .ref y6, .ref y7, .int (nI pls)])), (x1, .inl (cI, 8, .inl (fun z_ => nI (T z_)))), (x2, .inl (cI, 16, .inl (fun z_ => nI (F z_)))), (x3, .inl (cI, 16, .inl (fun z_ => nI (G z_)))), (x4, .inl (cI, 16, .inl (fun z_ => nI (C z_)))), (x5, .inl (cI, 16000, .inl (fun z_ => nI (LA z_)))), (x6, .inl (cI, 2000, .inl (fun z_ => nI (LL z_)))), (x7, .inl (cI, 9, .inl (fun z_ => nI (PT z_))))] := hD
      obtain ⟨er, p28_0⟩ := hw
      have p28_0 : (rv_28 = 1 ∧ ((1 : Int) ≤ be ∧ be ≤ (1000 : Int))) ∨ (rv_28 = 0 ∧ ¬ ((1 : Int) ≤ be ∧ be ≤ (1000 : Int))) := p28_0
      have er : r_28 = (nI rv_28) := er
      subst er
      rcases p28_0 with ⟨h28, c_28⟩ | ⟨h28, c_28⟩
      · skip
        subst h28
        refine lv_if_ne (tgt := 37) hx hb dX6_cards_31 (by decide) (fun _ => ?_) (fun c_x => absurd c_x (by decide))
        refine lv_aload_n hx hb dX6_cards_37 rfl (lv_at hl 0 rfl) ?_
        refine z_callVv (As := []) (rest := []) (wr := [(x1, .inl (cI, 8, .inl (fun z_ => nI (T z_)))), (x4, .inl (cI, 16, .inl (fun z_ => nI (C z_))))]) ⟨hx, hb, hml, hown, hts⟩ (c_X6_find l dC dI cI cJ H.size m0 x1 x2 x3 x4 x5 x6 x7 x8 x9 y1 y2 y3 y4 y5 y6 y7 N K lo ns nd rm pls F G LA LL PT (by first | assumption | omega) (by first | assumption | omega) (by first | assumption | omega) (by first | assumption | omega) (by first | assumption | omega) (by first | assumption | omega) (by first | assumption | omega)) (cwV 0 hts gX6_cards_X6_find rfl rfl rfl (by decide +kernel) ⟨Nat.le_of_ble_eq_true rfl, Nat.le_of_ble_eq_true rfl⟩) hA hK hP hD hS [0, 2, 3, 5, 6, 7] [1, 4] [2, 0, 3, 4, 1, 5, 6, 7] rfl rfl (by decide) (by decide) (by decide) nwA_ok hN (ci := 6) rfl rfl 0 rfl hl.1 (Nat.le_of_ble_eq_true rfl) ⟨Nat.le_refl _, Nat.le_refl _⟩ rfl rfl dX6_cards_38 (fun (u : (Nat → Nat) × (Nat → Nat) × (Nat → Nat) × (Nat)) => [(m0, .inr (6, [.int (nI N), .ref x1, .int (nI K), .ref x2, .ref x3, .ref x4, .int (nI u.2.2.2), .ref x5, .ref x6, .ref x7, .ref x8, .int (nI ns), .int (nI nd), .ref x9, .ref y1, .ref y2, .int (nI rm), .ref y3, .ref y4, .ref y5, .ref y6, .ref y7, .int (nI pls)])), (x1, .inl (cI, 8, .inl (fun z_ => nI (T z_)))), (x2, .inl (cI, 16, .inl (fun z_ => nI (F z_)))), (x3, .inl (cI, 16, .inl (fun z_ => nI (G z_)))), (x4, .inl (cI, 16, .inl (fun z_ => nI (C z_)))), (x5, .inl (cI, 16000, .inl (fun z_ => nI (u.1 z_)))), (x6, .inl (cI, 2000, .inl (fun z_ => nI (u.2.1 z_)))), (x7, .inl (cI, 9, .inl (fun z_ => nI (u.2.2.1 z_))))]) (fun u => rfl) (by decide) (fun u H locs hw hP hD hS => ?_)
        obtain ⟨LA2_38, LL2_38, PT2_38, lo2_38⟩ := u
        have hP : va_P (dC, dI) vwCl [(m0, .inr (6, [.int (nI N), .ref x1, .int (nI K), .ref x2, .ref x3, .ref x4, .int (nI lo2_38), .ref x5, .ref x6, .ref x7, .ref x8, .int (nI ns), .int (nI nd), .ref x9, .ref y1, .ref y2, .int (nI rm), .ref y3, .ref y4, .ref y5, .ref y6, .ref y7, .int (nI pls)])), (x1, .inl (cI, 8, .inl (fun z_ => nI (T z_)))), (x2, .inl (cI, 16, .inl (fun z_ => nI (F z_)))), (x3, .inl (cI, 16, .inl (fun z_ => nI (G z_)))), (x4, .inl (cI, 16, .inl (fun z_ => nI (C z_)))), (x5, .inl (cI, 16000, .inl (fun z_ => nI (LA2_38 z_)))), (x6, .inl (cI, 2000, .inl (fun z_ => nI (LL2_38 z_)))), (x7, .inl (cI, 9, .inl (fun z_ => nI (PT2_38 z_))))] H := hP
        have hD : va_D A [(m0, .inr (6, [.int (nI N), .ref x1, .int (nI K), .ref x2, .ref x3, .ref x4, .int (nI lo2_38), .ref x5, .ref x6, .ref x7, .ref x8, .int (nI ns), .int (nI nd), .ref x9, .ref y1, .ref y2, .int (nI rm), .ref y3, .ref y4, .ref y5, .ref y6, .ref y7, .int (nI pls)])), (x1, .inl (cI, 8, .inl (fun z_ => nI (T z_)))), (x2, .inl (cI, 16, .inl (fun z_ => nI (F z_)))), (x3, .inl (cI, 16, .inl (fun z_ => nI (G z_)))), (x4, .inl (cI, 16, .inl (fun z_ => nI (C z_)))), (x5, .inl (cI, 16000, .inl (fun z_ => nI (LA2_38 z_)))), (x6, .inl (cI, 2000, .inl (fun z_ => nI (LL2_38 z_)))), (x7, .inl (cI, 9, .inl (fun z_ => nI (PT2_38 z_))))] := hD
        obtain ⟨p38_0, p38_1, p38_2, p38_3, p38_4⟩ := hw
        have p38_0 : sp_hold (sp_all N K F G) lo2_38 LA2_38 LL2_38 := p38_0
        have p38_1 : ∀ i, LA2_38 i < 16 := p38_1
        have p38_2 : ∀ i, LL2_38 i ≤ 8 := p38_2
        have p38_3 : ∀ i, PT2_38 i < 16 := p38_3
        have p38_4 : lo2_38 ≤ 636 := p38_4
        have hlen := p38_0.1
        have b4 := p38_4
        refine lv_aload_n hx hb dX6_cards_41 rfl (lv_at hl 0 rfl) ?_
        refine z_get (D := (dC, dI)) (ci := 6) (v := .ref x4) (C := RX6) (T := TX6) (N := 23) hx hb hts uX6 hown hK hP 0 rfl rfl 5 (by decide) w19 rfl rfl dX6_cards_42 ?_
        refine lv_iload_n hx hb dX6_cards_45 rfl (lv_at hl 1 rfl) ?_
        refine z_c0 (v := nI z.toNat) (z_ZtoN (by first | assumption | omega)) ?_
        refine z_iald (v := (nI (C z.toNat))) hx hb hK hP 4 0 rfl rfl z.toNat rfl (by omega) rfl dX6_cards_46 ?_
        have f46_0 := bC z.toNat
        refine lv_istore (lv' := [(4, .int (nI (C z.toNat))), (0, .ref m0), (1, .int (iI z)), (2, .int (iI ab)), (3, .int (iI be))]) hx hb dX6_cards_47 hl (by decide) rfl (fun ls hl => ?_)
        refine lv_bipush (v := iI (-9)) hx hb dX6_cards_49 (by decide) ?_
        refine lv_istore (lv' := [(5, .int (iI (-9))), (4, .int (nI (C z.toNat))), (0, .ref m0), (1, .int (iI z)), (2, .int (iI ab)), (3, .int (iI be))]) hx hb dX6_cards_51 hl (by decide) rfl (fun ls hl => ?_)
        refine lv_iconst (v := nI 0) hx hb dX6_cards_53 (by decide) ?_
        refine lv_istore (lv' := [(6, .int (nI 0)), (5, .int (iI (-9))), (4, .int (nI (C z.toNat))), (0, .ref m0), (1, .int (iI z)), (2, .int (iI ab)), (3, .int (iI be))]) hx hb dX6_cards_54 hl (by decide) rfl (fun ls hl => ?_)
        have L56 : ∀ (n56 : Nat) (n : Nat) (fd : Int) (C1 : Nat → Nat), (10 - n) < n56 → (n ≤ 10) → (∀ a, ¬ a = z.toNat → C1 a = C a) → (∀ a, C1 a ≤ 9) → ((fd = -9 ∧ ∀ m, m < n → sp_fast (sp_tm T F LA2_38 LL2_38) (sp_cd (up C z.toNat (C z.toNat + m)) LA2_38 LL2_38) ab.toNat be.toNat lo2_38 = false) ∨ (0 ≤ fd ∧ (C z.toNat : Int) + fd ≤ 9 ∧ sp_fast (sp_tm T F LA2_38 LL2_38) (sp_cd (up C z.toNat (C z.toNat + fd.toNat)) LA2_38 LL2_38) ab.toNat be.toNat lo2_38 = true ∧ ∀ m, m < fd.toNat → sp_fast (sp_tm T F LA2_38 LL2_38) (sp_cd (up C z.toNat (C z.toNat + m)) LA2_38 LL2_38) ab.toNat be.toNat lo2_38 = false)) → (fd = -9 ∨ (0 ≤ fd ∧ fd ≤ 9)) → ∀ (H : Heap) (locs : List Loc), va_P (dC, dI) vwCl [(m0, .inr (6, [.int (nI N), .ref x1, .int (nI K), .ref x2, .ref x3, .ref x4, .int (nI lo2_38), .ref x5, .ref x6, .ref x7, .ref x8, .int (nI ns), .int (nI nd), .ref x9, .ref y1, .ref y2, .int (nI rm), .ref y3, .ref y4, .ref y5, .ref y6, .ref y7, .int (nI pls)])), (x1, .inl (cI, 8, .inl (fun z_ => nI (T z_)))), (x2, .inl (cI, 16, .inl (fun z_ => nI (F z_)))), (x3, .inl (cI, 16, .inl (fun z_ => nI (G z_)))), (x4, .inl (cI, 16, .inl (fun z_ => nI (C1 z_)))), (x5, .inl (cI, 16000, .inl (fun z_ => nI (LA2_38 z_)))), (x6, .inl (cI, 2000, .inl (fun z_ => nI (LL2_38 z_)))), (x7, .inl (cI, 9, .inl (fun z_ => nI (PT2_38 z_))))] H → va_D A [(m0, .inr (6, [.int (nI N), .ref x1, .int (nI K), .ref x2, .ref x3, .ref x4, .int (nI lo2_38), .ref x5, .ref x6, .ref x7, .ref x8, .int (nI ns), .int (nI nd), .ref x9, .ref y1, .ref y2, .int (nI rm), .ref y3, .ref y4, .ref y5, .ref y6, .ref y7, .int (nI pls)])), (x1, .inl (cI, 8, .inl (fun z_ => nI (T z_)))), (x2, .inl (cI, 16, .inl (fun z_ => nI (F z_)))), (x3, .inl (cI, 16, .inl (fun z_ => nI (G z_)))), (x4, .inl (cI, 16, .inl (fun z_ => nI (C1 z_)))), (x5, .inl (cI, 16000, .inl (fun z_ => nI (LA2_38 z_)))), (x6, .inl (cI, 2000, .inl (fun z_ => nI (LL2_38 z_)))), (x7, .inl (cI, 9, .inl (fun z_ => nI (PT2_38 z_))))] → va_S A s.heap H locs → ∀ (ls : Array Slot), lv_has ls 7 [(0, .ref m0), (1, .int (iI z)), (2, .int (iI ab)), (3, .int (iI be)), (4, .int (nI (C z.toNat))), (5, .int (iI fd)), (6, .int (nI n))] → W p l e (zR 2 0 0 50) s m args below meth c H locs 0 0 Q (F0 m 56 ls []) := by
          intro n56
          induction n56 with
          | zero => intro n fd C1 hn; exact absurd hn (Nat.not_lt_zero _)
          | succ n56 ih =>
            intro n fd C1 hn i1 i2 i3 i4 i5 H locs hP hD hS ls hl
            have ih56 := ih
            have hn56 := hn
            clear ih hn
            have bCz := bC z.toNat
            refine lv_iload hx hb dX6_cards_56 (lv_at hl 4 rfl) ?_
            refine lv_iload hx hb dX6_cards_58 (lv_at hl 6 rfl) ?_
            refine z_iadd (v := (nI ((C z.toNat) + n))) hx hb dX6_cards_60 (nI_add _ _) ?_
            refine lv_bipush (v := nI 9) hx hb dX6_cards_61 (by decide) ?_
            refine z_icmp_gt (tgt := 108) hx hb dX6_cards_63 (by decide) (zcn_lt (a := 9) (b := (C z.toNat) + n) rfl rfl (by omega)) (fun c_63 => ?_) (fun c_63 => ?_)
            · skip
              refine lv_aload_n hx hb dX6_cards_108 rfl (lv_at hl 0 rfl) ?_
              refine z_get (D := (dC, dI)) (ci := 6) (v := .ref x4) (C := RX6) (T := TX6) (N := 23) hx hb hts uX6 hown hK hP 0 rfl rfl 5 (by decide) w19 rfl rfl dX6_cards_109 ?_
              refine lv_iload_n hx hb dX6_cards_112 rfl (lv_at hl 1 rfl) ?_
              refine lv_iload hx hb dX6_cards_113 (lv_at hl 4 rfl) ?_
              refine z_c1 (v := nI z.toNat) (z_ZtoN (by first | assumption | omega)) ?_
              refine z_iast hx hb hK hP hD hS 4 0 rfl rfl z.toNat rfl (by omega) (upd_N C1 z.toNat (C z.toNat)) [(m0, .inr (6, [.int (nI N), .ref x1, .int (nI K), .ref x2, .ref x3, .ref x4, .int (nI lo2_38), .ref x5, .ref x6, .ref x7, .ref x8, .int (nI ns), .int (nI nd), .ref x9, .ref y1, .ref y2, .int (nI rm), .ref y3, .ref y4, .ref y5, .ref y6, .ref y7, .int (nI pls)])), (x1, .inl (cI, 8, .inl (fun z_ => nI (T z_)))), (x2, .inl (cI, 16, .inl (fun z_ => nI (F z_)))), (x3, .inl (cI, 16, .inl (fun z_ => nI (G z_)))), (x4, .inl (cI, 16, .inl (fun z_ => nI ((up C1 z.toNat (C z.toNat)) z_)))), (x5, .inl (cI, 16000, .inl (fun z_ => nI (LA2_38 z_)))), (x6, .inl (cI, 2000, .inl (fun z_ => nI (LL2_38 z_)))), (x7, .inl (cI, 9, .inl (fun z_ => nI (PT2_38 z_))))] rfl dX6_cards_115 (fun H locs hP hD hS => ?_)
              have erc : (up C1 z.toNat (C z.toNat)) = C := by funext a; unfold up; split; (rename_i hz; rw [hz]); (exact i2 a (by assumption))
              rw [erc] at hP hD
              have hP : va_P (dC, dI) vwCl [(m0, .inr (6, [.int (nI N), .ref x1, .int (nI K), .ref x2, .ref x3, .ref x4, .int (nI lo2_38), .ref x5, .ref x6, .ref x7, .ref x8, .int (nI ns), .int (nI nd), .ref x9, .ref y1, .ref y2, .int (nI rm), .ref y3, .ref y4, .ref y5, .ref y6, .ref y7, .int (nI pls)])), (x1, .inl (cI, 8, .inl (fun z_ => nI (T z_)))), (x2, .inl (cI, 16, .inl (fun z_ => nI (F z_)))), (x3, .inl (cI, 16, .inl (fun z_ => nI (G z_)))), (x4, .inl (cI, 16, .inl (fun z_ => nI (C z_)))), (x5, .inl (cI, 16000, .inl (fun z_ => nI (LA2_38 z_)))), (x6, .inl (cI, 2000, .inl (fun z_ => nI (LL2_38 z_)))), (x7, .inl (cI, 9, .inl (fun z_ => nI (PT2_38 z_))))] H := hP
              have hD : va_D A [(m0, .inr (6, [.int (nI N), .ref x1, .int (nI K), .ref x2, .ref x3, .ref x4, .int (nI lo2_38), .ref x5, .ref x6, .ref x7, .ref x8, .int (nI ns), .int (nI nd), .ref x9, .ref y1, .ref y2, .int (nI rm), .ref y3, .ref y4, .ref y5, .ref y6, .ref y7, .int (nI pls)])), (x1, .inl (cI, 8, .inl (fun z_ => nI (T z_)))), (x2, .inl (cI, 16, .inl (fun z_ => nI (F z_)))), (x3, .inl (cI, 16, .inl (fun z_ => nI (G z_)))), (x4, .inl (cI, 16, .inl (fun z_ => nI (C z_)))), (x5, .inl (cI, 16000, .inl (fun z_ => nI (LA2_38 z_)))), (x6, .inl (cI, 2000, .inl (fun z_ => nI (LL2_38 z_)))), (x7, .inl (cI, 9, .inl (fun z_ => nI (PT2_38 z_))))] := hD
              refine lv_iload hx hb dX6_cards_116 (lv_at hl 5 rfl) ?_
              have q_0 : (¬ (0 ≤ z ∧ z < (K : Int)) ∧ fd = -1) ∨ ((0 ≤ z ∧ z < (K : Int)) ∧ ¬ ((1 ≤ ab ∧ ab ≤ 1000) ∧ (1 ≤ be ∧ be ≤ 1000)) ∧ fd = -2) ∨ ((0 ≤ z ∧ z < (K : Int)) ∧ ((1 ≤ ab ∧ ab ≤ 1000) ∧ (1 ≤ be ∧ be ≤ 1000)) ∧ sp_rch T F C (sp_all N K F G) z.toNat ab.toNat be.toNat fd) := by refine Or.inr (Or.inr ⟨by omega, by omega, ?_⟩); refine sp_rch_m (n := n) (fun q hq => sp_map_nd (sp_all_mem (sp_getD_mem hq)).2.1) (fun q hq => sp_tmL_pos hq bTP) (by omega) (by omega) ?_; have hcv : ∀ m, sp_fast (sp_tmL T F (sp_all N K F G)) (sp_cdL (up C z.toNat (C z.toNat + m)) (sp_all N K F G)) ab.toNat be.toNat (sp_all N K F G).length = sp_fast (sp_tm T F LA2_38 LL2_38) (sp_cd (up C z.toNat (C z.toNat + m)) LA2_38 LL2_38) ab.toNat be.toNat lo2_38 := (fun m => (by rw [← hlen]; exact sp_fast_cong (fun q hq => (sp_tm_L p38_0 hq).symm) (fun q hq => (sp_cd_L p38_0 hq).symm))); (rcases i4 with ⟨h1, h2⟩ | ⟨h1, h2, h3, h4⟩); (exact Or.inl ⟨h1, by omega, fun m hm => by rw [hcv]; exact h2 m hm⟩); (exact Or.inr ⟨h1, h2, by rw [hcv]; exact h3, fun m hm => by rw [hcv]; exact h4 m hm⟩)
              have q_1 : ∀ i, LA2_38 i < 16 := by first | assumption | omega
              have q_2 : ∀ i, LL2_38 i ≤ 8 := by first | assumption | omega
              have q_3 : ∀ i, PT2_38 i < 16 := by first | assumption | omega
              exact hRET _ ls H locs ((iI fd)) (fd, LA2_38, LL2_38, PT2_38, lo2_38) dX6_cards_118 ⟨rfl, q_0, q_1, q_2, q_3⟩ hP hD hS
            · skip
              refine lv_iload hx hb dX6_cards_66 (lv_at hl 5 rfl) ?_
              refine lv_bipush (v := iI (-9)) hx hb dX6_cards_68 (by decide) ?_
              refine z_icmp_ne (tgt := 108) hx hb dX6_cards_70 (by decide) (zc_eq (a := fd) (b := -9) rfl rfl (by omega)) (fun c_70 => ?_) (fun c_70 => ?_)
              · skip
                refine lv_aload_n hx hb dX6_cards_108 rfl (lv_at hl 0 rfl) ?_
                refine z_get (D := (dC, dI)) (ci := 6) (v := .ref x4) (C := RX6) (T := TX6) (N := 23) hx hb hts uX6 hown hK hP 0 rfl rfl 5 (by decide) w19 rfl rfl dX6_cards_109 ?_
                refine lv_iload_n hx hb dX6_cards_112 rfl (lv_at hl 1 rfl) ?_
                refine lv_iload hx hb dX6_cards_113 (lv_at hl 4 rfl) ?_
                refine z_c1 (v := nI z.toNat) (z_ZtoN (by first | assumption | omega)) ?_
                refine z_iast hx hb hK hP hD hS 4 0 rfl rfl z.toNat rfl (by omega) (upd_N C1 z.toNat (C z.toNat)) [(m0, .inr (6, [.int (nI N), .ref x1, .int (nI K), .ref x2, .ref x3, .ref x4, .int (nI lo2_38), .ref x5, .ref x6, .ref x7, .ref x8, .int (nI ns), .int (nI nd), .ref x9, .ref y1, .ref y2, .int (nI rm), .ref y3, .ref y4, .ref y5, .ref y6, .ref y7, .int (nI pls)])), (x1, .inl (cI, 8, .inl (fun z_ => nI (T z_)))), (x2, .inl (cI, 16, .inl (fun z_ => nI (F z_)))), (x3, .inl (cI, 16, .inl (fun z_ => nI (G z_)))), (x4, .inl (cI, 16, .inl (fun z_ => nI ((up C1 z.toNat (C z.toNat)) z_)))), (x5, .inl (cI, 16000, .inl (fun z_ => nI (LA2_38 z_)))), (x6, .inl (cI, 2000, .inl (fun z_ => nI (LL2_38 z_)))), (x7, .inl (cI, 9, .inl (fun z_ => nI (PT2_38 z_))))] rfl dX6_cards_115 (fun H locs hP hD hS => ?_)
                have erc : (up C1 z.toNat (C z.toNat)) = C := by funext a; unfold up; split; (rename_i hz; rw [hz]); (exact i2 a (by assumption))
                rw [erc] at hP hD
                have hP : va_P (dC, dI) vwCl [(m0, .inr (6, [.int (nI N), .ref x1, .int (nI K), .ref x2, .ref x3, .ref x4, .int (nI lo2_38), .ref x5, .ref x6, .ref x7, .ref x8, .int (nI ns), .int (nI nd), .ref x9, .ref y1, .ref y2, .int (nI rm), .ref y3, .ref y4, .ref y5, .ref y6, .ref y7, .int (nI pls)])), (x1, .inl (cI, 8, .inl (fun z_ => nI (T z_)))), (x2, .inl (cI, 16, .inl (fun z_ => nI (F z_)))), (x3, .inl (cI, 16, .inl (fun z_ => nI (G z_)))), (x4, .inl (cI, 16, .inl (fun z_ => nI (C z_)))), (x5, .inl (cI, 16000, .inl (fun z_ => nI (LA2_38 z_)))), (x6, .inl (cI, 2000, .inl (fun z_ => nI (LL2_38 z_)))), (x7, .inl (cI, 9, .inl (fun z_ => nI (PT2_38 z_))))] H := hP
                have hD : va_D A [(m0, .inr (6, [.int (nI N), .ref x1, .int (nI K), .ref x2, .ref x3, .ref x4, .int (nI lo2_38), .ref x5, .ref x6, .ref x7, .ref x8, .int (nI ns), .int (nI nd), .ref x9, .ref y1, .ref y2, .int (nI rm), .ref y3, .ref y4, .ref y5, .ref y6, .ref y7, .int (nI pls)])), (x1, .inl (cI, 8, .inl (fun z_ => nI (T z_)))), (x2, .inl (cI, 16, .inl (fun z_ => nI (F z_)))), (x3, .inl (cI, 16, .inl (fun z_ => nI (G z_)))), (x4, .inl (cI, 16, .inl (fun z_ => nI (C z_)))), (x5, .inl (cI, 16000, .inl (fun z_ => nI (LA2_38 z_)))), (x6, .inl (cI, 2000, .inl (fun z_ => nI (LL2_38 z_)))), (x7, .inl (cI, 9, .inl (fun z_ => nI (PT2_38 z_))))] := hD
                refine lv_iload hx hb dX6_cards_116 (lv_at hl 5 rfl) ?_
                have q_0 : (¬ (0 ≤ z ∧ z < (K : Int)) ∧ fd = -1) ∨ ((0 ≤ z ∧ z < (K : Int)) ∧ ¬ ((1 ≤ ab ∧ ab ≤ 1000) ∧ (1 ≤ be ∧ be ≤ 1000)) ∧ fd = -2) ∨ ((0 ≤ z ∧ z < (K : Int)) ∧ ((1 ≤ ab ∧ ab ≤ 1000) ∧ (1 ≤ be ∧ be ≤ 1000)) ∧ sp_rch T F C (sp_all N K F G) z.toNat ab.toNat be.toNat fd) := by refine Or.inr (Or.inr ⟨by omega, by omega, ?_⟩); refine sp_rch_m (n := n) (fun q hq => sp_map_nd (sp_all_mem (sp_getD_mem hq)).2.1) (fun q hq => sp_tmL_pos hq bTP) (by omega) (by omega) ?_; have hcv : ∀ m, sp_fast (sp_tmL T F (sp_all N K F G)) (sp_cdL (up C z.toNat (C z.toNat + m)) (sp_all N K F G)) ab.toNat be.toNat (sp_all N K F G).length = sp_fast (sp_tm T F LA2_38 LL2_38) (sp_cd (up C z.toNat (C z.toNat + m)) LA2_38 LL2_38) ab.toNat be.toNat lo2_38 := (fun m => (by rw [← hlen]; exact sp_fast_cong (fun q hq => (sp_tm_L p38_0 hq).symm) (fun q hq => (sp_cd_L p38_0 hq).symm))); (rcases i4 with ⟨h1, h2⟩ | ⟨h1, h2, h3, h4⟩); (exact Or.inl ⟨h1, by omega, fun m hm => by rw [hcv]; exact h2 m hm⟩); (exact Or.inr ⟨h1, h2, by rw [hcv]; exact h3, fun m hm => by rw [hcv]; exact h4 m hm⟩)
                have q_1 : ∀ i, LA2_38 i < 16 := by first | assumption | omega
                have q_2 : ∀ i, LL2_38 i ≤ 8 := by first | assumption | omega
                have q_3 : ∀ i, PT2_38 i < 16 := by first | assumption | omega
                exact hRET _ ls H locs ((iI fd)) (fd, LA2_38, LL2_38, PT2_38, lo2_38) dX6_cards_118 ⟨rfl, q_0, q_1, q_2, q_3⟩ hP hD hS
              · skip
                refine lv_aload_n hx hb dX6_cards_73 rfl (lv_at hl 0 rfl) ?_
                refine z_get (D := (dC, dI)) (ci := 6) (v := .ref x4) (C := RX6) (T := TX6) (N := 23) hx hb hts uX6 hown hK hP 0 rfl rfl 5 (by decide) w19 rfl rfl dX6_cards_74 ?_
                refine lv_iload_n hx hb dX6_cards_77 rfl (lv_at hl 1 rfl) ?_
                refine lv_iload hx hb dX6_cards_78 (lv_at hl 4 rfl) ?_
                refine lv_iload hx hb dX6_cards_80 (lv_at hl 6 rfl) ?_
                refine z_iadd (v := (nI ((C z.toNat) + n))) hx hb dX6_cards_82 (nI_add _ _) ?_
                refine z_c1 (v := nI z.toNat) (z_ZtoN (by first | assumption | omega)) ?_
                refine z_iast hx hb hK hP hD hS 4 0 rfl rfl z.toNat rfl (by omega) (upd_N C1 z.toNat ((C z.toNat) + n)) [(m0, .inr (6, [.int (nI N), .ref x1, .int (nI K), .ref x2, .ref x3, .ref x4, .int (nI lo2_38), .ref x5, .ref x6, .ref x7, .ref x8, .int (nI ns), .int (nI nd), .ref x9, .ref y1, .ref y2, .int (nI rm), .ref y3, .ref y4, .ref y5, .ref y6, .ref y7, .int (nI pls)])), (x1, .inl (cI, 8, .inl (fun z_ => nI (T z_)))), (x2, .inl (cI, 16, .inl (fun z_ => nI (F z_)))), (x3, .inl (cI, 16, .inl (fun z_ => nI (G z_)))), (x4, .inl (cI, 16, .inl (fun z_ => nI ((up C1 z.toNat ((C z.toNat) + n)) z_)))), (x5, .inl (cI, 16000, .inl (fun z_ => nI (LA2_38 z_)))), (x6, .inl (cI, 2000, .inl (fun z_ => nI (LL2_38 z_)))), (x7, .inl (cI, 9, .inl (fun z_ => nI (PT2_38 z_))))] rfl dX6_cards_83 (fun H locs hP hD hS => ?_)
                have hup : up C1 z.toNat (C z.toNat + n) = up C z.toNat (C z.toNat + n) := by (funext a); unfold up; split; rfl; exact i2 a (by assumption)
                refine lv_aload_n hx hb dX6_cards_84 rfl (lv_at hl 0 rfl) ?_
                refine lv_iload_n hx hb dX6_cards_85 rfl (lv_at hl 2 rfl) ?_
                refine lv_iload_n hx hb dX6_cards_86 rfl (lv_at hl 3 rfl) ?_
                refine z_c0 (v := nI be.toNat) (z_ZtoN (by first | assumption | omega)) ?_
                refine z_c1 (v := nI ab.toNat) (z_ZtoN (by first | assumption | omega)) ?_
                refine z_callVi (As := [.int (nI ab.toNat), .int (nI be.toNat)]) (rest := []) (wr := [(x3, .inl (cI, 16, .inl (fun z_ => nI (G z_)))), (x7, .inl (cI, 9, .inl (fun z_ => nI (PT2_38 z_))))]) ⟨hx, hb, hml, hown, hts⟩ (c_X6_isFast l dC dI cI cJ H.size m0 x1 x2 x3 x4 x5 x6 x7 x8 x9 y1 y2 y3 y4 y5 y6 y7 N K lo2_38 ns nd rm pls T F (up C1 z.toNat ((C z.toNat) + n)) LA2_38 LL2_38 ab.toNat be.toNat (by first | assumption | omega) (by first | assumption | omega) (by first | assumption | omega) (by first | assumption | omega) (by first | assumption | omega) (by intro a; rw [up_e]; split; omega; exact i3 a) (by first | assumption | omega) (by first | assumption | omega)) (cwV 2 hts gX6_cards_X6_isFast rfl rfl rfl (by decide +kernel) ⟨Nat.le_of_ble_eq_true rfl, Nat.le_of_ble_eq_true rfl⟩) hA hK hP hD hS [0, 1, 2, 4, 5, 6] [3, 7] [2, 3, 4, 0, 5, 6, 7, 1] rfl rfl (by decide) (by decide) (by decide) nwA_ok hN (ci := 6) rfl rfl 0 rfl hl.1 (Nat.le_of_ble_eq_true rfl) ⟨Nat.le_refl _, Nat.le_refl _⟩ rfl rfl dX6_cards_87 (fun (u : (Nat)) => [(m0, .inr (6, [.int (nI N), .ref x1, .int (nI K), .ref x2, .ref x3, .ref x4, .int (nI lo2_38), .ref x5, .ref x6, .ref x7, .ref x8, .int (nI ns), .int (nI nd), .ref x9, .ref y1, .ref y2, .int (nI rm), .ref y3, .ref y4, .ref y5, .ref y6, .ref y7, .int (nI pls)])), (x1, .inl (cI, 8, .inl (fun z_ => nI (T z_)))), (x2, .inl (cI, 16, .inl (fun z_ => nI (F z_)))), (x3, .inl (cI, 16, .inl (fun z_ => nI (G z_)))), (x4, .inl (cI, 16, .inl (fun z_ => nI ((up C1 z.toNat ((C z.toNat) + n)) z_)))), (x5, .inl (cI, 16000, .inl (fun z_ => nI (LA2_38 z_)))), (x6, .inl (cI, 2000, .inl (fun z_ => nI (LL2_38 z_)))), (x7, .inl (cI, 9, .inl (fun z_ => nI (PT2_38 z_))))]) (fun u => rfl) (by decide) (fun r_87 u H locs hw hP hD hS => ?_)
                obtain ⟨rv_87, eu⟩ : ∃ z, z = u := ⟨_, rfl⟩
                subst eu
                have hP : va_P (dC, dI) vwCl [(m0, .inr (6, [.int (nI N), .ref x1, .int (nI K), .ref x2, .ref x3, .ref x4, .int (nI lo2_38), .ref x5, .ref x6, .ref x7, .ref x8, .int (nI ns), .int (nI nd), .ref x9, .ref y1, .ref y2, .int (nI rm), .ref y3, .ref y4, .ref y5, .ref y6, .ref y7, .int (nI pls)])), (x1, .inl (cI, 8, .inl (fun z_ => nI (T z_)))), (x2, .inl (cI, 16, .inl (fun z_ => nI (F z_)))), (x3, .inl (cI, 16, .inl (fun z_ => nI (G z_)))), (x4, .inl (cI, 16, .inl (fun z_ => nI ((up C1 z.toNat ((C z.toNat) + n)) z_)))), (x5, .inl (cI, 16000, .inl (fun z_ => nI (LA2_38 z_)))), (x6, .inl (cI, 2000, .inl (fun z_ => nI (LL2_38 z_)))), (x7, .inl (cI, 9, .inl (fun z_ => nI (PT2_38 z_))))] H := hP
                have hD : va_D A [(m0, .inr (6, [.int (nI N), .ref x1, .int (nI K), .ref x2, .ref x3, .ref x4, .int (nI lo2_38), .ref x5, .ref x6, .ref x7, .ref x8, .int (nI ns), .int (nI nd), .ref x9, .ref y1, .ref y2, .int (nI rm), .ref y3, .ref y4, .ref y5, .ref y6, .ref y7, .int (nI pls)])), (x1, .inl (cI, 8, .inl (fun z_ => nI (T z_)))), (x2, .inl (cI, 16, .inl (fun z_ => nI (F z_)))), (x3, .inl (cI, 16, .inl (fun z_ => nI (G z_)))), (x4, .inl (cI, 16, .inl (fun z_ => nI ((up C1 z.toNat ((C z.toNat) + n)) z_)))), (x5, .inl (cI, 16000, .inl (fun z_ => nI (LA2_38 z_)))), (x6, .inl (cI, 2000, .inl (fun z_ => nI (LL2_38 z_)))), (x7, .inl (cI, 9, .inl (fun z_ => nI (PT2_38 z_))))] := hD
                obtain ⟨er, p87_0⟩ := hw
                have p87_0 : (rv_87 = 1 ∧ sp_fast (sp_tm T F LA2_38 LL2_38) (sp_cd (up C1 z.toNat ((C z.toNat) + n)) LA2_38 LL2_38) ab.toNat be.toNat lo2_38 = true) ∨ (rv_87 = 0 ∧ sp_fast (sp_tm T F LA2_38 LL2_38) (sp_cd (up C1 z.toNat ((C z.toNat) + n)) LA2_38 LL2_38) ab.toNat be.toNat lo2_38 = false) := p87_0
                have er : r_87 = (nI rv_87) := er
                subst er
                rcases p87_0 with ⟨h87, c_87⟩ | ⟨h87, c_87⟩
                · skip
                  subst h87
                  refine lv_if_eq (tgt := 98) hx hb dX6_cards_90 (by decide) (fun c_x => absurd c_x (by decide)) (fun _ => ?_)
                  refine lv_iload hx hb dX6_cards_93 (lv_at hl 6 rfl) ?_
                  refine lv_goto (tgt := 100) hx hb dX6_cards_95 (by decide) ?_
                  refine z_c0 (v := iI ((n : Nat) : Int)) (iI_N _) ?_
                  refine lv_istore (lv' := [(5, .int (iI ((n : Nat) : Int))), (0, .ref m0), (1, .int (iI z)), (2, .int (iI ab)), (3, .int (iI be)), (4, .int (nI (C z.toNat))), (6, .int (nI n))]) hx hb dX6_cards_100 hl (by decide) rfl (fun ls hl => ?_)
                  refine lv_iinc (v := (nI (n + 1))) (lv' := [(6, .int (nI (n + 1))), (5, .int (iI ((n : Nat) : Int))), (0, .ref m0), (1, .int (iI z)), (2, .int (iI ab)), (3, .int (iI be)), (4, .int (nI (C z.toNat)))]) hx hb dX6_cards_102 hl (k := 6) rfl (z_incN n 1 (by decide)) (by decide) rfl (fun ls hl => ?_)
                  refine lv_goto (tgt := 56) hx hb dX6_cards_105 (by decide) ?_
                  have o_i1 : (n + 1) ≤ 10 := by first | assumption | omega
                  have o_i2 : ∀ a, ¬ a = z.toNat → (up C1 z.toNat ((C z.toNat) + n)) a = C a := by intro a ha; rw [up_n _ _ ha]; exact i2 a ha
                  have o_i3 : ∀ a, (up C1 z.toNat ((C z.toNat) + n)) a ≤ 9 := by intro a; rw [up_e]; split; omega; exact i3 a
                  have o_i4 : (((n : Nat) : Int) = -9 ∧ ∀ m, m < (n + 1) → sp_fast (sp_tm T F LA2_38 LL2_38) (sp_cd (up C z.toNat (C z.toNat + m)) LA2_38 LL2_38) ab.toNat be.toNat lo2_38 = false) ∨ (0 ≤ ((n : Nat) : Int) ∧ (C z.toNat : Int) + ((n : Nat) : Int) ≤ 9 ∧ sp_fast (sp_tm T F LA2_38 LL2_38) (sp_cd (up C z.toNat (C z.toNat + ((n : Nat) : Int).toNat)) LA2_38 LL2_38) ab.toNat be.toNat lo2_38 = true ∧ ∀ m, m < ((n : Nat) : Int).toNat → sp_fast (sp_tm T F LA2_38 LL2_38) (sp_cd (up C z.toNat (C z.toNat + m)) LA2_38 LL2_38) ab.toNat be.toNat lo2_38 = false) := by rw [hup] at c_87; (rcases i4 with ⟨h1, h2⟩ | ⟨h1, h2⟩); (first | exact Or.inl ⟨h1, lt_s h2 c_87⟩ | exact Or.inr ⟨by omega, by omega, by rw [Int.toNat_natCast]; exact c_87, fun m hm => h2 m (by omega)⟩); (exfalso; omega)
                  have o_i5 : ((n : Nat) : Int) = -9 ∨ (0 ≤ ((n : Nat) : Int) ∧ ((n : Nat) : Int) ≤ 9) := by first | assumption | omega
                  have o_mu : (10 - (n + 1)) < n56 := by omega
                  exact ih56 (n + 1) ((n : Nat) : Int) (up C1 z.toNat ((C z.toNat) + n)) o_mu o_i1 o_i2 o_i3 o_i4 o_i5 H locs hP hD hS ls (lv_sub hl [2, 3, 4, 5, 6, 1, 0] rfl)
                · skip
                  subst h87
                  refine lv_if_eq (tgt := 98) hx hb dX6_cards_90 (by decide) (fun _ => ?_) (fun c_x => absurd c_x (by decide))
                  refine lv_iload hx hb dX6_cards_98 (lv_at hl 5 rfl) ?_
                  refine lv_istore (lv' := [(5, .int (iI fd)), (0, .ref m0), (1, .int (iI z)), (2, .int (iI ab)), (3, .int (iI be)), (4, .int (nI (C z.toNat))), (6, .int (nI n))]) hx hb dX6_cards_100 hl (by decide) rfl (fun ls hl => ?_)
                  refine lv_iinc (v := (nI (n + 1))) (lv' := [(6, .int (nI (n + 1))), (5, .int (iI fd)), (0, .ref m0), (1, .int (iI z)), (2, .int (iI ab)), (3, .int (iI be)), (4, .int (nI (C z.toNat)))]) hx hb dX6_cards_102 hl (k := 6) rfl (z_incN n 1 (by decide)) (by decide) rfl (fun ls hl => ?_)
                  refine lv_goto (tgt := 56) hx hb dX6_cards_105 (by decide) ?_
                  have o_i1 : (n + 1) ≤ 10 := by first | assumption | omega
                  have o_i2 : ∀ a, ¬ a = z.toNat → (up C1 z.toNat ((C z.toNat) + n)) a = C a := by intro a ha; rw [up_n _ _ ha]; exact i2 a ha
                  have o_i3 : ∀ a, (up C1 z.toNat ((C z.toNat) + n)) a ≤ 9 := by intro a; rw [up_e]; split; omega; exact i3 a
                  have o_i4 : (fd = -9 ∧ ∀ m, m < (n + 1) → sp_fast (sp_tm T F LA2_38 LL2_38) (sp_cd (up C z.toNat (C z.toNat + m)) LA2_38 LL2_38) ab.toNat be.toNat lo2_38 = false) ∨ (0 ≤ fd ∧ (C z.toNat : Int) + fd ≤ 9 ∧ sp_fast (sp_tm T F LA2_38 LL2_38) (sp_cd (up C z.toNat (C z.toNat + fd.toNat)) LA2_38 LL2_38) ab.toNat be.toNat lo2_38 = true ∧ ∀ m, m < fd.toNat → sp_fast (sp_tm T F LA2_38 LL2_38) (sp_cd (up C z.toNat (C z.toNat + m)) LA2_38 LL2_38) ab.toNat be.toNat lo2_38 = false) := by rw [hup] at c_87; (rcases i4 with ⟨h1, h2⟩ | ⟨h1, h2⟩); (first | exact Or.inl ⟨h1, lt_s h2 c_87⟩ | exact Or.inr ⟨by omega, by omega, by rw [Int.toNat_natCast]; exact c_87, fun m hm => h2 m (by omega)⟩); (exfalso; omega)
                  have o_i5 : fd = -9 ∨ (0 ≤ fd ∧ fd ≤ 9) := by first | assumption | omega
                  have o_mu : (10 - (n + 1)) < n56 := by omega
                  exact ih56 (n + 1) fd (up C1 z.toNat ((C z.toNat) + n)) o_mu o_i1 o_i2 o_i3 o_i4 o_i5 H locs hP hD hS ls (lv_sub hl [2, 3, 4, 5, 6, 1, 0] rfl)
        have o_i1 : 0 ≤ 10 := by first | assumption | omega
        have o_i2 : ∀ a, ¬ a = z.toNat → C a = C a := by intro a h; rfl
        have o_i3 : ∀ a, C a ≤ 9 := by exact bC
        have o_i4 : ((-9 : Int) = -9 ∧ ∀ m, m < 0 → sp_fast (sp_tm T F LA2_38 LL2_38) (sp_cd (up C z.toNat (C z.toNat + m)) LA2_38 LL2_38) ab.toNat be.toNat lo2_38 = false) ∨ (0 ≤ (-9 : Int) ∧ (C z.toNat : Int) + (-9 : Int) ≤ 9 ∧ sp_fast (sp_tm T F LA2_38 LL2_38) (sp_cd (up C z.toNat (C z.toNat + (-9 : Int).toNat)) LA2_38 LL2_38) ab.toNat be.toNat lo2_38 = true ∧ ∀ m, m < (-9 : Int).toNat → sp_fast (sp_tm T F LA2_38 LL2_38) (sp_cd (up C z.toNat (C z.toNat + m)) LA2_38 LL2_38) ab.toNat be.toNat lo2_38 = false) := by exact Or.inl ⟨rfl, fun m h => by omega⟩
        have o_i5 : (-9 : Int) = -9 ∨ (0 ≤ (-9 : Int) ∧ (-9 : Int) ≤ 9) := by first | assumption | omega
        exact L56 ((10 - 0) + 1) 0 (-9 : Int) C (Nat.lt_succ_self _) o_i1 o_i2 o_i3 o_i4 o_i5 H locs hP hD hS ls (lv_sub hl [3, 4, 5, 6, 2, 1, 0] rfl)
      · skip
        subst h28
        refine lv_if_ne (tgt := 37) hx hb dX6_cards_31 (by decide) (fun c_x => absurd c_x (by decide)) (fun _ => ?_)
        refine lv_bipush (v := iI (-2)) hx hb dX6_cards_34 (by decide) ?_
        have q_0 : (¬ (0 ≤ z ∧ z < (K : Int)) ∧ (-2 : Int) = -1) ∨ ((0 ≤ z ∧ z < (K : Int)) ∧ ¬ ((1 ≤ ab ∧ ab ≤ 1000) ∧ (1 ≤ be ∧ be ≤ 1000)) ∧ (-2 : Int) = -2) ∨ ((0 ≤ z ∧ z < (K : Int)) ∧ ((1 ≤ ab ∧ ab ≤ 1000) ∧ (1 ≤ be ∧ be ≤ 1000)) ∧ sp_rch T F C (sp_all N K F G) z.toNat ab.toNat be.toNat (-2 : Int)) := by first | exact Or.inl ⟨by omega, rfl⟩ | exact Or.inr (Or.inl ⟨by omega, by omega, rfl⟩)
        have q_1 : ∀ i, LA i < 16 := by first | assumption | omega
        have q_2 : ∀ i, LL i ≤ 8 := by first | assumption | omega
        have q_3 : ∀ i, PT i < 16 := by first | assumption | omega
        exact hRET _ ls H locs ((iI (-2))) ((-2 : Int), LA, LL, PT, lo) dX6_cards_36 ⟨rfl, q_0, q_1, q_2, q_3⟩ hP hD hS
    · skip
      subst h16
      refine lv_if_eq (tgt := 34) hx hb dX6_cards_19 (by decide) (fun _ => ?_) (fun c_x => absurd c_x (by decide))
      refine lv_bipush (v := iI (-2)) hx hb dX6_cards_34 (by decide) ?_
      have q_0 : (¬ (0 ≤ z ∧ z < (K : Int)) ∧ (-2 : Int) = -1) ∨ ((0 ≤ z ∧ z < (K : Int)) ∧ ¬ ((1 ≤ ab ∧ ab ≤ 1000) ∧ (1 ≤ be ∧ be ≤ 1000)) ∧ (-2 : Int) = -2) ∨ ((0 ≤ z ∧ z < (K : Int)) ∧ ((1 ≤ ab ∧ ab ≤ 1000) ∧ (1 ≤ be ∧ be ≤ 1000)) ∧ sp_rch T F C (sp_all N K F G) z.toNat ab.toNat be.toNat (-2 : Int)) := by first | exact Or.inl ⟨by omega, rfl⟩ | exact Or.inr (Or.inl ⟨by omega, by omega, rfl⟩)
      have q_1 : ∀ i, LA i < 16 := by first | assumption | omega
      have q_2 : ∀ i, LL i ≤ 8 := by first | assumption | omega
      have q_3 : ∀ i, PT i < 16 := by first | assumption | omega
      exact hRET _ ls H locs ((iI (-2))) ((-2 : Int), LA, LL, PT, lo) dX6_cards_36 ⟨rfl, q_0, q_1, q_2, q_3⟩ hP hD hS
  · skip
    subst h2
    refine lv_if_ne (tgt := 10) hx hb dX6_cards_5 (by decide) (fun c_x => absurd c_x (by decide)) (fun _ => ?_)
    refine lv_iconst (v := iI (-1)) hx hb dX6_cards_8 (by decide) ?_
    have q_0 : (¬ (0 ≤ z ∧ z < (K : Int)) ∧ (-1 : Int) = -1) ∨ ((0 ≤ z ∧ z < (K : Int)) ∧ ¬ ((1 ≤ ab ∧ ab ≤ 1000) ∧ (1 ≤ be ∧ be ≤ 1000)) ∧ (-1 : Int) = -2) ∨ ((0 ≤ z ∧ z < (K : Int)) ∧ ((1 ≤ ab ∧ ab ≤ 1000) ∧ (1 ≤ be ∧ be ≤ 1000)) ∧ sp_rch T F C (sp_all N K F G) z.toNat ab.toNat be.toNat (-1 : Int)) := by first | exact Or.inl ⟨by omega, rfl⟩ | exact Or.inr (Or.inl ⟨by omega, by omega, rfl⟩)
    have q_1 : ∀ i, LA i < 16 := by first | assumption | omega
    have q_2 : ∀ i, LL i ≤ 8 := by first | assumption | omega
    have q_3 : ∀ i, PT i < 16 := by first | assumption | omega
    exact hRET _ ls H locs ((iI (-1))) ((-1 : Int), LA, LL, PT, lo) dX6_cards_9 ⟨rfl, q_0, q_1, q_2, q_3⟩ hP hD hS
