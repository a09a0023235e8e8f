set_option maxHeartbeats 4000000 in
set_option maxRecDepth 100000 in
theorem c_X6_keep (l : Launch) (dC : Nat → ClassId) (dI : Nat → Nat → Nat) (cI cJ : ClassId) (sz : Nat) (m0 : Nat) (x1 : Nat) (x2 : Nat) (x3 : Nat) (x4 : Nat) (x5 : Nat) (x6 : Nat) (x7 : Nat) (x8 : Nat) (x9 : Nat) (y1 : Nat) (y2 : Nat) (y3 : Nat) (y4 : Nat) (y5 : Nat) (y6 : Nat) (y7 : Nat) (N : Nat) (K : Nat) (lo : Nat) (ns : Nat) (nd : Nat) (rm : Nat) (pls : Nat) (LA : Nat → Nat) (LL : Nat → Nat) (PT : Nat → Nat) (len : Nat) (blo : lo < 636) (bl : len ≤ 8) (bLA : ∀ i, LA i < 16) (bPT : ∀ i, PT i < 16) : Met l yX6_keep wsX6_keep (zR 0 0 0 0) (va_Pc [.ref m0, .int (nI len)] (zP (dC, dI) [(cI, .int), (cJ, .long)] [(m0, .inr (6, [.int (nI N), .ref x1, .int (nI K), .ref x2, .ref x3, .ref x4, .int (nI lo), .ref x5, .ref x6, .ref x7, .ref x8, .int (nI ns), .int (nI nd), .ref x9, .ref y1, .ref y2, .int (nI rm), .ref y3, .ref y4, .ref y5, .ref y6, .ref y7, .int (nI pls)])), (x5, .inl (cI, 16000, .inl (fun z_ => nI (LA z_)))), (x6, .inl (cI, 2000, .inl (fun z_ => nI (LL z_)))), (x7, .inl (cI, 9, .inl (fun z_ => nI (PT z_))))] sz nwA)) (va_Qv (fun (u : (Nat → Nat)) => (∀ i, i < len → u (lo * 8 + i) = PT i) ∧ (∀ q, q < lo * 8 → u q = LA q) ∧ (∀ i, u i < 16)) (zB (dC, dI) (fun (u : (Nat → Nat)) => [(m0, .inr (6, [.int (nI N), .ref x1, .int (nI K), .ref x2, .ref x3, .ref x4, .int (nI (lo + 1)), .ref x5, .ref x6, .ref x7, .ref x8, .int (nI ns), .int (nI nd), .ref x9, .ref y1, .ref y2, .int (nI rm), .ref y3, .ref y4, .ref y5, .ref y6, .ref y7, .int (nI pls)])), (x5, .inl (cI, 16000, .inl (fun z_ => nI (u z_)))), (x6, .inl (cI, 2000, .inl (fun z_ => nI ((up LL lo len) z_)))), (x7, .inl (cI, 9, .inl (fun z_ => nI (PT z_))))]) (va_A [(m0, .inr (6, [.int (nI N), .ref x1, .int (nI K), .ref x2, .ref x3, .ref x4, .int (nI lo), .ref x5, .ref x6, .ref x7, .ref x8, .int (nI ns), .int (nI nd), .ref x9, .ref y1, .ref y2, .int (nI rm), .ref y3, .ref y4, .ref y5, .ref y6, .ref y7, .int (nI pls)])), (x5, .inl (cI, 16000, .inl (fun z_ => nI (LA z_)))), (x6, .inl (cI, 2000, .inl (fun z_ => nI (LL z_)))), (x7, .inl (cI, 9, .inl (fun z_ => nI (PT z_))))] sz)) (va_A [(m0, .inr (6, [.int (nI N), .ref x1, .int (nI K), .ref x2, .ref x3, .ref x4, .int (nI lo), .ref x5, .ref x6, .ref x7, .ref x8, .int (nI ns), .int (nI nd), .ref x9, .ref y1, .ref y2, .int (nI rm), .ref y3, .ref y4, .ref y5, .ref y6, .ref y7, .int (nI pls)])), (x5, .inl (cI, 16000, .inl (fun z_ => nI (LA z_)))), (x6, .inl (cI, 2000, .inl (fun z_ => nI (LL z_)))), (x7, .inl (cI, 9, .inl (fun z_ => nI (PT z_))))] sz)) 0 0 (va_A [(m0, .inr (6, [.int (nI N), .ref x1, .int (nI K), .ref x2, .ref x3, .ref x4, .int (nI lo), .ref x5, .ref x6, .ref x7, .ref x8, .int (nI ns), .int (nI nd), .ref x9, .ref y1, .ref y2, .int (nI rm), .ref y3, .ref y4, .ref y5, .ref y6, .ref y7, .int (nI pls)])), (x5, .inl (cI, 16000, .inl (fun z_ => nI (LA z_)))), (x6, .inl (cI, 2000, .inl (fun z_ => nI (LL z_)))), (x7, .inl (cI, 9, .inl (fun z_ => nI (PT z_))))] sz) := by
  refine z_met_v (cc := cX6_keep) (maxL := 3) (by decide) rfl (Nat.le_of_ble_eq_true rfl) ?_
  intro p e s m args below meth c Q A ls hx hb hml hown hts hin hA hK hP hD hN hl hRET
  have hown : s.vm.findClass RX6 = some m.cls := hown
  obtain ⟨H, eH⟩ : ∃ H : Heap, H = s.heap := ⟨_, rfl⟩
  rw [← eH] at hP
  obtain ⟨locs, eL⟩ : ∃ z : List Loc, z = [] := ⟨_, rfl⟩
  rw [← eH, ← eL]
  have hS : va_S A s.heap H locs := by rw [eH, eL]; exact va_S.rf
  have hl : lv_has ls 3 [(0, .ref m0), (1, .int (nI len))] := hl
  have w99 := hts (.fieldLink RX6 99 "PullCardsModel" "loops" "I") (by decide +kernel)
  have uX6 : ∀ w ∈ wsX60, w ∈ wsX6_keep := by decide +kernel
  have w22 := hts (.fieldLink RX6 22 "PullCardsModel" "loopArc" "[I") (by decide +kernel)
  have w28 := hts (.fieldLink RX6 28 "PullCardsModel" "path" "[I") (by decide +kernel)
  have w25 := hts (.fieldLink RX6 25 "PullCardsModel" "loopLong" "[I") (by decide +kernel)
  refine lv_aload_n hx hb dX6_keep_0 rfl (lv_at hl 0 rfl) ?_
  refine z_get (D := (dC, dI)) (ci := 6) (v := .int (nI lo)) (C := RX6) (T := TX6) (N := 23) hx hb hts uX6 hown hK hP 0 rfl rfl 6 (by decide) w99 rfl rfl dX6_keep_1 ?_
  refine lv_sipush (v := nI 2000) hx hb dX6_keep_4 (by decide) ?_
  refine z_icmp_ge (tgt := 63) hx hb dX6_keep_7 (by decide) (zcn_le (a := 2000) (b := lo) rfl rfl (by omega)) (fun c_7 => ?_) (fun c_7 => ?_)
  · skip
    exact absurd c_7 (by omega)
  · skip
    refine lv_iconst (v := nI 0) hx hb dX6_keep_10 (by decide) ?_
    refine lv_istore_n (lv' := [(2, .int (nI 0)), (0, .ref m0), (1, .int (nI len))]) hx hb dX6_keep_11 rfl hl (by decide) rfl (fun ls hl => ?_)
    have L12 : ∀ (n12 : Nat) (j : Nat) (LA1 : Nat → Nat), (len - j) < n12 → (j ≤ len) → (∀ i, i < j → LA1 (lo * 8 + i) = PT i) → (∀ q, q < lo * 8 → LA1 q = LA q) → (∀ i, LA1 i < 16) → ∀ (H : Heap) (locs : List Loc), va_P (dC, dI) vwCl [(m0, .inr (6, [.int (nI N), .ref x1, .int (nI K), .ref x2, .ref x3, .ref x4, .int (nI lo), .ref x5, .ref x6, .ref x7, .ref x8, .int (nI ns), .int (nI nd), .ref x9, .ref y1, .ref y2, .int (nI rm), .ref y3, .ref y4, .ref y5, .ref y6, .ref y7, .int (nI pls)])), (x5, .inl (cI, 16000, .inl (fun z_ => nI (LA1 z_)))), (x6, .inl (cI, 2000, .inl (fun z_ => nI (LL z_)))), (x7, .inl (cI, 9, .inl (fun z_ => nI (PT z_))))] H → va_D A [(m0, .inr (6, [.int (nI N), .ref x1, .int (nI K), .ref x2, .ref x3, .ref x4, .int (nI lo), .ref x5, .ref x6, .ref x7, .ref x8, .int (nI ns), .int (nI nd), .ref x9, .ref y1, .ref y2, .int (nI rm), .ref y3, .ref y4, .ref y5, .ref y6, .ref y7, .int (nI pls)])), (x5, .inl (cI, 16000, .inl (fun z_ => nI (LA1 z_)))), (x6, .inl (cI, 2000, .inl (fun z_ => nI (LL z_)))), (x7, .inl (cI, 9, .inl (fun z_ => nI (PT z_))))] → va_S A s.heap H locs → ∀ (ls : Array Slot), lv_has ls 3 [(0, .ref m0), (1, .int (nI len)), (2, .int (nI j))] → W p l e (zR 0 0 0 0) s m args below meth c H locs 0 0 Q (F0 m 12 ls []) := by
      intro n12
      induction n12 with
      | zero => intro j LA1 hn; exact absurd hn (Nat.not_lt_zero _)
      | succ n12 ih =>
        intro j LA1 hn i1 i2 i3 i4 H locs hP hD hS ls hl
        have ih12 := ih
        have hn12 := hn
        clear ih hn
        refine lv_iload_n hx hb dX6_keep_12 rfl (lv_at hl 2 rfl) ?_
        refine lv_iload_n hx hb dX6_keep_13 rfl (lv_at hl 1 rfl) ?_
        refine z_icmp_ge (tgt := 43) hx hb dX6_keep_14 (by decide) (zcn_le (a := len) (b := j) rfl rfl (by omega)) (fun c_14 => ?_) (fun c_14 => ?_)
        · skip
          refine lv_aload_n hx hb dX6_keep_43 rfl (lv_at hl 0 rfl) ?_
          refine z_get (D := (dC, dI)) (ci := 6) (v := .ref x6) (C := RX6) (T := TX6) (N := 23) hx hb hts uX6 hown hK hP 0 rfl rfl 8 (by decide) w25 rfl rfl dX6_keep_44 ?_
          refine lv_aload_n hx hb dX6_keep_47 rfl (lv_at hl 0 rfl) ?_
          refine z_get (D := (dC, dI)) (ci := 6) (v := .int (nI lo)) (C := RX6) (T := TX6) (N := 23) hx hb hts uX6 hown hK hP 0 rfl rfl 6 (by decide) w99 rfl rfl dX6_keep_48 ?_
          refine lv_iload_n hx hb dX6_keep_51 rfl (lv_at hl 1 rfl) ?_
          refine z_iast hx hb hK hP hD hS 2 0 rfl rfl lo rfl (by omega) (upd_N LL lo len) [(m0, .inr (6, [.int (nI N), .ref x1, .int (nI K), .ref x2, .ref x3, .ref x4, .int (nI lo), .ref x5, .ref x6, .ref x7, .ref x8, .int (nI ns), .int (nI nd), .ref x9, .ref y1, .ref y2, .int (nI rm), .ref y3, .ref y4, .ref y5, .ref y6, .ref y7, .int (nI pls)])), (x5, .inl (cI, 16000, .inl (fun z_ => nI (LA1 z_)))), (x6, .inl (cI, 2000, .inl (fun z_ => nI ((up LL lo len) z_)))), (x7, .inl (cI, 9, .inl (fun z_ => nI (PT z_))))] rfl dX6_keep_52 (fun H locs hP hD hS => ?_)
          refine lv_aload_n hx hb dX6_keep_53 rfl (lv_at hl 0 rfl) ?_
          refine lv_dup hx hb dX6_keep_54 rfl ?_
          refine z_get (D := (dC, dI)) (ci := 6) (v := .int (nI lo)) (C := RX6) (T := TX6) (N := 23) hx hb hts uX6 hown hK hP 0 rfl rfl 6 (by decide) w99 rfl rfl dX6_keep_55 ?_
          refine lv_iconst (v := nI 1) hx hb dX6_keep_58 (by decide) ?_
          refine z_iadd (v := (nI (lo + 1))) hx hb dX6_keep_59 (nI_add _ _) ?_
          refine z_put (D := (dC, dI)) (ci := 6) (v := .int (nI (lo + 1))) (C := RX6) (T := TX6) (N := 23) hx hb hts uX6 tyX6 tyX6_ok nmX6 hown hK hP hD hS 0 rfl rfl 6 (by decide) w99 rfl rfl rfl rfl (Nat.le_of_ble_eq_true rfl) [(m0, .inr (6, [.int (nI N), .ref x1, .int (nI K), .ref x2, .ref x3, .ref x4, .int (nI (lo + 1)), .ref x5, .ref x6, .ref x7, .ref x8, .int (nI ns), .int (nI nd), .ref x9, .ref y1, .ref y2, .int (nI rm), .ref y3, .ref y4, .ref y5, .ref y6, .ref y7, .int (nI pls)])), (x5, .inl (cI, 16000, .inl (fun z_ => nI (LA1 z_)))), (x6, .inl (cI, 2000, .inl (fun z_ => nI ((up LL lo len) z_)))), (x7, .inl (cI, 9, .inl (fun z_ => nI (PT z_))))] rfl dX6_keep_60 (fun H locs hP hD hS => ?_)
          have q_0 : ∀ i, i < len → LA1 (lo * 8 + i) = PT i := by intro i hi; exact i2 i (by omega)
          have q_1 : ∀ q, q < lo * 8 → LA1 q = LA q := by exact i3
          have q_2 : ∀ i, LA1 i < 16 := by exact i4
          exact hRET _ ls H locs (LA1) dX6_keep_63 ⟨q_0, q_1, q_2⟩ hP hD hS
        · skip
          refine lv_aload_n hx hb dX6_keep_17 rfl (lv_at hl 0 rfl) ?_
          refine z_get (D := (dC, dI)) (ci := 6) (v := .ref x5) (C := RX6) (T := TX6) (N := 23) hx hb hts uX6 hown hK hP 0 rfl rfl 7 (by decide) w22 rfl rfl dX6_keep_18 ?_
          refine lv_bipush (v := nI 8) hx hb dX6_keep_21 (by decide) ?_
          refine lv_aload_n hx hb dX6_keep_23 rfl (lv_at hl 0 rfl) ?_
          refine z_get (D := (dC, dI)) (ci := 6) (v := .int (nI lo)) (C := RX6) (T := TX6) (N := 23) hx hb hts uX6 hown hK hP 0 rfl rfl 6 (by decide) w99 rfl rfl dX6_keep_24 ?_
          refine z_imul (v := (nI (8 * lo))) hx hb dX6_keep_27 (pk_mul _ _) ?_
          refine lv_iload_n hx hb dX6_keep_28 rfl (lv_at hl 2 rfl) ?_
          refine z_iadd (v := (nI ((8 * lo) + j))) hx hb dX6_keep_29 (nI_add _ _) ?_
          refine lv_aload_n hx hb dX6_keep_30 rfl (lv_at hl 0 rfl) ?_
          refine z_get (D := (dC, dI)) (ci := 6) (v := .ref x7) (C := RX6) (T := TX6) (N := 23) hx hb hts uX6 hown hK hP 0 rfl rfl 9 (by decide) w28 rfl rfl dX6_keep_31 ?_
          refine lv_iload_n hx hb dX6_keep_34 rfl (lv_at hl 2 rfl) ?_
          refine z_iald (v := (nI (PT j))) hx hb hK hP 3 0 rfl rfl j rfl (by omega) rfl dX6_keep_35 ?_
          have f35_0 := bPT j
          refine z_iast hx hb hK hP hD hS 1 0 rfl rfl ((8 * lo) + j) rfl (by omega) (upd_N LA1 ((8 * lo) + j) (PT j)) [(m0, .inr (6, [.int (nI N), .ref x1, .int (nI K), .ref x2, .ref x3, .ref x4, .int (nI lo), .ref x5, .ref x6, .ref x7, .ref x8, .int (nI ns), .int (nI nd), .ref x9, .ref y1, .ref y2, .int (nI rm), .ref y3, .ref y4, .ref y5, .ref y6, .ref y7, .int (nI pls)])), (x5, .inl (cI, 16000, .inl (fun z_ => nI ((up LA1 ((8 * lo) + j) (PT j)) z_)))), (x6, .inl (cI, 2000, .inl (fun z_ => nI (LL z_)))), (x7, .inl (cI, 9, .inl (fun z_ => nI (PT z_))))] rfl dX6_keep_36 (fun H locs hP hD hS => ?_)
          refine lv_iinc (v := (nI (j + 1))) (lv' := [(2, .int (nI (j + 1))), (0, .ref m0), (1, .int (nI len))]) hx hb dX6_keep_37 hl (k := 2) rfl (z_incN j 1 (by decide)) (by decide) rfl (fun ls hl => ?_)
          refine lv_goto (tgt := 12) hx hb dX6_keep_40 (by decide) ?_
          have o_i1 : (j + 1) ≤ len := by first | assumption | omega
          have o_i2 : ∀ i, i < (j + 1) → (up LA1 ((8 * lo) + j) (PT j)) (lo * 8 + i) = PT i := by exact lt_s (fun i hi => by rw [up_n _ _ (by omega)]; exact i2 i hi) (by rw [Nat.mul_comm lo 8, up_s])
          have o_i3 : ∀ q, q < lo * 8 → (up LA1 ((8 * lo) + j) (PT j)) q = LA q := by intro i hi; rw [up_n _ _ (by omega)]; exact i3 i hi
          have o_i4 : ∀ i, (up LA1 ((8 * lo) + j) (PT j)) i < 16 := by intro i; rw [up_e]; split; exact bPT j; exact i4 i
          have o_mu : (len - (j + 1)) < n12 := by omega
          exact ih12 (j + 1) (up LA1 ((8 * lo) + j) (PT j)) o_mu o_i1 o_i2 o_i3 o_i4 H locs hP hD hS ls (lv_sub hl [1, 2, 0] rfl)
    have o_i1 : 0 ≤ len := by first | assumption | omega
    have o_i2 : ∀ i, i < 0 → LA (lo * 8 + i) = PT i := by intro i h; omega
    have o_i3 : ∀ q, q < lo * 8 → LA q = LA q := by intro i h; rfl
    have o_i4 : ∀ i, LA i < 16 := by exact bLA
    exact L12 ((len - 0) + 1) 0 LA (Nat.lt_succ_self _) o_i1 o_i2 o_i3 o_i4 H locs hP hD hS ls (lv_sub hl [1, 2, 0] rfl)

set_option maxHeartbeats 4000000 in
set_option maxRecDepth 100000 in
theorem c_X6_mayGo (l : Launch) (dC : Nat → ClassId) (dI : Nat → Nat → Nat) (cI cJ : ClassId) (sz : Nat) (m0 : Nat) (x1 : Nat) (x2 : Nat) (x3 : Nat) (x4 : Nat) (x5 : Nat) (x6 : Nat) (x7 : Nat) (x8 : Nat) (x9 : Nat) (y1 : Nat) (y2 : Nat) (y3 : Nat) (y4 : Nat) (y5 : Nat) (y6 : Nat) (y7 : Nat) (N : Nat) (K : Nat) (lo : Nat) (ns : Nat) (nd : Nat) (rm : Nat) (pls : Nat) (F : Nat → Nat) (G : Nat → Nat) (PT : Nat → Nat) (a : Nat) (n : Nat) (av : Nat) (st : Nat) (bF : ∀ a, F a < 8) (bG : ∀ a, G a < 8) (bPT : ∀ i, PT i < 16) (ba : a < 16) (bn : n ≤ 8) (bav : av < 8) (bst : st < 8) : Met l yX6_mayGo wsX6_mayGo (zR 0 0 0 0) (va_Pc [.ref m0, .int (nI a), .int (nI n), .int (nI av), .int (nI st)] (zP (dC, dI) [(cI, .int), (cJ, .long)] [(m0, .inr (6, [.int (nI N), .ref x1, .int (nI K), .ref x2, .ref x3, .ref x4, .int (nI lo), .ref x5, .ref x6, .ref x7, .ref x8, .int (nI ns), .int (nI nd), .ref x9, .ref y1, .ref y2, .int (nI rm), .ref y3, .ref y4, .ref y5, .ref y6, .ref y7, .int (nI pls)])), (x2, .inl (cI, 16, .inl (fun z_ => nI (F z_)))), (x3, .inl (cI, 16, .inl (fun z_ => nI (G z_)))), (x7, .inl (cI, 9, .inl (fun z_ => nI (PT z_))))] sz nwA)) (va_Qi (fun (r : Int32) (u : (Nat)) => r = (nI u) ∧ ((u = 1 ∧ sp_mg F G PT a n av st) ∨ (u = 0 ∧ ¬ sp_mg F G PT a n av st))) (zB (dC, dI) (fun (u : (Nat)) => [(m0, .inr (6, [.int (nI N), .ref x1, .int (nI K), .ref x2, .ref x3, .ref x4, .int (nI lo), .ref x5, .ref x6, .ref x7, .ref x8, .int (nI ns), .int (nI nd), .ref x9, .ref y1, .ref y2, .int (nI rm), .ref y3, .ref y4, .ref y5, .ref y6, .ref y7, .int (nI pls)])), (x2, .inl (cI, 16, .inl (fun z_ => nI (F z_)))), (x3, .inl (cI, 16, .inl (fun z_ => nI (G z_)))), (x7, .inl (cI, 9, .inl (fun z_ => nI (PT z_))))]) (va_A [(m0, .inr (6, [.int (nI N), .ref x1, .int (nI K), .ref x2, .ref x3, .ref x4, .int (nI lo), .ref x5, .ref x6, .ref x7, .ref x8, .int (nI ns), .int (nI nd), .ref x9, .ref y1, .ref y2, .int (nI rm), .ref y3, .ref y4, .ref y5, .ref y6, .ref y7, .int (nI pls)])), (x2, .inl (cI, 16, .inl (fun z_ => nI (F z_)))), (x3, .inl (cI, 16, .inl (fun z_ => nI (G z_)))), (x7, .inl (cI, 9, .inl (fun z_ => nI (PT z_))))] sz)) (va_A [(m0, .inr (6, [.int (nI N), .ref x1, .int (nI K), .ref x2, .ref x3, .ref x4, .int (nI lo), .ref x5, .ref x6, .ref x7, .ref x8, .int (nI ns), .int (nI nd), .ref x9, .ref y1, .ref y2, .int (nI rm), .ref y3, .ref y4, .ref y5, .ref y6, .ref y7, .int (nI pls)])), (x2, .inl (cI, 16, .inl (fun z_ => nI (F z_)))), (x3, .inl (cI, 16, .inl (fun z_ => nI (G z_)))), (x7, .inl (cI, 9, .inl (fun z_ => nI (PT z_))))] sz)) 0 0 (va_A [(m0, .inr (6, [.int (nI N), .ref x1, .int (nI K), .ref x2, .ref x3, .ref x4, .int (nI lo), .ref x5, .ref x6, .ref x7, .ref x8, .int (nI ns), .int (nI nd), .ref x9, .ref y1, .ref y2, .int (nI rm), .ref y3, .ref y4, .ref y5, .ref y6, .ref y7, .int (nI pls)])), (x2, .inl (cI, 16, .inl (fun z_ => nI (F z_)))), (x3, .inl (cI, 16, .inl (fun z_ => nI (G z_)))), (x7, .inl (cI, 9, .inl (fun z_ => nI (PT z_))))] sz) := by
  refine z_met_z (cc := cX6_mayGo) (maxL := 7) (by decide) rfl (Nat.le_of_ble_eq_true rfl) ?_
  intro p e s m args below meth c Q A ls hx hb hml hown hts hin hA hK hP hD hN hl hRET
  have hown : s.vm.findClass RX6 = some m.cls := hown
  obtain ⟨H, eH⟩ : ∃ H : Heap, H = s.heap := ⟨_, rfl⟩
  rw [← eH] at hP
  obtain ⟨locs, eL⟩ : ∃ z : List Loc, z = [] := ⟨_, rfl⟩
  rw [← eH, ← eL]
  have hS : va_S A s.heap H locs := by rw [eH, eL]; exact va_S.rf
  have hl : lv_has ls 7 [(0, .ref m0), (1, .int (nI a)), (2, .int (nI n)), (3, .int (nI av)), (4, .int (nI st))] := hl
  have w13 := hts (.fieldLink RX6 13 "PullCardsModel" "from" "[I") (by decide +kernel)
  have uX6 : ∀ w ∈ wsX60, w ∈ wsX6_mayGo := by decide +kernel
  have w16 := hts (.fieldLink RX6 16 "PullCardsModel" "to" "[I") (by decide +kernel)
  have w28 := hts (.fieldLink RX6 28 "PullCardsModel" "path" "[I") (by decide +kernel)
  refine lv_aload_n hx hb dX6_mayGo_0 rfl (lv_at hl 0 rfl) ?_
  refine z_get (D := (dC, dI)) (ci := 6) (v := .ref x2) (C := RX6) (T := TX6) (N := 23) hx hb hts uX6 hown hK hP 0 rfl rfl 3 (by decide) w13 rfl rfl dX6_mayGo_1 ?_
  refine lv_iload_n hx hb dX6_mayGo_4 rfl (lv_at hl 1 rfl) ?_
  refine z_iald (v := (nI (F a))) hx hb hK hP 1 0 rfl rfl a rfl (by omega) rfl dX6_mayGo_5 ?_
  have f5_0 := bF a
  refine lv_iload_n hx hb dX6_mayGo_6 rfl (lv_at hl 3 rfl) ?_
  refine z_icmp_ne (tgt := 37) hx hb dX6_mayGo_7 (by decide) (zcn_eq (a := F a) (b := av) rfl rfl (by omega)) (fun c_7 => ?_) (fun c_7 => ?_)
  · skip
    refine lv_iconst (v := nI 0) hx hb dX6_mayGo_37 (by decide) ?_
    have q_0 : (0 = 1 ∧ sp_mg F G PT a n av st) ∨ (0 = 0 ∧ ¬ sp_mg F G PT a n av st) := by exact Or.inr ⟨rfl, fun h => by have h1 := h.1; have h2 := h.2.1; have h3 := h.2.2.1; omega⟩
    exact hRET _ ls H locs ((nI 0)) (0) dX6_mayGo_38 (by decide) ⟨rfl, q_0⟩ hP hD hS
  · skip
    refine lv_aload_n hx hb dX6_mayGo_10 rfl (lv_at hl 0 rfl) ?_
    refine z_get (D := (dC, dI)) (ci := 6) (v := .ref x3) (C := RX6) (T := TX6) (N := 23) hx hb hts uX6 hown hK hP 0 rfl rfl 4 (by decide) w16 rfl rfl dX6_mayGo_11 ?_
    refine lv_iload_n hx hb dX6_mayGo_14 rfl (lv_at hl 1 rfl) ?_
    refine z_iald (v := (nI (G a))) hx hb hK hP 2 0 rfl rfl a rfl (by omega) rfl dX6_mayGo_15 ?_
    have f15_0 := bG a
    refine lv_iload hx hb dX6_mayGo_16 (lv_at hl 4 rfl) ?_
    refine z_icmp_lt (tgt := 37) hx hb dX6_mayGo_18 (by decide) (zcn_lt (a := G a) (b := st) rfl rfl (by omega)) (fun c_18 => ?_) (fun c_18 => ?_)
    · skip
      refine lv_iconst (v := nI 0) hx hb dX6_mayGo_37 (by decide) ?_
      have q_0 : (0 = 1 ∧ sp_mg F G PT a n av st) ∨ (0 = 0 ∧ ¬ sp_mg F G PT a n av st) := by exact Or.inr ⟨rfl, fun h => by have h1 := h.1; have h2 := h.2.1; have h3 := h.2.2.1; omega⟩
      exact hRET _ ls H locs ((nI 0)) (0) dX6_mayGo_38 (by decide) ⟨rfl, q_0⟩ hP hD hS
    · skip
      have L45 : ∀ (n45 : Nat) (i : Nat) (b : Nat), (n - i) < n45 → (i ≤ n) → ((b = 1 ∧ (∀ q, q < i → ¬ G a = F (PT q) ∨ G a = st)) ∨ (b = 0 ∧ (∃ q, q < i ∧ (G a = F (PT q) ∧ ¬ G a = st)))) → (b ≤ 1) → (¬ (G a = av ∧ ¬ av = st)) → ∀ (H : Heap) (locs : List Loc), va_P (dC, dI) vwCl [(m0, .inr (6, [.int (nI N), .ref x1, .int (nI K), .ref x2, .ref x3, .ref x4, .int (nI lo), .ref x5, .ref x6, .ref x7, .ref x8, .int (nI ns), .int (nI nd), .ref x9, .ref y1, .ref y2, .int (nI rm), .ref y3, .ref y4, .ref y5, .ref y6, .ref y7, .int (nI pls)])), (x2, .inl (cI, 16, .inl (fun z_ => nI (F z_)))), (x3, .inl (cI, 16, .inl (fun z_ => nI (G z_)))), (x7, .inl (cI, 9, .inl (fun z_ => nI (PT z_))))] H → va_D A [(m0, .inr (6, [.int (nI N), .ref x1, .int (nI K), .ref x2, .ref x3, .ref x4, .int (nI lo), .ref x5, .ref x6, .ref x7, .ref x8, .int (nI ns), .int (nI nd), .ref x9, .ref y1, .ref y2, .int (nI rm), .ref y3, .ref y4, .ref y5, .ref y6, .ref y7, .int (nI pls)])), (x2, .inl (cI, 16, .inl (fun z_ => nI (F z_)))), (x3, .inl (cI, 16, .inl (fun z_ => nI (G z_)))), (x7, .inl (cI, 9, .inl (fun z_ => nI (PT z_))))] → va_S A s.heap H locs → ∀ (ls : Array Slot), lv_has ls 7 [(0, .ref m0), (1, .int (nI a)), (2, .int (nI n)), (3, .int (nI av)), (4, .int (nI st)), (5, .int (nI b)), (6, .int (nI i))] → W p l e (zR 0 0 0 0) s m args below meth c H locs 0 0 Q (F0 m 45 ls []) := by
        intro n45
        induction n45 with
        | zero => intro i b hn; exact absurd hn (Nat.not_lt_zero _)
        | succ n45 ih =>
          intro i b hn i1 i2 i3 i4 H locs hP hD hS ls hl
          have ih45 := ih
          have hn45 := hn
          clear ih hn
          refine lv_iload hx hb dX6_mayGo_45 (lv_at hl 6 rfl) ?_
          refine lv_iload_n hx hb dX6_mayGo_47 rfl (lv_at hl 2 rfl) ?_
          refine z_icmp_ge (tgt := 101) hx hb dX6_mayGo_48 (by decide) (zcn_le (a := n) (b := i) rfl rfl (by omega)) (fun c_48 => ?_) (fun c_48 => ?_)
          · skip
            refine lv_iload hx hb dX6_mayGo_101 (lv_at hl 5 rfl) ?_
            have q_0 : (b = 1 ∧ sp_mg F G PT a n av st) ∨ (b = 0 ∧ ¬ sp_mg F G PT a n av st) := by rcases i2 with ⟨hz, h⟩ | ⟨hz, q, h1, h2⟩; exact Or.inl ⟨hz, by omega, by omega, i4, fun q hq => h q (by omega)⟩; exact Or.inr ⟨hz, fun h => by rcases h.2.2.2 q (by omega) with z | z; exact z h2.1; exact h2.2 z⟩
            exact hRET _ ls H locs ((nI b)) (b) dX6_mayGo_103 (by exact z_nb (by rcases i2 with h | h; exact Or.inr h.1; exact Or.inl h.1)) ⟨rfl, q_0⟩ hP hD hS
          · skip
            refine lv_iload hx hb dX6_mayGo_51 (lv_at hl 5 rfl) ?_
            refine z_if_eq (tgt := 92) hx hb dX6_mayGo_53 (by decide) (zcn_eq (a := b) (b := 0) rfl nI_00 (by omega)) (fun c_53 => ?_) (fun c_53 => ?_)
            · skip
              refine lv_iconst (v := nI 0) hx hb dX6_mayGo_92 (by decide) ?_
              refine lv_istore (lv' := [(5, .int (nI 0)), (0, .ref m0), (1, .int (nI a)), (2, .int (nI n)), (3, .int (nI av)), (4, .int (nI st)), (6, .int (nI i))]) hx hb dX6_mayGo_93 hl (by decide) rfl (fun ls hl => ?_)
              refine lv_iinc (v := (nI (i + 1))) (lv' := [(6, .int (nI (i + 1))), (5, .int (nI 0)), (0, .ref m0), (1, .int (nI a)), (2, .int (nI n)), (3, .int (nI av)), (4, .int (nI st))]) hx hb dX6_mayGo_95 hl (k := 6) rfl (z_incN i 1 (by decide)) (by decide) rfl (fun ls hl => ?_)
              refine lv_goto (tgt := 45) hx hb dX6_mayGo_98 (by decide) ?_
              have o_i1 : (i + 1) ≤ n := by first | assumption | omega
              have o_i2 : (0 = 1 ∧ (∀ q, q < (i + 1) → ¬ G a = F (PT q) ∨ G a = st)) ∨ (0 = 0 ∧ (∃ q, q < (i + 1) ∧ (G a = F (PT q) ∧ ¬ G a = st))) := by rcases i2 with ⟨hz, h⟩ | ⟨hz, q, h1, h2⟩ <;> first | exact Or.inl ⟨rfl, lt_s h (Or.inl (by omega))⟩ | exact Or.inl ⟨rfl, lt_s h (Or.inr (by omega))⟩ | exact Or.inr ⟨rfl, i, by omega, by omega⟩ | exact Or.inr ⟨rfl, q, by omega, h2⟩ | (exfalso; omega)
              have o_i3 : 0 ≤ 1 := by first | assumption | omega
              have o_i4 : ¬ (G a = av ∧ ¬ av = st) := by first | assumption | omega
              have o_mu : (n - (i + 1)) < n45 := by clear o_i2 i2; omega
              exact ih45 (i + 1) 0 o_mu o_i1 o_i2 o_i3 o_i4 H locs hP hD hS ls (lv_sub hl [2, 3, 4, 5, 6, 1, 0] rfl)
            · skip
              refine lv_aload_n hx hb dX6_mayGo_56 rfl (lv_at hl 0 rfl) ?_
              refine z_get (D := (dC, dI)) (ci := 6) (v := .ref x3) (C := RX6) (T := TX6) (N := 23) hx hb hts uX6 hown hK hP 0 rfl rfl 4 (by decide) w16 rfl rfl dX6_mayGo_57 ?_
              refine lv_iload_n hx hb dX6_mayGo_60 rfl (lv_at hl 1 rfl) ?_
              refine z_iald (v := (nI (G a))) hx hb hK hP 2 0 rfl rfl a rfl (by omega) rfl dX6_mayGo_61 ?_
              have f61_0 := bG a
              refine lv_aload_n hx hb dX6_mayGo_62 rfl (lv_at hl 0 rfl) ?_
              refine z_get (D := (dC, dI)) (ci := 6) (v := .ref x2) (C := RX6) (T := TX6) (N := 23) hx hb hts uX6 hown hK hP 0 rfl rfl 3 (by decide) w13 rfl rfl dX6_mayGo_63 ?_
              refine lv_aload_n hx hb dX6_mayGo_66 rfl (lv_at hl 0 rfl) ?_
              refine z_get (D := (dC, dI)) (ci := 6) (v := .ref x7) (C := RX6) (T := TX6) (N := 23) hx hb hts uX6 hown hK hP 0 rfl rfl 9 (by decide) w28 rfl rfl dX6_mayGo_67 ?_
              refine lv_iload hx hb dX6_mayGo_70 (lv_at hl 6 rfl) ?_
              refine z_iald (v := (nI (PT i))) hx hb hK hP 3 0 rfl rfl i rfl (by omega) rfl dX6_mayGo_72 ?_
              have f72_0 := bPT i
              refine z_iald (v := (nI (F (PT i)))) hx hb hK hP 1 0 rfl rfl (PT i) rfl (by omega) rfl dX6_mayGo_73 ?_
              have f73_0 := bF (PT i)
              refine z_icmp_ne (tgt := 88) hx hb dX6_mayGo_74 (by decide) (zcn_eq (a := G a) (b := F (PT i)) rfl rfl (by omega)) (fun c_74 => ?_) (fun c_74 => ?_)
              · skip
                refine lv_iconst (v := nI 1) hx hb dX6_mayGo_88 (by decide) ?_
                refine lv_goto (tgt := 93) hx hb dX6_mayGo_89 (by decide) ?_
                refine lv_istore (lv' := [(5, .int (nI 1)), (0, .ref m0), (1, .int (nI a)), (2, .int (nI n)), (3, .int (nI av)), (4, .int (nI st)), (6, .int (nI i))]) hx hb dX6_mayGo_93 hl (by decide) rfl (fun ls hl => ?_)
                refine lv_iinc (v := (nI (i + 1))) (lv' := [(6, .int (nI (i + 1))), (5, .int (nI 1)), (0, .ref m0), (1, .int (nI a)), (2, .int (nI n)), (3, .int (nI av)), (4, .int (nI st))]) hx hb dX6_mayGo_95 hl (k := 6) rfl (z_incN i 1 (by decide)) (by decide) rfl (fun ls hl => ?_)
                refine lv_goto (tgt := 45) hx hb dX6_mayGo_98 (by decide) ?_
                have o_i1 : (i + 1) ≤ n := by first | assumption | omega
                have o_i2 : (1 = 1 ∧ (∀ q, q < (i + 1) → ¬ G a = F (PT q) ∨ G a = st)) ∨ (1 = 0 ∧ (∃ q, q < (i + 1) ∧ (G a = F (PT q) ∧ ¬ G a = st))) := by rcases i2 with ⟨hz, h⟩ | ⟨hz, q, h1, h2⟩ <;> first | exact Or.inl ⟨rfl, lt_s h (Or.inl (by omega))⟩ | exact Or.inl ⟨rfl, lt_s h (Or.inr (by omega))⟩ | exact Or.inr ⟨rfl, i, by omega, by omega⟩ | exact Or.inr ⟨rfl, q, by omega, h2⟩ | (exfalso; omega)
                have o_i3 : 1 ≤ 1 := by first | assumption | omega
                have o_i4 : ¬ (G a = av ∧ ¬ av = st) := by first | assumption | omega
                have o_mu : (n - (i + 1)) < n45 := by clear o_i2 i2; omega
                exact ih45 (i + 1) 1 o_mu o_i1 o_i2 o_i3 o_i4 H locs hP hD hS ls (lv_sub hl [2, 3, 4, 5, 6, 1, 0] rfl)
              · skip
                refine lv_aload_n hx hb dX6_mayGo_77 rfl (lv_at hl 0 rfl) ?_
                refine z_get (D := (dC, dI)) (ci := 6) (v := .ref x3) (C := RX6) (T := TX6) (N := 23) hx hb hts uX6 hown hK hP 0 rfl rfl 4 (by decide) w16 rfl rfl dX6_mayGo_78 ?_
                refine lv_iload_n hx hb dX6_mayGo_81 rfl (lv_at hl 1 rfl) ?_
                refine z_iald (v := (nI (G a))) hx hb hK hP 2 0 rfl rfl a rfl (by omega) rfl dX6_mayGo_82 ?_
                have f82_0 := bG a
                refine lv_iload hx hb dX6_mayGo_83 (lv_at hl 4 rfl) ?_
                refine z_icmp_ne (tgt := 92) hx hb dX6_mayGo_85 (by decide) (zcn_eq (a := G a) (b := st) rfl rfl (by omega)) (fun c_85 => ?_) (fun c_85 => ?_)
                · skip
                  refine lv_iconst (v := nI 0) hx hb dX6_mayGo_92 (by decide) ?_
                  refine lv_istore (lv' := [(5, .int (nI 0)), (0, .ref m0), (1, .int (nI a)), (2, .int (nI n)), (3, .int (nI av)), (4, .int (nI st)), (6, .int (nI i))]) hx hb dX6_mayGo_93 hl (by decide) rfl (fun ls hl => ?_)
                  refine lv_iinc (v := (nI (i + 1))) (lv' := [(6, .int (nI (i + 1))), (5, .int (nI 0)), (0, .ref m0), (1, .int (nI a)), (2, .int (nI n)), (3, .int (nI av)), (4, .int (nI st))]) hx hb dX6_mayGo_95 hl (k := 6) rfl (z_incN i 1 (by decide)) (by decide) rfl (fun ls hl => ?_)
                  refine lv_goto (tgt := 45) hx hb dX6_mayGo_98 (by decide) ?_
                  have o_i1 : (i + 1) ≤ n := by first | assumption | omega
                  have o_i2 : (0 = 1 ∧ (∀ q, q < (i + 1) → ¬ G a = F (PT q) ∨ G a = st)) ∨ (0 = 0 ∧ (∃ q, q < (i + 1) ∧ (G a = F (PT q) ∧ ¬ G a = st))) := by rcases i2 with ⟨hz, h⟩ | ⟨hz, q, h1, h2⟩ <;> first | exact Or.inl ⟨rfl, lt_s h (Or.inl (by omega))⟩ | exact Or.inl ⟨rfl, lt_s h (Or.inr (by omega))⟩ | exact Or.inr ⟨rfl, i, by omega, by omega⟩ | exact Or.inr ⟨rfl, q, by omega, h2⟩ | (exfalso; omega)
                  have o_i3 : 0 ≤ 1 := by first | assumption | omega
                  have o_i4 : ¬ (G a = av ∧ ¬ av = st) := by first | assumption | omega
                  have o_mu : (n - (i + 1)) < n45 := by clear o_i2 i2; omega
                  exact ih45 (i + 1) 0 o_mu o_i1 o_i2 o_i3 o_i4 H locs hP hD hS ls (lv_sub hl [2, 3, 4, 5, 6, 1, 0] rfl)
                · skip
                  refine lv_iconst (v := nI 1) hx hb dX6_mayGo_88 (by decide) ?_
                  refine lv_goto (tgt := 93) hx hb dX6_mayGo_89 (by decide) ?_
                  refine lv_istore (lv' := [(5, .int (nI 1)), (0, .ref m0), (1, .int (nI a)), (2, .int (nI n)), (3, .int (nI av)), (4, .int (nI st)), (6, .int (nI i))]) hx hb dX6_mayGo_93 hl (by decide) rfl (fun ls hl => ?_)
                  refine lv_iinc (v := (nI (i + 1))) (lv' := [(6, .int (nI (i + 1))), (5, .int (nI 1)), (0, .ref m0), (1, .int (nI a)), (2, .int (nI n)), (3, .int (nI av)), (4, .int (nI st))]) hx hb dX6_mayGo_95 hl (k := 6) rfl (z_incN i 1 (by decide)) (by decide) rfl (fun ls hl => ?_)
                  refine lv_goto (tgt := 45) hx hb dX6_mayGo_98 (by decide) ?_
                  have o_i1 : (i + 1) ≤ n := by first | assumption | omega
                  have o_i2 : (1 = 1 ∧ (∀ q, q < (i + 1) → ¬ G a = F (PT q) ∨ G a = st)) ∨ (1 = 0 ∧ (∃ q, q < (i + 1) ∧ (G a = F (PT q) ∧ ¬ G a = st))) := by rcases i2 with ⟨hz, h⟩ | ⟨hz, q, h1, h2⟩ <;> first | exact Or.inl ⟨rfl, lt_s h (Or.inl (by omega))⟩ | exact Or.inl ⟨rfl, lt_s h (Or.inr (by omega))⟩ | exact Or.inr ⟨rfl, i, by omega, by omega⟩ | exact Or.inr ⟨rfl, q, by omega, h2⟩ | (exfalso; omega)
                  have o_i3 : 1 ≤ 1 := by first | assumption | omega
                  have o_i4 : ¬ (G a = av ∧ ¬ av = st) := by first | assumption | omega
                  have o_mu : (n - (i + 1)) < n45 := by clear o_i2 i2; omega
                  exact ih45 (i + 1) 1 o_mu o_i1 o_i2 o_i3 o_i4 H locs hP hD hS ls (lv_sub hl [2, 3, 4, 5, 6, 1, 0] rfl)
      refine lv_aload_n hx hb dX6_mayGo_21 rfl (lv_at hl 0 rfl) ?_
      refine z_get (D := (dC, dI)) (ci := 6) (v := .ref x3) (C := RX6) (T := TX6) (N := 23) hx hb hts uX6 hown hK hP 0 rfl rfl 4 (by decide) w16 rfl rfl dX6_mayGo_22 ?_
      refine lv_iload_n hx hb dX6_mayGo_25 rfl (lv_at hl 1 rfl) ?_
      refine z_iald (v := (nI (G a))) hx hb hK hP 2 0 rfl rfl a rfl (by omega) rfl dX6_mayGo_26 ?_
      have f26_0 := bG a
      refine lv_iload_n hx hb dX6_mayGo_27 rfl (lv_at hl 3 rfl) ?_
      refine z_icmp_ne (tgt := 39) hx hb dX6_mayGo_28 (by decide) (zcn_eq (a := G a) (b := av) rfl rfl (by omega)) (fun c_28 => ?_) (fun c_28 => ?_)
      · skip
        refine lv_iconst (v := nI 1) hx hb dX6_mayGo_39 (by decide) ?_
        refine lv_istore (lv' := [(5, .int (nI 1)), (0, .ref m0), (1, .int (nI a)), (2, .int (nI n)), (3, .int (nI av)), (4, .int (nI st))]) hx hb dX6_mayGo_40 hl (by decide) rfl (fun ls hl => ?_)
        refine lv_iconst (v := nI 0) hx hb dX6_mayGo_42 (by decide) ?_
        refine lv_istore (lv' := [(6, .int (nI 0)), (5, .int (nI 1)), (0, .ref m0), (1, .int (nI a)), (2, .int (nI n)), (3, .int (nI av)), (4, .int (nI st))]) hx hb dX6_mayGo_43 hl (by decide) rfl (fun ls hl => ?_)
        have o_i1 : 0 ≤ n := by first | assumption | omega
        have o_i2 : (1 = 1 ∧ (∀ q, q < 0 → ¬ G a = F (PT q) ∨ G a = st)) ∨ (1 = 0 ∧ (∃ q, q < 0 ∧ (G a = F (PT q) ∧ ¬ G a = st))) := by exact Or.inl ⟨rfl, fun q h => by omega⟩
        have o_i3 : 1 ≤ 1 := by first | assumption | omega
        have o_i4 : ¬ (G a = av ∧ ¬ av = st) := by first | assumption | omega
        exact L45 ((n - 0) + 1) 0 1 (Nat.lt_succ_self _) o_i1 o_i2 o_i3 o_i4 H locs hP hD hS ls (lv_sub hl [2, 3, 4, 5, 6, 1, 0] rfl)
      · skip
        refine lv_iload_n hx hb dX6_mayGo_31 rfl (lv_at hl 3 rfl) ?_
        refine lv_iload hx hb dX6_mayGo_32 (lv_at hl 4 rfl) ?_
        refine z_icmp_eq (tgt := 39) hx hb dX6_mayGo_34 (by decide) (zcn_eq (a := av) (b := st) rfl rfl (by omega)) (fun c_34 => ?_) (fun c_34 => ?_)
        · skip
          refine lv_iconst (v := nI 1) hx hb dX6_mayGo_39 (by decide) ?_
          refine lv_istore (lv' := [(5, .int (nI 1)), (0, .ref m0), (1, .int (nI a)), (2, .int (nI n)), (3, .int (nI av)), (4, .int (nI st))]) hx hb dX6_mayGo_40 hl (by decide) rfl (fun ls hl => ?_)
          refine lv_iconst (v := nI 0) hx hb dX6_mayGo_42 (by decide) ?_
          refine lv_istore (lv' := [(6, .int (nI 0)), (5, .int (nI 1)), (0, .ref m0), (1, .int (nI a)), (2, .int (nI n)), (3, .int (nI av)), (4, .int (nI st))]) hx hb dX6_mayGo_43 hl (by decide) rfl (fun ls hl => ?_)
          have o_i1 : 0 ≤ n := by first | assumption | omega
          have o_i2 : (1 = 1 ∧ (∀ q, q < 0 → ¬ G a = F (PT q) ∨ G a = st)) ∨ (1 = 0 ∧ (∃ q, q < 0 ∧ (G a = F (PT q) ∧ ¬ G a = st))) := by exact Or.inl ⟨rfl, fun q h => by omega⟩
          have o_i3 : 1 ≤ 1 := by first | assumption | omega
          have o_i4 : ¬ (G a = av ∧ ¬ av = st) := by first | assumption | omega
          exact L45 ((n - 0) + 1) 0 1 (Nat.lt_succ_self _) o_i1 o_i2 o_i3 o_i4 H locs hP hD hS ls (lv_sub hl [2, 3, 4, 5, 6, 1, 0] rfl)
        · skip
          refine lv_iconst (v := nI 0) hx hb dX6_mayGo_37 (by decide) ?_
          have q_0 : (0 = 1 ∧ sp_mg F G PT a n av st) ∨ (0 = 0 ∧ ¬ sp_mg F G PT a n av st) := by exact Or.inr ⟨rfl, fun h => by have h1 := h.1; have h2 := h.2.1; have h3 := h.2.2.1; omega⟩
          exact hRET _ ls H locs ((nI 0)) (0) dX6_mayGo_38 (by decide) ⟨rfl, q_0⟩ hP hD hS

set_option maxHeartbeats 4000000 in
set_option maxRecDepth 100000 in
theorem c_X6_find (l : Launch) (dC : Nat → ClassId) (dI : Nat → Nat → Nat) (cI cJ : ClassId) (sz : Nat) (m0 : Nat) (x1 : Nat) (x2 : Nat) (x3 : Nat) (x4 : Nat) (x5 : Nat) (x6 : Nat) (x7 : Nat) (x8 : Nat) (x9 : Nat) (y1 : Nat) (y2 : Nat) (y3 : Nat) (y4 : Nat) (y5 : Nat) (y6 : Nat) (y7 : Nat) (N : Nat) (K : Nat) (lo : Nat) (ns : Nat) (nd : Nat) (rm : Nat) (pls : Nat) (F : Nat → Nat) (G : Nat → Nat) (LA : Nat → Nat) (LL : Nat → Nat) (PT : Nat → Nat) (bN : N ≤ 8) (bK : K ≤ 16) (bF : ∀ a, F a < 8) (bG : ∀ a, G a < 8) (bLA : ∀ i, LA i < 16) (bLL : ∀ i, LL i ≤ 8) (bPT : ∀ i, PT i < 16) : Met l yX6_find wsX6_find (zR 1 0 0 26) (va_Pc [.ref m0] (zP (dC, dI) [(cI, .int), (cJ, .long)] [(m0, .inr (6, [.int (nI N), .ref x1, .int (nI K), .ref x2, .ref x3, .ref x4, .int (nI lo), .ref x5, .ref x6, .ref x7, .ref x8, .int (nI ns), .int (nI nd), .ref x9, .ref y1, .ref y2, .int (nI rm), .ref y3, .ref y4, .ref y5, .ref y6, .ref y7, .int (nI pls)])), (x2, .inl (cI, 16, .inl (fun z_ => nI (F z_)))), (x3, .inl (cI, 16, .inl (fun z_ => nI (G z_)))), (x5, .inl (cI, 16000, .inl (fun z_ => nI (LA z_)))), (x6, .inl (cI, 2000, .inl (fun z_ => nI (LL z_)))), (x7, .inl (cI, 9, .inl (fun z_ => nI (PT z_))))] sz nwA)) (va_Qv (fun (u : (Nat → Nat) × (Nat → Nat) × (Nat → Nat) × (Nat)) => (sp_hold (sp_all N K F G) u.2.2.2 u.1 u.2.1) ∧ (∀ i, u.1 i < 16) ∧ (∀ i, u.2.1 i ≤ 8) ∧ (∀ i, u.2.2.1 i < 16) ∧ (u.2.2.2 ≤ 636)) (zB (dC, dI) (fun (u : (Nat → Nat) × (Nat → Nat) × (Nat → Nat) × (Nat)) => [(m0, .inr (6, [.int (nI N), .ref x1, .int (nI K), .ref x2, .ref x3, .ref x4, .int (nI u.2.2.2), .ref x5, .ref x6, .ref x7, .ref x8, .int (nI ns), .int (nI nd), .ref x9, .ref y1, .ref y2, .int (nI rm), .ref y3, .ref y4, .ref y5, .ref y6, .ref y7, .int (nI pls)])), (x2, .inl (cI, 16, .inl (fun z_ => nI (F z_)))), (x3, .inl (cI, 16, .inl (fun z_ => nI (G z_)))), (x5, .inl (cI, 16000, .inl (fun z_ => nI (u.1 z_)))), (x6, .inl (cI, 2000, .inl (fun z_ => nI (u.2.1 z_)))), (x7, .inl (cI, 9, .inl (fun z_ => nI (u.2.2.1 z_))))]) (va_A [(m0, .inr (6, [.int (nI N), .ref x1, .int (nI K), .ref x2, .ref x3, .ref x4, .int (nI lo), .ref x5, .ref x6, .ref x7, .ref x8, .int (nI ns), .int (nI nd), .ref x9, .ref y1, .ref y2, .int (nI rm), .ref y3, .ref y4, .ref y5, .ref y6, .ref y7, .int (nI pls)])), (x2, .inl (cI, 16, .inl (fun z_ => nI (F z_)))), (x3, .inl (cI, 16, .inl (fun z_ => nI (G z_)))), (x5, .inl (cI, 16000, .inl (fun z_ => nI (LA z_)))), (x6, .inl (cI, 2000, .inl (fun z_ => nI (LL z_)))), (x7, .inl (cI, 9, .inl (fun z_ => nI (PT z_))))] sz)) (va_A [(m0, .inr (6, [.int (nI N), .ref x1, .int (nI K), .ref x2, .ref x3, .ref x4, .int (nI lo), .ref x5, .ref x6, .ref x7, .ref x8, .int (nI ns), .int (nI nd), .ref x9, .ref y1, .ref y2, .int (nI rm), .ref y3, .ref y4, .ref y5, .ref y6, .ref y7, .int (nI pls)])), (x2, .inl (cI, 16, .inl (fun z_ => nI (F z_)))), (x3, .inl (cI, 16, .inl (fun z_ => nI (G z_)))), (x5, .inl (cI, 16000, .inl (fun z_ => nI (LA z_)))), (x6, .inl (cI, 2000, .inl (fun z_ => nI (LL z_)))), (x7, .inl (cI, 9, .inl (fun z_ => nI (PT z_))))] sz)) 0 0 (va_A [(m0, .inr (6, [.int (nI N), .ref x1, .int (nI K), .ref x2, .ref x3, .ref x4, .int (nI lo), .ref x5, .ref x6, .ref x7, .ref x8, .int (nI ns), .int (nI nd), .ref x9, .ref y1, .ref y2, .int (nI rm), .ref y3, .ref y4, .ref y5, .ref y6, .ref y7, .int (nI pls)])), (x2, .inl (cI, 16, .inl (fun z_ => nI (F z_)))), (x3, .inl (cI, 16, .inl (fun z_ => nI (G z_)))), (x5, .inl (cI, 16000, .inl (fun z_ => nI (LA z_)))), (x6, .inl (cI, 2000, .inl (fun z_ => nI (LL z_)))), (x7, .inl (cI, 9, .inl (fun z_ => nI (PT z_))))] sz) := by
  refine z_met_v (cc := cX6_find) (maxL := 5) (by decide) rfl (Nat.le_of_ble_eq_true rfl) ?_
  intro p e s m args below meth c Q A ls hx hb hml hown hts hin hA hK hP hD hN hl hRET
  have hown : s.vm.findClass RX6 = some m.cls := hown
  obtain ⟨H, eH⟩ : ∃ H : Heap, H = s.heap := ⟨_, rfl⟩
  rw [← eH] at hP
  obtain ⟨locs, eL⟩ : ∃ z : List Loc, z = [] := ⟨_, rfl⟩
  rw [← eH, ← eL]
  have hS : va_S A s.heap H locs := by rw [eH, eL]; exact va_S.rf
  have hl : lv_has ls 5 [(0, .ref m0)] := hl
  have w99 := hts (.fieldLink RX6 99 "PullCardsModel" "loops" "I") (by decide +kernel)
  have uX6 : ∀ w ∈ wsX60, w ∈ wsX6_find := by decide +kernel
  have w59 := hts (.fieldLink RX6 59 "PullCardsModel" "stations" "I") (by decide +kernel)
  have w67 := hts (.fieldLink RX6 67 "PullCardsModel" "arcs" "I") (by decide +kernel)
  have w16 := hts (.fieldLink RX6 16 "PullCardsModel" "to" "[I") (by decide +kernel)
  have w28 := hts (.fieldLink RX6 28 "PullCardsModel" "path" "[I") (by decide +kernel)
  refine lv_aload_n hx hb dX6_find_0 rfl (lv_at hl 0 rfl) ?_
  refine lv_iconst (v := nI 0) hx hb dX6_find_1 (by decide) ?_
  refine z_put (D := (dC, dI)) (ci := 6) (v := .int (nI 0)) (C := RX6) (T := TX6) (N := 23) hx hb hts uX6 tyX6 tyX6_ok nmX6 hown hK hP hD hS 0 rfl rfl 6 (by decide) w99 rfl rfl rfl rfl (Nat.le_of_ble_eq_true rfl) [(m0, .inr (6, [.int (nI N), .ref x1, .int (nI K), .ref x2, .ref x3, .ref x4, .int (nI 0), .ref x5, .ref x6, .ref x7, .ref x8, .int (nI ns), .int (nI nd), .ref x9, .ref y1, .ref y2, .int (nI rm), .ref y3, .ref y4, .ref y5, .ref y6, .ref y7, .int (nI pls)])), (x2, .inl (cI, 16, .inl (fun z_ => nI (F z_)))), (x3, .inl (cI, 16, .inl (fun z_ => nI (G z_)))), (x5, .inl (cI, 16000, .inl (fun z_ => nI (LA z_)))), (x6, .inl (cI, 2000, .inl (fun z_ => nI (LL z_)))), (x7, .inl (cI, 9, .inl (fun z_ => nI (PT z_))))] rfl dX6_find_2 (fun H locs hP hD hS => ?_)
  refine lv_iconst (v := nI 0) hx hb dX6_find_5 (by decide) ?_
  refine lv_istore_n (lv' := [(1, .int (nI 0)), (0, .ref m0)]) hx hb dX6_find_6 rfl hl (by decide) rfl (fun ls hl => ?_)
  have L7 : ∀ (n7 : Nat) (st : Nat) (LA1 : Nat → Nat) (LL1 : Nat → Nat) (PT1 : Nat → Nat) (lo1 : Nat), (N - st) < n7 → (st ≤ N) → (sp_hold (sp_all st K F G) lo1 LA1 LL1) → (∀ i, LA1 i < 16) → (∀ i, LL1 i ≤ 8) → (∀ i, PT1 i < 16) → ∀ (H : Heap) (locs : List Loc), va_P (dC, dI) vwCl [(m0, .inr (6, [.int (nI N), .ref x1, .int (nI K), .ref x2, .ref x3, .ref x4, .int (nI lo1), .ref x5, .ref x6, .ref x7, .ref x8, .int (nI ns), .int (nI nd), .ref x9, .ref y1, .ref y2, .int (nI rm), .ref y3, .ref y4, .ref y5, .ref y6, .ref y7, .int (nI pls)])), (x2, .inl (cI, 16, .inl (fun z_ => nI (F z_)))), (x3, .inl (cI, 16, .inl (fun z_ => nI (G z_)))), (x5, .inl (cI, 16000, .inl (fun z_ => nI (LA1 z_)))), (x6, .inl (cI, 2000, .inl (fun z_ => nI (LL1 z_)))), (x7, .inl (cI, 9, .inl (fun z_ => nI (PT1 z_))))] H → va_D A [(m0, .inr (6, [.int (nI N), .ref x1, .int (nI K), .ref x2, .ref x3, .ref x4, .int (nI lo1), .ref x5, .ref x6, .ref x7, .ref x8, .int (nI ns), .int (nI nd), .ref x9, .ref y1, .ref y2, .int (nI rm), .ref y3, .ref y4, .ref y5, .ref y6, .ref y7, .int (nI pls)])), (x2, .inl (cI, 16, .inl (fun z_ => nI (F z_)))), (x3, .inl (cI, 16, .inl (fun z_ => nI (G z_)))), (x5, .inl (cI, 16000, .inl (fun z_ => nI (LA1 z_)))), (x6, .inl (cI, 2000, .inl (fun z_ => nI (LL1 z_)))), (x7, .inl (cI, 9, .inl (fun z_ => nI (PT1 z_))))] → va_S A s.heap H locs → ∀ (ls : Array Slot), lv_has ls 5 [(0, .ref m0), (1, .int (nI st))] → W p l e (zR 1 0 0 26) s m args below meth c H locs 0 0 Q (F0 m 7 ls []) := by
    intro n7
    induction n7 with
    | zero => intro st LA1 LL1 PT1 lo1 hn; exact absurd hn (Nat.not_lt_zero _)
    | succ n7 ih =>
      intro st LA1 LL1 PT1 lo1 hn i1 i2 i3 i4 i5 H locs hP hD hS ls hl
      have ih7 := ih
      have hn7 := hn
      clear ih hn
      refine lv_iload_n hx hb dX6_find_7 rfl (lv_at hl 1 rfl) ?_
      refine lv_aload_n hx hb dX6_find_8 rfl (lv_at hl 0 rfl) ?_
      refine z_get (D := (dC, dI)) (ci := 6) (v := .int (nI N)) (C := RX6) (T := TX6) (N := 23) hx hb hts uX6 hown hK hP 0 rfl rfl 0 (by decide) w59 rfl rfl dX6_find_9 ?_
      refine z_icmp_ge (tgt := 146) hx hb dX6_find_12 (by decide) (zcn_le (a := N) (b := st) rfl rfl (by omega)) (fun c_12 => ?_) (fun c_12 => ?_)
      · skip
        have q_0 : sp_hold (sp_all N K F G) lo1 LA1 LL1 := by rw [show N = st by omega]; exact i2
        have q_1 : ∀ i, LA1 i < 16 := by exact i3
        have q_2 : ∀ i, LL1 i ≤ 8 := by exact i4
        have q_3 : ∀ i, PT1 i < 16 := by exact i5
        have q_4 : lo1 ≤ 636 := by have h636 := sp_636 bK (show st ≤ 8 by omega) F G; rw [i2.1]; exact h636
        exact hRET _ ls H locs (LA1, LL1, PT1, lo1) dX6_find_146 ⟨q_0, q_1, q_2, q_3, q_4⟩ hP hD hS
      · skip
        refine lv_iconst (v := nI 0) hx hb dX6_find_15 (by decide) ?_
        refine lv_istore_n (lv' := [(2, .int (nI 0)), (0, .ref m0), (1, .int (nI st))]) hx hb dX6_find_16 rfl hl (by decide) rfl (fun ls hl => ?_)
        refine lv_iconst (v := nI 0) hx hb dX6_find_17 (by decide) ?_
        refine lv_istore_n (lv' := [(3, .int (nI 0)), (2, .int (nI 0)), (0, .ref m0), (1, .int (nI st))]) hx hb dX6_find_18 rfl hl (by decide) rfl (fun ls hl => ?_)
        have L19 : ∀ (n19 : Nat) (rp : List Nat) (nx : Nat) (LS3 : List (List Nat)) (LA3 : Nat → Nat) (LL3 : Nat → Nat) (PT3 : Nat → Nat) (lo3 : Nat), (sp_ms K F G st rp nx) < n19 → (nx ≤ K) → (sp_hold LS3 lo3 LA3 LL3) → (∀ i, LA3 i < 16) → (∀ i, LL3 i ≤ 8) → (∀ i, PT3 i < 16) → (sp_vp K F G st rp) → (sp_pth rp PT3) → (LS3 ++ sp_tot K F G st rp nx = sp_all (st + 1) K F G) → ∀ (H : Heap) (locs : List Loc), va_P (dC, dI) vwCl [(m0, .inr (6, [.int (nI N), .ref x1, .int (nI K), .ref x2, .ref x3, .ref x4, .int (nI lo3), .ref x5, .ref x6, .ref x7, .ref x8, .int (nI ns), .int (nI nd), .ref x9, .ref y1, .ref y2, .int (nI rm), .ref y3, .ref y4, .ref y5, .ref y6, .ref y7, .int (nI pls)])), (x2, .inl (cI, 16, .inl (fun z_ => nI (F z_)))), (x3, .inl (cI, 16, .inl (fun z_ => nI (G z_)))), (x5, .inl (cI, 16000, .inl (fun z_ => nI (LA3 z_)))), (x6, .inl (cI, 2000, .inl (fun z_ => nI (LL3 z_)))), (x7, .inl (cI, 9, .inl (fun z_ => nI (PT3 z_))))] H → va_D A [(m0, .inr (6, [.int (nI N), .ref x1, .int (nI K), .ref x2, .ref x3, .ref x4, .int (nI lo3), .ref x5, .ref x6, .ref x7, .ref x8, .int (nI ns), .int (nI nd), .ref x9, .ref y1, .ref y2, .int (nI rm), .ref y3, .ref y4, .ref y5, .ref y6, .ref y7, .int (nI pls)])), (x2, .inl (cI, 16, .inl (fun z_ => nI (F z_)))), (x3, .inl (cI, 16, .inl (fun z_ => nI (G z_)))), (x5, .inl (cI, 16000, .inl (fun z_ => nI (LA3 z_)))), (x6, .inl (cI, 2000, .inl (fun z_ => nI (LL3 z_)))), (x7, .inl (cI, 9, .inl (fun z_ => nI (PT3 z_))))] → va_S A s.heap H locs → ∀ (ls : Array Slot), lv_has ls 5 [(0, .ref m0), (1, .int (nI st)), (2, .int (nI rp.length)), (3, .int (nI nx))] → W p l e (zR 1 0 0 26) s m args below meth c H locs 0 0 Q (F0 m 19 ls []) := by
          intro n19
          induction n19 with
          | zero => intro rp nx LS3 LA3 LL3 PT3 lo3 hn; exact absurd hn (Nat.not_lt_zero _)
          | succ n19 ih =>
            intro rp nx LS3 LA3 LL3 PT3 lo3 hn j1 j2 j3 j4 j5 j6 j7 j8 H locs hP hD hS ls hl
            have ih19 := ih
            have hn19 := hn
            clear ih hn
            have hlen := sp_vp_len j6 (show st < 8 by omega)
            have hmn := j2.1
            refine lv_iload_n hx hb dX6_find_19 rfl (lv_at hl 2 rfl) ?_
            have L52 : (0 < rp.length ∨ nx < K) → ∀ (H : Heap) (locs : List Loc), va_P (dC, dI) vwCl [(m0, .inr (6, [.int (nI N), .ref x1, .int (nI K), .ref x2, .ref x3, .ref x4, .int (nI lo3), .ref x5, .ref x6, .ref x7, .ref x8, .int (nI ns), .int (nI nd), .ref x9, .ref y1, .ref y2, .int (nI rm), .ref y3, .ref y4, .ref y5, .ref y6, .ref y7, .int (nI pls)])), (x2, .inl (cI, 16, .inl (fun z_ => nI (F z_)))), (x3, .inl (cI, 16, .inl (fun z_ => nI (G z_)))), (x5, .inl (cI, 16000, .inl (fun z_ => nI (LA3 z_)))), (x6, .inl (cI, 2000, .inl (fun z_ => nI (LL3 z_)))), (x7, .inl (cI, 9, .inl (fun z_ => nI (PT3 z_))))] H → va_D A [(m0, .inr (6, [.int (nI N), .ref x1, .int (nI K), .ref x2, .ref x3, .ref x4, .int (nI lo3), .ref x5, .ref x6, .ref x7, .ref x8, .int (nI ns), .int (nI nd), .ref x9, .ref y1, .ref y2, .int (nI rm), .ref y3, .ref y4, .ref y5, .ref y6, .ref y7, .int (nI pls)])), (x2, .inl (cI, 16, .inl (fun z_ => nI (F z_)))), (x3, .inl (cI, 16, .inl (fun z_ => nI (G z_)))), (x5, .inl (cI, 16000, .inl (fun z_ => nI (LA3 z_)))), (x6, .inl (cI, 2000, .inl (fun z_ => nI (LL3 z_)))), (x7, .inl (cI, 9, .inl (fun z_ => nI (PT3 z_))))] → va_S A s.heap H locs → ∀ (ls : Array Slot), lv_has ls 5 [(0, .ref m0), (1, .int (nI st)), (2, .int (nI rp.length)), (3, .int (nI nx))] → W p l e (zR 1 0 0 26) s m args below meth c H locs 0 0 Q (F0 m 52 ls [.int (nI (sp_at G st rp))]) := by
              intro  jz H locs hP hD hS ls hl
              have hat : sp_at G st rp < 8 := by (cases rp with | nil => (show st < 8; omega) | cons a0 rp0 => exact bG a0)
              refine lv_istore (lv' := [(4, .int (nI (sp_at G st rp))), (0, .ref m0), (1, .int (nI st)), (2, .int (nI rp.length)), (3, .int (nI nx))]) hx hb dX6_find_52 hl (by decide) rfl (fun ls hl => ?_)
              refine lv_iload_n hx hb dX6_find_54 rfl (lv_at hl 4 rfl) ?_
              refine lv_aload_n hx hb dX6_find_55 rfl (lv_at hl 1 rfl) ?_
              refine z_get (D := (dC, dI)) (ci := 6) (v := .int (nI K)) (C := RX6) (T := TX6) (N := 23) hx hb hts uX6 hown hK hP 0 rfl rfl 2 (by decide) w67 rfl rfl dX6_find_56 ?_
              refine z_icmp_ne (tgt := 77) hx hb dX6_find_59 (by decide) (zcn_eq (a := nx) (b := K) rfl rfl (by omega)) (fun c_59 => ?_) (fun c_59 => ?_)
              · skip
                have hnx : nx < K := by omega
                have htq := sp_tot_s hnx F G st rp
                refine lv_aload_n hx hb dX6_find_77 rfl (lv_at hl 1 rfl) ?_
                refine lv_iload_n hx hb dX6_find_78 rfl (lv_at hl 4 rfl) ?_
                refine lv_iload_n hx hb dX6_find_79 rfl (lv_at hl 3 rfl) ?_
                refine lv_iload hx hb dX6_find_80 (lv_at hl 0 rfl) ?_
                refine lv_iload_n hx hb dX6_find_82 rfl (lv_at hl 2 rfl) ?_
                refine z_callVi (As := [.int (nI nx), .int (nI rp.length), .int (nI (sp_at G st rp)), .int (nI st)]) (rest := []) (wr := [(x5, .inl (cI, 16000, .inl (fun z_ => nI (LA3 z_)))), (x6, .inl (cI, 2000, .inl (fun z_ => nI (LL3 z_))))]) ⟨hx, hb, hml, hown, hts⟩ (c_X6_mayGo l dC dI cI cJ H.size m0 x1 x2 x3 x4 x5 x6 x7 x8 x9 y1 y2 y3 y4 y5 y6 y7 N K lo3 ns nd rm pls F G PT3 nx rp.length (sp_at G st rp) st (by first | assumption | omega) (by first | assumption | omega) (by first | assumption | omega) (by first | assumption | omega) (by first | assumption | omega) (by first | assumption | omega) (by first | assumption | omega)) (cwV 4 hts gX6_find_X6_mayGo rfl rfl rfl (by decide +kernel) ⟨Nat.le_of_ble_eq_true rfl, Nat.le_of_ble_eq_true rfl⟩) hA hK hP hD hS [0, 1, 2, 5] [3, 4] [2, 3, 4, 0, 1, 5] rfl rfl (by decide) (by decide) (by decide) nwA_ok hN (ci := 6) rfl rfl 0 rfl hl.1 (Nat.le_of_ble_eq_true rfl) ⟨Nat.le_refl _, Nat.le_refl _⟩ rfl rfl dX6_find_83 (fun (u : (Nat)) => [(m0, .inr (6, [.int (nI N), .ref x1, .int (nI K), .ref x2, .ref x3, .ref x4, .int (nI lo3), .ref x5, .ref x6, .ref x7, .ref x8, .int (nI ns), .int (nI nd), .ref x9, .ref y1, .ref y2, .int (nI rm), .ref y3, .ref y4, .ref y5, .ref y6, .ref y7, .int (nI pls)])), (x2, .inl (cI, 16, .inl (fun z_ => nI (F z_)))), (x3, .inl (cI, 16, .inl (fun z_ => nI (G z_)))), (x5, .inl (cI, 16000, .inl (fun z_ => nI (LA3 z_)))), (x6, .inl (cI, 2000, .inl (fun z_ => nI (LL3 z_)))), (x7, .inl (cI, 9, .inl (fun z_ => nI (PT3 z_))))]) (fun u => rfl) (by decide) (fun r_83 u H locs hw hP hD hS => ?_)
                obtain ⟨rv_83, eu⟩ : ∃ z, z = u := ⟨_, rfl⟩
                subst eu
                have hP : va_P (dC, dI) vwCl [(m0, .inr (6, [.int (nI N), .ref x1, .int (nI K), .ref x2, .ref x3, .ref x4, .int (nI lo3), .ref x5, .ref x6, .ref x7, .ref x8, .int (nI ns), .int (nI nd), .ref x9, .ref y1, .ref y2, .int (nI rm), .ref y3, .ref y4, .ref y5, .ref y6, .ref y7, .int (nI pls)])), (x2, .inl (cI, 16, .inl (fun z_ => nI (F z_)))), (x3, .inl (cI, 16, .inl (fun z_ => nI (G z_)))), (x5, .inl (cI, 16000, .inl (fun z_ => nI (LA3 z_)))), (x6, .inl (cI, 2000, .inl (fun z_ => nI (LL3 z_)))), (x7, .inl (cI, 9, .inl (fun z_ => nI (PT3 z_))))] H := hP
                have hD : va_D A [(m0, .inr (6, [.int (nI N), .ref x1, .int (nI K), .ref x2, .ref x3, .ref x4, .int (nI lo3), .ref x5, .ref x6, .ref x7, .ref x8, .int (nI ns), .int (nI nd), .ref x9, .ref y1, .ref y2, .int (nI rm), .ref y3, .ref y4, .ref y5, .ref y6, .ref y7, .int (nI pls)])), (x2, .inl (cI, 16, .inl (fun z_ => nI (F z_)))), (x3, .inl (cI, 16, .inl (fun z_ => nI (G z_)))), (x5, .inl (cI, 16000, .inl (fun z_ => nI (LA3 z_)))), (x6, .inl (cI, 2000, .inl (fun z_ => nI (LL3 z_)))), (x7, .inl (cI, 9, .inl (fun z_ => nI (PT3 z_))))] := hD
                obtain ⟨er, p83_0⟩ := hw
                have p83_0 : (rv_83 = 1 ∧ sp_mg F G PT3 nx rp.length (sp_at G st rp) st) ∨ (rv_83 = 0 ∧ ¬ sp_mg F G PT3 nx rp.length (sp_at G st rp) st) := p83_0
                have er : r_83 = (nI rv_83) := er
                subst er
                rcases p83_0 with ⟨h83, c_83⟩ | ⟨h83, c_83⟩
                · skip
                  subst h83
                  refine lv_if_ne (tgt := 95) hx hb dX6_find_86 (by decide) (fun _ => ?_) (fun c_x => absurd c_x (by decide))
                  refine lv_aload_n hx hb dX6_find_95 rfl (lv_at hl 1 rfl) ?_
                  refine z_get (D := (dC, dI)) (ci := 6) (v := .ref x3) (C := RX6) (T := TX6) (N := 23) hx hb hts uX6 hown hK hP 0 rfl rfl 4 (by decide) w16 rfl rfl dX6_find_96 ?_
                  refine lv_iload_n hx hb dX6_find_99 rfl (lv_at hl 4 rfl) ?_
                  refine z_iald (v := (nI (G nx))) hx hb hK hP 2 0 rfl rfl nx rfl (by omega) rfl dX6_find_100 ?_
                  have f100_0 := bG nx
                  refine lv_iload_n hx hb dX6_find_101 rfl (lv_at hl 2 rfl) ?_
                  refine z_icmp_ne (tgt := 125) hx hb dX6_find_102 (by decide) (zcn_eq (a := G nx) (b := st) rfl rfl (by omega)) (fun c_102 => ?_) (fun c_102 => ?_)
                  · skip
                    have hbp := sp_br_push j6 j7 (show st < 8 by omega) hnx (bG nx) c_83 c_102
                    refine lv_aload_n hx hb dX6_find_125 rfl (lv_at hl 1 rfl) ?_
                    refine z_get (D := (dC, dI)) (ci := 6) (v := .ref x7) (C := RX6) (T := TX6) (N := 23) hx hb hts uX6 hown hK hP 0 rfl rfl 9 (by decide) w28 rfl rfl dX6_find_126 ?_
                    refine lv_iload_n hx hb dX6_find_129 rfl (lv_at hl 3 rfl) ?_
                    refine lv_iload_n hx hb dX6_find_130 rfl (lv_at hl 4 rfl) ?_
                    refine z_iast hx hb hK hP hD hS 5 0 rfl rfl rp.length rfl (by omega) (upd_N PT3 rp.length nx) [(m0, .inr (6, [.int (nI N), .ref x1, .int (nI K), .ref x2, .ref x3, .ref x4, .int (nI lo3), .ref x5, .ref x6, .ref x7, .ref x8, .int (nI ns), .int (nI nd), .ref x9, .ref y1, .ref y2, .int (nI rm), .ref y3, .ref y4, .ref y5, .ref y6, .ref y7, .int (nI pls)])), (x2, .inl (cI, 16, .inl (fun z_ => nI (F z_)))), (x3, .inl (cI, 16, .inl (fun z_ => nI (G z_)))), (x5, .inl (cI, 16000, .inl (fun z_ => nI (LA3 z_)))), (x6, .inl (cI, 2000, .inl (fun z_ => nI (LL3 z_)))), (x7, .inl (cI, 9, .inl (fun z_ => nI ((up PT3 rp.length nx) z_))))] rfl dX6_find_131 (fun H locs hP hD hS => ?_)
                    refine lv_iinc (v := (nI (rp.length + 1))) (lv' := [(2, .int (nI (rp.length + 1))), (4, .int (nI (sp_at G st rp))), (0, .ref m0), (1, .int (nI st)), (3, .int (nI nx))]) hx hb dX6_find_132 hl (k := 3) rfl (z_incN rp.length 1 (by decide)) (by decide) rfl (fun ls hl => ?_)
                    refine lv_iconst (v := nI 0) hx hb dX6_find_135 (by decide) ?_
                    refine lv_istore_n (lv' := [(3, .int (nI 0)), (2, .int (nI (rp.length + 1))), (4, .int (nI (sp_at G st rp))), (0, .ref m0), (1, .int (nI st))]) hx hb dX6_find_136 rfl hl (by decide) rfl (fun ls hl => ?_)
                    refine lv_goto (tgt := 19) hx hb dX6_find_137 (by decide) ?_
                    have o_j1 : 0 ≤ K := by omega
                    have o_j2 : sp_hold LS3 lo3 LA3 LL3 := by exact j2
                    have o_j3 : ∀ i, LA3 i < 16 := by first | assumption | omega
                    have o_j4 : ∀ i, LL3 i ≤ 8 := by first | assumption | omega
                    have o_j5 : ∀ i, (up PT3 rp.length nx) i < 16 := by intro i; rw [up_e]; split; omega; exact j5 i
                    have o_j6 : sp_vp K F G st (nx :: rp) := by exact hbp.2
                    have o_j7 : sp_pth (nx :: rp) (up PT3 rp.length nx) := by exact sp_pth_push j7
                    have o_j8 : LS3 ++ sp_tot K F G st (nx :: rp) 0 = sp_all (st + 1) K F G := by rw [← hbp.1]; exact j8
                    have o_mu : (sp_ms K F G st (nx :: rp) 0) < n19 := by have hq := sp_ms_push j6 j7 (show st < 8 by omega) hnx c_83 c_102; omega
                    exact ih19 (nx :: rp) 0 LS3 LA3 LL3 (up PT3 rp.length nx) lo3 o_mu o_j1 o_j2 o_j3 o_j4 o_j5 o_j6 o_j7 o_j8 H locs hP hD hS ls (lv_sub hl [3, 4, 1, 0] rfl)
                  · skip
                    have hbk := sp_br_keep j6 j7 (show st < 8 by omega) c_83 c_102
                    have h636 := sp_636 bK bN F G
                    have hal := sp_all_le (show st + 1 ≤ N by omega) K F G
                    have hj8 := congrArg List.length j8
                    rw [htq, hbk, List.length_append, List.length_append, List.length_singleton] at hj8
                    refine lv_aload_n hx hb dX6_find_105 rfl (lv_at hl 1 rfl) ?_
                    refine z_get (D := (dC, dI)) (ci := 6) (v := .ref x7) (C := RX6) (T := TX6) (N := 23) hx hb hts uX6 hown hK hP 0 rfl rfl 9 (by decide) w28 rfl rfl dX6_find_106 ?_
                    refine lv_iload_n hx hb dX6_find_109 rfl (lv_at hl 3 rfl) ?_
                    refine lv_iload_n hx hb dX6_find_110 rfl (lv_at hl 4 rfl) ?_
                    refine z_iast hx hb hK hP hD hS 5 0 rfl rfl rp.length rfl (by omega) (upd_N PT3 rp.length nx) [(m0, .inr (6, [.int (nI N), .ref x1, .int (nI K), .ref x2, .ref x3, .ref x4, .int (nI lo3), .ref x5, .ref x6, .ref x7, .ref x8, .int (nI ns), .int (nI nd), .ref x9, .ref y1, .ref y2, .int (nI rm), .ref y3, .ref y4, .ref y5, .ref y6, .ref y7, .int (nI pls)])), (x2, .inl (cI, 16, .inl (fun z_ => nI (F z_)))), (x3, .inl (cI, 16, .inl (fun z_ => nI (G z_)))), (x5, .inl (cI, 16000, .inl (fun z_ => nI (LA3 z_)))), (x6, .inl (cI, 2000, .inl (fun z_ => nI (LL3 z_)))), (x7, .inl (cI, 9, .inl (fun z_ => nI ((up PT3 rp.length nx) z_))))] rfl dX6_find_111 (fun H locs hP hD hS => ?_)
                    refine lv_aload_n hx hb dX6_find_112 rfl (lv_at hl 1 rfl) ?_
                    refine lv_iload_n hx hb dX6_find_113 rfl (lv_at hl 3 rfl) ?_
                    refine lv_iconst (v := nI 1) hx hb dX6_find_114 (by decide) ?_
                    refine z_iadd (v := (nI (rp.length + 1))) hx hb dX6_find_115 (nI_add _ _) ?_
                    refine z_callVv (As := [.int (nI (rp.length + 1))]) (rest := []) (wr := [(x2, .inl (cI, 16, .inl (fun z_ => nI (F z_)))), (x3, .inl (cI, 16, .inl (fun z_ => nI (G z_))))]) ⟨hx, hb, hml, hown, hts⟩ (c_X6_keep l dC dI cI cJ H.size m0 x1 x2 x3 x4 x5 x6 x7 x8 x9 y1 y2 y3 y4 y5 y6 y7 N K lo3 ns nd rm pls LA3 LL3 (up PT3 rp.length nx) (rp.length + 1) (by first | assumption | omega) (by first | assumption | omega) (by first | assumption | omega) (by intro i; rw [up_e]; split; omega; exact j5 i)) (cwV 1 hts gX6_find_X6_keep rfl rfl rfl (by decide +kernel) ⟨Nat.le_of_ble_eq_true rfl, Nat.le_of_ble_eq_true rfl⟩) hA hK hP hD hS [0, 3, 4, 5] [1, 2] [2, 0, 1, 3, 4, 5] rfl rfl (by decide) (by decide) (by decide) nwA_ok hN (ci := 6) rfl rfl 0 rfl hl.1 (Nat.le_of_ble_eq_true rfl) ⟨Nat.le_refl _, Nat.le_refl _⟩ rfl rfl dX6_find_116 (fun (u : (Nat → Nat)) => [(m0, .inr (6, [.int (nI N), .ref x1, .int (nI K), .ref x2, .ref x3, .ref x4, .int (nI (lo3 + 1)), .ref x5, .ref x6, .ref x7, .ref x8, .int (nI ns), .int (nI nd), .ref x9, .ref y1, .ref y2, .int (nI rm), .ref y3, .ref y4, .ref y5, .ref y6, .ref y7, .int (nI pls)])), (x2, .inl (cI, 16, .inl (fun z_ => nI (F z_)))), (x3, .inl (cI, 16, .inl (fun z_ => nI (G z_)))), (x5, .inl (cI, 16000, .inl (fun z_ => nI (u z_)))), (x6, .inl (cI, 2000, .inl (fun z_ => nI ((up LL3 lo3 (rp.length + 1)) z_)))), (x7, .inl (cI, 9, .inl (fun z_ => nI ((up PT3 rp.length nx) z_))))]) (fun u => rfl) (by decide) (fun u H locs hw hP hD hS => ?_)
                    obtain ⟨LA2_116, eu⟩ : ∃ z, z = u := ⟨_, rfl⟩
                    subst eu
                    have hP : va_P (dC, dI) vwCl [(m0, .inr (6, [.int (nI N), .ref x1, .int (nI K), .ref x2, .ref x3, .ref x4, .int (nI (lo3 + 1)), .ref x5, .ref x6, .ref x7, .ref x8, .int (nI ns), .int (nI nd), .ref x9, .ref y1, .ref y2, .int (nI rm), .ref y3, .ref y4, .ref y5, .ref y6, .ref y7, .int (nI pls)])), (x2, .inl (cI, 16, .inl (fun z_ => nI (F z_)))), (x3, .inl (cI, 16, .inl (fun z_ => nI (G z_)))), (x5, .inl (cI, 16000, .inl (fun z_ => nI (LA2_116 z_)))), (x6, .inl (cI, 2000, .inl (fun z_ => nI ((up LL3 lo3 (rp.length + 1)) z_)))), (x7, .inl (cI, 9, .inl (fun z_ => nI ((up PT3 rp.length nx) z_))))] H := hP
                    have hD : va_D A [(m0, .inr (6, [.int (nI N), .ref x1, .int (nI K), .ref x2, .ref x3, .ref x4, .int (nI (lo3 + 1)), .ref x5, .ref x6, .ref x7, .ref x8, .int (nI ns), .int (nI nd), .ref x9, .ref y1, .ref y2, .int (nI rm), .ref y3, .ref y4, .ref y5, .ref y6, .ref y7, .int (nI pls)])), (x2, .inl (cI, 16, .inl (fun z_ => nI (F z_)))), (x3, .inl (cI, 16, .inl (fun z_ => nI (G z_)))), (x5, .inl (cI, 16000, .inl (fun z_ => nI (LA2_116 z_)))), (x6, .inl (cI, 2000, .inl (fun z_ => nI ((up LL3 lo3 (rp.length + 1)) z_)))), (x7, .inl (cI, 9, .inl (fun z_ => nI ((up PT3 rp.length nx) z_))))] := hD
                    obtain ⟨p116_0, p116_1, p116_2⟩ := hw
                    have p116_0 : ∀ i, i < (rp.length + 1) → LA2_116 (lo3 * 8 + i) = (up PT3 rp.length nx) i := p116_0
                    have p116_1 : ∀ q, q < lo3 * 8 → LA2_116 q = LA3 q := p116_1
                    have p116_2 : ∀ i, LA2_116 i < 16 := p116_2
                    refine lv_iinc (v := (nI (nx + 1))) (lv' := [(3, .int (nI (nx + 1))), (4, .int (nI (sp_at G st rp))), (0, .ref m0), (1, .int (nI st)), (2, .int (nI rp.length))]) hx hb dX6_find_119 hl (k := 4) rfl (z_incN nx 1 (by decide)) (by decide) rfl (fun ls hl => ?_)
                    refine lv_goto (tgt := 137) hx hb dX6_find_122 (by decide) ?_
                    refine lv_goto (tgt := 19) hx hb dX6_find_137 (by decide) ?_
                    have o_j1 : (nx + 1) ≤ K := by first | assumption | omega
                    have o_j2 : sp_hold (LS3 ++ [(nx :: rp).reverse]) (lo3 + 1) LA2_116 (up LL3 lo3 (rp.length + 1)) := by exact sp_hold_add j2 (by rw [up_s]; simp) (fun i hi => by rw [p116_0 i (by simpa using hi)]; exact sp_pth_push j7 i (by simpa using hi)) (fun q hq => up_n _ _ hq) p116_1 j4
                    have o_j3 : ∀ i, LA2_116 i < 16 := by exact p116_2
                    have o_j4 : ∀ i, (up LL3 lo3 (rp.length + 1)) i ≤ 8 := by intro i; rw [up_e]; split; omega; exact j4 i
                    have o_j5 : ∀ i, (up PT3 rp.length nx) i < 16 := by intro i; rw [up_e]; split; omega; exact j5 i
                    have o_j6 : sp_vp K F G st rp := by first | assumption | omega
                    have o_j7 : sp_pth rp (up PT3 rp.length nx) := by exact sp_pth_keep j7 (fun i hi => up_n _ _ (by omega))
                    have o_j8 : (LS3 ++ [(nx :: rp).reverse]) ++ sp_tot K F G st rp (nx + 1) = sp_all (st + 1) K F G := by rw [List.append_assoc]; (have hq := j8); rw [htq, hbk] at hq; exact hq
                    have o_mu : (sp_ms K F G st rp (nx + 1)) < n19 := by have hq := sp_ms_next hnx F G st rp; omega
                    exact ih19 rp (nx + 1) (LS3 ++ [(nx :: rp).reverse]) LA2_116 (up LL3 lo3 (rp.length + 1)) (up PT3 rp.length nx) (lo3 + 1) o_mu o_j1 o_j2 o_j3 o_j4 o_j5 o_j6 o_j7 o_j8 H locs hP hD hS ls (lv_sub hl [2, 3, 4, 0] rfl)
                · skip
                  subst h83
                  have hbn := sp_br_no (f := 8 - rp.length) j6 j7 c_83
                  refine lv_if_ne (tgt := 95) hx hb dX6_find_86 (by decide) (fun c_x => absurd c_x (by decide)) (fun _ => ?_)
                  refine lv_iinc (v := (nI (nx + 1))) (lv' := [(3, .int (nI (nx + 1))), (4, .int (nI (sp_at G st rp))), (0, .ref m0), (1, .int (nI st)), (2, .int (nI rp.length))]) hx hb dX6_find_89 hl (k := 4) rfl (z_incN nx 1 (by decide)) (by decide) rfl (fun ls hl => ?_)
                  refine lv_goto (tgt := 137) hx hb dX6_find_92 (by decide) ?_
                  refine lv_goto (tgt := 19) hx hb dX6_find_137 (by decide) ?_
                  have o_j1 : (nx + 1) ≤ K := by first | assumption | omega
                  have o_j2 : sp_hold LS3 lo3 LA3 LL3 := by first | assumption | omega
                  have o_j3 : ∀ i, LA3 i < 16 := by first | assumption | omega
                  have o_j4 : ∀ i, LL3 i ≤ 8 := by first | assumption | omega
                  have o_j5 : ∀ i, PT3 i < 16 := by first | assumption | omega
                  have o_j6 : sp_vp K F G st rp := by first | assumption | omega
                  have o_j7 : sp_pth rp PT3 := by first | assumption | omega
                  have o_j8 : LS3 ++ sp_tot K F G st rp (nx + 1) = sp_all (st + 1) K F G := by (have hq := j8); rw [htq, hbn, List.nil_append] at hq; exact hq
                  have o_mu : (sp_ms K F G st rp (nx + 1)) < n19 := by have hq := sp_ms_next hnx F G st rp; omega
                  exact ih19 rp (nx + 1) LS3 LA3 LL3 PT3 lo3 o_mu o_j1 o_j2 o_j3 o_j4 o_j5 o_j6 o_j7 o_j8 H locs hP hD hS ls (lv_sub hl [2, 3, 4, 0] rfl)
              · skip
                obtain ⟨a0, rp0, e1, e2, e3, e4, e5, e6, e7, e8⟩ := sp_pop j6 j7 (show 0 < rp.length by omega)
                rw [← e4] at e5 e6 e7 e8
                have hnK : nx = K := c_59
                have htl : rp.tail.length = rp.length - 1 := List.length_tail
                have hx9 : PT3 rp.tail.length = a0 := by rw [htl]; exact e2
                refine lv_iinc (v := (nI (rp.length - 1))) (lv' := [(2, .int (nI (rp.length - 1))), (4, .int (nI (sp_at G st rp))), (0, .ref m0), (1, .int (nI st)), (3, .int (nI nx))]) hx hb dX6_find_62 hl (k := 3) rfl (z_decN (by omega)) (by decide) rfl (fun ls hl => ?_)
                have hl : lv_has ls 5 [(2, .int (nI rp.tail.length)), (4, .int (nI (sp_at G st rp))), (0, .ref m0), (1, .int (nI st)), (3, .int (nI nx))] := by (have erw : (rp.length - 1) = rp.tail.length := (by exact htl.symm)); rw [← erw]; exact hl
                refine lv_aload_n hx hb dX6_find_65 rfl (lv_at hl 2 rfl) ?_
                refine z_get (D := (dC, dI)) (ci := 6) (v := .ref x7) (C := RX6) (T := TX6) (N := 23) hx hb hts uX6 hown hK hP 0 rfl rfl 9 (by decide) w28 rfl rfl dX6_find_66 ?_
                refine lv_iload_n hx hb dX6_find_69 rfl (lv_at hl 0 rfl) ?_
                refine z_iald (v := (nI (PT3 rp.tail.length))) hx hb hK hP 5 0 rfl rfl rp.tail.length rfl (by omega) rfl dX6_find_70 ?_
                refine lv_iconst (v := nI 1) hx hb dX6_find_71 (by decide) ?_
                refine z_iadd (v := (nI ((PT3 rp.tail.length) + 1))) hx hb dX6_find_72 (nI_add _ _) ?_
                refine lv_istore_n (lv' := [(3, .int (nI ((PT3 rp.tail.length) + 1))), (2, .int (nI rp.tail.length)), (4, .int (nI (sp_at G st rp))), (0, .ref m0), (1, .int (nI st))]) hx hb dX6_find_73 rfl hl (by decide) rfl (fun ls hl => ?_)
                refine lv_goto (tgt := 137) hx hb dX6_find_74 (by decide) ?_
                refine lv_goto (tgt := 19) hx hb dX6_find_137 (by decide) ?_
                have o_j1 : ((PT3 rp.tail.length) + 1) ≤ K := by first | assumption | omega
                have o_j2 : sp_hold LS3 lo3 LA3 LL3 := by first | assumption | omega
                have o_j3 : ∀ i, LA3 i < 16 := by first | assumption | omega
                have o_j4 : ∀ i, LL3 i ≤ 8 := by first | assumption | omega
                have o_j5 : ∀ i, PT3 i < 16 := by first | assumption | omega
                have o_j6 : sp_vp K F G st rp.tail := by exact e5
                have o_j7 : sp_pth rp.tail PT3 := by exact e6
                have o_j8 : LS3 ++ sp_tot K F G st rp.tail ((PT3 rp.tail.length) + 1) = sp_all (st + 1) K F G := by (have hq := j8); rw [hnK] at hq; rw [hx9, ← e7]; exact hq
                have o_mu : (sp_ms K F G st rp.tail ((PT3 rp.tail.length) + 1)) < n19 := by rw [hx9]; rw [hnK] at hn19; omega
                exact ih19 rp.tail ((PT3 rp.tail.length) + 1) LS3 LA3 LL3 PT3 lo3 o_mu o_j1 o_j2 o_j3 o_j4 o_j5 o_j6 o_j7 o_j8 H locs hP hD hS ls (lv_sub hl [3, 4, 1, 0] rfl)
            refine z_if_gt (tgt := 31) hx hb dX6_find_20 (by decide) (zcn_lt (a := 0) (b := rp.length) nI_00 rfl (by omega)) (fun c_20 => ?_) (fun c_20 => ?_)
            · skip
              refine lv_iload_n hx hb dX6_find_31 rfl (lv_at hl 2 rfl) ?_
              refine z_if_ne (tgt := 39) hx hb dX6_find_32 (by decide) (zcn_eq (a := rp.length) (b := 0) rfl nI_00 (by omega)) (fun c_32 => ?_) (fun c_32 => ?_)
              · skip
                refine lv_aload_n hx hb dX6_find_39 rfl (lv_at hl 0 rfl) ?_
                refine z_get (D := (dC, dI)) (ci := 6) (v := .ref x3) (C := RX6) (T := TX6) (N := 23) hx hb hts uX6 hown hK hP 0 rfl rfl 4 (by decide) w16 rfl rfl dX6_find_40 ?_
                refine lv_aload_n hx hb dX6_find_43 rfl (lv_at hl 0 rfl) ?_
                refine z_get (D := (dC, dI)) (ci := 6) (v := .ref x7) (C := RX6) (T := TX6) (N := 23) hx hb hts uX6 hown hK hP 0 rfl rfl 9 (by decide) w28 rfl rfl dX6_find_44 ?_
                refine lv_iload_n hx hb dX6_find_47 rfl (lv_at hl 2 rfl) ?_
                refine lv_iconst (v := nI 1) hx hb dX6_find_48 (by decide) ?_
                refine z_isub (v := (nI (rp.length - 1))) hx hb dX6_find_49 (pk_sub (by omega)) ?_
                have hp50 := j5 (rp.length - 1)
                refine z_iald (v := (nI (PT3 (rp.length - 1)))) hx hb hK hP 5 0 rfl rfl (rp.length - 1) rfl (by omega) rfl dX6_find_50 ?_
                refine z_iald (v := (nI (G (PT3 (rp.length - 1))))) hx hb hK hP 2 0 rfl rfl (PT3 (rp.length - 1)) rfl (by omega) rfl dX6_find_51 ?_
                have f51_0 := bG (PT3 (rp.length - 1))
                refine z_c0 (v := nI (sp_at G st rp)) (z_Ncg (by first | (rw [List.eq_nil_of_length_eq_zero (show rp.length = 0 by omega)]; rfl) | exact sp_at_pth j7 (by omega))) ?_
                have o_jz : 0 < rp.length ∨ nx < K := by first | assumption | omega
                exact L52  o_jz H locs hP hD hS ls (lv_sub hl [0, 1, 2, 3] rfl)
              · skip
                refine lv_iload_n hx hb dX6_find_35 rfl (lv_at hl 1 rfl) ?_
                refine lv_goto (tgt := 52) hx hb dX6_find_36 (by decide) ?_
                refine z_c0 (v := nI (sp_at G st rp)) (z_Ncg (by first | (rw [List.eq_nil_of_length_eq_zero (show rp.length = 0 by omega)]; rfl) | exact sp_at_pth j7 (by omega))) ?_
                have o_jz : 0 < rp.length ∨ nx < K := by first | assumption | omega
                exact L52  o_jz H locs hP hD hS ls (lv_sub hl [0, 1, 2, 3] rfl)
            · skip
              refine lv_iload_n hx hb dX6_find_23 rfl (lv_at hl 3 rfl) ?_
              refine lv_aload_n hx hb dX6_find_24 rfl (lv_at hl 0 rfl) ?_
              refine z_get (D := (dC, dI)) (ci := 6) (v := .int (nI K)) (C := RX6) (T := TX6) (N := 23) hx hb hts uX6 hown hK hP 0 rfl rfl 2 (by decide) w67 rfl rfl dX6_find_25 ?_
              refine z_icmp_ge (tgt := 140) hx hb dX6_find_28 (by decide) (zcn_le (a := K) (b := nx) rfl rfl (by omega)) (fun c_28 => ?_) (fun c_28 => ?_)
              · skip
                have hrp : rp = [] := List.eq_nil_of_length_eq_zero (by omega)
                have hLS : LS3 = sp_all (st + 1) K F G := by rw [← j8, hrp, show nx = K by omega]; show _ = _ ++ sp_lf K F G st 8 [] K; rw [sp_lf_K, List.append_nil]
                refine lv_iinc (v := (nI (st + 1))) (lv' := [(1, .int (nI (st + 1))), (0, .ref m0), (2, .int (nI rp.length)), (3, .int (nI nx))]) hx hb dX6_find_140 hl (k := 1) rfl (z_incN st 1 (by decide)) (by decide) rfl (fun ls hl => ?_)
                refine lv_goto (tgt := 7) hx hb dX6_find_143 (by decide) ?_
                have o_i1 : (st + 1) ≤ N := by first | assumption | omega
                have o_i2 : sp_hold (sp_all (st + 1) K F G) lo3 LA3 LL3 := by rw [← hLS]; exact j2
                have o_i3 : ∀ i, LA3 i < 16 := by exact j3
                have o_i4 : ∀ i, LL3 i ≤ 8 := by exact j4
                have o_i5 : ∀ i, PT3 i < 16 := by exact j5
                have o_mu : (N - (st + 1)) < n7 := by omega
                exact ih7 (st + 1) LA3 LL3 PT3 lo3 o_mu o_i1 o_i2 o_i3 o_i4 o_i5 H locs hP hD hS ls (lv_sub hl [1, 0] rfl)
              · skip
                refine lv_iload_n hx hb dX6_find_31 rfl (lv_at hl 2 rfl) ?_
                refine z_if_ne (tgt := 39) hx hb dX6_find_32 (by decide) (zcn_eq (a := rp.length) (b := 0) rfl nI_00 (by omega)) (fun c_32 => ?_) (fun c_32 => ?_)
                · skip
                  refine lv_aload_n hx hb dX6_find_39 rfl (lv_at hl 0 rfl) ?_
                  refine z_get (D := (dC, dI)) (ci := 6) (v := .ref x3) (C := RX6) (T := TX6) (N := 23) hx hb hts uX6 hown hK hP 0 rfl rfl 4 (by decide) w16 rfl rfl dX6_find_40 ?_
                  refine lv_aload_n hx hb dX6_find_43 rfl (lv_at hl 0 rfl) ?_
                  refine z_get (D := (dC, dI)) (ci := 6) (v := .ref x7) (C := RX6) (T := TX6) (N := 23) hx hb hts uX6 hown hK hP 0 rfl rfl 9 (by decide) w28 rfl rfl dX6_find_44 ?_
                  refine lv_iload_n hx hb dX6_find_47 rfl (lv_at hl 2 rfl) ?_
                  refine lv_iconst (v := nI 1) hx hb dX6_find_48 (by decide) ?_
                  refine z_isub (v := (nI (rp.length - 1))) hx hb dX6_find_49 (pk_sub (by omega)) ?_
                  have hp50 := j5 (rp.length - 1)
                  refine z_iald (v := (nI (PT3 (rp.length - 1)))) hx hb hK hP 5 0 rfl rfl (rp.length - 1) rfl (by omega) rfl dX6_find_50 ?_
                  refine z_iald (v := (nI (G (PT3 (rp.length - 1))))) hx hb hK hP 2 0 rfl rfl (PT3 (rp.length - 1)) rfl (by omega) rfl dX6_find_51 ?_
                  have f51_0 := bG (PT3 (rp.length - 1))
                  refine z_c0 (v := nI (sp_at G st rp)) (z_Ncg (by first | (rw [List.eq_nil_of_length_eq_zero (show rp.length = 0 by omega)]; rfl) | exact sp_at_pth j7 (by omega))) ?_
                  have o_jz : 0 < rp.length ∨ nx < K := by first | assumption | omega
                  exact L52  o_jz H locs hP hD hS ls (lv_sub hl [0, 1, 2, 3] rfl)
                · skip
                  refine lv_iload_n hx hb dX6_find_35 rfl (lv_at hl 1 rfl) ?_
                  refine lv_goto (tgt := 52) hx hb dX6_find_36 (by decide) ?_
                  refine z_c0 (v := nI (sp_at G st rp)) (z_Ncg (by first | (rw [List.eq_nil_of_length_eq_zero (show rp.length = 0 by omega)]; rfl) | exact sp_at_pth j7 (by omega))) ?_
                  have o_jz : 0 < rp.length ∨ nx < K := by first | assumption | omega
                  exact L52  o_jz H locs hP hD hS ls (lv_sub hl [0, 1, 2, 3] rfl)
        have o_j1 : 0 ≤ K := by first | assumption | omega
        have o_j2 : sp_hold (sp_all st K F G) lo1 LA1 LL1 := by exact i2
        have o_j3 : ∀ i, LA1 i < 16 := by exact i3
        have o_j4 : ∀ i, LL1 i ≤ 8 := by exact i4
        have o_j5 : ∀ i, PT1 i < 16 := by exact i5
        have o_j6 : sp_vp K F G st ([] : List Nat) := by trivial
        have o_j7 : sp_pth ([] : List Nat) PT1 := by intro i hi; exact absurd hi (Nat.not_lt_zero _)
        have o_j8 : (sp_all st K F G) ++ sp_tot K F G st ([] : List Nat) 0 = sp_all (st + 1) K F G := by exact (sp_all_s st K F G).symm
        exact L19 ((sp_ms K F G st ([] : List Nat) 0) + 1) ([] : List Nat) 0 (sp_all st K F G) LA1 LL1 PT1 lo1 (Nat.lt_succ_self _) o_j1 o_j2 o_j3 o_j4 o_j5 o_j6 o_j7 o_j8 H locs hP hD hS ls (lv_sub hl [2, 3, 1, 0] rfl)
  have o_i1 : 0 ≤ N := by first | assumption | omega
  have o_i2 : sp_hold (sp_all 0 K F G) 0 LA LL := by exact sp_hold_0 LA LL
  have o_i3 : ∀ i, LA i < 16 := by exact bLA
  have o_i4 : ∀ i, LL i ≤ 8 := by exact bLL
  have o_i5 : ∀ i, PT i < 16 := by exact bPT
  exact L7 ((N - 0) + 1) 0 LA LL PT 0 (Nat.lt_succ_self _) o_i1 o_i2 o_i3 o_i4 o_i5 H locs hP hD hS ls (lv_sub hl [1, 0] rfl)
