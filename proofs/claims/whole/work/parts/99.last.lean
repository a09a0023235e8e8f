set_option maxHeartbeats 4000000 in
set_option maxRecDepth 100000 in
theorem c_X6_upChance (l : Launch) (dC : Nat → ClassId) (dI : Nat → Nat → Nat) (cI cJ : ClassId) (sz : Nat) (m0 : Nat) (x1 : Nat) (x2 : Nat) (x3 : Nat) (x4 : Nat) (x5 : Nat) (x6 : Nat) (x7 : Nat) (x8 : Nat) (x9 : Nat) (y1 : Nat) (y2 : Nat) (y3 : Nat) (y4 : Nat) (y5 : Nat) (y6 : Nat) (y7 : Nat) (N : Nat) (K : Nat) (lo : Nat) (ns : Nat) (nd : Nat) (rm : Nat) (pls : Nat) (BR : Nat → Nat) (RP : Nat → Nat) (mm : Nat) (w : Nat) (bBR : ∀ i, BR i ≤ 4) (bRP : ∀ i, RP i ≤ 4) (bm : mm < 2) (bw : w ≤ 1) : Met l yX6_upChance wsX6_upChance (zR 0 0 0 0) (va_Pc [.ref m0, .int (nI mm), .int (nI w)] (zP (dC, dI) [(cI, .int), (cJ, .long)] [(m0, .inr (6, [.int (nI N), .ref x1, .int (nI K), .ref x2, .ref x3, .ref x4, .int (nI lo), .ref x5, .ref x6, .ref x7, .ref x8, .int (nI ns), .int (nI nd), .ref x9, .ref y1, .ref y2, .int (nI rm), .ref y3, .ref y4, .ref y5, .ref y6, .ref y7, .int (nI pls)])), (y1, .inl (cI, 2, .inl (fun z_ => nI (BR z_)))), (y2, .inl (cI, 2, .inl (fun z_ => nI (RP z_))))] sz nwA)) (va_Qi (fun (r : Int32) (u : (Nat)) => r = (nI u) ∧ (u = sp_qo BR RP mm w 1)) (zB (dC, dI) (fun (u : (Nat)) => [(m0, .inr (6, [.int (nI N), .ref x1, .int (nI K), .ref x2, .ref x3, .ref x4, .int (nI lo), .ref x5, .ref x6, .ref x7, .ref x8, .int (nI ns), .int (nI nd), .ref x9, .ref y1, .ref y2, .int (nI rm), .ref y3, .ref y4, .ref y5, .ref y6, .ref y7, .int (nI pls)])), (y1, .inl (cI, 2, .inl (fun z_ => nI (BR z_)))), (y2, .inl (cI, 2, .inl (fun z_ => nI (RP z_))))]) (va_A [(m0, .inr (6, [.int (nI N), .ref x1, .int (nI K), .ref x2, .ref x3, .ref x4, .int (nI lo), .ref x5, .ref x6, .ref x7, .ref x8, .int (nI ns), .int (nI nd), .ref x9, .ref y1, .ref y2, .int (nI rm), .ref y3, .ref y4, .ref y5, .ref y6, .ref y7, .int (nI pls)])), (y1, .inl (cI, 2, .inl (fun z_ => nI (BR z_)))), (y2, .inl (cI, 2, .inl (fun z_ => nI (RP z_))))] sz)) (va_A [(m0, .inr (6, [.int (nI N), .ref x1, .int (nI K), .ref x2, .ref x3, .ref x4, .int (nI lo), .ref x5, .ref x6, .ref x7, .ref x8, .int (nI ns), .int (nI nd), .ref x9, .ref y1, .ref y2, .int (nI rm), .ref y3, .ref y4, .ref y5, .ref y6, .ref y7, .int (nI pls)])), (y1, .inl (cI, 2, .inl (fun z_ => nI (BR z_)))), (y2, .inl (cI, 2, .inl (fun z_ => nI (RP z_))))] sz)) 0 0 (va_A [(m0, .inr (6, [.int (nI N), .ref x1, .int (nI K), .ref x2, .ref x3, .ref x4, .int (nI lo), .ref x5, .ref x6, .ref x7, .ref x8, .int (nI ns), .int (nI nd), .ref x9, .ref y1, .ref y2, .int (nI rm), .ref y3, .ref y4, .ref y5, .ref y6, .ref y7, .int (nI pls)])), (y1, .inl (cI, 2, .inl (fun z_ => nI (BR z_)))), (y2, .inl (cI, 2, .inl (fun z_ => nI (RP z_))))] sz) := by
  refine z_met_i (cc := cX6_upChance) (maxL := 3) (by decide) rfl (Nat.le_of_ble_eq_true rfl) ?_
  intro p e s m args below meth c Q A ls hx hb hml hown hts hin hA hK hP hD hN hl hRET
  have hown : s.vm.findClass RX6 = some m.cls := hown
  obtain ⟨H, eH⟩ : ∃ H : Heap, H = s.heap := ⟨_, rfl⟩
  rw [← eH] at hP
  obtain ⟨locs, eL⟩ : ∃ z : List Loc, z = [] := ⟨_, rfl⟩
  rw [← eH, ← eL]
  have hS : va_S A s.heap H locs := by rw [eH, eL]; exact va_S.rf
  have hl : lv_has ls 3 [(0, .ref m0), (1, .int (nI mm)), (2, .int (nI w))] := hl
  have w37 := hts (.fieldLink RX6 37 "PullCardsModel" "breaks" "[I") (by decide +kernel)
  have uX6 : ∀ w ∈ wsX60, w ∈ wsX6_upChance := by decide +kernel
  have w40 := hts (.fieldLink RX6 40 "PullCardsModel" "mends" "[I") (by decide +kernel)
  refine lv_iload_n hx hb dX6_upChance_0 rfl (lv_at hl 2 rfl) ?_
  refine z_if_eq (tgt := 15) hx hb dX6_upChance_1 (by decide) (zcn_eq (a := w) (b := 0) rfl nI_00 (by omega)) (fun c_1 => ?_) (fun c_1 => ?_)
  · skip
    refine lv_aload_n hx hb dX6_upChance_15 rfl (lv_at hl 0 rfl) ?_
    refine z_get (D := (dC, dI)) (ci := 6) (v := .ref y2) (C := RX6) (T := TX6) (N := 23) hx hb hts uX6 hown hK hP 0 rfl rfl 15 (by decide) w40 rfl rfl dX6_upChance_16 ?_
    refine lv_iload_n hx hb dX6_upChance_19 rfl (lv_at hl 1 rfl) ?_
    refine z_iald (v := (nI (RP mm))) hx hb hK hP 2 0 rfl rfl mm rfl (by omega) rfl dX6_upChance_20 ?_
    have f20_0 := bRP mm
    have q_0 : (RP mm) = sp_qo BR RP mm w 1 := by exact sp_qo_1 bw (by first | exact Or.inl ⟨c_1, rfl⟩ | exact Or.inr ⟨c_1, rfl⟩)
    exact hRET _ ls H locs ((nI (RP mm))) (RP mm) dX6_upChance_21 ⟨rfl, q_0⟩ hP hD hS
  · skip
    refine lv_iconst (v := nI 4) hx hb dX6_upChance_4 (by decide) ?_
    refine lv_aload_n hx hb dX6_upChance_5 rfl (lv_at hl 0 rfl) ?_
    refine z_get (D := (dC, dI)) (ci := 6) (v := .ref y1) (C := RX6) (T := TX6) (N := 23) hx hb hts uX6 hown hK hP 0 rfl rfl 14 (by decide) w37 rfl rfl dX6_upChance_6 ?_
    refine lv_iload_n hx hb dX6_upChance_9 rfl (lv_at hl 1 rfl) ?_
    refine z_iald (v := (nI (BR mm))) hx hb hK hP 1 0 rfl rfl mm rfl (by omega) rfl dX6_upChance_10 ?_
    have f10_0 := bBR mm
    refine z_isub (v := (nI (4 - (BR mm)))) hx hb dX6_upChance_11 (pk_sub (by omega)) ?_
    refine lv_goto (tgt := 21) hx hb dX6_upChance_12 (by decide) ?_
    have q_0 : (4 - (BR mm)) = sp_qo BR RP mm w 1 := by exact sp_qo_1 bw (by first | exact Or.inl ⟨c_1, rfl⟩ | exact Or.inr ⟨c_1, rfl⟩)
    exact hRET _ ls H locs ((nI (4 - (BR mm)))) (4 - (BR mm)) dX6_upChance_21 ⟨rfl, q_0⟩ hP hD hS

set_option maxHeartbeats 4000000 in
set_option maxRecDepth 100000 in
theorem c_X6_move (l : Launch) (dC : Nat → ClassId) (dI : Nat → Nat → Nat) (cI cJ : ClassId) (sz : Nat) (m0 : Nat) (x1 : Nat) (x2 : Nat) (x3 : Nat) (x4 : Nat) (x5 : Nat) (x6 : Nat) (x7 : Nat) (x8 : Nat) (x9 : Nat) (y1 : Nat) (y2 : Nat) (y3 : Nat) (y4 : Nat) (y5 : Nat) (y6 : Nat) (y7 : Nat) (N : Nat) (K : Nat) (lo : Nat) (ns : Nat) (nd : Nat) (rm : Nat) (pls : Nat) (BR : Nat → Nat) (RP : Nat → Nat) (WT : Nat → Nat) (NX : Nat → Nat) (i : Nat) (mo : Nat) (up_ : Nat) (sn : Nat) (bBR : ∀ i, BR i ≤ 4) (bRP : ∀ i, RP i ≤ 4) (bi : i < 308) (bm : mo ≤ 6) (bu : up_ < 4) (bl : i % 77 / 11 ≤ mo) (bc : i % 11 ≤ sn) (bs : sn ≤ 9) (hww : WT i ≤ 1099511627776) (hz : sp_zr NX mo (sn + 1)) : Met l yX6_move wsX6_move (zR 1 0 0 22) (va_Pc [.ref m0, .int (nI i), .int (nI mo), .int (nI up_)] (zP (dC, dI) [(cI, .int), (cJ, .long)] [(m0, .inr (6, [.int (nI N), .ref x1, .int (nI K), .ref x2, .ref x3, .ref x4, .int (nI lo), .ref x5, .ref x6, .ref x7, .ref x8, .int (nI ns), .int (nI nd), .ref x9, .ref y1, .ref y2, .int (nI rm), .ref y3, .ref y4, .ref y5, .ref y6, .ref y7, .int (nI pls)])), (y1, .inl (cI, 2, .inl (fun z_ => nI (BR z_)))), (y2, .inl (cI, 2, .inl (fun z_ => nI (RP z_)))), (y3, .inl (cJ, 308, .inr (.inl (fun z_ => lN (WT z_))))), (y4, .inl (cJ, 308, .inr (.inl (fun z_ => lN (NX z_)))))] sz nwA)) (va_Qv (fun (u : (Nat → Nat)) => (∀ φ, sp_S u (fun k => φ (sp_sg k)) = sp_S NX (fun k => φ (sp_sg k)) + WT i * sp_Pq (sp_cw BR RP) mo 10 1 φ (sp_sw (i / 77)) (i % 77 / 11) (i % 11) (sp_sw up_)) ∧ (sp_zr u mo (sn + 1))) (zB (dC, dI) (fun (u : (Nat → Nat)) => [(m0, .inr (6, [.int (nI N), .ref x1, .int (nI K), .ref x2, .ref x3, .ref x4, .int (nI lo), .ref x5, .ref x6, .ref x7, .ref x8, .int (nI ns), .int (nI nd), .ref x9, .ref y1, .ref y2, .int (nI rm), .ref y3, .ref y4, .ref y5, .ref y6, .ref y7, .int (nI pls)])), (y1, .inl (cI, 2, .inl (fun z_ => nI (BR z_)))), (y2, .inl (cI, 2, .inl (fun z_ => nI (RP z_)))), (y3, .inl (cJ, 308, .inr (.inl (fun z_ => lN (WT z_))))), (y4, .inl (cJ, 308, .inr (.inl (fun z_ => lN (u z_)))))]) (va_A [(m0, .inr (6, [.int (nI N), .ref x1, .int (nI K), .ref x2, .ref x3, .ref x4, .int (nI lo), .ref x5, .ref x6, .ref x7, .ref x8, .int (nI ns), .int (nI nd), .ref x9, .ref y1, .ref y2, .int (nI rm), .ref y3, .ref y4, .ref y5, .ref y6, .ref y7, .int (nI pls)])), (y1, .inl (cI, 2, .inl (fun z_ => nI (BR z_)))), (y2, .inl (cI, 2, .inl (fun z_ => nI (RP z_)))), (y3, .inl (cJ, 308, .inr (.inl (fun z_ => lN (WT z_))))), (y4, .inl (cJ, 308, .inr (.inl (fun z_ => lN (NX z_)))))] sz)) (va_A [(m0, .inr (6, [.int (nI N), .ref x1, .int (nI K), .ref x2, .ref x3, .ref x4, .int (nI lo), .ref x5, .ref x6, .ref x7, .ref x8, .int (nI ns), .int (nI nd), .ref x9, .ref y1, .ref y2, .int (nI rm), .ref y3, .ref y4, .ref y5, .ref y6, .ref y7, .int (nI pls)])), (y1, .inl (cI, 2, .inl (fun z_ => nI (BR z_)))), (y2, .inl (cI, 2, .inl (fun z_ => nI (RP z_)))), (y3, .inl (cJ, 308, .inr (.inl (fun z_ => lN (WT z_))))), (y4, .inl (cJ, 308, .inr (.inl (fun z_ => lN (NX z_)))))] sz)) 0 0 (va_A [(m0, .inr (6, [.int (nI N), .ref x1, .int (nI K), .ref x2, .ref x3, .ref x4, .int (nI lo), .ref x5, .ref x6, .ref x7, .ref x8, .int (nI ns), .int (nI nd), .ref x9, .ref y1, .ref y2, .int (nI rm), .ref y3, .ref y4, .ref y5, .ref y6, .ref y7, .int (nI pls)])), (y1, .inl (cI, 2, .inl (fun z_ => nI (BR z_)))), (y2, .inl (cI, 2, .inl (fun z_ => nI (RP z_)))), (y3, .inl (cJ, 308, .inr (.inl (fun z_ => lN (WT z_))))), (y4, .inl (cJ, 308, .inr (.inl (fun z_ => lN (NX z_)))))] sz) := by
  refine z_met_v (cc := cX6_move) (maxL := 12) (by decide) rfl (Nat.le_of_ble_eq_true rfl) ?_
  intro p e s m args below meth c Q A ls hx hb hml hown hts hin hA hK hP hD hN hl hRET
  have hown : s.vm.findClass RX6 = some m.cls := hown
  obtain ⟨H, eH⟩ : ∃ H : Heap, H = s.heap := ⟨_, rfl⟩
  rw [← eH] at hP
  obtain ⟨locs, eL⟩ : ∃ z : List Loc, z = [] := ⟨_, rfl⟩
  rw [← eH, ← eL]
  have hS : va_S A s.heap H locs := by rw [eH, eL]; exact va_S.rf
  have hl : lv_has ls 12 [(0, .ref m0), (1, .int (nI i)), (2, .int (nI mo)), (3, .int (nI up_))] := hl
  have w43 := hts (.fieldLink RX6 43 "PullCardsModel" "weight" "[J") (by decide +kernel)
  have uX6 : ∀ w ∈ wsX60, w ∈ wsX6_move := by decide +kernel
  have w47 := hts (.fieldLink RX6 47 "PullCardsModel" "next" "[J") (by decide +kernel)
  have L10 : ∀ (fu : Nat), (fu = up_ / 2) → ∀ (H : Heap) (locs : List Loc), va_P (dC, dI) vwCl [(m0, .inr (6, [.int (nI N), .ref x1, .int (nI K), .ref x2, .ref x3, .ref x4, .int (nI lo), .ref x5, .ref x6, .ref x7, .ref x8, .int (nI ns), .int (nI nd), .ref x9, .ref y1, .ref y2, .int (nI rm), .ref y3, .ref y4, .ref y5, .ref y6, .ref y7, .int (nI pls)])), (y1, .inl (cI, 2, .inl (fun z_ => nI (BR z_)))), (y2, .inl (cI, 2, .inl (fun z_ => nI (RP z_)))), (y3, .inl (cJ, 308, .inr (.inl (fun z_ => lN (WT z_))))), (y4, .inl (cJ, 308, .inr (.inl (fun z_ => lN (NX z_)))))] H → va_D A [(m0, .inr (6, [.int (nI N), .ref x1, .int (nI K), .ref x2, .ref x3, .ref x4, .int (nI lo), .ref x5, .ref x6, .ref x7, .ref x8, .int (nI ns), .int (nI nd), .ref x9, .ref y1, .ref y2, .int (nI rm), .ref y3, .ref y4, .ref y5, .ref y6, .ref y7, .int (nI pls)])), (y1, .inl (cI, 2, .inl (fun z_ => nI (BR z_)))), (y2, .inl (cI, 2, .inl (fun z_ => nI (RP z_)))), (y3, .inl (cJ, 308, .inr (.inl (fun z_ => lN (WT z_))))), (y4, .inl (cJ, 308, .inr (.inl (fun z_ => lN (NX z_)))))] → va_S A s.heap H locs → ∀ (ls : Array Slot), lv_has ls 12 [(0, .ref m0), (1, .int (nI i)), (2, .int (nI mo)), (3, .int (nI up_))] → W p l e (zR 1 0 0 22) s m args below meth c H locs 0 0 Q (F0 m 10 ls [.int (nI fu)]) := by
    intro fu o1 H locs hP hD hS ls hl
    refine lv_istore (lv' := [(4, .int (nI fu)), (0, .ref m0), (1, .int (nI i)), (2, .int (nI mo)), (3, .int (nI up_))]) hx hb dX6_move_10 hl (by decide) rfl (fun ls hl => ?_)
    have L24 : ∀ (su : Nat), (su = up_ % 2) → ∀ (H : Heap) (locs : List Loc), va_P (dC, dI) vwCl [(m0, .inr (6, [.int (nI N), .ref x1, .int (nI K), .ref x2, .ref x3, .ref x4, .int (nI lo), .ref x5, .ref x6, .ref x7, .ref x8, .int (nI ns), .int (nI nd), .ref x9, .ref y1, .ref y2, .int (nI rm), .ref y3, .ref y4, .ref y5, .ref y6, .ref y7, .int (nI pls)])), (y1, .inl (cI, 2, .inl (fun z_ => nI (BR z_)))), (y2, .inl (cI, 2, .inl (fun z_ => nI (RP z_)))), (y3, .inl (cJ, 308, .inr (.inl (fun z_ => lN (WT z_))))), (y4, .inl (cJ, 308, .inr (.inl (fun z_ => lN (NX z_)))))] H → va_D A [(m0, .inr (6, [.int (nI N), .ref x1, .int (nI K), .ref x2, .ref x3, .ref x4, .int (nI lo), .ref x5, .ref x6, .ref x7, .ref x8, .int (nI ns), .int (nI nd), .ref x9, .ref y1, .ref y2, .int (nI rm), .ref y3, .ref y4, .ref y5, .ref y6, .ref y7, .int (nI pls)])), (y1, .inl (cI, 2, .inl (fun z_ => nI (BR z_)))), (y2, .inl (cI, 2, .inl (fun z_ => nI (RP z_)))), (y3, .inl (cJ, 308, .inr (.inl (fun z_ => lN (WT z_))))), (y4, .inl (cJ, 308, .inr (.inl (fun z_ => lN (NX z_)))))] → va_S A s.heap H locs → ∀ (ls : Array Slot), lv_has ls 12 [(0, .ref m0), (1, .int (nI i)), (2, .int (nI mo)), (3, .int (nI up_)), (4, .int (nI fu))] → W p l e (zR 1 0 0 22) s m args below meth c H locs 0 0 Q (F0 m 24 ls [.int (nI su)]) := by
      intro su o2 H locs hP hD hS ls hl
      refine lv_istore (lv' := [(5, .int (nI su)), (0, .ref m0), (1, .int (nI i)), (2, .int (nI mo)), (3, .int (nI up_)), (4, .int (nI fu))]) hx hb dX6_move_24 hl (by decide) rfl (fun ls hl => ?_)
      have L39 : ∀ (fw : Nat), (fw = i / 77 / 2) → ∀ (H : Heap) (locs : List Loc), va_P (dC, dI) vwCl [(m0, .inr (6, [.int (nI N), .ref x1, .int (nI K), .ref x2, .ref x3, .ref x4, .int (nI lo), .ref x5, .ref x6, .ref x7, .ref x8, .int (nI ns), .int (nI nd), .ref x9, .ref y1, .ref y2, .int (nI rm), .ref y3, .ref y4, .ref y5, .ref y6, .ref y7, .int (nI pls)])), (y1, .inl (cI, 2, .inl (fun z_ => nI (BR z_)))), (y2, .inl (cI, 2, .inl (fun z_ => nI (RP z_)))), (y3, .inl (cJ, 308, .inr (.inl (fun z_ => lN (WT z_))))), (y4, .inl (cJ, 308, .inr (.inl (fun z_ => lN (NX z_)))))] H → va_D A [(m0, .inr (6, [.int (nI N), .ref x1, .int (nI K), .ref x2, .ref x3, .ref x4, .int (nI lo), .ref x5, .ref x6, .ref x7, .ref x8, .int (nI ns), .int (nI nd), .ref x9, .ref y1, .ref y2, .int (nI rm), .ref y3, .ref y4, .ref y5, .ref y6, .ref y7, .int (nI pls)])), (y1, .inl (cI, 2, .inl (fun z_ => nI (BR z_)))), (y2, .inl (cI, 2, .inl (fun z_ => nI (RP z_)))), (y3, .inl (cJ, 308, .inr (.inl (fun z_ => lN (WT z_))))), (y4, .inl (cJ, 308, .inr (.inl (fun z_ => lN (NX z_)))))] → va_S A s.heap H locs → ∀ (ls : Array Slot), lv_has ls 12 [(0, .ref m0), (1, .int (nI i)), (2, .int (nI mo)), (3, .int (nI up_)), (4, .int (nI fu)), (5, .int (nI su))] → W p l e (zR 1 0 0 22) s m args below meth c H locs 0 0 Q (F0 m 39 ls [.int (nI fw)]) := by
        intro fw o3 H locs hP hD hS ls hl
        refine lv_istore (lv' := [(6, .int (nI fw)), (0, .ref m0), (1, .int (nI i)), (2, .int (nI mo)), (3, .int (nI up_)), (4, .int (nI fu)), (5, .int (nI su))]) hx hb dX6_move_39 hl (by decide) rfl (fun ls hl => ?_)
        have L56 : ∀ (sw2 : Nat), (sw2 = i / 77 % 2) → ∀ (H : Heap) (locs : List Loc), va_P (dC, dI) vwCl [(m0, .inr (6, [.int (nI N), .ref x1, .int (nI K), .ref x2, .ref x3, .ref x4, .int (nI lo), .ref x5, .ref x6, .ref x7, .ref x8, .int (nI ns), .int (nI nd), .ref x9, .ref y1, .ref y2, .int (nI rm), .ref y3, .ref y4, .ref y5, .ref y6, .ref y7, .int (nI pls)])), (y1, .inl (cI, 2, .inl (fun z_ => nI (BR z_)))), (y2, .inl (cI, 2, .inl (fun z_ => nI (RP z_)))), (y3, .inl (cJ, 308, .inr (.inl (fun z_ => lN (WT z_))))), (y4, .inl (cJ, 308, .inr (.inl (fun z_ => lN (NX z_)))))] H → va_D A [(m0, .inr (6, [.int (nI N), .ref x1, .int (nI K), .ref x2, .ref x3, .ref x4, .int (nI lo), .ref x5, .ref x6, .ref x7, .ref x8, .int (nI ns), .int (nI nd), .ref x9, .ref y1, .ref y2, .int (nI rm), .ref y3, .ref y4, .ref y5, .ref y6, .ref y7, .int (nI pls)])), (y1, .inl (cI, 2, .inl (fun z_ => nI (BR z_)))), (y2, .inl (cI, 2, .inl (fun z_ => nI (RP z_)))), (y3, .inl (cJ, 308, .inr (.inl (fun z_ => lN (WT z_))))), (y4, .inl (cJ, 308, .inr (.inl (fun z_ => lN (NX z_)))))] → va_S A s.heap H locs → ∀ (ls : Array Slot), lv_has ls 12 [(0, .ref m0), (1, .int (nI i)), (2, .int (nI mo)), (3, .int (nI up_)), (4, .int (nI fu)), (5, .int (nI su)), (6, .int (nI fw))] → W p l e (zR 1 0 0 22) s m args below meth c H locs 0 0 Q (F0 m 56 ls [.int (nI sw2)]) := by
          intro sw2 o4 H locs hP hD hS ls hl
          refine lv_istore (lv' := [(7, .int (nI sw2)), (0, .ref m0), (1, .int (nI i)), (2, .int (nI mo)), (3, .int (nI up_)), (4, .int (nI fu)), (5, .int (nI su)), (6, .int (nI fw))]) hx hb dX6_move_56 hl (by decide) rfl (fun ls hl => ?_)
          have L82 : ∀ (q1 : Nat), (q1 = sp_qo BR RP 0 fw fu) → (q1 ≤ 4) → ∀ (H : Heap) (locs : List Loc), va_P (dC, dI) vwCl [(m0, .inr (6, [.int (nI N), .ref x1, .int (nI K), .ref x2, .ref x3, .ref x4, .int (nI lo), .ref x5, .ref x6, .ref x7, .ref x8, .int (nI ns), .int (nI nd), .ref x9, .ref y1, .ref y2, .int (nI rm), .ref y3, .ref y4, .ref y5, .ref y6, .ref y7, .int (nI pls)])), (y1, .inl (cI, 2, .inl (fun z_ => nI (BR z_)))), (y2, .inl (cI, 2, .inl (fun z_ => nI (RP z_)))), (y3, .inl (cJ, 308, .inr (.inl (fun z_ => lN (WT z_))))), (y4, .inl (cJ, 308, .inr (.inl (fun z_ => lN (NX z_)))))] H → va_D A [(m0, .inr (6, [.int (nI N), .ref x1, .int (nI K), .ref x2, .ref x3, .ref x4, .int (nI lo), .ref x5, .ref x6, .ref x7, .ref x8, .int (nI ns), .int (nI nd), .ref x9, .ref y1, .ref y2, .int (nI rm), .ref y3, .ref y4, .ref y5, .ref y6, .ref y7, .int (nI pls)])), (y1, .inl (cI, 2, .inl (fun z_ => nI (BR z_)))), (y2, .inl (cI, 2, .inl (fun z_ => nI (RP z_)))), (y3, .inl (cJ, 308, .inr (.inl (fun z_ => lN (WT z_))))), (y4, .inl (cJ, 308, .inr (.inl (fun z_ => lN (NX z_)))))] → va_S A s.heap H locs → ∀ (ls : Array Slot), lv_has ls 12 [(0, .ref m0), (1, .int (nI i)), (2, .int (nI mo)), (3, .int (nI up_)), (4, .int (nI fu)), (5, .int (nI su)), (6, .int (nI fw)), (7, .int (nI sw2))] → W p l e (zR 1 0 0 22) s m args below meth c H locs 0 0 Q (F0 m 82 ls [.int (nI q1)]) := by
            intro q1 k1 k2 H locs hP hD hS ls hl
            refine lv_istore (lv' := [(8, .int (nI q1)), (0, .ref m0), (1, .int (nI i)), (2, .int (nI mo)), (3, .int (nI up_)), (4, .int (nI fu)), (5, .int (nI su)), (6, .int (nI fw)), (7, .int (nI sw2))]) hx hb dX6_move_82 hl (by decide) rfl (fun ls hl => ?_)
            have L108 : ∀ (q2 : Nat), (q2 = sp_qo BR RP 1 sw2 su) → (q2 ≤ 4) → ∀ (H : Heap) (locs : List Loc), va_P (dC, dI) vwCl [(m0, .inr (6, [.int (nI N), .ref x1, .int (nI K), .ref x2, .ref x3, .ref x4, .int (nI lo), .ref x5, .ref x6, .ref x7, .ref x8, .int (nI ns), .int (nI nd), .ref x9, .ref y1, .ref y2, .int (nI rm), .ref y3, .ref y4, .ref y5, .ref y6, .ref y7, .int (nI pls)])), (y1, .inl (cI, 2, .inl (fun z_ => nI (BR z_)))), (y2, .inl (cI, 2, .inl (fun z_ => nI (RP z_)))), (y3, .inl (cJ, 308, .inr (.inl (fun z_ => lN (WT z_))))), (y4, .inl (cJ, 308, .inr (.inl (fun z_ => lN (NX z_)))))] H → va_D A [(m0, .inr (6, [.int (nI N), .ref x1, .int (nI K), .ref x2, .ref x3, .ref x4, .int (nI lo), .ref x5, .ref x6, .ref x7, .ref x8, .int (nI ns), .int (nI nd), .ref x9, .ref y1, .ref y2, .int (nI rm), .ref y3, .ref y4, .ref y5, .ref y6, .ref y7, .int (nI pls)])), (y1, .inl (cI, 2, .inl (fun z_ => nI (BR z_)))), (y2, .inl (cI, 2, .inl (fun z_ => nI (RP z_)))), (y3, .inl (cJ, 308, .inr (.inl (fun z_ => lN (WT z_))))), (y4, .inl (cJ, 308, .inr (.inl (fun z_ => lN (NX z_)))))] → va_S A s.heap H locs → ∀ (ls : Array Slot), lv_has ls 12 [(0, .ref m0), (1, .int (nI i)), (2, .int (nI mo)), (3, .int (nI up_)), (4, .int (nI fu)), (5, .int (nI su)), (6, .int (nI fw)), (7, .int (nI sw2)), (8, .int (nI q1))] → W p l e (zR 1 0 0 22) s m args below meth c H locs 0 0 Q (F0 m 108 ls [.int (nI q2)]) := by
              intro q2 l1 l2 H locs hP hD hS ls hl
              refine lv_istore (lv' := [(9, .int (nI q2)), (0, .ref m0), (1, .int (nI i)), (2, .int (nI mo)), (3, .int (nI up_)), (4, .int (nI fu)), (5, .int (nI su)), (6, .int (nI fw)), (7, .int (nI sw2)), (8, .int (nI q1))]) hx hb dX6_move_108 hl (by decide) rfl (fun ls hl => ?_)
              refine lv_iload_n hx hb dX6_move_110 rfl (lv_at hl 2 rfl) ?_
              refine lv_bipush (v := nI 77) hx hb dX6_move_111 (by decide) ?_
              refine z_irem (v := nI (i % 77)) hx hb dX6_move_113 (zn_ne0 (b := 77) rfl (by omega)) (zn_rem rfl rfl (by omega)) ?_
              refine lv_bipush (v := nI 11) hx hb dX6_move_114 (by decide) ?_
              refine z_idiv (v := nI ((i % 77) / 11)) hx hb dX6_move_116 (zn_ne0 (b := 11) rfl (by omega)) (zn_div rfl rfl (by omega)) ?_
              refine lv_istore (lv' := [(10, .int (nI ((i % 77) / 11))), (9, .int (nI q2)), (0, .ref m0), (1, .int (nI i)), (2, .int (nI mo)), (3, .int (nI up_)), (4, .int (nI fu)), (5, .int (nI su)), (6, .int (nI fw)), (7, .int (nI sw2)), (8, .int (nI q1))]) hx hb dX6_move_117 hl (by decide) rfl (fun ls hl => ?_)
              refine lv_iload_n hx hb dX6_move_119 rfl (lv_at hl 3 rfl) ?_
              refine lv_bipush (v := nI 11) hx hb dX6_move_120 (by decide) ?_
              refine z_irem (v := nI (i % 11)) hx hb dX6_move_122 (zn_ne0 (b := 11) rfl (by omega)) (zn_rem rfl rfl (by omega)) ?_
              refine lv_istore (lv' := [(11, .int (nI (i % 11))), (10, .int (nI ((i % 77) / 11))), (9, .int (nI q2)), (0, .ref m0), (1, .int (nI i)), (2, .int (nI mo)), (3, .int (nI up_)), (4, .int (nI fu)), (5, .int (nI su)), (6, .int (nI fw)), (7, .int (nI sw2)), (8, .int (nI q1))]) hx hb dX6_move_123 hl (by decide) rfl (fun ls hl => ?_)
              have L180 : ∀ (iv : Nat) (ou : Nat), (iv = sp_la (sp_sw up_) (i % 77 / 11) mo) → (ou = i % 11 + sp_gv (sp_sw up_) (i % 77 / 11)) → ∀ (H : Heap) (locs : List Loc), va_P (dC, dI) vwCl [(m0, .inr (6, [.int (nI N), .ref x1, .int (nI K), .ref x2, .ref x3, .ref x4, .int (nI lo), .ref x5, .ref x6, .ref x7, .ref x8, .int (nI ns), .int (nI nd), .ref x9, .ref y1, .ref y2, .int (nI rm), .ref y3, .ref y4, .ref y5, .ref y6, .ref y7, .int (nI pls)])), (y1, .inl (cI, 2, .inl (fun z_ => nI (BR z_)))), (y2, .inl (cI, 2, .inl (fun z_ => nI (RP z_)))), (y3, .inl (cJ, 308, .inr (.inl (fun z_ => lN (WT z_))))), (y4, .inl (cJ, 308, .inr (.inl (fun z_ => lN (NX z_)))))] H → va_D A [(m0, .inr (6, [.int (nI N), .ref x1, .int (nI K), .ref x2, .ref x3, .ref x4, .int (nI lo), .ref x5, .ref x6, .ref x7, .ref x8, .int (nI ns), .int (nI nd), .ref x9, .ref y1, .ref y2, .int (nI rm), .ref y3, .ref y4, .ref y5, .ref y6, .ref y7, .int (nI pls)])), (y1, .inl (cI, 2, .inl (fun z_ => nI (BR z_)))), (y2, .inl (cI, 2, .inl (fun z_ => nI (RP z_)))), (y3, .inl (cJ, 308, .inr (.inl (fun z_ => lN (WT z_))))), (y4, .inl (cJ, 308, .inr (.inl (fun z_ => lN (NX z_)))))] → va_S A s.heap H locs → ∀ (ls : Array Slot), lv_has ls 12 [(0, .ref m0), (1, .int (nI i)), (2, .int (nI mo)), (3, .int (nI up_)), (4, .int (nI fu)), (5, .int (nI su)), (6, .int (nI fw)), (7, .int (nI sw2)), (8, .int (nI q1)), (9, .int (nI q2)), (10, .int (nI iv)), (11, .int (nI ou))] → W p l e (zR 1 0 0 22) s m args below meth c H locs 0 0 Q (F0 m 180 ls []) := by
                intro iv ou s1 s2 H locs hP hD hS ls hl
                have hs7 := sp_la6 (x := sp_sw up_) (show i % 77 / 11 ≤ 6 by omega) bm
                have hs8 := sp_gv_le (sp_sw up_) (i % 77 / 11)
                have hs9 := sp_la_le (x := sp_sw up_) bl
                have hcc : q1 * q2 = (sp_cw BR RP) (sp_sw (i / 77) * 4 + sp_sw up_) := by rw [sp_cw_sw (show i / 77 < 4 by omega) bu, k1, l1, o1, o2, o3, o4]
                have hm16 := Nat.mul_le_mul k2 l2
                refine lv_aload_n hx hb dX6_move_180 rfl (lv_at hl 0 rfl) ?_
                refine z_get (D := (dC, dI)) (ci := 6) (v := .ref y3) (C := RX6) (T := TX6) (N := 23) hx hb hts uX6 hown hK hP 0 rfl rfl 17 (by decide) w43 rfl rfl dX6_move_181 ?_
                refine lv_iload_n hx hb dX6_move_184 rfl (lv_at hl 1 rfl) ?_
                refine z_lald (v := (lN (WT i))) hx hb hK hP 3 1 rfl rfl i rfl (by omega) rfl dX6_move_185 ?_
                refine lv_lconst (v := lN 0) hx hb dX6_move_186 (by decide) ?_
                refine W.lcmp hx hb dX6_move_187 ?_
                refine z_if_le (tgt := 234) hx hb dX6_move_188 (by decide) ((zm_le _ _).trans (not_congr (zl_lt (a := 0) (b := ((WT i : Nat) : Int)) (lI_N _) (lI_N _) (by omega)))) (fun c_188 => ?_) (fun c_188 => ?_)
                · skip
                  have q_0 : ∀ φ, sp_S NX (fun k => φ (sp_sg k)) = sp_S NX (fun k => φ (sp_sg k)) + WT i * sp_Pq (sp_cw BR RP) mo 10 1 φ (sp_sw (i / 77)) (i % 77 / 11) (i % 11) (sp_sw up_) := by first | (intro φ; rw [show WT i = 0 by omega, Nat.zero_mul]; rfl) | (intro φ; rw [sp_two_0 hcc (by omega) φ]; rfl) | (intro φ; rw [show WT i * q1 * q2 = WT i * (q1 * q2) from Nat.mul_assoc _ _ _]; exact sp_two_S bu s1 s2 (by omega) (by omega) hcc φ)
                  have q_1 : sp_zr NX mo (sn + 1) := by first | exact hz | (rw [show (77 * up_ + 11 * iv + ou) = sp_ix up_ iv ou from by unfold sp_ix; omega]; exact sp_zr_up hz (by omega) (by omega) bm (by omega))
                  exact hRET _ ls H locs (NX) dX6_move_234 ⟨q_0, q_1⟩ hP hD hS
                · skip
                  refine lv_iload hx hb dX6_move_191 (lv_at hl 8 rfl) ?_
                  refine lv_iload hx hb dX6_move_193 (lv_at hl 9 rfl) ?_
                  refine z_imul (v := (nI (q1 * q2))) hx hb dX6_move_195 (pk_mul _ _) ?_
                  refine z_if_le (tgt := 234) hx hb dX6_move_196 (by decide) (zcn_le (a := q1 * q2) (b := 0) rfl nI_00 (by omega)) (fun c_196 => ?_) (fun c_196 => ?_)
                  · skip
                    have q_0 : ∀ φ, sp_S NX (fun k => φ (sp_sg k)) = sp_S NX (fun k => φ (sp_sg k)) + WT i * sp_Pq (sp_cw BR RP) mo 10 1 φ (sp_sw (i / 77)) (i % 77 / 11) (i % 11) (sp_sw up_) := by first | (intro φ; rw [show WT i = 0 by omega, Nat.zero_mul]; rfl) | (intro φ; rw [sp_two_0 hcc (by omega) φ]; rfl) | (intro φ; rw [show WT i * q1 * q2 = WT i * (q1 * q2) from Nat.mul_assoc _ _ _]; exact sp_two_S bu s1 s2 (by omega) (by omega) hcc φ)
                    have q_1 : sp_zr NX mo (sn + 1) := by first | exact hz | (rw [show (77 * up_ + 11 * iv + ou) = sp_ix up_ iv ou from by unfold sp_ix; omega]; exact sp_zr_up hz (by omega) (by omega) bm (by omega))
                    exact hRET _ ls H locs (NX) dX6_move_234 ⟨q_0, q_1⟩ hP hD hS
                  · skip
                    refine lv_aload_n hx hb dX6_move_199 rfl (lv_at hl 0 rfl) ?_
                    refine z_get (D := (dC, dI)) (ci := 6) (v := .ref y4) (C := RX6) (T := TX6) (N := 23) hx hb hts uX6 hown hK hP 0 rfl rfl 18 (by decide) w47 rfl rfl dX6_move_200 ?_
                    refine lv_bipush (v := nI 77) hx hb dX6_move_203 (by decide) ?_
                    refine lv_iload_n hx hb dX6_move_205 rfl (lv_at hl 3 rfl) ?_
                    refine z_imul (v := (nI (77 * up_))) hx hb dX6_move_206 (pk_mul _ _) ?_
                    refine lv_bipush (v := nI 11) hx hb dX6_move_207 (by decide) ?_
                    refine lv_iload hx hb dX6_move_209 (lv_at hl 10 rfl) ?_
                    refine z_imul (v := (nI (11 * iv))) hx hb dX6_move_211 (pk_mul _ _) ?_
                    refine z_iadd (v := (nI ((77 * up_) + (11 * iv)))) hx hb dX6_move_212 (nI_add _ _) ?_
                    refine lv_iload hx hb dX6_move_213 (lv_at hl 11 rfl) ?_
                    refine z_iadd (v := (nI (((77 * up_) + (11 * iv)) + ou))) hx hb dX6_move_215 (nI_add _ _) ?_
                    refine lv_dup2_11 hx hb dX6_move_216 rfl rfl ?_
                    refine z_lald (v := (lN (NX (((77 * up_) + (11 * iv)) + ou)))) hx hb hK hP 4 1 rfl rfl (((77 * up_) + (11 * iv)) + ou) rfl (by omega) rfl dX6_move_217 ?_
                    refine lv_aload_n hx hb dX6_move_218 rfl (lv_at hl 0 rfl) ?_
                    refine z_get (D := (dC, dI)) (ci := 6) (v := .ref y3) (C := RX6) (T := TX6) (N := 23) hx hb hts uX6 hown hK hP 0 rfl rfl 17 (by decide) w43 rfl rfl dX6_move_219 ?_
                    refine lv_iload_n hx hb dX6_move_222 rfl (lv_at hl 1 rfl) ?_
                    refine z_lald (v := (lN (WT i))) hx hb hK hP 3 1 rfl rfl i rfl (by omega) rfl dX6_move_223 ?_
                    refine lv_iload hx hb dX6_move_224 (lv_at hl 8 rfl) ?_
                    refine lv_i2l (v := (lN q1)) hx hb dX6_move_226 (zl_i2lN rfl (by omega)) ?_
                    refine z_lmul (v := (lN ((WT i) * q1))) hx hb dX6_move_227 (lN_mul _ _) ?_
                    refine lv_iload hx hb dX6_move_228 (lv_at hl 9 rfl) ?_
                    refine lv_i2l (v := (lN q2)) hx hb dX6_move_230 (zl_i2lN rfl (by omega)) ?_
                    refine z_lmul (v := (lN (((WT i) * q1) * q2))) hx hb dX6_move_231 (lN_mul _ _) ?_
                    refine z_ladd (v := (lN ((NX (((77 * up_) + (11 * iv)) + ou)) + (((WT i) * q1) * q2)))) hx hb dX6_move_232 (lN_add _ _) ?_
                    refine z_last hx hb hK hP hD hS 4 1 rfl rfl (((77 * up_) + (11 * iv)) + ou) rfl (by omega) (upd_L NX (((77 * up_) + (11 * iv)) + ou) ((NX (((77 * up_) + (11 * iv)) + ou)) + (((WT i) * q1) * q2))) [(m0, .inr (6, [.int (nI N), .ref x1, .int (nI K), .ref x2, .ref x3, .ref x4, .int (nI lo), .ref x5, .ref x6, .ref x7, .ref x8, .int (nI ns), .int (nI nd), .ref x9, .ref y1, .ref y2, .int (nI rm), .ref y3, .ref y4, .ref y5, .ref y6, .ref y7, .int (nI pls)])), (y1, .inl (cI, 2, .inl (fun z_ => nI (BR z_)))), (y2, .inl (cI, 2, .inl (fun z_ => nI (RP z_)))), (y3, .inl (cJ, 308, .inr (.inl (fun z_ => lN (WT z_))))), (y4, .inl (cJ, 308, .inr (.inl (fun z_ => lN ((up NX (((77 * up_) + (11 * iv)) + ou) ((NX (((77 * up_) + (11 * iv)) + ou)) + (((WT i) * q1) * q2))) z_)))))] rfl dX6_move_233 (fun H locs hP hD hS => ?_)
                    have q_0 : ∀ φ, sp_S (up NX (((77 * up_) + (11 * iv)) + ou) ((NX (((77 * up_) + (11 * iv)) + ou)) + (((WT i) * q1) * q2))) (fun k => φ (sp_sg k)) = sp_S NX (fun k => φ (sp_sg k)) + WT i * sp_Pq (sp_cw BR RP) mo 10 1 φ (sp_sw (i / 77)) (i % 77 / 11) (i % 11) (sp_sw up_) := by first | (intro φ; rw [show WT i = 0 by omega, Nat.zero_mul]; rfl) | (intro φ; rw [sp_two_0 hcc (by omega) φ]; rfl) | (intro φ; rw [show WT i * q1 * q2 = WT i * (q1 * q2) from Nat.mul_assoc _ _ _]; exact sp_two_S bu s1 s2 (by omega) (by omega) hcc φ)
                    have q_1 : sp_zr (up NX (((77 * up_) + (11 * iv)) + ou) ((NX (((77 * up_) + (11 * iv)) + ou)) + (((WT i) * q1) * q2))) mo (sn + 1) := by first | exact hz | (rw [show (77 * up_ + 11 * iv + ou) = sp_ix up_ iv ou from by unfold sp_ix; omega]; exact sp_zr_up hz (by omega) (by omega) bm (by omega))
                    exact hRET _ ls H locs (up NX (((77 * up_) + (11 * iv)) + ou) ((NX (((77 * up_) + (11 * iv)) + ou)) + (((WT i) * q1) * q2))) dX6_move_234 ⟨q_0, q_1⟩ hP hD hS
              refine lv_iload hx hb dX6_move_125 (lv_at hl 8 rfl) ?_
              refine z_if_eq (tgt := 161) hx hb dX6_move_127 (by decide) (zcn_eq (a := su) (b := 0) rfl nI_00 (by omega)) (fun c_127 => ?_) (fun c_127 => ?_)
              · skip
                refine lv_iload hx hb dX6_move_161 (lv_at hl 7 rfl) ?_
                refine z_if_eq (tgt := 180) hx hb dX6_move_163 (by decide) (zcn_eq (a := fu) (b := 0) rfl nI_00 (by omega)) (fun c_163 => ?_) (fun c_163 => ?_)
                · skip
                  have o_s1 : ((i % 77) / 11) = sp_la (sp_sw up_) (i % 77 / 11) mo := by exact (sp_two (iv := ((i % 77) / 11)) (o := (i % 11)) (ct := i % 11) bu o1 o2 bl (by omega)).1
                  have o_s2 : (i % 11) = i % 11 + sp_gv (sp_sw up_) (i % 77 / 11) := by exact (sp_two (mo := mo) (iv := ((i % 77) / 11)) (o := (i % 11)) (ct := i % 11) bu o1 o2 bl (by omega)).2
                  exact L180 ((i % 77) / 11) (i % 11) o_s1 o_s2 H locs hP hD hS ls (lv_sub hl [3, 4, 5, 6, 7, 8, 9, 10, 11, 2, 1, 0] rfl)
                · skip
                  refine lv_iload hx hb dX6_move_166 (lv_at hl 8 rfl) ?_
                  refine z_if_ne (tgt := 180) hx hb dX6_move_168 (by decide) (zcn_eq (a := su) (b := 0) rfl nI_00 (by omega)) (fun c_168 => ?_) (fun c_168 => ?_)
                  · skip
                    have o_s1 : ((i % 77) / 11) = sp_la (sp_sw up_) (i % 77 / 11) mo := by exact (sp_two (iv := ((i % 77) / 11)) (o := (i % 11)) (ct := i % 11) bu o1 o2 bl (by omega)).1
                    have o_s2 : (i % 11) = i % 11 + sp_gv (sp_sw up_) (i % 77 / 11) := by exact (sp_two (mo := mo) (iv := ((i % 77) / 11)) (o := (i % 11)) (ct := i % 11) bu o1 o2 bl (by omega)).2
                    exact L180 ((i % 77) / 11) (i % 11) o_s1 o_s2 H locs hP hD hS ls (lv_sub hl [3, 4, 5, 6, 7, 8, 9, 10, 11, 2, 1, 0] rfl)
                  · skip
                    refine lv_iload hx hb dX6_move_171 (lv_at hl 1 rfl) ?_
                    refine lv_iload_n hx hb dX6_move_173 rfl (lv_at hl 5 rfl) ?_
                    refine z_icmp_ge (tgt := 180) hx hb dX6_move_174 (by decide) (zcn_le (a := mo) (b := (i % 77) / 11) rfl rfl (by omega)) (fun c_174 => ?_) (fun c_174 => ?_)
                    · skip
                      have o_s1 : ((i % 77) / 11) = sp_la (sp_sw up_) (i % 77 / 11) mo := by exact (sp_two (iv := ((i % 77) / 11)) (o := (i % 11)) (ct := i % 11) bu o1 o2 bl (by omega)).1
                      have o_s2 : (i % 11) = i % 11 + sp_gv (sp_sw up_) (i % 77 / 11) := by exact (sp_two (mo := mo) (iv := ((i % 77) / 11)) (o := (i % 11)) (ct := i % 11) bu o1 o2 bl (by omega)).2
                      exact L180 ((i % 77) / 11) (i % 11) o_s1 o_s2 H locs hP hD hS ls (lv_sub hl [3, 4, 5, 6, 7, 8, 9, 10, 11, 2, 1, 0] rfl)
                    · skip
                      refine lv_iinc (v := (nI ((i % 77) / 11 + 1))) (lv' := [(10, .int (nI ((i % 77) / 11 + 1))), (11, .int (nI (i % 11))), (9, .int (nI q2)), (0, .ref m0), (1, .int (nI i)), (2, .int (nI mo)), (3, .int (nI up_)), (4, .int (nI fu)), (5, .int (nI su)), (6, .int (nI fw)), (7, .int (nI sw2)), (8, .int (nI q1))]) hx hb dX6_move_177 hl (k := 1) rfl (z_incN ((i % 77) / 11) 1 (by decide)) (by decide) rfl (fun ls hl => ?_)
                      have o_s1 : ((i % 77) / 11 + 1) = sp_la (sp_sw up_) (i % 77 / 11) mo := by exact (sp_two (iv := ((i % 77) / 11 + 1)) (o := (i % 11)) (ct := i % 11) bu o1 o2 bl (by omega)).1
                      have o_s2 : (i % 11) = i % 11 + sp_gv (sp_sw up_) (i % 77 / 11) := by exact (sp_two (mo := mo) (iv := ((i % 77) / 11 + 1)) (o := (i % 11)) (ct := i % 11) bu o1 o2 bl (by omega)).2
                      exact L180 ((i % 77) / 11 + 1) (i % 11) o_s1 o_s2 H locs hP hD hS ls (lv_sub hl [3, 4, 5, 6, 7, 8, 9, 10, 11, 2, 0, 1] rfl)
              · skip
                refine lv_iload hx hb dX6_move_130 (lv_at hl 7 rfl) ?_
                refine z_if_ne (tgt := 140) hx hb dX6_move_132 (by decide) (zcn_eq (a := fu) (b := 0) rfl nI_00 (by omega)) (fun c_132 => ?_) (fun c_132 => ?_)
                · skip
                  refine lv_iinc (v := (nI (i % 11 + 1))) (lv' := [(11, .int (nI (i % 11 + 1))), (10, .int (nI ((i % 77) / 11))), (9, .int (nI q2)), (0, .ref m0), (1, .int (nI i)), (2, .int (nI mo)), (3, .int (nI up_)), (4, .int (nI fu)), (5, .int (nI su)), (6, .int (nI fw)), (7, .int (nI sw2)), (8, .int (nI q1))]) hx hb dX6_move_140 hl (k := 0) rfl (z_incN (i % 11) 1 (by decide)) (by decide) rfl (fun ls hl => ?_)
                  refine lv_iload hx hb dX6_move_143 (lv_at hl 1 rfl) ?_
                  refine lv_iload hx hb dX6_move_145 (lv_at hl 7 rfl) ?_
                  refine z_if_eq (tgt := 154) hx hb dX6_move_147 (by decide) (zcn_eq (a := fu) (b := 0) rfl nI_00 (by omega)) (fun c_147 => ?_) (fun c_147 => ?_)
                  · skip
                    refine lv_iconst (v := nI 1) hx hb dX6_move_154 (by decide) ?_
                    refine z_isub (v := (nI (((i % 77) / 11) - 1))) hx hb dX6_move_155 (pk_sub (by omega)) ?_
                    refine lv_istore (lv' := [(10, .int (nI (((i % 77) / 11) - 1))), (11, .int (nI (i % 11 + 1))), (9, .int (nI q2)), (0, .ref m0), (1, .int (nI i)), (2, .int (nI mo)), (3, .int (nI up_)), (4, .int (nI fu)), (5, .int (nI su)), (6, .int (nI fw)), (7, .int (nI sw2)), (8, .int (nI q1))]) hx hb dX6_move_156 hl (by decide) rfl (fun ls hl => ?_)
                    refine lv_goto (tgt := 180) hx hb dX6_move_158 (by decide) ?_
                    have o_s1 : (((i % 77) / 11) - 1) = sp_la (sp_sw up_) (i % 77 / 11) mo := by exact (sp_two (iv := (((i % 77) / 11) - 1)) (o := (i % 11 + 1)) (ct := i % 11) bu o1 o2 bl (by omega)).1
                    have o_s2 : (i % 11 + 1) = i % 11 + sp_gv (sp_sw up_) (i % 77 / 11) := by exact (sp_two (mo := mo) (iv := (((i % 77) / 11) - 1)) (o := (i % 11 + 1)) (ct := i % 11) bu o1 o2 bl (by omega)).2
                    exact L180 (((i % 77) / 11) - 1) (i % 11 + 1) o_s1 o_s2 H locs hP hD hS ls (lv_sub hl [3, 4, 5, 6, 7, 8, 9, 10, 11, 2, 0, 1] rfl)
                  · skip
                    refine lv_iconst (v := nI 0) hx hb dX6_move_150 (by decide) ?_
                    refine lv_goto (tgt := 155) hx hb dX6_move_151 (by decide) ?_
                    refine z_isub (v := (nI (((i % 77) / 11) - 0))) hx hb dX6_move_155 (pk_sub (by omega)) ?_
                    refine lv_istore (lv' := [(10, .int (nI (((i % 77) / 11) - 0))), (11, .int (nI (i % 11 + 1))), (9, .int (nI q2)), (0, .ref m0), (1, .int (nI i)), (2, .int (nI mo)), (3, .int (nI up_)), (4, .int (nI fu)), (5, .int (nI su)), (6, .int (nI fw)), (7, .int (nI sw2)), (8, .int (nI q1))]) hx hb dX6_move_156 hl (by decide) rfl (fun ls hl => ?_)
                    refine lv_goto (tgt := 180) hx hb dX6_move_158 (by decide) ?_
                    have o_s1 : (((i % 77) / 11) - 0) = sp_la (sp_sw up_) (i % 77 / 11) mo := by exact (sp_two (iv := (((i % 77) / 11) - 0)) (o := (i % 11 + 1)) (ct := i % 11) bu o1 o2 bl (by omega)).1
                    have o_s2 : (i % 11 + 1) = i % 11 + sp_gv (sp_sw up_) (i % 77 / 11) := by exact (sp_two (mo := mo) (iv := (((i % 77) / 11) - 0)) (o := (i % 11 + 1)) (ct := i % 11) bu o1 o2 bl (by omega)).2
                    exact L180 (((i % 77) / 11) - 0) (i % 11 + 1) o_s1 o_s2 H locs hP hD hS ls (lv_sub hl [3, 4, 5, 6, 7, 8, 9, 10, 11, 2, 0, 1] rfl)
                · skip
                  refine lv_iload hx hb dX6_move_135 (lv_at hl 1 rfl) ?_
                  refine z_if_le (tgt := 161) hx hb dX6_move_137 (by decide) (zcn_le (a := (i % 77) / 11) (b := 0) rfl nI_00 (by omega)) (fun c_137 => ?_) (fun c_137 => ?_)
                  · skip
                    refine lv_iload hx hb dX6_move_161 (lv_at hl 7 rfl) ?_
                    refine z_if_eq (tgt := 180) hx hb dX6_move_163 (by decide) (zcn_eq (a := fu) (b := 0) rfl nI_00 (by omega)) (fun c_163 => ?_) (fun c_163 => ?_)
                    · skip
                      have o_s1 : ((i % 77) / 11) = sp_la (sp_sw up_) (i % 77 / 11) mo := by exact (sp_two (iv := ((i % 77) / 11)) (o := (i % 11)) (ct := i % 11) bu o1 o2 bl (by omega)).1
                      have o_s2 : (i % 11) = i % 11 + sp_gv (sp_sw up_) (i % 77 / 11) := by exact (sp_two (mo := mo) (iv := ((i % 77) / 11)) (o := (i % 11)) (ct := i % 11) bu o1 o2 bl (by omega)).2
                      exact L180 ((i % 77) / 11) (i % 11) o_s1 o_s2 H locs hP hD hS ls (lv_sub hl [3, 4, 5, 6, 7, 8, 9, 10, 11, 2, 1, 0] rfl)
                    · skip
                      refine lv_iload hx hb dX6_move_166 (lv_at hl 8 rfl) ?_
                      refine z_if_ne (tgt := 180) hx hb dX6_move_168 (by decide) (zcn_eq (a := su) (b := 0) rfl nI_00 (by omega)) (fun c_168 => ?_) (fun c_168 => ?_)
                      · skip
                        have o_s1 : ((i % 77) / 11) = sp_la (sp_sw up_) (i % 77 / 11) mo := by exact (sp_two (iv := ((i % 77) / 11)) (o := (i % 11)) (ct := i % 11) bu o1 o2 bl (by omega)).1
                        have o_s2 : (i % 11) = i % 11 + sp_gv (sp_sw up_) (i % 77 / 11) := by exact (sp_two (mo := mo) (iv := ((i % 77) / 11)) (o := (i % 11)) (ct := i % 11) bu o1 o2 bl (by omega)).2
                        exact L180 ((i % 77) / 11) (i % 11) o_s1 o_s2 H locs hP hD hS ls (lv_sub hl [3, 4, 5, 6, 7, 8, 9, 10, 11, 2, 1, 0] rfl)
                      · skip
                        refine lv_iload hx hb dX6_move_171 (lv_at hl 1 rfl) ?_
                        refine lv_iload_n hx hb dX6_move_173 rfl (lv_at hl 5 rfl) ?_
                        refine z_icmp_ge (tgt := 180) hx hb dX6_move_174 (by decide) (zcn_le (a := mo) (b := (i % 77) / 11) rfl rfl (by omega)) (fun c_174 => ?_) (fun c_174 => ?_)
                        · skip
                          have o_s1 : ((i % 77) / 11) = sp_la (sp_sw up_) (i % 77 / 11) mo := by exact (sp_two (iv := ((i % 77) / 11)) (o := (i % 11)) (ct := i % 11) bu o1 o2 bl (by omega)).1
                          have o_s2 : (i % 11) = i % 11 + sp_gv (sp_sw up_) (i % 77 / 11) := by exact (sp_two (mo := mo) (iv := ((i % 77) / 11)) (o := (i % 11)) (ct := i % 11) bu o1 o2 bl (by omega)).2
                          exact L180 ((i % 77) / 11) (i % 11) o_s1 o_s2 H locs hP hD hS ls (lv_sub hl [3, 4, 5, 6, 7, 8, 9, 10, 11, 2, 1, 0] rfl)
                        · skip
                          refine lv_iinc (v := (nI ((i % 77) / 11 + 1))) (lv' := [(10, .int (nI ((i % 77) / 11 + 1))), (11, .int (nI (i % 11))), (9, .int (nI q2)), (0, .ref m0), (1, .int (nI i)), (2, .int (nI mo)), (3, .int (nI up_)), (4, .int (nI fu)), (5, .int (nI su)), (6, .int (nI fw)), (7, .int (nI sw2)), (8, .int (nI q1))]) hx hb dX6_move_177 hl (k := 1) rfl (z_incN ((i % 77) / 11) 1 (by decide)) (by decide) rfl (fun ls hl => ?_)
                          have o_s1 : ((i % 77) / 11 + 1) = sp_la (sp_sw up_) (i % 77 / 11) mo := by exact (sp_two (iv := ((i % 77) / 11 + 1)) (o := (i % 11)) (ct := i % 11) bu o1 o2 bl (by omega)).1
                          have o_s2 : (i % 11) = i % 11 + sp_gv (sp_sw up_) (i % 77 / 11) := by exact (sp_two (mo := mo) (iv := ((i % 77) / 11 + 1)) (o := (i % 11)) (ct := i % 11) bu o1 o2 bl (by omega)).2
                          exact L180 ((i % 77) / 11 + 1) (i % 11) o_s1 o_s2 H locs hP hD hS ls (lv_sub hl [3, 4, 5, 6, 7, 8, 9, 10, 11, 2, 0, 1] rfl)
                  · skip
                    refine lv_iinc (v := (nI (i % 11 + 1))) (lv' := [(11, .int (nI (i % 11 + 1))), (10, .int (nI ((i % 77) / 11))), (9, .int (nI q2)), (0, .ref m0), (1, .int (nI i)), (2, .int (nI mo)), (3, .int (nI up_)), (4, .int (nI fu)), (5, .int (nI su)), (6, .int (nI fw)), (7, .int (nI sw2)), (8, .int (nI q1))]) hx hb dX6_move_140 hl (k := 0) rfl (z_incN (i % 11) 1 (by decide)) (by decide) rfl (fun ls hl => ?_)
                    refine lv_iload hx hb dX6_move_143 (lv_at hl 1 rfl) ?_
                    refine lv_iload hx hb dX6_move_145 (lv_at hl 7 rfl) ?_
                    refine z_if_eq (tgt := 154) hx hb dX6_move_147 (by decide) (zcn_eq (a := fu) (b := 0) rfl nI_00 (by omega)) (fun c_147 => ?_) (fun c_147 => ?_)
                    · skip
                      refine lv_iconst (v := nI 1) hx hb dX6_move_154 (by decide) ?_
                      refine z_isub (v := (nI (((i % 77) / 11) - 1))) hx hb dX6_move_155 (pk_sub (by omega)) ?_
                      refine lv_istore (lv' := [(10, .int (nI (((i % 77) / 11) - 1))), (11, .int (nI (i % 11 + 1))), (9, .int (nI q2)), (0, .ref m0), (1, .int (nI i)), (2, .int (nI mo)), (3, .int (nI up_)), (4, .int (nI fu)), (5, .int (nI su)), (6, .int (nI fw)), (7, .int (nI sw2)), (8, .int (nI q1))]) hx hb dX6_move_156 hl (by decide) rfl (fun ls hl => ?_)
                      refine lv_goto (tgt := 180) hx hb dX6_move_158 (by decide) ?_
                      have o_s1 : (((i % 77) / 11) - 1) = sp_la (sp_sw up_) (i % 77 / 11) mo := by exact (sp_two (iv := (((i % 77) / 11) - 1)) (o := (i % 11 + 1)) (ct := i % 11) bu o1 o2 bl (by omega)).1
                      have o_s2 : (i % 11 + 1) = i % 11 + sp_gv (sp_sw up_) (i % 77 / 11) := by exact (sp_two (mo := mo) (iv := (((i % 77) / 11) - 1)) (o := (i % 11 + 1)) (ct := i % 11) bu o1 o2 bl (by omega)).2
                      exact L180 (((i % 77) / 11) - 1) (i % 11 + 1) o_s1 o_s2 H locs hP hD hS ls (lv_sub hl [3, 4, 5, 6, 7, 8, 9, 10, 11, 2, 0, 1] rfl)
                    · skip
                      refine lv_iconst (v := nI 0) hx hb dX6_move_150 (by decide) ?_
                      refine lv_goto (tgt := 155) hx hb dX6_move_151 (by decide) ?_
                      refine z_isub (v := (nI (((i % 77) / 11) - 0))) hx hb dX6_move_155 (pk_sub (by omega)) ?_
                      refine lv_istore (lv' := [(10, .int (nI (((i % 77) / 11) - 0))), (11, .int (nI (i % 11 + 1))), (9, .int (nI q2)), (0, .ref m0), (1, .int (nI i)), (2, .int (nI mo)), (3, .int (nI up_)), (4, .int (nI fu)), (5, .int (nI su)), (6, .int (nI fw)), (7, .int (nI sw2)), (8, .int (nI q1))]) hx hb dX6_move_156 hl (by decide) rfl (fun ls hl => ?_)
                      refine lv_goto (tgt := 180) hx hb dX6_move_158 (by decide) ?_
                      have o_s1 : (((i % 77) / 11) - 0) = sp_la (sp_sw up_) (i % 77 / 11) mo := by exact (sp_two (iv := (((i % 77) / 11) - 0)) (o := (i % 11 + 1)) (ct := i % 11) bu o1 o2 bl (by omega)).1
                      have o_s2 : (i % 11 + 1) = i % 11 + sp_gv (sp_sw up_) (i % 77 / 11) := by exact (sp_two (mo := mo) (iv := (((i % 77) / 11) - 0)) (o := (i % 11 + 1)) (ct := i % 11) bu o1 o2 bl (by omega)).2
                      exact L180 (((i % 77) / 11) - 0) (i % 11 + 1) o_s1 o_s2 H locs hP hD hS ls (lv_sub hl [3, 4, 5, 6, 7, 8, 9, 10, 11, 2, 0, 1] rfl)
            have hq1 := sp_qo_sum bBR bRP 1 (show sw2 < 2 by omega)
            refine lv_iload hx hb dX6_move_84 (lv_at hl 6 rfl) ?_
            refine z_if_eq (tgt := 99) hx hb dX6_move_86 (by decide) (zcn_eq (a := su) (b := 0) rfl nI_00 (by omega)) (fun c_86 => ?_) (fun c_86 => ?_)
            · skip
              refine lv_iconst (v := nI 4) hx hb dX6_move_99 (by decide) ?_
              refine lv_aload_n hx hb dX6_move_100 rfl (lv_at hl 1 rfl) ?_
              refine lv_iconst (v := nI 1) hx hb dX6_move_101 (by decide) ?_
              refine lv_iload hx hb dX6_move_102 (lv_at hl 8 rfl) ?_
              refine z_callVi (As := [.int (nI 1), .int (nI sw2)]) (rest := [.int (nI 4)]) (wr := [(y3, .inl (cJ, 308, .inr (.inl (fun z_ => lN (WT z_))))), (y4, .inl (cJ, 308, .inr (.inl (fun z_ => lN (NX z_)))))]) ⟨hx, hb, hml, hown, hts⟩ (c_X6_upChance l dC dI cI cJ H.size m0 x1 x2 x3 x4 x5 x6 x7 x8 x9 y1 y2 y3 y4 y5 y6 y7 N K lo ns nd rm pls BR RP 1 sw2 (by first | assumption | omega) (by first | assumption | omega) (by first | assumption | omega) (by first | assumption | omega)) (cwV 2 hts gX6_move_X6_upChance rfl rfl rfl (by decide +kernel) ⟨Nat.le_of_ble_eq_true rfl, Nat.le_of_ble_eq_true rfl⟩) hA hK hP hD hS [0, 1, 2] [3, 4] [2, 3, 4, 0, 1] rfl rfl (by decide) (by decide) (by decide) nwA_ok hN (ci := 6) rfl rfl 0 rfl hl.1 (Nat.le_of_ble_eq_true rfl) ⟨Nat.le_refl _, Nat.le_refl _⟩ rfl rfl dX6_move_104 (fun (u : (Nat)) => [(m0, .inr (6, [.int (nI N), .ref x1, .int (nI K), .ref x2, .ref x3, .ref x4, .int (nI lo), .ref x5, .ref x6, .ref x7, .ref x8, .int (nI ns), .int (nI nd), .ref x9, .ref y1, .ref y2, .int (nI rm), .ref y3, .ref y4, .ref y5, .ref y6, .ref y7, .int (nI pls)])), (y1, .inl (cI, 2, .inl (fun z_ => nI (BR z_)))), (y2, .inl (cI, 2, .inl (fun z_ => nI (RP z_)))), (y3, .inl (cJ, 308, .inr (.inl (fun z_ => lN (WT z_))))), (y4, .inl (cJ, 308, .inr (.inl (fun z_ => lN (NX z_)))))]) (fun u => rfl) (by decide) (fun r_104 u H locs hw hP hD hS => ?_)
              obtain ⟨rv_104, eu⟩ : ∃ z, z = u := ⟨_, rfl⟩
              subst eu
              have hP : va_P (dC, dI) vwCl [(m0, .inr (6, [.int (nI N), .ref x1, .int (nI K), .ref x2, .ref x3, .ref x4, .int (nI lo), .ref x5, .ref x6, .ref x7, .ref x8, .int (nI ns), .int (nI nd), .ref x9, .ref y1, .ref y2, .int (nI rm), .ref y3, .ref y4, .ref y5, .ref y6, .ref y7, .int (nI pls)])), (y1, .inl (cI, 2, .inl (fun z_ => nI (BR z_)))), (y2, .inl (cI, 2, .inl (fun z_ => nI (RP z_)))), (y3, .inl (cJ, 308, .inr (.inl (fun z_ => lN (WT z_))))), (y4, .inl (cJ, 308, .inr (.inl (fun z_ => lN (NX z_)))))] H := hP
              have hD : va_D A [(m0, .inr (6, [.int (nI N), .ref x1, .int (nI K), .ref x2, .ref x3, .ref x4, .int (nI lo), .ref x5, .ref x6, .ref x7, .ref x8, .int (nI ns), .int (nI nd), .ref x9, .ref y1, .ref y2, .int (nI rm), .ref y3, .ref y4, .ref y5, .ref y6, .ref y7, .int (nI pls)])), (y1, .inl (cI, 2, .inl (fun z_ => nI (BR z_)))), (y2, .inl (cI, 2, .inl (fun z_ => nI (RP z_)))), (y3, .inl (cJ, 308, .inr (.inl (fun z_ => lN (WT z_))))), (y4, .inl (cJ, 308, .inr (.inl (fun z_ => lN (NX z_)))))] := hD
              obtain ⟨er, p104_0⟩ := hw
              have p104_0 : rv_104 = sp_qo BR RP 1 sw2 1 := p104_0
              have er : r_104 = (nI rv_104) := er
              subst er
              refine z_isub (v := (nI (4 - rv_104))) hx hb dX6_move_107 (pk_sub (by omega)) ?_
              have o_l1 : (4 - rv_104) = sp_qo BR RP 1 sw2 su := by first | (rw [show su = 1 by omega]; exact p93_0) | (rw [show su = 0 by omega]; omega)
              have o_l2 : (4 - rv_104) ≤ 4 := by first | assumption | omega
              exact L108 (4 - rv_104) o_l1 o_l2 H locs hP hD hS ls (lv_sub hl [1, 2, 3, 4, 5, 6, 7, 8, 0] rfl)
            · skip
              refine lv_aload_n hx hb dX6_move_89 rfl (lv_at hl 1 rfl) ?_
              refine lv_iconst (v := nI 1) hx hb dX6_move_90 (by decide) ?_
              refine lv_iload hx hb dX6_move_91 (lv_at hl 8 rfl) ?_
              refine z_callVi (As := [.int (nI 1), .int (nI sw2)]) (rest := []) (wr := [(y3, .inl (cJ, 308, .inr (.inl (fun z_ => lN (WT z_))))), (y4, .inl (cJ, 308, .inr (.inl (fun z_ => lN (NX z_)))))]) ⟨hx, hb, hml, hown, hts⟩ (c_X6_upChance l dC dI cI cJ H.size m0 x1 x2 x3 x4 x5 x6 x7 x8 x9 y1 y2 y3 y4 y5 y6 y7 N K lo ns nd rm pls BR RP 1 sw2 (by first | assumption | omega) (by first | assumption | omega) (by first | assumption | omega) (by first | assumption | omega)) (cwV 2 hts gX6_move_X6_upChance rfl rfl rfl (by decide +kernel) ⟨Nat.le_of_ble_eq_true rfl, Nat.le_of_ble_eq_true rfl⟩) hA hK hP hD hS [0, 1, 2] [3, 4] [2, 3, 4, 0, 1] rfl rfl (by decide) (by decide) (by decide) nwA_ok hN (ci := 6) rfl rfl 0 rfl hl.1 (Nat.le_of_ble_eq_true rfl) ⟨Nat.le_refl _, Nat.le_refl _⟩ rfl rfl dX6_move_93 (fun (u : (Nat)) => [(m0, .inr (6, [.int (nI N), .ref x1, .int (nI K), .ref x2, .ref x3, .ref x4, .int (nI lo), .ref x5, .ref x6, .ref x7, .ref x8, .int (nI ns), .int (nI nd), .ref x9, .ref y1, .ref y2, .int (nI rm), .ref y3, .ref y4, .ref y5, .ref y6, .ref y7, .int (nI pls)])), (y1, .inl (cI, 2, .inl (fun z_ => nI (BR z_)))), (y2, .inl (cI, 2, .inl (fun z_ => nI (RP z_)))), (y3, .inl (cJ, 308, .inr (.inl (fun z_ => lN (WT z_))))), (y4, .inl (cJ, 308, .inr (.inl (fun z_ => lN (NX z_)))))]) (fun u => rfl) (by decide) (fun r_93 u H locs hw hP hD hS => ?_)
              obtain ⟨rv_93, eu⟩ : ∃ z, z = u := ⟨_, rfl⟩
              subst eu
              have hP : va_P (dC, dI) vwCl [(m0, .inr (6, [.int (nI N), .ref x1, .int (nI K), .ref x2, .ref x3, .ref x4, .int (nI lo), .ref x5, .ref x6, .ref x7, .ref x8, .int (nI ns), .int (nI nd), .ref x9, .ref y1, .ref y2, .int (nI rm), .ref y3, .ref y4, .ref y5, .ref y6, .ref y7, .int (nI pls)])), (y1, .inl (cI, 2, .inl (fun z_ => nI (BR z_)))), (y2, .inl (cI, 2, .inl (fun z_ => nI (RP z_)))), (y3, .inl (cJ, 308, .inr (.inl (fun z_ => lN (WT z_))))), (y4, .inl (cJ, 308, .inr (.inl (fun z_ => lN (NX z_)))))] H := hP
              have hD : va_D A [(m0, .inr (6, [.int (nI N), .ref x1, .int (nI K), .ref x2, .ref x3, .ref x4, .int (nI lo), .ref x5, .ref x6, .ref x7, .ref x8, .int (nI ns), .int (nI nd), .ref x9, .ref y1, .ref y2, .int (nI rm), .ref y3, .ref y4, .ref y5, .ref y6, .ref y7, .int (nI pls)])), (y1, .inl (cI, 2, .inl (fun z_ => nI (BR z_)))), (y2, .inl (cI, 2, .inl (fun z_ => nI (RP z_)))), (y3, .inl (cJ, 308, .inr (.inl (fun z_ => lN (WT z_))))), (y4, .inl (cJ, 308, .inr (.inl (fun z_ => lN (NX z_)))))] := hD
              obtain ⟨er, p93_0⟩ := hw
              have p93_0 : rv_93 = sp_qo BR RP 1 sw2 1 := p93_0
              have er : r_93 = (nI rv_93) := er
              subst er
              refine lv_goto (tgt := 108) hx hb dX6_move_96 (by decide) ?_
              have o_l1 : rv_93 = sp_qo BR RP 1 sw2 su := by first | (rw [show su = 1 by omega]; exact p93_0) | (rw [show su = 0 by omega]; omega)
              have o_l2 : rv_93 ≤ 4 := by first | assumption | omega
              exact L108 rv_93 o_l1 o_l2 H locs hP hD hS ls (lv_sub hl [1, 2, 3, 4, 5, 6, 7, 8, 0] rfl)
          refine lv_iload hx hb dX6_move_58 (lv_at hl 5 rfl) ?_
          refine z_if_eq (tgt := 73) hx hb dX6_move_60 (by decide) (zcn_eq (a := fu) (b := 0) rfl nI_00 (by omega)) (fun c_60 => ?_) (fun c_60 => ?_)
          · skip
            have hq0 := sp_qo_sum bBR bRP 0 (show fw < 2 by omega)
            refine lv_iconst (v := nI 4) hx hb dX6_move_73 (by decide) ?_
            refine lv_aload_n hx hb dX6_move_74 rfl (lv_at hl 1 rfl) ?_
            refine lv_iconst (v := nI 0) hx hb dX6_move_75 (by decide) ?_
            refine lv_iload hx hb dX6_move_76 (lv_at hl 7 rfl) ?_
            refine z_callVi (As := [.int (nI 0), .int (nI fw)]) (rest := [.int (nI 4)]) (wr := [(y3, .inl (cJ, 308, .inr (.inl (fun z_ => lN (WT z_))))), (y4, .inl (cJ, 308, .inr (.inl (fun z_ => lN (NX z_)))))]) ⟨hx, hb, hml, hown, hts⟩ (c_X6_upChance l dC dI cI cJ H.size m0 x1 x2 x3 x4 x5 x6 x7 x8 x9 y1 y2 y3 y4 y5 y6 y7 N K lo ns nd rm pls BR RP 0 fw (by first | assumption | omega) (by first | assumption | omega) (by first | assumption | omega) (by first | assumption | omega)) (cwV 2 hts gX6_move_X6_upChance rfl rfl rfl (by decide +kernel) ⟨Nat.le_of_ble_eq_true rfl, Nat.le_of_ble_eq_true rfl⟩) hA hK hP hD hS [0, 1, 2] [3, 4] [2, 3, 4, 0, 1] rfl rfl (by decide) (by decide) (by decide) nwA_ok hN (ci := 6) rfl rfl 0 rfl hl.1 (Nat.le_of_ble_eq_true rfl) ⟨Nat.le_refl _, Nat.le_refl _⟩ rfl rfl dX6_move_78 (fun (u : (Nat)) => [(m0, .inr (6, [.int (nI N), .ref x1, .int (nI K), .ref x2, .ref x3, .ref x4, .int (nI lo), .ref x5, .ref x6, .ref x7, .ref x8, .int (nI ns), .int (nI nd), .ref x9, .ref y1, .ref y2, .int (nI rm), .ref y3, .ref y4, .ref y5, .ref y6, .ref y7, .int (nI pls)])), (y1, .inl (cI, 2, .inl (fun z_ => nI (BR z_)))), (y2, .inl (cI, 2, .inl (fun z_ => nI (RP z_)))), (y3, .inl (cJ, 308, .inr (.inl (fun z_ => lN (WT z_))))), (y4, .inl (cJ, 308, .inr (.inl (fun z_ => lN (NX z_)))))]) (fun u => rfl) (by decide) (fun r_78 u H locs hw hP hD hS => ?_)
            obtain ⟨rv_78, eu⟩ : ∃ z, z = u := ⟨_, rfl⟩
            subst eu
            have hP : va_P (dC, dI) vwCl [(m0, .inr (6, [.int (nI N), .ref x1, .int (nI K), .ref x2, .ref x3, .ref x4, .int (nI lo), .ref x5, .ref x6, .ref x7, .ref x8, .int (nI ns), .int (nI nd), .ref x9, .ref y1, .ref y2, .int (nI rm), .ref y3, .ref y4, .ref y5, .ref y6, .ref y7, .int (nI pls)])), (y1, .inl (cI, 2, .inl (fun z_ => nI (BR z_)))), (y2, .inl (cI, 2, .inl (fun z_ => nI (RP z_)))), (y3, .inl (cJ, 308, .inr (.inl (fun z_ => lN (WT z_))))), (y4, .inl (cJ, 308, .inr (.inl (fun z_ => lN (NX z_)))))] H := hP
            have hD : va_D A [(m0, .inr (6, [.int (nI N), .ref x1, .int (nI K), .ref x2, .ref x3, .ref x4, .int (nI lo), .ref x5, .ref x6, .ref x7, .ref x8, .int (nI ns), .int (nI nd), .ref x9, .ref y1, .ref y2, .int (nI rm), .ref y3, .ref y4, .ref y5, .ref y6, .ref y7, .int (nI pls)])), (y1, .inl (cI, 2, .inl (fun z_ => nI (BR z_)))), (y2, .inl (cI, 2, .inl (fun z_ => nI (RP z_)))), (y3, .inl (cJ, 308, .inr (.inl (fun z_ => lN (WT z_))))), (y4, .inl (cJ, 308, .inr (.inl (fun z_ => lN (NX z_)))))] := hD
            obtain ⟨er, p78_0⟩ := hw
            have p78_0 : rv_78 = sp_qo BR RP 0 fw 1 := p78_0
            have er : r_78 = (nI rv_78) := er
            subst er
            refine z_isub (v := (nI (4 - rv_78))) hx hb dX6_move_81 (pk_sub (by omega)) ?_
            have o_k1 : (4 - rv_78) = sp_qo BR RP 0 fw fu := by first | (rw [show fu = 1 by omega]; exact p67_0) | (rw [show fu = 0 by omega]; omega)
            have o_k2 : (4 - rv_78) ≤ 4 := by first | assumption | omega
            exact L82 (4 - rv_78) o_k1 o_k2 H locs hP hD hS ls (lv_sub hl [1, 2, 3, 4, 5, 6, 7, 0] rfl)
          · skip
            have hq0 := sp_qo_sum bBR bRP 0 (show fw < 2 by omega)
            refine lv_aload_n hx hb dX6_move_63 rfl (lv_at hl 1 rfl) ?_
            refine lv_iconst (v := nI 0) hx hb dX6_move_64 (by decide) ?_
            refine lv_iload hx hb dX6_move_65 (lv_at hl 7 rfl) ?_
            refine z_callVi (As := [.int (nI 0), .int (nI fw)]) (rest := []) (wr := [(y3, .inl (cJ, 308, .inr (.inl (fun z_ => lN (WT z_))))), (y4, .inl (cJ, 308, .inr (.inl (fun z_ => lN (NX z_)))))]) ⟨hx, hb, hml, hown, hts⟩ (c_X6_upChance l dC dI cI cJ H.size m0 x1 x2 x3 x4 x5 x6 x7 x8 x9 y1 y2 y3 y4 y5 y6 y7 N K lo ns nd rm pls BR RP 0 fw (by first | assumption | omega) (by first | assumption | omega) (by first | assumption | omega) (by first | assumption | omega)) (cwV 2 hts gX6_move_X6_upChance rfl rfl rfl (by decide +kernel) ⟨Nat.le_of_ble_eq_true rfl, Nat.le_of_ble_eq_true rfl⟩) hA hK hP hD hS [0, 1, 2] [3, 4] [2, 3, 4, 0, 1] rfl rfl (by decide) (by decide) (by decide) nwA_ok hN (ci := 6) rfl rfl 0 rfl hl.1 (Nat.le_of_ble_eq_true rfl) ⟨Nat.le_refl _, Nat.le_refl _⟩ rfl rfl dX6_move_67 (fun (u : (Nat)) => [(m0, .inr (6, [.int (nI N), .ref x1, .int (nI K), .ref x2, .ref x3, .ref x4, .int (nI lo), .ref x5, .ref x6, .ref x7, .ref x8, .int (nI ns), .int (nI nd), .ref x9, .ref y1, .ref y2, .int (nI rm), .ref y3, .ref y4, .ref y5, .ref y6, .ref y7, .int (nI pls)])), (y1, .inl (cI, 2, .inl (fun z_ => nI (BR z_)))), (y2, .inl (cI, 2, .inl (fun z_ => nI (RP z_)))), (y3, .inl (cJ, 308, .inr (.inl (fun z_ => lN (WT z_))))), (y4, .inl (cJ, 308, .inr (.inl (fun z_ => lN (NX z_)))))]) (fun u => rfl) (by decide) (fun r_67 u H locs hw hP hD hS => ?_)
            obtain ⟨rv_67, eu⟩ : ∃ z, z = u := ⟨_, rfl⟩
            subst eu
            have hP : va_P (dC, dI) vwCl [(m0, .inr (6, [.int (nI N), .ref x1, .int (nI K), .ref x2, .ref x3, .ref x4, .int (nI lo), .ref x5, .ref x6, .ref x7, .ref x8, .int (nI ns), .int (nI nd), .ref x9, .ref y1, .ref y2, .int (nI rm), .ref y3, .ref y4, .ref y5, .ref y6, .ref y7, .int (nI pls)])), (y1, .inl (cI, 2, .inl (fun z_ => nI (BR z_)))), (y2, .inl (cI, 2, .inl (fun z_ => nI (RP z_)))), (y3, .inl (cJ, 308, .inr (.inl (fun z_ => lN (WT z_))))), (y4, .inl (cJ, 308, .inr (.inl (fun z_ => lN (NX z_)))))] H := hP
            have hD : va_D A [(m0, .inr (6, [.int (nI N), .ref x1, .int (nI K), .ref x2, .ref x3, .ref x4, .int (nI lo), .ref x5, .ref x6, .ref x7, .ref x8, .int (nI ns), .int (nI nd), .ref x9, .ref y1, .ref y2, .int (nI rm), .ref y3, .ref y4, .ref y5, .ref y6, .ref y7, .int (nI pls)])), (y1, .inl (cI, 2, .inl (fun z_ => nI (BR z_)))), (y2, .inl (cI, 2, .inl (fun z_ => nI (RP z_)))), (y3, .inl (cJ, 308, .inr (.inl (fun z_ => lN (WT z_))))), (y4, .inl (cJ, 308, .inr (.inl (fun z_ => lN (NX z_)))))] := hD
            obtain ⟨er, p67_0⟩ := hw
            have p67_0 : rv_67 = sp_qo BR RP 0 fw 1 := p67_0
            have er : r_67 = (nI rv_67) := er
            subst er
            refine lv_goto (tgt := 82) hx hb dX6_move_70 (by decide) ?_
            have o_k1 : rv_67 = sp_qo BR RP 0 fw fu := by first | (rw [show fu = 1 by omega]; exact p67_0) | (rw [show fu = 0 by omega]; omega)
            have o_k2 : rv_67 ≤ 4 := by first | assumption | omega
            exact L82 rv_67 o_k1 o_k2 H locs hP hD hS ls (lv_sub hl [1, 2, 3, 4, 5, 6, 7, 0] rfl)
        refine lv_iload_n hx hb dX6_move_41 rfl (lv_at hl 2 rfl) ?_
        refine lv_bipush (v := nI 77) hx hb dX6_move_42 (by decide) ?_
        refine z_idiv (v := nI (i / 77)) hx hb dX6_move_44 (zn_ne0 (b := 77) rfl (by omega)) (zn_div rfl rfl (by omega)) ?_
        refine lv_iconst (v := nI 2) hx hb dX6_move_45 (by decide) ?_
        refine z_irem (v := nI ((i / 77) % 2)) hx hb dX6_move_46 (zn_ne0 (b := 2) rfl (by omega)) (zn_rem rfl rfl (by omega)) ?_
        refine lv_iconst (v := nI 1) hx hb dX6_move_47 (by decide) ?_
        refine z_icmp_ne (tgt := 55) hx hb dX6_move_48 (by decide) (zcn_eq (a := (i / 77) % 2) (b := 1) rfl rfl (by omega)) (fun c_48 => ?_) (fun c_48 => ?_)
        · skip
          refine lv_iconst (v := nI 0) hx hb dX6_move_55 (by decide) ?_
          have o_o4 : 0 = i / 77 % 2 := by first | assumption | omega
          exact L56 0 o_o4 H locs hP hD hS ls (lv_sub hl [1, 2, 3, 4, 5, 6, 0] rfl)
        · skip
          refine lv_iconst (v := nI 1) hx hb dX6_move_51 (by decide) ?_
          refine lv_goto (tgt := 56) hx hb dX6_move_52 (by decide) ?_
          have o_o4 : 1 = i / 77 % 2 := by first | assumption | omega
          exact L56 1 o_o4 H locs hP hD hS ls (lv_sub hl [1, 2, 3, 4, 5, 6, 0] rfl)
      refine lv_iload_n hx hb dX6_move_26 rfl (lv_at hl 2 rfl) ?_
      refine lv_bipush (v := nI 77) hx hb dX6_move_27 (by decide) ?_
      refine z_idiv (v := nI (i / 77)) hx hb dX6_move_29 (zn_ne0 (b := 77) rfl (by omega)) (zn_div rfl rfl (by omega)) ?_
      refine lv_iconst (v := nI 1) hx hb dX6_move_30 (by decide) ?_
      refine z_icmp_le (tgt := 38) hx hb dX6_move_31 (by decide) (zcn_le (a := i / 77) (b := 1) rfl rfl (by omega)) (fun c_31 => ?_) (fun c_31 => ?_)
      · skip
        refine lv_iconst (v := nI 0) hx hb dX6_move_38 (by decide) ?_
        have o_o3 : 0 = i / 77 / 2 := by first | assumption | omega
        exact L39 0 o_o3 H locs hP hD hS ls (lv_sub hl [1, 2, 3, 4, 5, 0] rfl)
      · skip
        refine lv_iconst (v := nI 1) hx hb dX6_move_34 (by decide) ?_
        refine lv_goto (tgt := 39) hx hb dX6_move_35 (by decide) ?_
        have o_o3 : 1 = i / 77 / 2 := by first | assumption | omega
        exact L39 1 o_o3 H locs hP hD hS ls (lv_sub hl [1, 2, 3, 4, 5, 0] rfl)
    refine lv_iload_n hx hb dX6_move_12 rfl (lv_at hl 4 rfl) ?_
    refine lv_iconst (v := nI 2) hx hb dX6_move_13 (by decide) ?_
    refine z_irem (v := nI (up_ % 2)) hx hb dX6_move_14 (zn_ne0 (b := 2) rfl (by omega)) (zn_rem rfl rfl (by omega)) ?_
    refine lv_iconst (v := nI 1) hx hb dX6_move_15 (by decide) ?_
    refine z_icmp_ne (tgt := 23) hx hb dX6_move_16 (by decide) (zcn_eq (a := up_ % 2) (b := 1) rfl rfl (by omega)) (fun c_16 => ?_) (fun c_16 => ?_)
    · skip
      refine lv_iconst (v := nI 0) hx hb dX6_move_23 (by decide) ?_
      have o_o2 : 0 = up_ % 2 := by first | assumption | omega
      exact L24 0 o_o2 H locs hP hD hS ls (lv_sub hl [1, 2, 3, 4, 0] rfl)
    · skip
      refine lv_iconst (v := nI 1) hx hb dX6_move_19 (by decide) ?_
      refine lv_goto (tgt := 24) hx hb dX6_move_20 (by decide) ?_
      have o_o2 : 1 = up_ % 2 := by first | assumption | omega
      exact L24 1 o_o2 H locs hP hD hS ls (lv_sub hl [1, 2, 3, 4, 0] rfl)
  refine lv_iload_n hx hb dX6_move_0 rfl (lv_at hl 3 rfl) ?_
  refine lv_iconst (v := nI 1) hx hb dX6_move_1 (by decide) ?_
  refine z_icmp_le (tgt := 9) hx hb dX6_move_2 (by decide) (zcn_le (a := up_) (b := 1) rfl rfl (by omega)) (fun c_2 => ?_) (fun c_2 => ?_)
  · skip
    refine lv_iconst (v := nI 0) hx hb dX6_move_9 (by decide) ?_
    have o_o1 : 0 = up_ / 2 := by first | assumption | omega
    exact L10 0 o_o1 H locs hP hD hS ls (lv_sub hl [0, 1, 2, 3] rfl)
  · skip
    refine lv_iconst (v := nI 1) hx hb dX6_move_5 (by decide) ?_
    refine lv_goto (tgt := 10) hx hb dX6_move_6 (by decide) ?_
    have o_o1 : 1 = up_ / 2 := by first | assumption | omega
    exact L10 1 o_o1 H locs hP hD hS ls (lv_sub hl [0, 1, 2, 3] rfl)
