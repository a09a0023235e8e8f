set_option maxHeartbeats 4000000 in
set_option maxRecDepth 100000 in
theorem c_X6_in (l : Launch) (dC : Nat → ClassId) (dI : Nat → Nat → Nat) (cI cJ : ClassId) (sz : Nat) (a : Int) (b : Int) (d : Int) (ba : -1099511627776 ≤ a ∧ a ≤ 1099511627776) (bb : -1099511627776 ≤ b ∧ b ≤ 1099511627776) (bd : -1099511627776 ≤ d ∧ d ≤ 1099511627776) : Met l yX6_in wsX6_in (zR 0 0 0 0) (va_Pc [.long (lI a), .long (lI b), .long (lI d)] (zP (dC, dI) [(cI, .int), (cJ, .long)] [] sz nwA)) (va_Qi (fun (r : Int32) (u : (Nat)) => r = (nI u) ∧ ((u = 1 ∧ (b ≤ a ∧ a ≤ d)) ∨ (u = 0 ∧ ¬ (b ≤ a ∧ a ≤ d)))) (zB (dC, dI) (fun (u : (Nat)) => []) (va_A [] sz)) (va_A [] sz)) 0 0 (va_A [] sz) := by
  refine z_met_z (cc := cX6_in) (maxL := 6) (by decide) rfl (Nat.le_of_ble_eq_true rfl) ?_
  intro p e s m args below meth c Q A ls hx hb hml hown hts hin hA hK hP hD hN hl hRET
  have hown : s.vm.findClass RX6 = some m.cls := hown
  obtain ⟨H, eH⟩ : ∃ H : Heap, H = s.heap := ⟨_, rfl⟩
  rw [← eH] at hP
  obtain ⟨locs, eL⟩ : ∃ z : List Loc, z = [] := ⟨_, rfl⟩
  rw [← eH, ← eL]
  have hS : va_S A s.heap H locs := by rw [eH, eL]; exact va_S.rf
  have hl : lv_has ls 6 [(0, .long (lI a)), (2, .long (lI b)), (4, .long (lI d))] := hl
  refine lv_lload_n hx hb dX6_in_0 rfl (lv_at hl 0 rfl) ?_
  refine lv_lload_n hx hb dX6_in_1 rfl (lv_at hl 1 rfl) ?_
  refine W.lcmp hx hb dX6_in_2 ?_
  refine z_if_lt (tgt := 17) hx hb dX6_in_3 (by decide) ((zm_lt _ _).trans (zl_lt (a := a) (b := b) rfl rfl (by omega))) (fun c_3 => ?_) (fun c_3 => ?_)
  · skip
    refine lv_iconst (v := nI 0) hx hb dX6_in_17 (by decide) ?_
    have q_0 : (0 = 1 ∧ (b ≤ a ∧ a ≤ d)) ∨ (0 = 0 ∧ ¬ (b ≤ a ∧ a ≤ d)) := by omega
    exact hRET _ ls H locs ((nI 0)) (0) dX6_in_18 (by decide) ⟨rfl, q_0⟩ hP hD hS
  · skip
    refine lv_lload_n hx hb dX6_in_6 rfl (lv_at hl 0 rfl) ?_
    refine lv_lload hx hb dX6_in_7 (lv_at hl 2 rfl) ?_
    refine W.lcmp hx hb dX6_in_9 ?_
    refine z_if_gt (tgt := 17) hx hb dX6_in_10 (by decide) ((zm_gt _ _).trans (zl_lt (a := d) (b := a) rfl rfl (by omega))) (fun c_10 => ?_) (fun c_10 => ?_)
    · skip
      refine lv_iconst (v := nI 0) hx hb dX6_in_17 (by decide) ?_
      have q_0 : (0 = 1 ∧ (b ≤ a ∧ a ≤ d)) ∨ (0 = 0 ∧ ¬ (b ≤ a ∧ a ≤ d)) := by omega
      exact hRET _ ls H locs ((nI 0)) (0) dX6_in_18 (by decide) ⟨rfl, q_0⟩ hP hD hS
    · skip
      refine lv_iconst (v := nI 1) hx hb dX6_in_13 (by decide) ?_
      refine lv_goto (tgt := 18) hx hb dX6_in_14 (by decide) ?_
      have q_0 : (1 = 1 ∧ (b ≤ a ∧ a ≤ d)) ∨ (1 = 0 ∧ ¬ (b ≤ a ∧ a ≤ d)) := by omega
      exact hRET _ ls H locs ((nI 1)) (1) dX6_in_18 (by decide) ⟨rfl, q_0⟩ hP hD hS

set_option maxHeartbeats 4000000 in
set_option maxRecDepth 100000 in
theorem c_X6_isStation (l : Launch) (dC : Nat → ClassId) (dI : Nat → Nat → Nat) (cI cJ : ClassId) (sz : Nat) (m0 : Nat) (x1 : Nat) (x2 : Nat) (x3 : Nat) (x4 : Nat) (x5 : Nat) (x6 : Nat) (x7 : Nat) (x8 : Nat) (x9 : Nat) (y1 : Nat) (y2 : Nat) (y3 : Nat) (y4 : Nat) (y5 : Nat) (y6 : Nat) (y7 : Nat) (N : Nat) (K : Nat) (lo : Nat) (ns : Nat) (nd : Nat) (rm : Nat) (pls : Nat) (z : Int) (bN : N ≤ 8) (bK : K ≤ 16) (bz : -2147483648 ≤ z ∧ z < 2147483648) : Met l yX6_isStation wsX6_isStation (zR 1 0 0 25) (va_Pc [.ref m0, .int (iI z)] (zP (dC, dI) [(cI, .int), (cJ, .long)] [(m0, .inr (6, [.int (nI N), .ref x1, .int (nI K), .ref x2, .ref x3, .ref x4, .int (nI lo), .ref x5, .ref x6, .ref x7, .ref x8, .int (nI ns), .int (nI nd), .ref x9, .ref y1, .ref y2, .int (nI rm), .ref y3, .ref y4, .ref y5, .ref y6, .ref y7, .int (nI pls)]))] sz nwA)) (va_Qi (fun (r : Int32) (u : (Nat)) => r = (nI u) ∧ ((u = 1 ∧ (0 ≤ z ∧ z < (N : Int))) ∨ (u = 0 ∧ ¬ (0 ≤ z ∧ z < (N : Int))))) (zB (dC, dI) (fun (u : (Nat)) => [(m0, .inr (6, [.int (nI N), .ref x1, .int (nI K), .ref x2, .ref x3, .ref x4, .int (nI lo), .ref x5, .ref x6, .ref x7, .ref x8, .int (nI ns), .int (nI nd), .ref x9, .ref y1, .ref y2, .int (nI rm), .ref y3, .ref y4, .ref y5, .ref y6, .ref y7, .int (nI pls)]))]) (va_A [(m0, .inr (6, [.int (nI N), .ref x1, .int (nI K), .ref x2, .ref x3, .ref x4, .int (nI lo), .ref x5, .ref x6, .ref x7, .ref x8, .int (nI ns), .int (nI nd), .ref x9, .ref y1, .ref y2, .int (nI rm), .ref y3, .ref y4, .ref y5, .ref y6, .ref y7, .int (nI pls)]))] sz)) (va_A [(m0, .inr (6, [.int (nI N), .ref x1, .int (nI K), .ref x2, .ref x3, .ref x4, .int (nI lo), .ref x5, .ref x6, .ref x7, .ref x8, .int (nI ns), .int (nI nd), .ref x9, .ref y1, .ref y2, .int (nI rm), .ref y3, .ref y4, .ref y5, .ref y6, .ref y7, .int (nI pls)]))] sz)) 0 0 (va_A [(m0, .inr (6, [.int (nI N), .ref x1, .int (nI K), .ref x2, .ref x3, .ref x4, .int (nI lo), .ref x5, .ref x6, .ref x7, .ref x8, .int (nI ns), .int (nI nd), .ref x9, .ref y1, .ref y2, .int (nI rm), .ref y3, .ref y4, .ref y5, .ref y6, .ref y7, .int (nI pls)]))] sz) := by
  refine z_met_z (cc := cX6_isStation) (maxL := 2) (by decide) rfl (Nat.le_of_ble_eq_true rfl) ?_
  intro p e s m args below meth c Q A ls hx hb hml hown hts hin hA hK hP hD hN hl hRET
  have hown : s.vm.findClass RX6 = some m.cls := hown
  obtain ⟨H, eH⟩ : ∃ H : Heap, H = s.heap := ⟨_, rfl⟩
  rw [← eH] at hP
  obtain ⟨locs, eL⟩ : ∃ z : List Loc, z = [] := ⟨_, rfl⟩
  rw [← eH, ← eL]
  have hS : va_S A s.heap H locs := by rw [eH, eL]; exact va_S.rf
  have hl : lv_has ls 2 [(0, .ref m0), (1, .int (iI z))] := hl
  have w59 := hts (.fieldLink RX6 59 "PullCardsModel" "stations" "I") (by decide +kernel)
  have uX6 : ∀ w ∈ wsX60, w ∈ wsX6_isStation := by decide +kernel
  refine lv_iload_n hx hb dX6_isStation_0 rfl (lv_at hl 1 rfl) ?_
  refine lv_i2l (v := (lI z)) hx hb dX6_isStation_1 (zl_i2l rfl (by omega)) ?_
  refine lv_lconst (v := lN 0) hx hb dX6_isStation_2 (by decide) ?_
  refine lv_aload_n hx hb dX6_isStation_3 rfl (lv_at hl 0 rfl) ?_
  refine z_get (D := (dC, dI)) (ci := 6) (v := .int (nI N)) (C := RX6) (T := TX6) (N := 23) hx hb hts uX6 hown hK hP 0 rfl rfl 0 (by decide) w59 rfl rfl dX6_isStation_4 ?_
  refine lv_iconst (v := nI 1) hx hb dX6_isStation_7 (by decide) ?_
  refine z_isub (v := (iI (((N : Nat) : Int) - 1))) hx hb dX6_isStation_8 (za_sub (iI_N _) (iI_N _)) ?_
  refine lv_i2l (v := (lI (((N : Nat) : Int) - 1))) hx hb dX6_isStation_9 (zl_i2l rfl (by omega)) ?_
  refine z_l1 (v := lI 0) (by decide) ?_
  refine z_callSi (As := [.long (lI z), .long (lI 0), .long (lI (((N : Nat) : Int) - 1))]) (rest := []) (wr := [(m0, .inr (6, [.int (nI N), .ref x1, .int (nI K), .ref x2, .ref x3, .ref x4, .int (nI lo), .ref x5, .ref x6, .ref x7, .ref x8, .int (nI ns), .int (nI nd), .ref x9, .ref y1, .ref y2, .int (nI rm), .ref y3, .ref y4, .ref y5, .ref y6, .ref y7, .int (nI pls)]))]) ⟨hx, hb, hml, hown, hts⟩ (c_X6_in l dC dI cI cJ H.size z (0 : Int) (((N : Nat) : Int) - 1) (by first | assumption | omega) (by first | assumption | omega) (by first | assumption | omega)) (va_cwS 3 hts gX6_isStation_X6_in rfl rfl rfl (by decide +kernel) ⟨Nat.le_of_ble_eq_true rfl, Nat.le_of_ble_eq_true rfl⟩) hA hK hP hD hS [] [0] [0] rfl rfl (by decide) (by decide) (by decide) nwA_ok hN hl.1 (Nat.le_of_ble_eq_true rfl) ⟨Nat.le_refl _, Nat.le_refl _⟩ rfl rfl dX6_isStation_10 (fun (u : (Nat)) => [(m0, .inr (6, [.int (nI N), .ref x1, .int (nI K), .ref x2, .ref x3, .ref x4, .int (nI lo), .ref x5, .ref x6, .ref x7, .ref x8, .int (nI ns), .int (nI nd), .ref x9, .ref y1, .ref y2, .int (nI rm), .ref y3, .ref y4, .ref y5, .ref y6, .ref y7, .int (nI pls)]))]) (fun u => rfl) (by decide) (fun r_10 u H locs hw hP hD hS => ?_)
  obtain ⟨rv_10, eu⟩ : ∃ z, z = u := ⟨_, rfl⟩
  subst eu
  have hP : va_P (dC, dI) vwCl [(m0, .inr (6, [.int (nI N), .ref x1, .int (nI K), .ref x2, .ref x3, .ref x4, .int (nI lo), .ref x5, .ref x6, .ref x7, .ref x8, .int (nI ns), .int (nI nd), .ref x9, .ref y1, .ref y2, .int (nI rm), .ref y3, .ref y4, .ref y5, .ref y6, .ref y7, .int (nI pls)]))] H := hP
  have hD : va_D A [(m0, .inr (6, [.int (nI N), .ref x1, .int (nI K), .ref x2, .ref x3, .ref x4, .int (nI lo), .ref x5, .ref x6, .ref x7, .ref x8, .int (nI ns), .int (nI nd), .ref x9, .ref y1, .ref y2, .int (nI rm), .ref y3, .ref y4, .ref y5, .ref y6, .ref y7, .int (nI pls)]))] := hD
  obtain ⟨er, p10_0⟩ := hw
  have p10_0 : (rv_10 = 1 ∧ ((0 : Int) ≤ z ∧ z ≤ (((N : Nat) : Int) - 1))) ∨ (rv_10 = 0 ∧ ¬ ((0 : Int) ≤ z ∧ z ≤ (((N : Nat) : Int) - 1))) := p10_0
  have er : r_10 = (nI rv_10) := er
  subst er
  have q_0 : (rv_10 = 1 ∧ (0 ≤ z ∧ z < (N : Int))) ∨ (rv_10 = 0 ∧ ¬ (0 ≤ z ∧ z < (N : Int))) := by omega
  exact hRET _ ls H locs ((nI rv_10)) (rv_10) dX6_isStation_13 (by exact z_nb (by omega)) ⟨rfl, q_0⟩ hP hD hS

set_option maxHeartbeats 4000000 in
set_option maxRecDepth 100000 in
theorem c_X6_isArc (l : Launch) (dC : Nat → ClassId) (dI : Nat → Nat → Nat) (cI cJ : ClassId) (sz : Nat) (m0 : Nat) (x1 : Nat) (x2 : Nat) (x3 : Nat) (x4 : Nat) (x5 : Nat) (x6 : Nat) (x7 : Nat) (x8 : Nat) (x9 : Nat) (y1 : Nat) (y2 : Nat) (y3 : Nat) (y4 : Nat) (y5 : Nat) (y6 : Nat) (y7 : Nat) (N : Nat) (K : Nat) (lo : Nat) (ns : Nat) (nd : Nat) (rm : Nat) (pls : Nat) (z : Int) (bN : N ≤ 8) (bK : K ≤ 16) (bz : -2147483648 ≤ z ∧ z < 2147483648) : Met l yX6_isArc wsX6_isArc (zR 1 0 0 25) (va_Pc [.ref m0, .int (iI z)] (zP (dC, dI) [(cI, .int), (cJ, .long)] [(m0, .inr (6, [.int (nI N), .ref x1, .int (nI K), .ref x2, .ref x3, .ref x4, .int (nI lo), .ref x5, .ref x6, .ref x7, .ref x8, .int (nI ns), .int (nI nd), .ref x9, .ref y1, .ref y2, .int (nI rm), .ref y3, .ref y4, .ref y5, .ref y6, .ref y7, .int (nI pls)]))] sz nwA)) (va_Qi (fun (r : Int32) (u : (Nat)) => r = (nI u) ∧ ((u = 1 ∧ (0 ≤ z ∧ z < (K : Int))) ∨ (u = 0 ∧ ¬ (0 ≤ z ∧ z < (K : Int))))) (zB (dC, dI) (fun (u : (Nat)) => [(m0, .inr (6, [.int (nI N), .ref x1, .int (nI K), .ref x2, .ref x3, .ref x4, .int (nI lo), .ref x5, .ref x6, .ref x7, .ref x8, .int (nI ns), .int (nI nd), .ref x9, .ref y1, .ref y2, .int (nI rm), .ref y3, .ref y4, .ref y5, .ref y6, .ref y7, .int (nI pls)]))]) (va_A [(m0, .inr (6, [.int (nI N), .ref x1, .int (nI K), .ref x2, .ref x3, .ref x4, .int (nI lo), .ref x5, .ref x6, .ref x7, .ref x8, .int (nI ns), .int (nI nd), .ref x9, .ref y1, .ref y2, .int (nI rm), .ref y3, .ref y4, .ref y5, .ref y6, .ref y7, .int (nI pls)]))] sz)) (va_A [(m0, .inr (6, [.int (nI N), .ref x1, .int (nI K), .ref x2, .ref x3, .ref x4, .int (nI lo), .ref x5, .ref x6, .ref x7, .ref x8, .int (nI ns), .int (nI nd), .ref x9, .ref y1, .ref y2, .int (nI rm), .ref y3, .ref y4, .ref y5, .ref y6, .ref y7, .int (nI pls)]))] sz)) 0 0 (va_A [(m0, .inr (6, [.int (nI N), .ref x1, .int (nI K), .ref x2, .ref x3, .ref x4, .int (nI lo), .ref x5, .ref x6, .ref x7, .ref x8, .int (nI ns), .int (nI nd), .ref x9, .ref y1, .ref y2, .int (nI rm), .ref y3, .ref y4, .ref y5, .ref y6, .ref y7, .int (nI pls)]))] sz) := by
  refine z_met_z (cc := cX6_isArc) (maxL := 2) (by decide) rfl (Nat.le_of_ble_eq_true rfl) ?_
  intro p e s m args below meth c Q A ls hx hb hml hown hts hin hA hK hP hD hN hl hRET
  have hown : s.vm.findClass RX6 = some m.cls := hown
  obtain ⟨H, eH⟩ : ∃ H : Heap, H = s.heap := ⟨_, rfl⟩
  rw [← eH] at hP
  obtain ⟨locs, eL⟩ : ∃ z : List Loc, z = [] := ⟨_, rfl⟩
  rw [← eH, ← eL]
  have hS : va_S A s.heap H locs := by rw [eH, eL]; exact va_S.rf
  have hl : lv_has ls 2 [(0, .ref m0), (1, .int (iI z))] := hl
  have w67 := hts (.fieldLink RX6 67 "PullCardsModel" "arcs" "I") (by decide +kernel)
  have uX6 : ∀ w ∈ wsX60, w ∈ wsX6_isArc := by decide +kernel
  refine lv_iload_n hx hb dX6_isArc_0 rfl (lv_at hl 1 rfl) ?_
  refine lv_i2l (v := (lI z)) hx hb dX6_isArc_1 (zl_i2l rfl (by omega)) ?_
  refine lv_lconst (v := lN 0) hx hb dX6_isArc_2 (by decide) ?_
  refine lv_aload_n hx hb dX6_isArc_3 rfl (lv_at hl 0 rfl) ?_
  refine z_get (D := (dC, dI)) (ci := 6) (v := .int (nI K)) (C := RX6) (T := TX6) (N := 23) hx hb hts uX6 hown hK hP 0 rfl rfl 2 (by decide) w67 rfl rfl dX6_isArc_4 ?_
  refine lv_iconst (v := nI 1) hx hb dX6_isArc_7 (by decide) ?_
  refine z_isub (v := (iI (((K : Nat) : Int) - 1))) hx hb dX6_isArc_8 (za_sub (iI_N _) (iI_N _)) ?_
  refine lv_i2l (v := (lI (((K : Nat) : Int) - 1))) hx hb dX6_isArc_9 (zl_i2l rfl (by omega)) ?_
  refine z_l1 (v := lI 0) (by decide) ?_
  refine z_callSi (As := [.long (lI z), .long (lI 0), .long (lI (((K : Nat) : Int) - 1))]) (rest := []) (wr := [(m0, .inr (6, [.int (nI N), .ref x1, .int (nI K), .ref x2, .ref x3, .ref x4, .int (nI lo), .ref x5, .ref x6, .ref x7, .ref x8, .int (nI ns), .int (nI nd), .ref x9, .ref y1, .ref y2, .int (nI rm), .ref y3, .ref y4, .ref y5, .ref y6, .ref y7, .int (nI pls)]))]) ⟨hx, hb, hml, hown, hts⟩ (c_X6_in l dC dI cI cJ H.size z (0 : Int) (((K : Nat) : Int) - 1) (by first | assumption | omega) (by first | assumption | omega) (by first | assumption | omega)) (va_cwS 3 hts gX6_isArc_X6_in rfl rfl rfl (by decide +kernel) ⟨Nat.le_of_ble_eq_true rfl, Nat.le_of_ble_eq_true rfl⟩) hA hK hP hD hS [] [0] [0] rfl rfl (by decide) (by decide) (by decide) nwA_ok hN hl.1 (Nat.le_of_ble_eq_true rfl) ⟨Nat.le_refl _, Nat.le_refl _⟩ rfl rfl dX6_isArc_10 (fun (u : (Nat)) => [(m0, .inr (6, [.int (nI N), .ref x1, .int (nI K), .ref x2, .ref x3, .ref x4, .int (nI lo), .ref x5, .ref x6, .ref x7, .ref x8, .int (nI ns), .int (nI nd), .ref x9, .ref y1, .ref y2, .int (nI rm), .ref y3, .ref y4, .ref y5, .ref y6, .ref y7, .int (nI pls)]))]) (fun u => rfl) (by decide) (fun r_10 u H locs hw hP hD hS => ?_)
  obtain ⟨rv_10, eu⟩ : ∃ z, z = u := ⟨_, rfl⟩
  subst eu
  have hP : va_P (dC, dI) vwCl [(m0, .inr (6, [.int (nI N), .ref x1, .int (nI K), .ref x2, .ref x3, .ref x4, .int (nI lo), .ref x5, .ref x6, .ref x7, .ref x8, .int (nI ns), .int (nI nd), .ref x9, .ref y1, .ref y2, .int (nI rm), .ref y3, .ref y4, .ref y5, .ref y6, .ref y7, .int (nI pls)]))] H := hP
  have hD : va_D A [(m0, .inr (6, [.int (nI N), .ref x1, .int (nI K), .ref x2, .ref x3, .ref x4, .int (nI lo), .ref x5, .ref x6, .ref x7, .ref x8, .int (nI ns), .int (nI nd), .ref x9, .ref y1, .ref y2, .int (nI rm), .ref y3, .ref y4, .ref y5, .ref y6, .ref y7, .int (nI pls)]))] := hD
  obtain ⟨er, p10_0⟩ := hw
  have p10_0 : (rv_10 = 1 ∧ ((0 : Int) ≤ z ∧ z ≤ (((K : Nat) : Int) - 1))) ∨ (rv_10 = 0 ∧ ¬ ((0 : Int) ≤ z ∧ z ≤ (((K : Nat) : Int) - 1))) := p10_0
  have er : r_10 = (nI rv_10) := er
  subst er
  have q_0 : (rv_10 = 1 ∧ (0 ≤ z ∧ z < (K : Int))) ∨ (rv_10 = 0 ∧ ¬ (0 ≤ z ∧ z < (K : Int))) := by omega
  exact hRET _ ls H locs ((nI rv_10)) (rv_10) dX6_isArc_13 (by exact z_nb (by omega)) ⟨rfl, q_0⟩ hP hD hS

set_option maxHeartbeats 4000000 in
set_option maxRecDepth 100000 in
theorem c_X6_station (l : Launch) (dC : Nat → ClassId) (dI : Nat → Nat → Nat) (cI cJ : ClassId) (sz : Nat) (m0 : Nat) (x1 : Nat) (x2 : Nat) (x3 : Nat) (x4 : Nat) (x5 : Nat) (x6 : Nat) (x7 : Nat) (x8 : Nat) (x9 : Nat) (y1 : Nat) (y2 : Nat) (y3 : Nat) (y4 : Nat) (y5 : Nat) (y6 : Nat) (y7 : Nat) (N : Nat) (K : Nat) (lo : Nat) (ns : Nat) (nd : Nat) (rm : Nat) (pls : Nat) (T : Nat → Nat) (z : Int) (bN : N ≤ 8) (bz : -2147483648 ≤ z ∧ z < 2147483648) : Met l yX6_station wsX6_station (zR 1 0 0 25) (va_Pc [.ref m0, .int (iI z)] (zP (dC, dI) [(cI, .int), (cJ, .long)] [(m0, .inr (6, [.int (nI N), .ref x1, .int (nI K), .ref x2, .ref x3, .ref x4, .int (nI lo), .ref x5, .ref x6, .ref x7, .ref x8, .int (nI ns), .int (nI nd), .ref x9, .ref y1, .ref y2, .int (nI rm), .ref y3, .ref y4, .ref y5, .ref y6, .ref y7, .int (nI pls)])), (x1, .inl (cI, 8, .inl (fun z_ => nI (T z_))))] sz nwA)) (va_Qi (fun (r : Int32) (u : (Int) × (Nat) × (Nat → Nat) × (Nat)) => r = (iI u.1) ∧ (u.1 = if 1 ≤ z ∧ z ≤ 20 then (if N < 8 then (N : Int) else -4) else -2) ∧ (u.2.1 = if ((1 ≤ z ∧ z ≤ 20) ∧ N < 8) then N + 1 else N) ∧ (u.2.2.1 = if ((1 ≤ z ∧ z ≤ 20) ∧ N < 8) then up T N z.toNat else T) ∧ (u.2.2.2 = if ((1 ≤ z ∧ z ≤ 20) ∧ N < 8) then 0 else ns)) (zB (dC, dI) (fun (u : (Int) × (Nat) × (Nat → Nat) × (Nat)) => [(m0, .inr (6, [.int (nI u.2.1), .ref x1, .int (nI K), .ref x2, .ref x3, .ref x4, .int (nI lo), .ref x5, .ref x6, .ref x7, .ref x8, .int (nI u.2.2.2), .int (nI nd), .ref x9, .ref y1, .ref y2, .int (nI rm), .ref y3, .ref y4, .ref y5, .ref y6, .ref y7, .int (nI pls)])), (x1, .inl (cI, 8, .inl (fun z_ => nI (u.2.2.1 z_))))]) (va_A [(m0, .inr (6, [.int (nI N), .ref x1, .int (nI K), .ref x2, .ref x3, .ref x4, .int (nI lo), .ref x5, .ref x6, .ref x7, .ref x8, .int (nI ns), .int (nI nd), .ref x9, .ref y1, .ref y2, .int (nI rm), .ref y3, .ref y4, .ref y5, .ref y6, .ref y7, .int (nI pls)])), (x1, .inl (cI, 8, .inl (fun z_ => nI (T z_))))] sz)) (va_A [(m0, .inr (6, [.int (nI N), .ref x1, .int (nI K), .ref x2, .ref x3, .ref x4, .int (nI lo), .ref x5, .ref x6, .ref x7, .ref x8, .int (nI ns), .int (nI nd), .ref x9, .ref y1, .ref y2, .int (nI rm), .ref y3, .ref y4, .ref y5, .ref y6, .ref y7, .int (nI pls)])), (x1, .inl (cI, 8, .inl (fun z_ => nI (T z_))))] sz)) 0 0 (va_A [(m0, .inr (6, [.int (nI N), .ref x1, .int (nI K), .ref x2, .ref x3, .ref x4, .int (nI lo), .ref x5, .ref x6, .ref x7, .ref x8, .int (nI ns), .int (nI nd), .ref x9, .ref y1, .ref y2, .int (nI rm), .ref y3, .ref y4, .ref y5, .ref y6, .ref y7, .int (nI pls)])), (x1, .inl (cI, 8, .inl (fun z_ => nI (T z_))))] sz) := by
  refine z_met_i (cc := cX6_station) (maxL := 2) (by decide) rfl (Nat.le_of_ble_eq_true rfl) ?_
  intro p e s m args below meth c Q A ls hx hb hml hown hts hin hA hK hP hD hN hl hRET
  have hown : s.vm.findClass RX6 = some m.cls := hown
  obtain ⟨H, eH⟩ : ∃ H : Heap, H = s.heap := ⟨_, rfl⟩
  rw [← eH] at hP
  obtain ⟨locs, eL⟩ : ∃ z : List Loc, z = [] := ⟨_, rfl⟩
  rw [← eH, ← eL]
  have hS : va_S A s.heap H locs := by rw [eH, eL]; exact va_S.rf
  have hl : lv_has ls 2 [(0, .ref m0), (1, .int (iI z))] := hl
  have w59 := hts (.fieldLink RX6 59 "PullCardsModel" "stations" "I") (by decide +kernel)
  have uX6 : ∀ w ∈ wsX60, w ∈ wsX6_station := by decide +kernel
  have w7 := hts (.fieldLink RX6 7 "PullCardsModel" "time" "[I") (by decide +kernel)
  have w72 := hts (.fieldLink RX6 72 "PullCardsModel" "isNoted" "Z") (by decide +kernel)
  refine lv_iload_n hx hb dX6_station_0 rfl (lv_at hl 1 rfl) ?_
  refine lv_i2l (v := (lI z)) hx hb dX6_station_1 (zl_i2l rfl (by omega)) ?_
  refine lv_lconst (v := lN 1) hx hb dX6_station_2 (by decide) ?_
  refine lv_ldc2 (v := (20 : Int64)) hx hb hown (hts (.constantLong RX6 70 (20)) (by decide +kernel)) dX6_station_3 ?_
  refine z_l0 (v := (lN 20)) (by decide) ?_
  refine z_l0 (v := lI 20) (by decide) ?_
  refine z_l1 (v := lI 1) (by decide) ?_
  refine z_callSi (As := [.long (lI z), .long (lI 1), .long (lI 20)]) (rest := []) (wr := [(m0, .inr (6, [.int (nI N), .ref x1, .int (nI K), .ref x2, .ref x3, .ref x4, .int (nI lo), .ref x5, .ref x6, .ref x7, .ref x8, .int (nI ns), .int (nI nd), .ref x9, .ref y1, .ref y2, .int (nI rm), .ref y3, .ref y4, .ref y5, .ref y6, .ref y7, .int (nI pls)])), (x1, .inl (cI, 8, .inl (fun z_ => nI (T z_))))]) ⟨hx, hb, hml, hown, hts⟩ (c_X6_in l dC dI cI cJ H.size z (1 : Int) (20 : Int) (by first | assumption | omega) (by first | assumption | omega) (by first | assumption | omega)) (va_cwS 3 hts gX6_station_X6_in rfl rfl rfl (by decide +kernel) ⟨Nat.le_of_ble_eq_true rfl, Nat.le_of_ble_eq_true rfl⟩) hA hK hP hD hS [] [0, 1] [0, 1] rfl rfl (by decide) (by decide) (by decide) nwA_ok hN hl.1 (Nat.le_of_ble_eq_true rfl) ⟨Nat.le_refl _, Nat.le_refl _⟩ rfl rfl dX6_station_6 (fun (u : (Nat)) => [(m0, .inr (6, [.int (nI N), .ref x1, .int (nI K), .ref x2, .ref x3, .ref x4, .int (nI lo), .ref x5, .ref x6, .ref x7, .ref x8, .int (nI ns), .int (nI nd), .ref x9, .ref y1, .ref y2, .int (nI rm), .ref y3, .ref y4, .ref y5, .ref y6, .ref y7, .int (nI pls)])), (x1, .inl (cI, 8, .inl (fun z_ => nI (T z_))))]) (fun u => rfl) (by decide) (fun r_6 u H locs hw hP hD hS => ?_)
  obtain ⟨rv_6, eu⟩ : ∃ z, z = u := ⟨_, rfl⟩
  subst eu
  have hP : va_P (dC, dI) vwCl [(m0, .inr (6, [.int (nI N), .ref x1, .int (nI K), .ref x2, .ref x3, .ref x4, .int (nI lo), .ref x5, .ref x6, .ref x7, .ref x8, .int (nI ns), .int (nI nd), .ref x9, .ref y1, .ref y2, .int (nI rm), .ref y3, .ref y4, .ref y5, .ref y6, .ref y7, .int (nI pls)])), (x1, .inl (cI, 8, .inl (fun z_ => nI (T z_))))] H := hP
  have hD : va_D A [(m0, .inr (6, [.int (nI N), .ref x1, .int (nI K), .ref x2, .ref x3, .ref x4, .int (nI lo), .ref x5, .ref x6, .ref x7, .ref x8, .int (nI ns), .int (nI nd), .ref x9, .ref y1, .ref y2, .int (nI rm), .ref y3, .ref y4, .ref y5, .ref y6, .ref y7, .int (nI pls)])), (x1, .inl (cI, 8, .inl (fun z_ => nI (T z_))))] := hD
  obtain ⟨er, p6_0⟩ := hw
  have p6_0 : (rv_6 = 1 ∧ ((1 : Int) ≤ z ∧ z ≤ (20 : Int))) ∨ (rv_6 = 0 ∧ ¬ ((1 : Int) ≤ z ∧ z ≤ (20 : Int))) := p6_0
  have er : r_6 = (nI rv_6) := er
  subst er
  rcases p6_0 with ⟨h6, c_6⟩ | ⟨h6, c_6⟩
  · skip
    subst h6
    refine lv_if_ne (tgt := 15) hx hb dX6_station_9 (by decide) (fun _ => ?_) (fun c_x => absurd c_x (by decide))
    refine lv_aload_n hx hb dX6_station_15 rfl (lv_at hl 0 rfl) ?_
    refine z_get (D := (dC, dI)) (ci := 6) (v := .int (nI N)) (C := RX6) (T := TX6) (N := 23) hx hb hts uX6 hown hK hP 0 rfl rfl 0 (by decide) w59 rfl rfl dX6_station_16 ?_
    refine lv_bipush (v := nI 8) hx hb dX6_station_19 (by decide) ?_
    refine z_icmp_ne (tgt := 27) hx hb dX6_station_21 (by decide) (zcn_eq (a := N) (b := 8) rfl rfl (by omega)) (fun c_21 => ?_) (fun c_21 => ?_)
    · skip
      refine lv_aload_n hx hb dX6_station_27 rfl (lv_at hl 0 rfl) ?_
      refine z_get (D := (dC, dI)) (ci := 6) (v := .ref x1) (C := RX6) (T := TX6) (N := 23) hx hb hts uX6 hown hK hP 0 rfl rfl 1 (by decide) w7 rfl rfl dX6_station_28 ?_
      refine lv_aload_n hx hb dX6_station_31 rfl (lv_at hl 0 rfl) ?_
      refine z_get (D := (dC, dI)) (ci := 6) (v := .int (nI N)) (C := RX6) (T := TX6) (N := 23) hx hb hts uX6 hown hK hP 0 rfl rfl 0 (by decide) w59 rfl rfl dX6_station_32 ?_
      refine lv_iload_n hx hb dX6_station_35 rfl (lv_at hl 1 rfl) ?_
      refine z_c0 (v := nI z.toNat) (z_ZtoN (by first | assumption | omega)) ?_
      refine z_iast hx hb hK hP hD hS 1 0 rfl rfl N rfl (by omega) (upd_N T N z.toNat) [(m0, .inr (6, [.int (nI N), .ref x1, .int (nI K), .ref x2, .ref x3, .ref x4, .int (nI lo), .ref x5, .ref x6, .ref x7, .ref x8, .int (nI ns), .int (nI nd), .ref x9, .ref y1, .ref y2, .int (nI rm), .ref y3, .ref y4, .ref y5, .ref y6, .ref y7, .int (nI pls)])), (x1, .inl (cI, 8, .inl (fun z_ => nI ((up T N z.toNat) z_))))] rfl dX6_station_36 (fun H locs hP hD hS => ?_)
      refine lv_aload_n hx hb dX6_station_37 rfl (lv_at hl 0 rfl) ?_
      refine lv_dup hx hb dX6_station_38 rfl ?_
      refine z_get (D := (dC, dI)) (ci := 6) (v := .int (nI N)) (C := RX6) (T := TX6) (N := 23) hx hb hts uX6 hown hK hP 0 rfl rfl 0 (by decide) w59 rfl rfl dX6_station_39 ?_
      refine lv_iconst (v := nI 1) hx hb dX6_station_42 (by decide) ?_
      refine z_iadd (v := (nI (N + 1))) hx hb dX6_station_43 (nI_add _ _) ?_
      refine z_put (D := (dC, dI)) (ci := 6) (v := .int (nI (N + 1))) (C := RX6) (T := TX6) (N := 23) hx hb hts uX6 tyX6 tyX6_ok nmX6 hown hK hP hD hS 0 rfl rfl 0 (by decide) w59 rfl rfl rfl rfl (Nat.le_of_ble_eq_true rfl) [(m0, .inr (6, [.int (nI (N + 1)), .ref x1, .int (nI K), .ref x2, .ref x3, .ref x4, .int (nI lo), .ref x5, .ref x6, .ref x7, .ref x8, .int (nI ns), .int (nI nd), .ref x9, .ref y1, .ref y2, .int (nI rm), .ref y3, .ref y4, .ref y5, .ref y6, .ref y7, .int (nI pls)])), (x1, .inl (cI, 8, .inl (fun z_ => nI ((up T N z.toNat) z_))))] rfl dX6_station_44 (fun H locs hP hD hS => ?_)
      refine lv_aload_n hx hb dX6_station_47 rfl (lv_at hl 0 rfl) ?_
      refine lv_iconst (v := nI 0) hx hb dX6_station_48 (by decide) ?_
      refine z_put (D := (dC, dI)) (ci := 6) (v := .int (nI 0)) (C := RX6) (T := TX6) (N := 23) hx hb hts uX6 tyX6 tyX6_ok nmX6 hown hK hP hD hS 0 rfl rfl 11 (by decide) w72 rfl rfl (by decide) (by decide) (Nat.le_of_ble_eq_true rfl) [(m0, .inr (6, [.int (nI (N + 1)), .ref x1, .int (nI K), .ref x2, .ref x3, .ref x4, .int (nI lo), .ref x5, .ref x6, .ref x7, .ref x8, .int (nI 0), .int (nI nd), .ref x9, .ref y1, .ref y2, .int (nI rm), .ref y3, .ref y4, .ref y5, .ref y6, .ref y7, .int (nI pls)])), (x1, .inl (cI, 8, .inl (fun z_ => nI ((up T N z.toNat) z_))))] rfl dX6_station_49 (fun H locs hP hD hS => ?_)
      refine lv_aload_n hx hb dX6_station_52 rfl (lv_at hl 0 rfl) ?_
      refine z_get (D := (dC, dI)) (ci := 6) (v := .int (nI (N + 1))) (C := RX6) (T := TX6) (N := 23) hx hb hts uX6 hown hK hP 0 rfl rfl 0 (by decide) w59 rfl rfl dX6_station_53 ?_
      refine lv_iconst (v := nI 1) hx hb dX6_station_56 (by decide) ?_
      refine z_isub (v := (nI ((N + 1) - 1))) hx hb dX6_station_57 (pk_sub (by omega)) ?_
      refine z_c0 (v := iI (((N + 1) - 1 : Nat) : Int)) (iI_N _) ?_
      have q_0 : (((N + 1) - 1 : Nat) : Int) = if 1 ≤ z ∧ z ≤ 20 then (if N < 8 then (N : Int) else -4) else -2 := by (repeat (first | rw [if_pos (by omega)] | rw [if_neg (by omega)])); try omega
      have q_1 : (N + 1) = if ((1 ≤ z ∧ z ≤ 20) ∧ N < 8) then N + 1 else N := by (repeat (first | rw [if_pos (by omega)] | rw [if_neg (by omega)])); try omega
      have q_2 : (up T N z.toNat) = if ((1 ≤ z ∧ z ≤ 20) ∧ N < 8) then up T N z.toNat else T := by (repeat (first | rw [if_pos (by omega)] | rw [if_neg (by omega)])); try omega
      have q_3 : 0 = if ((1 ≤ z ∧ z ≤ 20) ∧ N < 8) then 0 else ns := by (repeat (first | rw [if_pos (by omega)] | rw [if_neg (by omega)])); try omega
      exact hRET _ ls H locs ((iI (((N + 1) - 1 : Nat) : Int))) ((((N + 1) - 1 : Nat) : Int), N + 1, up T N z.toNat, 0) dX6_station_58 ⟨rfl, q_0, q_1, q_2, q_3⟩ hP hD hS
    · skip
      refine lv_bipush (v := iI (-4)) hx hb dX6_station_24 (by decide) ?_
      have q_0 : (-4 : Int) = if 1 ≤ z ∧ z ≤ 20 then (if N < 8 then (N : Int) else -4) else -2 := by (repeat (first | rw [if_pos (by omega)] | rw [if_neg (by omega)])); try omega
      have q_1 : N = if ((1 ≤ z ∧ z ≤ 20) ∧ N < 8) then N + 1 else N := by (repeat (first | rw [if_pos (by omega)] | rw [if_neg (by omega)])); try omega
      have q_2 : T = if ((1 ≤ z ∧ z ≤ 20) ∧ N < 8) then up T N z.toNat else T := by (repeat (first | rw [if_pos (by omega)] | rw [if_neg (by omega)])); try omega
      have q_3 : ns = if ((1 ≤ z ∧ z ≤ 20) ∧ N < 8) then 0 else ns := by (repeat (first | rw [if_pos (by omega)] | rw [if_neg (by omega)])); try omega
      exact hRET _ ls H locs ((iI (-4))) ((-4 : Int), N, T, ns) dX6_station_26 ⟨rfl, q_0, q_1, q_2, q_3⟩ hP hD hS
  · skip
    subst h6
    refine lv_if_ne (tgt := 15) hx hb dX6_station_9 (by decide) (fun c_x => absurd c_x (by decide)) (fun _ => ?_)
    refine lv_bipush (v := iI (-2)) hx hb dX6_station_12 (by decide) ?_
    have q_0 : (-2 : Int) = if 1 ≤ z ∧ z ≤ 20 then (if N < 8 then (N : Int) else -4) else -2 := by (repeat (first | rw [if_pos (by omega)] | rw [if_neg (by omega)])); try omega
    have q_1 : N = if ((1 ≤ z ∧ z ≤ 20) ∧ N < 8) then N + 1 else N := by (repeat (first | rw [if_pos (by omega)] | rw [if_neg (by omega)])); try omega
    have q_2 : T = if ((1 ≤ z ∧ z ≤ 20) ∧ N < 8) then up T N z.toNat else T := by (repeat (first | rw [if_pos (by omega)] | rw [if_neg (by omega)])); try omega
    have q_3 : ns = if ((1 ≤ z ∧ z ≤ 20) ∧ N < 8) then 0 else ns := by (repeat (first | rw [if_pos (by omega)] | rw [if_neg (by omega)])); try omega
    exact hRET _ ls H locs ((iI (-2))) ((-2 : Int), N, T, ns) dX6_station_14 ⟨rfl, q_0, q_1, q_2, q_3⟩ hP hD hS

set_option maxHeartbeats 4000000 in
set_option maxRecDepth 100000 in
theorem c_X6_arc (l : Launch) (dC : Nat → ClassId) (dI : Nat → Nat → Nat) (cI cJ : ClassId) (sz : Nat) (m0 : Nat) (x1 : Nat) (x2 : Nat) (x3 : Nat) (x4 : Nat) (x5 : Nat) (x6 : Nat) (x7 : Nat) (x8 : Nat) (x9 : Nat) (y1 : Nat) (y2 : Nat) (y3 : Nat) (y4 : Nat) (y5 : Nat) (y6 : Nat) (y7 : Nat) (N : Nat) (K : Nat) (lo : Nat) (ns : Nat) (nd : Nat) (rm : Nat) (pls : Nat) (F : Nat → Nat) (G : Nat → Nat) (C : Nat → Nat) (f : Int) (g : Int) (k : Int) (bN : N ≤ 8) (bK : K ≤ 16) (bf : -2147483648 ≤ f ∧ f < 2147483648) (bg : -2147483648 ≤ g ∧ g < 2147483648) (bk : -2147483648 ≤ k ∧ k < 2147483648) : Met l yX6_arc wsX6_arc (zR 2 0 0 46) (va_Pc [.ref m0, .int (iI f), .int (iI g), .int (iI k)] (zP (dC, dI) [(cI, .int), (cJ, .long)] [(m0, .inr (6, [.int (nI N), .ref x1, .int (nI K), .ref x2, .ref x3, .ref x4, .int (nI lo), .ref x5, .ref x6, .ref x7, .ref x8, .int (nI ns), .int (nI nd), .ref x9, .ref y1, .ref y2, .int (nI rm), .ref y3, .ref y4, .ref y5, .ref y6, .ref y7, .int (nI pls)])), (x2, .inl (cI, 16, .inl (fun z_ => nI (F z_)))), (x3, .inl (cI, 16, .inl (fun z_ => nI (G z_)))), (x4, .inl (cI, 16, .inl (fun z_ => nI (C z_))))] sz nwA)) (va_Qi (fun (r : Int32) (u : (Int) × (Nat) × (Nat → Nat) × (Nat → Nat) × (Nat → Nat) × (Nat)) => r = (iI u.1) ∧ (u.1 = if ((0 ≤ f ∧ f < (N : Int)) ∧ (0 ≤ g ∧ g < (N : Int))) then (if 0 ≤ k ∧ k ≤ 9 then (if K < 16 then (K : Int) else -4) else -2) else -1) ∧ (u.2.1 = if ((((0 ≤ f ∧ f < (N : Int)) ∧ (0 ≤ g ∧ g < (N : Int))) ∧ (0 ≤ k ∧ k ≤ 9)) ∧ K < 16) then K + 1 else K) ∧ (u.2.2.1 = if ((((0 ≤ f ∧ f < (N : Int)) ∧ (0 ≤ g ∧ g < (N : Int))) ∧ (0 ≤ k ∧ k ≤ 9)) ∧ K < 16) then up F K f.toNat else F) ∧ (u.2.2.2.1 = if ((((0 ≤ f ∧ f < (N : Int)) ∧ (0 ≤ g ∧ g < (N : Int))) ∧ (0 ≤ k ∧ k ≤ 9)) ∧ K < 16) then up G K g.toNat else G) ∧ (u.2.2.2.2.1 = if ((((0 ≤ f ∧ f < (N : Int)) ∧ (0 ≤ g ∧ g < (N : Int))) ∧ (0 ≤ k ∧ k ≤ 9)) ∧ K < 16) then up C K k.toNat else C) ∧ (u.2.2.2.2.2 = if ((((0 ≤ f ∧ f < (N : Int)) ∧ (0 ≤ g ∧ g < (N : Int))) ∧ (0 ≤ k ∧ k ≤ 9)) ∧ K < 16) then 0 else ns)) (zB (dC, dI) (fun (u : (Int) × (Nat) × (Nat → Nat) × (Nat → Nat) × (Nat → Nat) × (Nat)) => [(m0, .inr (6, [.int (nI N), .ref x1, .int (nI u.2.1), .ref x2, .ref x3, .ref x4, .int (nI lo), .ref x5, .ref x6, .ref x7, .ref x8, .int (nI u.2.2.2.2.2), .int (nI nd), .ref x9, .ref y1, .ref y2, .int (nI rm), .ref y3, .ref y4, .ref y5, .ref y6, .ref y7, .int (nI pls)])), (x2, .inl (cI, 16, .inl (fun z_ => nI (u.2.2.1 z_)))), (x3, .inl (cI, 16, .inl (fun z_ => nI (u.2.2.2.1 z_)))), (x4, .inl (cI, 16, .inl (fun z_ => nI (u.2.2.2.2.1 z_))))]) (va_A [(m0, .inr (6, [.int (nI N), .ref x1, .int (nI K), .ref x2, .ref x3, .ref x4, .int (nI lo), .ref x5, .ref x6, .ref x7, .ref x8, .int (nI ns), .int (nI nd), .ref x9, .ref y1, .ref y2, .int (nI rm), .ref y3, .ref y4, .ref y5, .ref y6, .ref y7, .int (nI pls)])), (x2, .inl (cI, 16, .inl (fun z_ => nI (F z_)))), (x3, .inl (cI, 16, .inl (fun z_ => nI (G z_)))), (x4, .inl (cI, 16, .inl (fun z_ => nI (C z_))))] sz)) (va_A [(m0, .inr (6, [.int (nI N), .ref x1, .int (nI K), .ref x2, .ref x3, .ref x4, .int (nI lo), .ref x5, .ref x6, .ref x7, .ref x8, .int (nI ns), .int (nI nd), .ref x9, .ref y1, .ref y2, .int (nI rm), .ref y3, .ref y4, .ref y5, .ref y6, .ref y7, .int (nI pls)])), (x2, .inl (cI, 16, .inl (fun z_ => nI (F z_)))), (x3, .inl (cI, 16, .inl (fun z_ => nI (G z_)))), (x4, .inl (cI, 16, .inl (fun z_ => nI (C z_))))] sz)) 0 0 (va_A [(m0, .inr (6, [.int (nI N), .ref x1, .int (nI K), .ref x2, .ref x3, .ref x4, .int (nI lo), .ref x5, .ref x6, .ref x7, .ref x8, .int (nI ns), .int (nI nd), .ref x9, .ref y1, .ref y2, .int (nI rm), .ref y3, .ref y4, .ref y5, .ref y6, .ref y7, .int (nI pls)])), (x2, .inl (cI, 16, .inl (fun z_ => nI (F z_)))), (x3, .inl (cI, 16, .inl (fun z_ => nI (G z_)))), (x4, .inl (cI, 16, .inl (fun z_ => nI (C z_))))] sz) := by
  refine z_met_i (cc := cX6_arc) (maxL := 4) (by decide) rfl (Nat.le_of_ble_eq_true rfl) ?_
  intro p e s m args below meth c Q A ls hx hb hml hown hts hin hA hK hP hD hN hl hRET
  have hown : s.vm.findClass RX6 = some m.cls := hown
  obtain ⟨H, eH⟩ : ∃ H : Heap, H = s.heap := ⟨_, rfl⟩
  rw [← eH] at hP
  obtain ⟨locs, eL⟩ : ∃ z : List Loc, z = [] := ⟨_, rfl⟩
  rw [← eH, ← eL]
  have hS : va_S A s.heap H locs := by rw [eH, eL]; exact va_S.rf
  have hl : lv_has ls 4 [(0, .ref m0), (1, .int (iI f)), (2, .int (iI g)), (3, .int (iI k))] := hl
  have w67 := hts (.fieldLink RX6 67 "PullCardsModel" "arcs" "I") (by decide +kernel)
  have uX6 : ∀ w ∈ wsX60, w ∈ wsX6_arc := by decide +kernel
  have w13 := hts (.fieldLink RX6 13 "PullCardsModel" "from" "[I") (by decide +kernel)
  have w16 := hts (.fieldLink RX6 16 "PullCardsModel" "to" "[I") (by decide +kernel)
  have w19 := hts (.fieldLink RX6 19 "PullCardsModel" "cards" "[I") (by decide +kernel)
  have w72 := hts (.fieldLink RX6 72 "PullCardsModel" "isNoted" "Z") (by decide +kernel)
  refine lv_aload_n hx hb dX6_arc_0 rfl (lv_at hl 0 rfl) ?_
  refine lv_iload_n hx hb dX6_arc_1 rfl (lv_at hl 1 rfl) ?_
  refine z_callVi (As := [.int (iI f)]) (rest := []) (wr := [(x2, .inl (cI, 16, .inl (fun z_ => nI (F z_)))), (x3, .inl (cI, 16, .inl (fun z_ => nI (G z_)))), (x4, .inl (cI, 16, .inl (fun z_ => nI (C z_))))]) ⟨hx, hb, hml, hown, hts⟩ (c_X6_isStation l dC dI cI cJ H.size m0 x1 x2 x3 x4 x5 x6 x7 x8 x9 y1 y2 y3 y4 y5 y6 y7 N K lo ns nd rm pls f (by first | assumption | omega) (by first | assumption | omega) (by first | assumption | omega)) (cwV 1 hts gX6_arc_X6_isStation rfl rfl rfl (by decide +kernel) ⟨Nat.le_of_ble_eq_true rfl, Nat.le_of_ble_eq_true rfl⟩) hA hK hP hD hS [0] [1, 2, 3] [3, 0, 1, 2] rfl rfl (by decide) (by decide) (by decide) nwA_ok hN (ci := 6) rfl rfl 0 rfl hl.1 (Nat.le_of_ble_eq_true rfl) ⟨Nat.le_refl _, Nat.le_refl _⟩ rfl rfl dX6_arc_2 (fun (u : (Nat)) => [(m0, .inr (6, [.int (nI N), .ref x1, .int (nI K), .ref x2, .ref x3, .ref x4, .int (nI lo), .ref x5, .ref x6, .ref x7, .ref x8, .int (nI ns), .int (nI nd), .ref x9, .ref y1, .ref y2, .int (nI rm), .ref y3, .ref y4, .ref y5, .ref y6, .ref y7, .int (nI pls)])), (x2, .inl (cI, 16, .inl (fun z_ => nI (F z_)))), (x3, .inl (cI, 16, .inl (fun z_ => nI (G z_)))), (x4, .inl (cI, 16, .inl (fun z_ => nI (C z_))))]) (fun u => rfl) (by decide) (fun r_2 u H locs hw hP hD hS => ?_)
  obtain ⟨rv_2, eu⟩ : ∃ z, z = u := ⟨_, rfl⟩
  subst eu
  have hP : va_P (dC, dI) vwCl [(m0, .inr (6, [.int (nI N), .ref x1, .int (nI K), .ref x2, .ref x3, .ref x4, .int (nI lo), .ref x5, .ref x6, .ref x7, .ref x8, .int (nI ns), .int (nI nd), .ref x9, .ref y1, .ref y2, .int (nI rm), .ref y3, .ref y4, .ref y5, .ref y6, .ref y7, .int (nI pls)])), (x2, .inl (cI, 16, .inl (fun z_ => nI (F z_)))), (x3, .inl (cI, 16, .inl (fun z_ => nI (G z_)))), (x4, .inl (cI, 16, .inl (fun z_ => nI (C z_))))] H := hP
  have hD : va_D A [(m0, .inr (6, [.int (nI N), .ref x1, .int (nI K), .ref x2, .ref x3, .ref x4, .int (nI lo), .ref x5, .ref x6, .ref x7, .ref x8, .int (nI ns), .int (nI nd), .ref x9, .ref y1, .ref y2, .int (nI rm), .ref y3, .ref y4, .ref y5, .ref y6, .ref y7, .int (nI pls)])), (x2, .inl (cI, 16, .inl (fun z_ => nI (F z_)))), (x3, .inl (cI, 16, .inl (fun z_ => nI (G z_)))), (x4, .inl (cI, 16, .inl (fun z_ => nI (C z_))))] := hD
  obtain ⟨er, p2_0⟩ := hw
  have p2_0 : (rv_2 = 1 ∧ (0 ≤ f ∧ f < (N : Int))) ∨ (rv_2 = 0 ∧ ¬ (0 ≤ f ∧ f < (N : Int))) := p2_0
  have er : r_2 = (nI rv_2) := er
  subst er
  rcases p2_0 with ⟨h2, c_2⟩ | ⟨h2, c_2⟩
  · skip
    subst h2
    refine lv_if_eq (tgt := 16) hx hb dX6_arc_5 (by decide) (fun c_x => absurd c_x (by decide)) (fun _ => ?_)
    refine lv_aload_n hx hb dX6_arc_8 rfl (lv_at hl 0 rfl) ?_
    refine lv_iload_n hx hb dX6_arc_9 rfl (lv_at hl 2 rfl) ?_
    refine z_callVi (As := [.int (iI g)]) (rest := []) (wr := [(x2, .inl (cI, 16, .inl (fun z_ => nI (F z_)))), (x3, .inl (cI, 16, .inl (fun z_ => nI (G z_)))), (x4, .inl (cI, 16, .inl (fun z_ => nI (C z_))))]) ⟨hx, hb, hml, hown, hts⟩ (c_X6_isStation l dC dI cI cJ H.size m0 x1 x2 x3 x4 x5 x6 x7 x8 x9 y1 y2 y3 y4 y5 y6 y7 N K lo ns nd rm pls g (by first | assumption | omega) (by first | assumption | omega) (by first | assumption | omega)) (cwV 1 hts gX6_arc_X6_isStation rfl rfl rfl (by decide +kernel) ⟨Nat.le_of_ble_eq_true rfl, Nat.le_of_ble_eq_true rfl⟩) hA hK hP hD hS [0] [1, 2, 3] [3, 0, 1, 2] rfl rfl (by decide) (by decide) (by decide) nwA_ok hN (ci := 6) rfl rfl 0 rfl hl.1 (Nat.le_of_ble_eq_true rfl) ⟨Nat.le_refl _, Nat.le_refl _⟩ rfl rfl dX6_arc_10 (fun (u : (Nat)) => [(m0, .inr (6, [.int (nI N), .ref x1, .int (nI K), .ref x2, .ref x3, .ref x4, .int (nI lo), .ref x5, .ref x6, .ref x7, .ref x8, .int (nI ns), .int (nI nd), .ref x9, .ref y1, .ref y2, .int (nI rm), .ref y3, .ref y4, .ref y5, .ref y6, .ref y7, .int (nI pls)])), (x2, .inl (cI, 16, .inl (fun z_ => nI (F z_)))), (x3, .inl (cI, 16, .inl (fun z_ => nI (G z_)))), (x4, .inl (cI, 16, .inl (fun z_ => nI (C z_))))]) (fun u => rfl) (by decide) (fun r_10 u H locs hw hP hD hS => ?_)
    obtain ⟨rv_10, eu⟩ : ∃ z, z = u := ⟨_, rfl⟩
    subst eu
    have hP : va_P (dC, dI) vwCl [(m0, .inr (6, [.int (nI N), .ref x1, .int (nI K), .ref x2, .ref x3, .ref x4, .int (nI lo), .ref x5, .ref x6, .ref x7, .ref x8, .int (nI ns), .int (nI nd), .ref x9, .ref y1, .ref y2, .int (nI rm), .ref y3, .ref y4, .ref y5, .ref y6, .ref y7, .int (nI pls)])), (x2, .inl (cI, 16, .inl (fun z_ => nI (F z_)))), (x3, .inl (cI, 16, .inl (fun z_ => nI (G z_)))), (x4, .inl (cI, 16, .inl (fun z_ => nI (C z_))))] H := hP
    have hD : va_D A [(m0, .inr (6, [.int (nI N), .ref x1, .int (nI K), .ref x2, .ref x3, .ref x4, .int (nI lo), .ref x5, .ref x6, .ref x7, .ref x8, .int (nI ns), .int (nI nd), .ref x9, .ref y1, .ref y2, .int (nI rm), .ref y3, .ref y4, .ref y5, .ref y6, .ref y7, .int (nI pls)])), (x2, .inl (cI, 16, .inl (fun z_ => nI (F z_)))), (x3, .inl (cI, 16, .inl (fun z_ => nI (G z_)))), (x4, .inl (cI, 16, .inl (fun z_ => nI (C z_))))] := hD
    obtain ⟨er, p10_0⟩ := hw
    have p10_0 : (rv_10 = 1 ∧ (0 ≤ g ∧ g < (N : Int))) ∨ (rv_10 = 0 ∧ ¬ (0 ≤ g ∧ g < (N : Int))) := p10_0
    have er : r_10 = (nI rv_10) := er
    subst er
    rcases p10_0 with ⟨h10, c_10⟩ | ⟨h10, c_10⟩
    · skip
      subst h10
      refine lv_if_ne (tgt := 18) hx hb dX6_arc_13 (by decide) (fun _ => ?_) (fun c_x => absurd c_x (by decide))
      refine lv_iload_n hx hb dX6_arc_18 rfl (lv_at hl 3 rfl) ?_
      refine lv_i2l (v := (lI k)) hx hb dX6_arc_19 (zl_i2l rfl (by omega)) ?_
      refine lv_lconst (v := lN 0) hx hb dX6_arc_20 (by decide) ?_
      refine lv_ldc2 (v := (9 : Int64)) hx hb hown (hts (.constantLong RX6 80 (9)) (by decide +kernel)) dX6_arc_21 ?_
      refine z_l0 (v := (lN 9)) (by decide) ?_
      refine z_l0 (v := lI 9) (by decide) ?_
      refine z_l1 (v := lI 0) (by decide) ?_
      refine z_callSi (As := [.long (lI k), .long (lI 0), .long (lI 9)]) (rest := []) (wr := [(m0, .inr (6, [.int (nI N), .ref x1, .int (nI K), .ref x2, .ref x3, .ref x4, .int (nI lo), .ref x5, .ref x6, .ref x7, .ref x8, .int (nI ns), .int (nI nd), .ref x9, .ref y1, .ref y2, .int (nI rm), .ref y3, .ref y4, .ref y5, .ref y6, .ref y7, .int (nI pls)])), (x2, .inl (cI, 16, .inl (fun z_ => nI (F z_)))), (x3, .inl (cI, 16, .inl (fun z_ => nI (G z_)))), (x4, .inl (cI, 16, .inl (fun z_ => nI (C z_))))]) ⟨hx, hb, hml, hown, hts⟩ (c_X6_in l dC dI cI cJ H.size k (0 : Int) (9 : Int) (by first | assumption | omega) (by first | assumption | omega) (by first | assumption | omega)) (va_cwS 3 hts gX6_arc_X6_in rfl rfl rfl (by decide +kernel) ⟨Nat.le_of_ble_eq_true rfl, Nat.le_of_ble_eq_true rfl⟩) hA hK hP hD hS [] [0, 1, 2, 3] [0, 1, 2, 3] rfl rfl (by decide) (by decide) (by decide) nwA_ok hN hl.1 (Nat.le_of_ble_eq_true rfl) ⟨Nat.le_refl _, Nat.le_refl _⟩ rfl rfl dX6_arc_24 (fun (u : (Nat)) => [(m0, .inr (6, [.int (nI N), .ref x1, .int (nI K), .ref x2, .ref x3, .ref x4, .int (nI lo), .ref x5, .ref x6, .ref x7, .ref x8, .int (nI ns), .int (nI nd), .ref x9, .ref y1, .ref y2, .int (nI rm), .ref y3, .ref y4, .ref y5, .ref y6, .ref y7, .int (nI pls)])), (x2, .inl (cI, 16, .inl (fun z_ => nI (F z_)))), (x3, .inl (cI, 16, .inl (fun z_ => nI (G z_)))), (x4, .inl (cI, 16, .inl (fun z_ => nI (C z_))))]) (fun u => rfl) (by decide) (fun r_24 u H locs hw hP hD hS => ?_)
      obtain ⟨rv_24, eu⟩ : ∃ z, z = u := ⟨_, rfl⟩
      subst eu
      have hP : va_P (dC, dI) vwCl [(m0, .inr (6, [.int (nI N), .ref x1, .int (nI K), .ref x2, .ref x3, .ref x4, .int (nI lo), .ref x5, .ref x6, .ref x7, .ref x8, .int (nI ns), .int (nI nd), .ref x9, .ref y1, .ref y2, .int (nI rm), .ref y3, .ref y4, .ref y5, .ref y6, .ref y7, .int (nI pls)])), (x2, .inl (cI, 16, .inl (fun z_ => nI (F z_)))), (x3, .inl (cI, 16, .inl (fun z_ => nI (G z_)))), (x4, .inl (cI, 16, .inl (fun z_ => nI (C z_))))] H := hP
      have hD : va_D A [(m0, .inr (6, [.int (nI N), .ref x1, .int (nI K), .ref x2, .ref x3, .ref x4, .int (nI lo), .ref x5, .ref x6, .ref x7, .ref x8, .int (nI ns), .int (nI nd), .ref x9, .ref y1, .ref y2, .int (nI rm), .ref y3, .ref y4, .ref y5, .ref y6, .ref y7, .int (nI pls)])), (x2, .inl (cI, 16, .inl (fun z_ => nI (F z_)))), (x3, .inl (cI, 16, .inl (fun z_ => nI (G z_)))), (x4, .inl (cI, 16, .inl (fun z_ => nI (C z_))))] := hD
      obtain ⟨er, p24_0⟩ := hw
      have p24_0 : (rv_24 = 1 ∧ ((0 : Int) ≤ k ∧ k ≤ (9 : Int))) ∨ (rv_24 = 0 ∧ ¬ ((0 : Int) ≤ k ∧ k ≤ (9 : Int))) := p24_0
      have er : r_24 = (nI rv_24) := er
      subst er
      rcases p24_0 with ⟨h24, c_24⟩ | ⟨h24, c_24⟩
      · skip
        subst h24
        refine lv_if_ne (tgt := 33) hx hb dX6_arc_27 (by decide) (fun _ => ?_) (fun c_x => absurd c_x (by decide))
        refine lv_aload_n hx hb dX6_arc_33 rfl (lv_at hl 0 rfl) ?_
        refine z_get (D := (dC, dI)) (ci := 6) (v := .int (nI K)) (C := RX6) (T := TX6) (N := 23) hx hb hts uX6 hown hK hP 0 rfl rfl 2 (by decide) w67 rfl rfl dX6_arc_34 ?_
        refine lv_bipush (v := nI 16) hx hb dX6_arc_37 (by decide) ?_
        refine z_icmp_ne (tgt := 45) hx hb dX6_arc_39 (by decide) (zcn_eq (a := K) (b := 16) rfl rfl (by omega)) (fun c_39 => ?_) (fun c_39 => ?_)
        · skip
          refine lv_aload_n hx hb dX6_arc_45 rfl (lv_at hl 0 rfl) ?_
          refine z_get (D := (dC, dI)) (ci := 6) (v := .ref x2) (C := RX6) (T := TX6) (N := 23) hx hb hts uX6 hown hK hP 0 rfl rfl 3 (by decide) w13 rfl rfl dX6_arc_46 ?_
          refine lv_aload_n hx hb dX6_arc_49 rfl (lv_at hl 0 rfl) ?_
          refine z_get (D := (dC, dI)) (ci := 6) (v := .int (nI K)) (C := RX6) (T := TX6) (N := 23) hx hb hts uX6 hown hK hP 0 rfl rfl 2 (by decide) w67 rfl rfl dX6_arc_50 ?_
          refine lv_iload_n hx hb dX6_arc_53 rfl (lv_at hl 1 rfl) ?_
          refine z_c0 (v := nI f.toNat) (z_ZtoN (by first | assumption | omega)) ?_
          refine z_iast hx hb hK hP hD hS 1 0 rfl rfl K rfl (by omega) (upd_N F K f.toNat) [(m0, .inr (6, [.int (nI N), .ref x1, .int (nI K), .ref x2, .ref x3, .ref x4, .int (nI lo), .ref x5, .ref x6, .ref x7, .ref x8, .int (nI ns), .int (nI nd), .ref x9, .ref y1, .ref y2, .int (nI rm), .ref y3, .ref y4, .ref y5, .ref y6, .ref y7, .int (nI pls)])), (x2, .inl (cI, 16, .inl (fun z_ => nI ((up F K f.toNat) z_)))), (x3, .inl (cI, 16, .inl (fun z_ => nI (G z_)))), (x4, .inl (cI, 16, .inl (fun z_ => nI (C z_))))] rfl dX6_arc_54 (fun H locs hP hD hS => ?_)
          refine lv_aload_n hx hb dX6_arc_55 rfl (lv_at hl 0 rfl) ?_
          refine z_get (D := (dC, dI)) (ci := 6) (v := .ref x3) (C := RX6) (T := TX6) (N := 23) hx hb hts uX6 hown hK hP 0 rfl rfl 4 (by decide) w16 rfl rfl dX6_arc_56 ?_
          refine lv_aload_n hx hb dX6_arc_59 rfl (lv_at hl 0 rfl) ?_
          refine z_get (D := (dC, dI)) (ci := 6) (v := .int (nI K)) (C := RX6) (T := TX6) (N := 23) hx hb hts uX6 hown hK hP 0 rfl rfl 2 (by decide) w67 rfl rfl dX6_arc_60 ?_
          refine lv_iload_n hx hb dX6_arc_63 rfl (lv_at hl 2 rfl) ?_
          refine z_c0 (v := nI g.toNat) (z_ZtoN (by first | assumption | omega)) ?_
          refine z_iast hx hb hK hP hD hS 2 0 rfl rfl K rfl (by omega) (upd_N G K g.toNat) [(m0, .inr (6, [.int (nI N), .ref x1, .int (nI K), .ref x2, .ref x3, .ref x4, .int (nI lo), .ref x5, .ref x6, .ref x7, .ref x8, .int (nI ns), .int (nI nd), .ref x9, .ref y1, .ref y2, .int (nI rm), .ref y3, .ref y4, .ref y5, .ref y6, .ref y7, .int (nI pls)])), (x2, .inl (cI, 16, .inl (fun z_ => nI ((up F K f.toNat) z_)))), (x3, .inl (cI, 16, .inl (fun z_ => nI ((up G K g.toNat) z_)))), (x4, .inl (cI, 16, .inl (fun z_ => nI (C z_))))] rfl dX6_arc_64 (fun H locs hP hD hS => ?_)
          refine lv_aload_n hx hb dX6_arc_65 rfl (lv_at hl 0 rfl) ?_
          refine z_get (D := (dC, dI)) (ci := 6) (v := .ref x4) (C := RX6) (T := TX6) (N := 23) hx hb hts uX6 hown hK hP 0 rfl rfl 5 (by decide) w19 rfl rfl dX6_arc_66 ?_
          refine lv_aload_n hx hb dX6_arc_69 rfl (lv_at hl 0 rfl) ?_
          refine z_get (D := (dC, dI)) (ci := 6) (v := .int (nI K)) (C := RX6) (T := TX6) (N := 23) hx hb hts uX6 hown hK hP 0 rfl rfl 2 (by decide) w67 rfl rfl dX6_arc_70 ?_
          refine lv_iload_n hx hb dX6_arc_73 rfl (lv_at hl 3 rfl) ?_
          refine z_c0 (v := nI k.toNat) (z_ZtoN (by first | assumption | omega)) ?_
          refine z_iast hx hb hK hP hD hS 3 0 rfl rfl K rfl (by omega) (upd_N C K k.toNat) [(m0, .inr (6, [.int (nI N), .ref x1, .int (nI K), .ref x2, .ref x3, .ref x4, .int (nI lo), .ref x5, .ref x6, .ref x7, .ref x8, .int (nI ns), .int (nI nd), .ref x9, .ref y1, .ref y2, .int (nI rm), .ref y3, .ref y4, .ref y5, .ref y6, .ref y7, .int (nI pls)])), (x2, .inl (cI, 16, .inl (fun z_ => nI ((up F K f.toNat) z_)))), (x3, .inl (cI, 16, .inl (fun z_ => nI ((up G K g.toNat) z_)))), (x4, .inl (cI, 16, .inl (fun z_ => nI ((up C K k.toNat) z_))))] rfl dX6_arc_74 (fun H locs hP hD hS => ?_)
          refine lv_aload_n hx hb dX6_arc_75 rfl (lv_at hl 0 rfl) ?_
          refine lv_dup hx hb dX6_arc_76 rfl ?_
          refine z_get (D := (dC, dI)) (ci := 6) (v := .int (nI K)) (C := RX6) (T := TX6) (N := 23) hx hb hts uX6 hown hK hP 0 rfl rfl 2 (by decide) w67 rfl rfl dX6_arc_77 ?_
          refine lv_iconst (v := nI 1) hx hb dX6_arc_80 (by decide) ?_
          refine z_iadd (v := (nI (K + 1))) hx hb dX6_arc_81 (nI_add _ _) ?_
          refine z_put (D := (dC, dI)) (ci := 6) (v := .int (nI (K + 1))) (C := RX6) (T := TX6) (N := 23) hx hb hts uX6 tyX6 tyX6_ok nmX6 hown hK hP hD hS 0 rfl rfl 2 (by decide) w67 rfl rfl rfl rfl (Nat.le_of_ble_eq_true rfl) [(m0, .inr (6, [.int (nI N), .ref x1, .int (nI (K + 1)), .ref x2, .ref x3, .ref x4, .int (nI lo), .ref x5, .ref x6, .ref x7, .ref x8, .int (nI ns), .int (nI nd), .ref x9, .ref y1, .ref y2, .int (nI rm), .ref y3, .ref y4, .ref y5, .ref y6, .ref y7, .int (nI pls)])), (x2, .inl (cI, 16, .inl (fun z_ => nI ((up F K f.toNat) z_)))), (x3, .inl (cI, 16, .inl (fun z_ => nI ((up G K g.toNat) z_)))), (x4, .inl (cI, 16, .inl (fun z_ => nI ((up C K k.toNat) z_))))] rfl dX6_arc_82 (fun H locs hP hD hS => ?_)
          refine lv_aload_n hx hb dX6_arc_85 rfl (lv_at hl 0 rfl) ?_
          refine lv_iconst (v := nI 0) hx hb dX6_arc_86 (by decide) ?_
          refine z_put (D := (dC, dI)) (ci := 6) (v := .int (nI 0)) (C := RX6) (T := TX6) (N := 23) hx hb hts uX6 tyX6 tyX6_ok nmX6 hown hK hP hD hS 0 rfl rfl 11 (by decide) w72 rfl rfl (by decide) (by decide) (Nat.le_of_ble_eq_true rfl) [(m0, .inr (6, [.int (nI N), .ref x1, .int (nI (K + 1)), .ref x2, .ref x3, .ref x4, .int (nI lo), .ref x5, .ref x6, .ref x7, .ref x8, .int (nI 0), .int (nI nd), .ref x9, .ref y1, .ref y2, .int (nI rm), .ref y3, .ref y4, .ref y5, .ref y6, .ref y7, .int (nI pls)])), (x2, .inl (cI, 16, .inl (fun z_ => nI ((up F K f.toNat) z_)))), (x3, .inl (cI, 16, .inl (fun z_ => nI ((up G K g.toNat) z_)))), (x4, .inl (cI, 16, .inl (fun z_ => nI ((up C K k.toNat) z_))))] rfl dX6_arc_87 (fun H locs hP hD hS => ?_)
          refine lv_aload_n hx hb dX6_arc_90 rfl (lv_at hl 0 rfl) ?_
          refine z_get (D := (dC, dI)) (ci := 6) (v := .int (nI (K + 1))) (C := RX6) (T := TX6) (N := 23) hx hb hts uX6 hown hK hP 0 rfl rfl 2 (by decide) w67 rfl rfl dX6_arc_91 ?_
          refine lv_iconst (v := nI 1) hx hb dX6_arc_94 (by decide) ?_
          refine z_isub (v := (nI ((K + 1) - 1))) hx hb dX6_arc_95 (pk_sub (by omega)) ?_
          refine z_c0 (v := iI (((K + 1) - 1 : Nat) : Int)) (iI_N _) ?_
          have q_0 : (((K + 1) - 1 : Nat) : Int) = if ((0 ≤ f ∧ f < (N : Int)) ∧ (0 ≤ g ∧ g < (N : Int))) then (if 0 ≤ k ∧ k ≤ 9 then (if K < 16 then (K : Int) else -4) else -2) else -1 := by (repeat (first | rw [if_pos (by omega)] | rw [if_neg (by omega)])); try omega
          have q_1 : (K + 1) = if ((((0 ≤ f ∧ f < (N : Int)) ∧ (0 ≤ g ∧ g < (N : Int))) ∧ (0 ≤ k ∧ k ≤ 9)) ∧ K < 16) then K + 1 else K := by (repeat (first | rw [if_pos (by omega)] | rw [if_neg (by omega)])); try omega
          have q_2 : (up F K f.toNat) = if ((((0 ≤ f ∧ f < (N : Int)) ∧ (0 ≤ g ∧ g < (N : Int))) ∧ (0 ≤ k ∧ k ≤ 9)) ∧ K < 16) then up F K f.toNat else F := by (repeat (first | rw [if_pos (by omega)] | rw [if_neg (by omega)])); try omega
          have q_3 : (up G K g.toNat) = if ((((0 ≤ f ∧ f < (N : Int)) ∧ (0 ≤ g ∧ g < (N : Int))) ∧ (0 ≤ k ∧ k ≤ 9)) ∧ K < 16) then up G K g.toNat else G := by (repeat (first | rw [if_pos (by omega)] | rw [if_neg (by omega)])); try omega
          have q_4 : (up C K k.toNat) = if ((((0 ≤ f ∧ f < (N : Int)) ∧ (0 ≤ g ∧ g < (N : Int))) ∧ (0 ≤ k ∧ k ≤ 9)) ∧ K < 16) then up C K k.toNat else C := by (repeat (first | rw [if_pos (by omega)] | rw [if_neg (by omega)])); try omega
          have q_5 : 0 = if ((((0 ≤ f ∧ f < (N : Int)) ∧ (0 ≤ g ∧ g < (N : Int))) ∧ (0 ≤ k ∧ k ≤ 9)) ∧ K < 16) then 0 else ns := by (repeat (first | rw [if_pos (by omega)] | rw [if_neg (by omega)])); try omega
          exact hRET _ ls H locs ((iI (((K + 1) - 1 : Nat) : Int))) ((((K + 1) - 1 : Nat) : Int), K + 1, up F K f.toNat, up G K g.toNat, up C K k.toNat, 0) dX6_arc_96 ⟨rfl, q_0, q_1, q_2, q_3, q_4, q_5⟩ hP hD hS
        · skip
          refine lv_bipush (v := iI (-4)) hx hb dX6_arc_42 (by decide) ?_
          have q_0 : (-4 : Int) = if ((0 ≤ f ∧ f < (N : Int)) ∧ (0 ≤ g ∧ g < (N : Int))) then (if 0 ≤ k ∧ k ≤ 9 then (if K < 16 then (K : Int) else -4) else -2) else -1 := by (repeat (first | rw [if_pos (by omega)] | rw [if_neg (by omega)])); try omega
          have q_1 : K = if ((((0 ≤ f ∧ f < (N : Int)) ∧ (0 ≤ g ∧ g < (N : Int))) ∧ (0 ≤ k ∧ k ≤ 9)) ∧ K < 16) then K + 1 else K := by (repeat (first | rw [if_pos (by omega)] | rw [if_neg (by omega)])); try omega
          have q_2 : F = if ((((0 ≤ f ∧ f < (N : Int)) ∧ (0 ≤ g ∧ g < (N : Int))) ∧ (0 ≤ k ∧ k ≤ 9)) ∧ K < 16) then up F K f.toNat else F := by (repeat (first | rw [if_pos (by omega)] | rw [if_neg (by omega)])); try omega
          have q_3 : G = if ((((0 ≤ f ∧ f < (N : Int)) ∧ (0 ≤ g ∧ g < (N : Int))) ∧ (0 ≤ k ∧ k ≤ 9)) ∧ K < 16) then up G K g.toNat else G := by (repeat (first | rw [if_pos (by omega)] | rw [if_neg (by omega)])); try omega
          have q_4 : C = if ((((0 ≤ f ∧ f < (N : Int)) ∧ (0 ≤ g ∧ g < (N : Int))) ∧ (0 ≤ k ∧ k ≤ 9)) ∧ K < 16) then up C K k.toNat else C := by (repeat (first | rw [if_pos (by omega)] | rw [if_neg (by omega)])); try omega
          have q_5 : ns = if ((((0 ≤ f ∧ f < (N : Int)) ∧ (0 ≤ g ∧ g < (N : Int))) ∧ (0 ≤ k ∧ k ≤ 9)) ∧ K < 16) then 0 else ns := by (repeat (first | rw [if_pos (by omega)] | rw [if_neg (by omega)])); try omega
          exact hRET _ ls H locs ((iI (-4))) ((-4 : Int), K, F, G, C, ns) dX6_arc_44 ⟨rfl, q_0, q_1, q_2, q_3, q_4, q_5⟩ hP hD hS
      · skip
        subst h24
        refine lv_if_ne (tgt := 33) hx hb dX6_arc_27 (by decide) (fun c_x => absurd c_x (by decide)) (fun _ => ?_)
        refine lv_bipush (v := iI (-2)) hx hb dX6_arc_30 (by decide) ?_
        have q_0 : (-2 : Int) = if ((0 ≤ f ∧ f < (N : Int)) ∧ (0 ≤ g ∧ g < (N : Int))) then (if 0 ≤ k ∧ k ≤ 9 then (if K < 16 then (K : Int) else -4) else -2) else -1 := by (repeat (first | rw [if_pos (by omega)] | rw [if_neg (by omega)])); try omega
        have q_1 : K = if ((((0 ≤ f ∧ f < (N : Int)) ∧ (0 ≤ g ∧ g < (N : Int))) ∧ (0 ≤ k ∧ k ≤ 9)) ∧ K < 16) then K + 1 else K := by (repeat (first | rw [if_pos (by omega)] | rw [if_neg (by omega)])); try omega
        have q_2 : F = if ((((0 ≤ f ∧ f < (N : Int)) ∧ (0 ≤ g ∧ g < (N : Int))) ∧ (0 ≤ k ∧ k ≤ 9)) ∧ K < 16) then up F K f.toNat else F := by (repeat (first | rw [if_pos (by omega)] | rw [if_neg (by omega)])); try omega
        have q_3 : G = if ((((0 ≤ f ∧ f < (N : Int)) ∧ (0 ≤ g ∧ g < (N : Int))) ∧ (0 ≤ k ∧ k ≤ 9)) ∧ K < 16) then up G K g.toNat else G := by (repeat (first | rw [if_pos (by omega)] | rw [if_neg (by omega)])); try omega
        have q_4 : C = if ((((0 ≤ f ∧ f < (N : Int)) ∧ (0 ≤ g ∧ g < (N : Int))) ∧ (0 ≤ k ∧ k ≤ 9)) ∧ K < 16) then up C K k.toNat else C := by (repeat (first | rw [if_pos (by omega)] | rw [if_neg (by omega)])); try omega
        have q_5 : ns = if ((((0 ≤ f ∧ f < (N : Int)) ∧ (0 ≤ g ∧ g < (N : Int))) ∧ (0 ≤ k ∧ k ≤ 9)) ∧ K < 16) then 0 else ns := by (repeat (first | rw [if_pos (by omega)] | rw [if_neg (by omega)])); try omega
        exact hRET _ ls H locs ((iI (-2))) ((-2 : Int), K, F, G, C, ns) dX6_arc_32 ⟨rfl, q_0, q_1, q_2, q_3, q_4, q_5⟩ hP hD hS
    · skip
      subst h10
      refine lv_if_ne (tgt := 18) hx hb dX6_arc_13 (by decide) (fun c_x => absurd c_x (by decide)) (fun _ => ?_)
      refine lv_iconst (v := iI (-1)) hx hb dX6_arc_16 (by decide) ?_
      have q_0 : (-1 : Int) = if ((0 ≤ f ∧ f < (N : Int)) ∧ (0 ≤ g ∧ g < (N : Int))) then (if 0 ≤ k ∧ k ≤ 9 then (if K < 16 then (K : Int) else -4) else -2) else -1 := by (repeat (first | rw [if_pos (by omega)] | rw [if_neg (by omega)])); try omega
      have q_1 : K = if ((((0 ≤ f ∧ f < (N : Int)) ∧ (0 ≤ g ∧ g < (N : Int))) ∧ (0 ≤ k ∧ k ≤ 9)) ∧ K < 16) then K + 1 else K := by (repeat (first | rw [if_pos (by omega)] | rw [if_neg (by omega)])); try omega
      have q_2 : F = if ((((0 ≤ f ∧ f < (N : Int)) ∧ (0 ≤ g ∧ g < (N : Int))) ∧ (0 ≤ k ∧ k ≤ 9)) ∧ K < 16) then up F K f.toNat else F := by (repeat (first | rw [if_pos (by omega)] | rw [if_neg (by omega)])); try omega
      have q_3 : G = if ((((0 ≤ f ∧ f < (N : Int)) ∧ (0 ≤ g ∧ g < (N : Int))) ∧ (0 ≤ k ∧ k ≤ 9)) ∧ K < 16) then up G K g.toNat else G := by (repeat (first | rw [if_pos (by omega)] | rw [if_neg (by omega)])); try omega
      have q_4 : C = if ((((0 ≤ f ∧ f < (N : Int)) ∧ (0 ≤ g ∧ g < (N : Int))) ∧ (0 ≤ k ∧ k ≤ 9)) ∧ K < 16) then up C K k.toNat else C := by (repeat (first | rw [if_pos (by omega)] | rw [if_neg (by omega)])); try omega
      have q_5 : ns = if ((((0 ≤ f ∧ f < (N : Int)) ∧ (0 ≤ g ∧ g < (N : Int))) ∧ (0 ≤ k ∧ k ≤ 9)) ∧ K < 16) then 0 else ns := by (repeat (first | rw [if_pos (by omega)] | rw [if_neg (by omega)])); try omega
      exact hRET _ ls H locs ((iI (-1))) ((-1 : Int), K, F, G, C, ns) dX6_arc_17 ⟨rfl, q_0, q_1, q_2, q_3, q_4, q_5⟩ hP hD hS
  · skip
    subst h2
    refine lv_if_eq (tgt := 16) hx hb dX6_arc_5 (by decide) (fun _ => ?_) (fun c_x => absurd c_x (by decide))
    refine lv_iconst (v := iI (-1)) hx hb dX6_arc_16 (by decide) ?_
    have q_0 : (-1 : Int) = if ((0 ≤ f ∧ f < (N : Int)) ∧ (0 ≤ g ∧ g < (N : Int))) then (if 0 ≤ k ∧ k ≤ 9 then (if K < 16 then (K : Int) else -4) else -2) else -1 := by (repeat (first | rw [if_pos (by omega)] | rw [if_neg (by omega)])); try omega
    have q_1 : K = if ((((0 ≤ f ∧ f < (N : Int)) ∧ (0 ≤ g ∧ g < (N : Int))) ∧ (0 ≤ k ∧ k ≤ 9)) ∧ K < 16) then K + 1 else K := by (repeat (first | rw [if_pos (by omega)] | rw [if_neg (by omega)])); try omega
    have q_2 : F = if ((((0 ≤ f ∧ f < (N : Int)) ∧ (0 ≤ g ∧ g < (N : Int))) ∧ (0 ≤ k ∧ k ≤ 9)) ∧ K < 16) then up F K f.toNat else F := by (repeat (first | rw [if_pos (by omega)] | rw [if_neg (by omega)])); try omega
    have q_3 : G = if ((((0 ≤ f ∧ f < (N : Int)) ∧ (0 ≤ g ∧ g < (N : Int))) ∧ (0 ≤ k ∧ k ≤ 9)) ∧ K < 16) then up G K g.toNat else G := by (repeat (first | rw [if_pos (by omega)] | rw [if_neg (by omega)])); try omega
    have q_4 : C = if ((((0 ≤ f ∧ f < (N : Int)) ∧ (0 ≤ g ∧ g < (N : Int))) ∧ (0 ≤ k ∧ k ≤ 9)) ∧ K < 16) then up C K k.toNat else C := by (repeat (first | rw [if_pos (by omega)] | rw [if_neg (by omega)])); try omega
    have q_5 : ns = if ((((0 ≤ f ∧ f < (N : Int)) ∧ (0 ≤ g ∧ g < (N : Int))) ∧ (0 ≤ k ∧ k ≤ 9)) ∧ K < 16) then 0 else ns := by (repeat (first | rw [if_pos (by omega)] | rw [if_neg (by omega)])); try omega
    exact hRET _ ls H locs ((iI (-1))) ((-1 : Int), K, F, G, C, ns) dX6_arc_17 ⟨rfl, q_0, q_1, q_2, q_3, q_4, q_5⟩ hP hD hS

set_option maxHeartbeats 4000000 in
set_option maxRecDepth 100000 in
theorem c_X6_time (l : Launch) (dC : Nat → ClassId) (dI : Nat → Nat → Nat) (cI cJ : ClassId) (sz : Nat) (m0 : Nat) (x1 : Nat) (x2 : Nat) (x3 : Nat) (x4 : Nat) (x5 : Nat) (x6 : Nat) (x7 : Nat) (x8 : Nat) (x9 : Nat) (y1 : Nat) (y2 : Nat) (y3 : Nat) (y4 : Nat) (y5 : Nat) (y6 : Nat) (y7 : Nat) (N : Nat) (K : Nat) (lo : Nat) (ns : Nat) (nd : Nat) (rm : Nat) (pls : Nat) (T : Nat → Nat) (z : Int) (t : Int) (bN : N ≤ 8) (bK : K ≤ 16) (bz : -2147483648 ≤ z ∧ z < 2147483648) (bt : -2147483648 ≤ t ∧ t < 2147483648) : Met l yX6_time wsX6_time (zR 2 0 0 46) (va_Pc [.ref m0, .int (iI z), .int (iI t)] (zP (dC, dI) [(cI, .int), (cJ, .long)] [(m0, .inr (6, [.int (nI N), .ref x1, .int (nI K), .ref x2, .ref x3, .ref x4, .int (nI lo), .ref x5, .ref x6, .ref x7, .ref x8, .int (nI ns), .int (nI nd), .ref x9, .ref y1, .ref y2, .int (nI rm), .ref y3, .ref y4, .ref y5, .ref y6, .ref y7, .int (nI pls)])), (x1, .inl (cI, 8, .inl (fun z_ => nI (T z_))))] sz nwA)) (va_Qi (fun (r : Int32) (u : (Int) × (Nat → Nat)) => r = (iI u.1) ∧ (u.1 = if 0 ≤ z ∧ z < (N : Int) then (if 1 ≤ t ∧ t ≤ 20 then (T z.toNat : Int) else -2) else -1) ∧ (u.2 = if ((0 ≤ z ∧ z < (N : Int)) ∧ (1 ≤ t ∧ t ≤ 20)) then up T z.toNat t.toNat else T)) (zB (dC, dI) (fun (u : (Int) × (Nat → Nat)) => [(m0, .inr (6, [.int (nI N), .ref x1, .int (nI K), .ref x2, .ref x3, .ref x4, .int (nI lo), .ref x5, .ref x6, .ref x7, .ref x8, .int (nI ns), .int (nI nd), .ref x9, .ref y1, .ref y2, .int (nI rm), .ref y3, .ref y4, .ref y5, .ref y6, .ref y7, .int (nI pls)])), (x1, .inl (cI, 8, .inl (fun z_ => nI (u.2 z_))))]) (va_A [(m0, .inr (6, [.int (nI N), .ref x1, .int (nI K), .ref x2, .ref x3, .ref x4, .int (nI lo), .ref x5, .ref x6, .ref x7, .ref x8, .int (nI ns), .int (nI nd), .ref x9, .ref y1, .ref y2, .int (nI rm), .ref y3, .ref y4, .ref y5, .ref y6, .ref y7, .int (nI pls)])), (x1, .inl (cI, 8, .inl (fun z_ => nI (T z_))))] sz)) (va_A [(m0, .inr (6, [.int (nI N), .ref x1, .int (nI K), .ref x2, .ref x3, .ref x4, .int (nI lo), .ref x5, .ref x6, .ref x7, .ref x8, .int (nI ns), .int (nI nd), .ref x9, .ref y1, .ref y2, .int (nI rm), .ref y3, .ref y4, .ref y5, .ref y6, .ref y7, .int (nI pls)])), (x1, .inl (cI, 8, .inl (fun z_ => nI (T z_))))] sz)) 0 0 (va_A [(m0, .inr (6, [.int (nI N), .ref x1, .int (nI K), .ref x2, .ref x3, .ref x4, .int (nI lo), .ref x5, .ref x6, .ref x7, .ref x8, .int (nI ns), .int (nI nd), .ref x9, .ref y1, .ref y2, .int (nI rm), .ref y3, .ref y4, .ref y5, .ref y6, .ref y7, .int (nI pls)])), (x1, .inl (cI, 8, .inl (fun z_ => nI (T z_))))] sz) := by
  refine z_met_i (cc := cX6_time) (maxL := 4) (by decide) rfl (Nat.le_of_ble_eq_true rfl) ?_
  intro p e s m args below meth c Q A ls hx hb hml hown hts hin hA hK hP hD hN hl hRET
  have hown : s.vm.findClass RX6 = some m.cls := hown
  obtain ⟨H, eH⟩ : ∃ H : Heap, H = s.heap := ⟨_, rfl⟩
  rw [← eH] at hP
  obtain ⟨locs, eL⟩ : ∃ z : List Loc, z = [] := ⟨_, rfl⟩
  rw [← eH, ← eL]
  have hS : va_S A s.heap H locs := by rw [eH, eL]; exact va_S.rf
  have hl : lv_has ls 4 [(0, .ref m0), (1, .int (iI z)), (2, .int (iI t))] := hl
  have w7 := hts (.fieldLink RX6 7 "PullCardsModel" "time" "[I") (by decide +kernel)
  have uX6 : ∀ w ∈ wsX60, w ∈ wsX6_time := by decide +kernel
  refine lv_aload_n hx hb dX6_time_0 rfl (lv_at hl 0 rfl) ?_
  refine lv_iload_n hx hb dX6_time_1 rfl (lv_at hl 1 rfl) ?_
  refine z_callVi (As := [.int (iI z)]) (rest := []) (wr := [(x1, .inl (cI, 8, .inl (fun z_ => nI (T z_))))]) ⟨hx, hb, hml, hown, hts⟩ (c_X6_isStation l dC dI cI cJ H.size m0 x1 x2 x3 x4 x5 x6 x7 x8 x9 y1 y2 y3 y4 y5 y6 y7 N K lo ns nd rm pls z (by first | assumption | omega) (by first | assumption | omega) (by first | assumption | omega)) (cwV 1 hts gX6_time_X6_isStation rfl rfl rfl (by decide +kernel) ⟨Nat.le_of_ble_eq_true rfl, Nat.le_of_ble_eq_true rfl⟩) hA hK hP hD hS [0] [1] [1, 0] rfl rfl (by decide) (by decide) (by decide) nwA_ok hN (ci := 6) rfl rfl 0 rfl hl.1 (Nat.le_of_ble_eq_true rfl) ⟨Nat.le_refl _, Nat.le_refl _⟩ rfl rfl dX6_time_2 (fun (u : (Nat)) => [(m0, .inr (6, [.int (nI N), .ref x1, .int (nI K), .ref x2, .ref x3, .ref x4, .int (nI lo), .ref x5, .ref x6, .ref x7, .ref x8, .int (nI ns), .int (nI nd), .ref x9, .ref y1, .ref y2, .int (nI rm), .ref y3, .ref y4, .ref y5, .ref y6, .ref y7, .int (nI pls)])), (x1, .inl (cI, 8, .inl (fun z_ => nI (T z_))))]) (fun u => rfl) (by decide) (fun r_2 u H locs hw hP hD hS => ?_)
  obtain ⟨rv_2, eu⟩ : ∃ z, z = u := ⟨_, rfl⟩
  subst eu
  have hP : va_P (dC, dI) vwCl [(m0, .inr (6, [.int (nI N), .ref x1, .int (nI K), .ref x2, .ref x3, .ref x4, .int (nI lo), .ref x5, .ref x6, .ref x7, .ref x8, .int (nI ns), .int (nI nd), .ref x9, .ref y1, .ref y2, .int (nI rm), .ref y3, .ref y4, .ref y5, .ref y6, .ref y7, .int (nI pls)])), (x1, .inl (cI, 8, .inl (fun z_ => nI (T z_))))] H := hP
  have hD : va_D A [(m0, .inr (6, [.int (nI N), .ref x1, .int (nI K), .ref x2, .ref x3, .ref x4, .int (nI lo), .ref x5, .ref x6, .ref x7, .ref x8, .int (nI ns), .int (nI nd), .ref x9, .ref y1, .ref y2, .int (nI rm), .ref y3, .ref y4, .ref y5, .ref y6, .ref y7, .int (nI pls)])), (x1, .inl (cI, 8, .inl (fun z_ => nI (T z_))))] := hD
  obtain ⟨er, p2_0⟩ := hw
  have p2_0 : (rv_2 = 1 ∧ (0 ≤ z ∧ z < (N : Int))) ∨ (rv_2 = 0 ∧ ¬ (0 ≤ z ∧ z < (N : Int))) := p2_0
  have er : r_2 = (nI rv_2) := er
  subst er
  rcases p2_0 with ⟨h2, c_2⟩ | ⟨h2, c_2⟩
  · skip
    subst h2
    refine lv_if_ne (tgt := 10) hx hb dX6_time_5 (by decide) (fun _ => ?_) (fun c_x => absurd c_x (by decide))
    refine lv_iload_n hx hb dX6_time_10 rfl (lv_at hl 2 rfl) ?_
    refine lv_i2l (v := (lI t)) hx hb dX6_time_11 (zl_i2l rfl (by omega)) ?_
    refine lv_lconst (v := lN 1) hx hb dX6_time_12 (by decide) ?_
    refine lv_ldc2 (v := (20 : Int64)) hx hb hown (hts (.constantLong RX6 70 (20)) (by decide +kernel)) dX6_time_13 ?_
    refine z_l0 (v := (lN 20)) (by decide) ?_
    refine z_l0 (v := lI 20) (by decide) ?_
    refine z_l1 (v := lI 1) (by decide) ?_
    refine z_callSi (As := [.long (lI t), .long (lI 1), .long (lI 20)]) (rest := []) (wr := [(m0, .inr (6, [.int (nI N), .ref x1, .int (nI K), .ref x2, .ref x3, .ref x4, .int (nI lo), .ref x5, .ref x6, .ref x7, .ref x8, .int (nI ns), .int (nI nd), .ref x9, .ref y1, .ref y2, .int (nI rm), .ref y3, .ref y4, .ref y5, .ref y6, .ref y7, .int (nI pls)])), (x1, .inl (cI, 8, .inl (fun z_ => nI (T z_))))]) ⟨hx, hb, hml, hown, hts⟩ (c_X6_in l dC dI cI cJ H.size t (1 : Int) (20 : Int) (by first | assumption | omega) (by first | assumption | omega) (by first | assumption | omega)) (va_cwS 3 hts gX6_time_X6_in rfl rfl rfl (by decide +kernel) ⟨Nat.le_of_ble_eq_true rfl, Nat.le_of_ble_eq_true rfl⟩) hA hK hP hD hS [] [0, 1] [0, 1] rfl rfl (by decide) (by decide) (by decide) nwA_ok hN hl.1 (Nat.le_of_ble_eq_true rfl) ⟨Nat.le_refl _, Nat.le_refl _⟩ rfl rfl dX6_time_16 (fun (u : (Nat)) => [(m0, .inr (6, [.int (nI N), .ref x1, .int (nI K), .ref x2, .ref x3, .ref x4, .int (nI lo), .ref x5, .ref x6, .ref x7, .ref x8, .int (nI ns), .int (nI nd), .ref x9, .ref y1, .ref y2, .int (nI rm), .ref y3, .ref y4, .ref y5, .ref y6, .ref y7, .int (nI pls)])), (x1, .inl (cI, 8, .inl (fun z_ => nI (T z_))))]) (fun u => rfl) (by decide) (fun r_16 u H locs hw hP hD hS => ?_)
    obtain ⟨rv_16, eu⟩ : ∃ z, z = u := ⟨_, rfl⟩
    subst eu
    have hP : va_P (dC, dI) vwCl [(m0, .inr (6, [.int (nI N), .ref x1, .int (nI K), .ref x2, .ref x3, .ref x4, .int (nI lo), .ref x5, .ref x6, .ref x7, .ref x8, .int (nI ns), .int (nI nd), .ref x9, .ref y1, .ref y2, .int (nI rm), .ref y3, .ref y4, .ref y5, .ref y6, .ref y7, .int (nI pls)])), (x1, .inl (cI, 8, .inl (fun z_ => nI (T z_))))] H := hP
    have hD : va_D A [(m0, .inr (6, [.int (nI N), .ref x1, .int (nI K), .ref x2, .ref x3, .ref x4, .int (nI lo), .ref x5, .ref x6, .ref x7, .ref x8, .int (nI ns), .int (nI nd), .ref x9, .ref y1, .ref y2, .int (nI rm), .ref y3, .ref y4, .ref y5, .ref y6, .ref y7, .int (nI pls)])), (x1, .inl (cI, 8, .inl (fun z_ => nI (T z_))))] := hD
    obtain ⟨er, p16_0⟩ := hw
    have p16_0 : (rv_16 = 1 ∧ ((1 : Int) ≤ t ∧ t ≤ (20 : Int))) ∨ (rv_16 = 0 ∧ ¬ ((1 : Int) ≤ t ∧ t ≤ (20 : Int))) := p16_0
    have er : r_16 = (nI rv_16) := er
    subst er
    rcases p16_0 with ⟨h16, c_16⟩ | ⟨h16, c_16⟩
    · skip
      subst h16
      refine lv_if_ne (tgt := 25) hx hb dX6_time_19 (by decide) (fun _ => ?_) (fun c_x => absurd c_x (by decide))
      refine lv_aload_n hx hb dX6_time_25 rfl (lv_at hl 0 rfl) ?_
      refine z_get (D := (dC, dI)) (ci := 6) (v := .ref x1) (C := RX6) (T := TX6) (N := 23) hx hb hts uX6 hown hK hP 0 rfl rfl 1 (by decide) w7 rfl rfl dX6_time_26 ?_
      refine lv_iload_n hx hb dX6_time_29 rfl (lv_at hl 1 rfl) ?_
      refine z_c0 (v := nI z.toNat) (z_ZtoN (by first | assumption | omega)) ?_
      refine z_iald (v := (nI (T z.toNat))) hx hb hK hP 1 0 rfl rfl z.toNat rfl (by omega) rfl dX6_time_30 ?_
      refine lv_istore_n (lv' := [(3, .int (nI (T z.toNat))), (0, .ref m0), (1, .int (iI z)), (2, .int (iI t))]) hx hb dX6_time_31 rfl hl (by decide) rfl (fun ls hl => ?_)
      refine lv_aload_n hx hb dX6_time_32 rfl (lv_at hl 1 rfl) ?_
      refine z_get (D := (dC, dI)) (ci := 6) (v := .ref x1) (C := RX6) (T := TX6) (N := 23) hx hb hts uX6 hown hK hP 0 rfl rfl 1 (by decide) w7 rfl rfl dX6_time_33 ?_
      refine lv_iload_n hx hb dX6_time_36 rfl (lv_at hl 2 rfl) ?_
      refine lv_iload_n hx hb dX6_time_37 rfl (lv_at hl 3 rfl) ?_
      refine z_c0 (v := nI t.toNat) (z_ZtoN (by first | assumption | omega)) ?_
      refine z_c1 (v := nI z.toNat) (z_ZtoN (by first | assumption | omega)) ?_
      refine z_iast hx hb hK hP hD hS 1 0 rfl rfl z.toNat rfl (by omega) (upd_N T z.toNat t.toNat) [(m0, .inr (6, [.int (nI N), .ref x1, .int (nI K), .ref x2, .ref x3, .ref x4, .int (nI lo), .ref x5, .ref x6, .ref x7, .ref x8, .int (nI ns), .int (nI nd), .ref x9, .ref y1, .ref y2, .int (nI rm), .ref y3, .ref y4, .ref y5, .ref y6, .ref y7, .int (nI pls)])), (x1, .inl (cI, 8, .inl (fun z_ => nI ((up T z.toNat t.toNat) z_))))] rfl dX6_time_38 (fun H locs hP hD hS => ?_)
      refine lv_iload_n hx hb dX6_time_39 rfl (lv_at hl 0 rfl) ?_
      refine z_c0 (v := iI ((T z.toNat : Nat) : Int)) (iI_N _) ?_
      have q_0 : ((T z.toNat : Nat) : Int) = if 0 ≤ z ∧ z < (N : Int) then (if 1 ≤ t ∧ t ≤ 20 then (T z.toNat : Int) else -2) else -1 := by (repeat (first | rw [if_pos (by omega)] | rw [if_neg (by omega)])); try omega
      have q_1 : (up T z.toNat t.toNat) = if ((0 ≤ z ∧ z < (N : Int)) ∧ (1 ≤ t ∧ t ≤ 20)) then up T z.toNat t.toNat else T := by (repeat (first | rw [if_pos (by omega)] | rw [if_neg (by omega)])); try omega
      exact hRET _ ls H locs ((iI ((T z.toNat : Nat) : Int))) (((T z.toNat : Nat) : Int), up T z.toNat t.toNat) dX6_time_40 ⟨rfl, q_0, q_1⟩ hP hD hS
    · skip
      subst h16
      refine lv_if_ne (tgt := 25) hx hb dX6_time_19 (by decide) (fun c_x => absurd c_x (by decide)) (fun _ => ?_)
      refine lv_bipush (v := iI (-2)) hx hb dX6_time_22 (by decide) ?_
      have q_0 : (-2 : Int) = if 0 ≤ z ∧ z < (N : Int) then (if 1 ≤ t ∧ t ≤ 20 then (T z.toNat : Int) else -2) else -1 := by (repeat (first | rw [if_pos (by omega)] | rw [if_neg (by omega)])); try omega
      have q_1 : T = if ((0 ≤ z ∧ z < (N : Int)) ∧ (1 ≤ t ∧ t ≤ 20)) then up T z.toNat t.toNat else T := by (repeat (first | rw [if_pos (by omega)] | rw [if_neg (by omega)])); try omega
      exact hRET _ ls H locs ((iI (-2))) ((-2 : Int), T) dX6_time_24 ⟨rfl, q_0, q_1⟩ hP hD hS
  · skip
    subst h2
    refine lv_if_ne (tgt := 10) hx hb dX6_time_5 (by decide) (fun c_x => absurd c_x (by decide)) (fun _ => ?_)
    refine lv_iconst (v := iI (-1)) hx hb dX6_time_8 (by decide) ?_
    have q_0 : (-1 : Int) = if 0 ≤ z ∧ z < (N : Int) then (if 1 ≤ t ∧ t ≤ 20 then (T z.toNat : Int) else -2) else -1 := by (repeat (first | rw [if_pos (by omega)] | rw [if_neg (by omega)])); try omega
    have q_1 : T = if ((0 ≤ z ∧ z < (N : Int)) ∧ (1 ≤ t ∧ t ≤ 20)) then up T z.toNat t.toNat else T := by (repeat (first | rw [if_pos (by omega)] | rw [if_neg (by omega)])); try omega
    exact hRET _ ls H locs ((iI (-1))) ((-1 : Int), T) dX6_time_9 ⟨rfl, q_0, q_1⟩ hP hD hS

set_option maxHeartbeats 4000000 in
set_option maxRecDepth 100000 in
theorem c_X6_put (l : Launch) (dC : Nat → ClassId) (dI : Nat → Nat → Nat) (cI cJ : ClassId) (sz : Nat) (m0 : Nat) (x1 : Nat) (x2 : Nat) (x3 : Nat) (x4 : Nat) (x5 : Nat) (x6 : Nat) (x7 : Nat) (x8 : Nat) (x9 : Nat) (y1 : Nat) (y2 : Nat) (y3 : Nat) (y4 : Nat) (y5 : Nat) (y6 : Nat) (y7 : Nat) (N : Nat) (K : Nat) (lo : Nat) (ns : Nat) (nd : Nat) (rm : Nat) (pls : Nat) (C : Nat → Nat) (z : Int) (t : Int) (bN : N ≤ 8) (bK : K ≤ 16) (bz : -2147483648 ≤ z ∧ z < 2147483648) (bt : -2147483648 ≤ t ∧ t < 2147483648) : Met l yX6_put wsX6_put (zR 2 0 0 46) (va_Pc [.ref m0, .int (iI z), .int (iI t)] (zP (dC, dI) [(cI, .int), (cJ, .long)] [(m0, .inr (6, [.int (nI N), .ref x1, .int (nI K), .ref x2, .ref x3, .ref x4, .int (nI lo), .ref x5, .ref x6, .ref x7, .ref x8, .int (nI ns), .int (nI nd), .ref x9, .ref y1, .ref y2, .int (nI rm), .ref y3, .ref y4, .ref y5, .ref y6, .ref y7, .int (nI pls)])), (x4, .inl (cI, 16, .inl (fun z_ => nI (C z_))))] sz nwA)) (va_Qi (fun (r : Int32) (u : (Int) × (Nat → Nat)) => r = (iI u.1) ∧ (u.1 = if 0 ≤ z ∧ z < (K : Int) then (if 0 ≤ t ∧ t ≤ 9 then (C z.toNat : Int) else -2) else -1) ∧ (u.2 = if ((0 ≤ z ∧ z < (K : Int)) ∧ (0 ≤ t ∧ t ≤ 9)) then up C z.toNat t.toNat else C)) (zB (dC, dI) (fun (u : (Int) × (Nat → Nat)) => [(m0, .inr (6, [.int (nI N), .ref x1, .int (nI K), .ref x2, .ref x3, .ref x4, .int (nI lo), .ref x5, .ref x6, .ref x7, .ref x8, .int (nI ns), .int (nI nd), .ref x9, .ref y1, .ref y2, .int (nI rm), .ref y3, .ref y4, .ref y5, .ref y6, .ref y7, .int (nI pls)])), (x4, .inl (cI, 16, .inl (fun z_ => nI (u.2 z_))))]) (va_A [(m0, .inr (6, [.int (nI N), .ref x1, .int (nI K), .ref x2, .ref x3, .ref x4, .int (nI lo), .ref x5, .ref x6, .ref x7, .ref x8, .int (nI ns), .int (nI nd), .ref x9, .ref y1, .ref y2, .int (nI rm), .ref y3, .ref y4, .ref y5, .ref y6, .ref y7, .int (nI pls)])), (x4, .inl (cI, 16, .inl (fun z_ => nI (C z_))))] sz)) (va_A [(m0, .inr (6, [.int (nI N), .ref x1, .int (nI K), .ref x2, .ref x3, .ref x4, .int (nI lo), .ref x5, .ref x6, .ref x7, .ref x8, .int (nI ns), .int (nI nd), .ref x9, .ref y1, .ref y2, .int (nI rm), .ref y3, .ref y4, .ref y5, .ref y6, .ref y7, .int (nI pls)])), (x4, .inl (cI, 16, .inl (fun z_ => nI (C z_))))] sz)) 0 0 (va_A [(m0, .inr (6, [.int (nI N), .ref x1, .int (nI K), .ref x2, .ref x3, .ref x4, .int (nI lo), .ref x5, .ref x6, .ref x7, .ref x8, .int (nI ns), .int (nI nd), .ref x9, .ref y1, .ref y2, .int (nI rm), .ref y3, .ref y4, .ref y5, .ref y6, .ref y7, .int (nI pls)])), (x4, .inl (cI, 16, .inl (fun z_ => nI (C z_))))] sz) := by
  refine z_met_i (cc := cX6_put) (maxL := 4) (by decide) rfl (Nat.le_of_ble_eq_true rfl) ?_
  intro p e s m args below meth c Q A ls hx hb hml hown hts hin hA hK hP hD hN hl hRET
  have hown : s.vm.findClass RX6 = some m.cls := hown
  obtain ⟨H, eH⟩ : ∃ H : Heap, H = s.heap := ⟨_, rfl⟩
  rw [← eH] at hP
  obtain ⟨locs, eL⟩ : ∃ z : List Loc, z = [] := ⟨_, rfl⟩
  rw [← eH, ← eL]
  have hS : va_S A s.heap H locs := by rw [eH, eL]; exact va_S.rf
  have hl : lv_has ls 4 [(0, .ref m0), (1, .int (iI z)), (2, .int (iI t))] := hl
  have w19 := hts (.fieldLink RX6 19 "PullCardsModel" "cards" "[I") (by decide +kernel)
  have uX6 : ∀ w ∈ wsX60, w ∈ wsX6_put := by decide +kernel
  refine lv_aload_n hx hb dX6_put_0 rfl (lv_at hl 0 rfl) ?_
  refine lv_iload_n hx hb dX6_put_1 rfl (lv_at hl 1 rfl) ?_
  refine z_callVi (As := [.int (iI z)]) (rest := []) (wr := [(x4, .inl (cI, 16, .inl (fun z_ => nI (C z_))))]) ⟨hx, hb, hml, hown, hts⟩ (c_X6_isArc l dC dI cI cJ H.size m0 x1 x2 x3 x4 x5 x6 x7 x8 x9 y1 y2 y3 y4 y5 y6 y7 N K lo ns nd rm pls z (by first | assumption | omega) (by first | assumption | omega) (by first | assumption | omega)) (cwV 1 hts gX6_put_X6_isArc rfl rfl rfl (by decide +kernel) ⟨Nat.le_of_ble_eq_true rfl, Nat.le_of_ble_eq_true rfl⟩) hA hK hP hD hS [0] [1] [1, 0] rfl rfl (by decide) (by decide) (by decide) nwA_ok hN (ci := 6) rfl rfl 0 rfl hl.1 (Nat.le_of_ble_eq_true rfl) ⟨Nat.le_refl _, Nat.le_refl _⟩ rfl rfl dX6_put_2 (fun (u : (Nat)) => [(m0, .inr (6, [.int (nI N), .ref x1, .int (nI K), .ref x2, .ref x3, .ref x4, .int (nI lo), .ref x5, .ref x6, .ref x7, .ref x8, .int (nI ns), .int (nI nd), .ref x9, .ref y1, .ref y2, .int (nI rm), .ref y3, .ref y4, .ref y5, .ref y6, .ref y7, .int (nI pls)])), (x4, .inl (cI, 16, .inl (fun z_ => nI (C z_))))]) (fun u => rfl) (by decide) (fun r_2 u H locs hw hP hD hS => ?_)
  obtain ⟨rv_2, eu⟩ : ∃ z, z = u := ⟨_, rfl⟩
  subst eu
  have hP : va_P (dC, dI) vwCl [(m0, .inr (6, [.int (nI N), .ref x1, .int (nI K), .ref x2, .ref x3, .ref x4, .int (nI lo), .ref x5, .ref x6, .ref x7, .ref x8, .int (nI ns), .int (nI nd), .ref x9, .ref y1, .ref y2, .int (nI rm), .ref y3, .ref y4, .ref y5, .ref y6, .ref y7, .int (nI pls)])), (x4, .inl (cI, 16, .inl (fun z_ => nI (C z_))))] H := hP
  have hD : va_D A [(m0, .inr (6, [.int (nI N), .ref x1, .int (nI K), .ref x2, .ref x3, .ref x4, .int (nI lo), .ref x5, .ref x6, .ref x7, .ref x8, .int (nI ns), .int (nI nd), .ref x9, .ref y1, .ref y2, .int (nI rm), .ref y3, .ref y4, .ref y5, .ref y6, .ref y7, .int (nI pls)])), (x4, .inl (cI, 16, .inl (fun z_ => nI (C z_))))] := hD
  obtain ⟨er, p2_0⟩ := hw
  have p2_0 : (rv_2 = 1 ∧ (0 ≤ z ∧ z < (K : Int))) ∨ (rv_2 = 0 ∧ ¬ (0 ≤ z ∧ z < (K : Int))) := p2_0
  have er : r_2 = (nI rv_2) := er
  subst er
  rcases p2_0 with ⟨h2, c_2⟩ | ⟨h2, c_2⟩
  · skip
    subst h2
    refine lv_if_ne (tgt := 10) hx hb dX6_put_5 (by decide) (fun _ => ?_) (fun c_x => absurd c_x (by decide))
    refine lv_iload_n hx hb dX6_put_10 rfl (lv_at hl 2 rfl) ?_
    refine lv_i2l (v := (lI t)) hx hb dX6_put_11 (zl_i2l rfl (by omega)) ?_
    refine lv_lconst (v := lN 0) hx hb dX6_put_12 (by decide) ?_
    refine lv_ldc2 (v := (9 : Int64)) hx hb hown (hts (.constantLong RX6 80 (9)) (by decide +kernel)) dX6_put_13 ?_
    refine z_l0 (v := (lN 9)) (by decide) ?_
    refine z_l0 (v := lI 9) (by decide) ?_
    refine z_l1 (v := lI 0) (by decide) ?_
    refine z_callSi (As := [.long (lI t), .long (lI 0), .long (lI 9)]) (rest := []) (wr := [(m0, .inr (6, [.int (nI N), .ref x1, .int (nI K), .ref x2, .ref x3, .ref x4, .int (nI lo), .ref x5, .ref x6, .ref x7, .ref x8, .int (nI ns), .int (nI nd), .ref x9, .ref y1, .ref y2, .int (nI rm), .ref y3, .ref y4, .ref y5, .ref y6, .ref y7, .int (nI pls)])), (x4, .inl (cI, 16, .inl (fun z_ => nI (C z_))))]) ⟨hx, hb, hml, hown, hts⟩ (c_X6_in l dC dI cI cJ H.size t (0 : Int) (9 : Int) (by first | assumption | omega) (by first | assumption | omega) (by first | assumption | omega)) (va_cwS 3 hts gX6_put_X6_in rfl rfl rfl (by decide +kernel) ⟨Nat.le_of_ble_eq_true rfl, Nat.le_of_ble_eq_true rfl⟩) hA hK hP hD hS [] [0, 1] [0, 1] rfl rfl (by decide) (by decide) (by decide) nwA_ok hN hl.1 (Nat.le_of_ble_eq_true rfl) ⟨Nat.le_refl _, Nat.le_refl _⟩ rfl rfl dX6_put_16 (fun (u : (Nat)) => [(m0, .inr (6, [.int (nI N), .ref x1, .int (nI K), .ref x2, .ref x3, .ref x4, .int (nI lo), .ref x5, .ref x6, .ref x7, .ref x8, .int (nI ns), .int (nI nd), .ref x9, .ref y1, .ref y2, .int (nI rm), .ref y3, .ref y4, .ref y5, .ref y6, .ref y7, .int (nI pls)])), (x4, .inl (cI, 16, .inl (fun z_ => nI (C z_))))]) (fun u => rfl) (by decide) (fun r_16 u H locs hw hP hD hS => ?_)
    obtain ⟨rv_16, eu⟩ : ∃ z, z = u := ⟨_, rfl⟩
    subst eu
    have hP : va_P (dC, dI) vwCl [(m0, .inr (6, [.int (nI N), .ref x1, .int (nI K), .ref x2, .ref x3, .ref x4, .int (nI lo), .ref x5, .ref x6, .ref x7, .ref x8, .int (nI ns), .int (nI nd), .ref x9, .ref y1, .ref y2, .int (nI rm), .ref y3, .ref y4, .ref y5, .ref y6, .ref y7, .int (nI pls)])), (x4, .inl (cI, 16, .inl (fun z_ => nI (C z_))))] H := hP
    have hD : va_D A [(m0, .inr (6, [.int (nI N), .ref x1, .int (nI K), .ref x2, .ref x3, .ref x4, .int (nI lo), .ref x5, .ref x6, .ref x7, .ref x8, .int (nI ns), .int (nI nd), .ref x9, .ref y1, .ref y2, .int (nI rm), .ref y3, .ref y4, .ref y5, .ref y6, .ref y7, .int (nI pls)])), (x4, .inl (cI, 16, .inl (fun z_ => nI (C z_))))] := hD
    obtain ⟨er, p16_0⟩ := hw
    have p16_0 : (rv_16 = 1 ∧ ((0 : Int) ≤ t ∧ t ≤ (9 : Int))) ∨ (rv_16 = 0 ∧ ¬ ((0 : Int) ≤ t ∧ t ≤ (9 : Int))) := p16_0
    have er : r_16 = (nI rv_16) := er
    subst er
    rcases p16_0 with ⟨h16, c_16⟩ | ⟨h16, c_16⟩
    · skip
      subst h16
      refine lv_if_ne (tgt := 25) hx hb dX6_put_19 (by decide) (fun _ => ?_) (fun c_x => absurd c_x (by decide))
      refine lv_aload_n hx hb dX6_put_25 rfl (lv_at hl 0 rfl) ?_
      refine z_get (D := (dC, dI)) (ci := 6) (v := .ref x4) (C := RX6) (T := TX6) (N := 23) hx hb hts uX6 hown hK hP 0 rfl rfl 5 (by decide) w19 rfl rfl dX6_put_26 ?_
      refine lv_iload_n hx hb dX6_put_29 rfl (lv_at hl 1 rfl) ?_
      refine z_c0 (v := nI z.toNat) (z_ZtoN (by first | assumption | omega)) ?_
      refine z_iald (v := (nI (C z.toNat))) hx hb hK hP 1 0 rfl rfl z.toNat rfl (by omega) rfl dX6_put_30 ?_
      refine lv_istore_n (lv' := [(3, .int (nI (C z.toNat))), (0, .ref m0), (1, .int (iI z)), (2, .int (iI t))]) hx hb dX6_put_31 rfl hl (by decide) rfl (fun ls hl => ?_)
      refine lv_aload_n hx hb dX6_put_32 rfl (lv_at hl 1 rfl) ?_
      refine z_get (D := (dC, dI)) (ci := 6) (v := .ref x4) (C := RX6) (T := TX6) (N := 23) hx hb hts uX6 hown hK hP 0 rfl rfl 5 (by decide) w19 rfl rfl dX6_put_33 ?_
      refine lv_iload_n hx hb dX6_put_36 rfl (lv_at hl 2 rfl) ?_
      refine lv_iload_n hx hb dX6_put_37 rfl (lv_at hl 3 rfl) ?_
      refine z_c0 (v := nI t.toNat) (z_ZtoN (by first | assumption | omega)) ?_
      refine z_c1 (v := nI z.toNat) (z_ZtoN (by first | assumption | omega)) ?_
      refine z_iast hx hb hK hP hD hS 1 0 rfl rfl z.toNat rfl (by omega) (upd_N C z.toNat t.toNat) [(m0, .inr (6, [.int (nI N), .ref x1, .int (nI K), .ref x2, .ref x3, .ref x4, .int (nI lo), .ref x5, .ref x6, .ref x7, .ref x8, .int (nI ns), .int (nI nd), .ref x9, .ref y1, .ref y2, .int (nI rm), .ref y3, .ref y4, .ref y5, .ref y6, .ref y7, .int (nI pls)])), (x4, .inl (cI, 16, .inl (fun z_ => nI ((up C z.toNat t.toNat) z_))))] rfl dX6_put_38 (fun H locs hP hD hS => ?_)
      refine lv_iload_n hx hb dX6_put_39 rfl (lv_at hl 0 rfl) ?_
      refine z_c0 (v := iI ((C z.toNat : Nat) : Int)) (iI_N _) ?_
      have q_0 : ((C z.toNat : Nat) : Int) = if 0 ≤ z ∧ z < (K : Int) then (if 0 ≤ t ∧ t ≤ 9 then (C z.toNat : Int) else -2) else -1 := by (repeat (first | rw [if_pos (by omega)] | rw [if_neg (by omega)])); try omega
      have q_1 : (up C z.toNat t.toNat) = if ((0 ≤ z ∧ z < (K : Int)) ∧ (0 ≤ t ∧ t ≤ 9)) then up C z.toNat t.toNat else C := by (repeat (first | rw [if_pos (by omega)] | rw [if_neg (by omega)])); try omega
      exact hRET _ ls H locs ((iI ((C z.toNat : Nat) : Int))) (((C z.toNat : Nat) : Int), up C z.toNat t.toNat) dX6_put_40 ⟨rfl, q_0, q_1⟩ hP hD hS
    · skip
      subst h16
      refine lv_if_ne (tgt := 25) hx hb dX6_put_19 (by decide) (fun c_x => absurd c_x (by decide)) (fun _ => ?_)
      refine lv_bipush (v := iI (-2)) hx hb dX6_put_22 (by decide) ?_
      have q_0 : (-2 : Int) = if 0 ≤ z ∧ z < (K : Int) then (if 0 ≤ t ∧ t ≤ 9 then (C z.toNat : Int) else -2) else -1 := by (repeat (first | rw [if_pos (by omega)] | rw [if_neg (by omega)])); try omega
      have q_1 : C = if ((0 ≤ z ∧ z < (K : Int)) ∧ (0 ≤ t ∧ t ≤ 9)) then up C z.toNat t.toNat else C := by (repeat (first | rw [if_pos (by omega)] | rw [if_neg (by omega)])); try omega
      exact hRET _ ls H locs ((iI (-2))) ((-2 : Int), C) dX6_put_24 ⟨rfl, q_0, q_1⟩ hP hD hS
  · skip
    subst h2
    refine lv_if_ne (tgt := 10) hx hb dX6_put_5 (by decide) (fun c_x => absurd c_x (by decide)) (fun _ => ?_)
    refine lv_iconst (v := iI (-1)) hx hb dX6_put_8 (by decide) ?_
    have q_0 : (-1 : Int) = if 0 ≤ z ∧ z < (K : Int) then (if 0 ≤ t ∧ t ≤ 9 then (C z.toNat : Int) else -2) else -1 := by (repeat (first | rw [if_pos (by omega)] | rw [if_neg (by omega)])); try omega
    have q_1 : C = if ((0 ≤ z ∧ z < (K : Int)) ∧ (0 ≤ t ∧ t ≤ 9)) then up C z.toNat t.toNat else C := by (repeat (first | rw [if_pos (by omega)] | rw [if_neg (by omega)])); try omega
    exact hRET _ ls H locs ((iI (-1))) ((-1 : Int), C) dX6_put_9 ⟨rfl, q_0, q_1⟩ hP hD hS

set_option maxHeartbeats 4000000 in
set_option maxRecDepth 100000 in
theorem c_X6_about (l : Launch) (dC : Nat → ClassId) (dI : Nat → Nat → Nat) (cI cJ : ClassId) (sz : Nat) (m0 : Nat) (x1 : Nat) (x2 : Nat) (x3 : Nat) (x4 : Nat) (x5 : Nat) (x6 : Nat) (x7 : Nat) (x8 : Nat) (x9 : Nat) (y1 : Nat) (y2 : Nat) (y3 : Nat) (y4 : Nat) (y5 : Nat) (y6 : Nat) (y7 : Nat) (N : Nat) (K : Nat) (lo : Nat) (ns : Nat) (nd : Nat) (rm : Nat) (pls : Nat) (F : Nat → Nat) (G : Nat → Nat) (C : Nat → Nat) (z : Int) (w : Int) (bN : N ≤ 8) (bK : K ≤ 16) (bz : -2147483648 ≤ z ∧ z < 2147483648) (bw : -2147483648 ≤ w ∧ w < 2147483648) : Met l yX6_about wsX6_about (zR 2 0 0 46) (va_Pc [.ref m0, .int (iI z), .int (iI w)] (zP (dC, dI) [(cI, .int), (cJ, .long)] [(m0, .inr (6, [.int (nI N), .ref x1, .int (nI K), .ref x2, .ref x3, .ref x4, .int (nI lo), .ref x5, .ref x6, .ref x7, .ref x8, .int (nI ns), .int (nI nd), .ref x9, .ref y1, .ref y2, .int (nI rm), .ref y3, .ref y4, .ref y5, .ref y6, .ref y7, .int (nI pls)])), (x2, .inl (cI, 16, .inl (fun z_ => nI (F z_)))), (x3, .inl (cI, 16, .inl (fun z_ => nI (G z_)))), (x4, .inl (cI, 16, .inl (fun z_ => nI (C z_))))] sz nwA)) (va_Qi (fun (r : Int32) (u : (Int)) => r = (iI u) ∧ (u = if 0 ≤ z ∧ z < (K : Int) then (if w = 0 then (F z.toNat : Int) else if w = 1 then (G z.toNat : Int) else if w = 2 then (C z.toNat : Int) else -2) else -1)) (zB (dC, dI) (fun (u : (Int)) => [(m0, .inr (6, [.int (nI N), .ref x1, .int (nI K), .ref x2, .ref x3, .ref x4, .int (nI lo), .ref x5, .ref x6, .ref x7, .ref x8, .int (nI ns), .int (nI nd), .ref x9, .ref y1, .ref y2, .int (nI rm), .ref y3, .ref y4, .ref y5, .ref y6, .ref y7, .int (nI pls)])), (x2, .inl (cI, 16, .inl (fun z_ => nI (F z_)))), (x3, .inl (cI, 16, .inl (fun z_ => nI (G z_)))), (x4, .inl (cI, 16, .inl (fun z_ => nI (C z_))))]) (va_A [(m0, .inr (6, [.int (nI N), .ref x1, .int (nI K), .ref x2, .ref x3, .ref x4, .int (nI lo), .ref x5, .ref x6, .ref x7, .ref x8, .int (nI ns), .int (nI nd), .ref x9, .ref y1, .ref y2, .int (nI rm), .ref y3, .ref y4, .ref y5, .ref y6, .ref y7, .int (nI pls)])), (x2, .inl (cI, 16, .inl (fun z_ => nI (F z_)))), (x3, .inl (cI, 16, .inl (fun z_ => nI (G z_)))), (x4, .inl (cI, 16, .inl (fun z_ => nI (C z_))))] sz)) (va_A [(m0, .inr (6, [.int (nI N), .ref x1, .int (nI K), .ref x2, .ref x3, .ref x4, .int (nI lo), .ref x5, .ref x6, .ref x7, .ref x8, .int (nI ns), .int (nI nd), .ref x9, .ref y1, .ref y2, .int (nI rm), .ref y3, .ref y4, .ref y5, .ref y6, .ref y7, .int (nI pls)])), (x2, .inl (cI, 16, .inl (fun z_ => nI (F z_)))), (x3, .inl (cI, 16, .inl (fun z_ => nI (G z_)))), (x4, .inl (cI, 16, .inl (fun z_ => nI (C z_))))] sz)) 0 0 (va_A [(m0, .inr (6, [.int (nI N), .ref x1, .int (nI K), .ref x2, .ref x3, .ref x4, .int (nI lo), .ref x5, .ref x6, .ref x7, .ref x8, .int (nI ns), .int (nI nd), .ref x9, .ref y1, .ref y2, .int (nI rm), .ref y3, .ref y4, .ref y5, .ref y6, .ref y7, .int (nI pls)])), (x2, .inl (cI, 16, .inl (fun z_ => nI (F z_)))), (x3, .inl (cI, 16, .inl (fun z_ => nI (G z_)))), (x4, .inl (cI, 16, .inl (fun z_ => nI (C z_))))] sz) := by
  refine z_met_i (cc := cX6_about) (maxL := 3) (by decide) rfl (Nat.le_of_ble_eq_true rfl) ?_
  intro p e s m args below meth c Q A ls hx hb hml hown hts hin hA hK hP hD hN hl hRET
  have hown : s.vm.findClass RX6 = some m.cls := hown
  obtain ⟨H, eH⟩ : ∃ H : Heap, H = s.heap := ⟨_, rfl⟩
  rw [← eH] at hP
  obtain ⟨locs, eL⟩ : ∃ z : List Loc, z = [] := ⟨_, rfl⟩
  rw [← eH, ← eL]
  have hS : va_S A s.heap H locs := by rw [eH, eL]; exact va_S.rf
  have hl : lv_has ls 3 [(0, .ref m0), (1, .int (iI z)), (2, .int (iI w))] := hl
  have w13 := hts (.fieldLink RX6 13 "PullCardsModel" "from" "[I") (by decide +kernel)
  have uX6 : ∀ w ∈ wsX60, w ∈ wsX6_about := by decide +kernel
  have w16 := hts (.fieldLink RX6 16 "PullCardsModel" "to" "[I") (by decide +kernel)
  have w19 := hts (.fieldLink RX6 19 "PullCardsModel" "cards" "[I") (by decide +kernel)
  refine lv_aload_n hx hb dX6_about_0 rfl (lv_at hl 0 rfl) ?_
  refine lv_iload_n hx hb dX6_about_1 rfl (lv_at hl 1 rfl) ?_
  refine z_callVi (As := [.int (iI z)]) (rest := []) (wr := [(x2, .inl (cI, 16, .inl (fun z_ => nI (F z_)))), (x3, .inl (cI, 16, .inl (fun z_ => nI (G z_)))), (x4, .inl (cI, 16, .inl (fun z_ => nI (C z_))))]) ⟨hx, hb, hml, hown, hts⟩ (c_X6_isArc l dC dI cI cJ H.size m0 x1 x2 x3 x4 x5 x6 x7 x8 x9 y1 y2 y3 y4 y5 y6 y7 N K lo ns nd rm pls z (by first | assumption | omega) (by first | assumption | omega) (by first | assumption | omega)) (cwV 1 hts gX6_about_X6_isArc rfl rfl rfl (by decide +kernel) ⟨Nat.le_of_ble_eq_true rfl, Nat.le_of_ble_eq_true rfl⟩) hA hK hP hD hS [0] [1, 2, 3] [3, 0, 1, 2] rfl rfl (by decide) (by decide) (by decide) nwA_ok hN (ci := 6) rfl rfl 0 rfl hl.1 (Nat.le_of_ble_eq_true rfl) ⟨Nat.le_refl _, Nat.le_refl _⟩ rfl rfl dX6_about_2 (fun (u : (Nat)) => [(m0, .inr (6, [.int (nI N), .ref x1, .int (nI K), .ref x2, .ref x3, .ref x4, .int (nI lo), .ref x5, .ref x6, .ref x7, .ref x8, .int (nI ns), .int (nI nd), .ref x9, .ref y1, .ref y2, .int (nI rm), .ref y3, .ref y4, .ref y5, .ref y6, .ref y7, .int (nI pls)])), (x2, .inl (cI, 16, .inl (fun z_ => nI (F z_)))), (x3, .inl (cI, 16, .inl (fun z_ => nI (G z_)))), (x4, .inl (cI, 16, .inl (fun z_ => nI (C z_))))]) (fun u => rfl) (by decide) (fun r_2 u H locs hw hP hD hS => ?_)
  obtain ⟨rv_2, eu⟩ : ∃ z, z = u := ⟨_, rfl⟩
  subst eu
  have hP : va_P (dC, dI) vwCl [(m0, .inr (6, [.int (nI N), .ref x1, .int (nI K), .ref x2, .ref x3, .ref x4, .int (nI lo), .ref x5, .ref x6, .ref x7, .ref x8, .int (nI ns), .int (nI nd), .ref x9, .ref y1, .ref y2, .int (nI rm), .ref y3, .ref y4, .ref y5, .ref y6, .ref y7, .int (nI pls)])), (x2, .inl (cI, 16, .inl (fun z_ => nI (F z_)))), (x3, .inl (cI, 16, .inl (fun z_ => nI (G z_)))), (x4, .inl (cI, 16, .inl (fun z_ => nI (C z_))))] H := hP
  have hD : va_D A [(m0, .inr (6, [.int (nI N), .ref x1, .int (nI K), .ref x2, .ref x3, .ref x4, .int (nI lo), .ref x5, .ref x6, .ref x7, .ref x8, .int (nI ns), .int (nI nd), .ref x9, .ref y1, .ref y2, .int (nI rm), .ref y3, .ref y4, .ref y5, .ref y6, .ref y7, .int (nI pls)])), (x2, .inl (cI, 16, .inl (fun z_ => nI (F z_)))), (x3, .inl (cI, 16, .inl (fun z_ => nI (G z_)))), (x4, .inl (cI, 16, .inl (fun z_ => nI (C z_))))] := hD
  obtain ⟨er, p2_0⟩ := hw
  have p2_0 : (rv_2 = 1 ∧ (0 ≤ z ∧ z < (K : Int))) ∨ (rv_2 = 0 ∧ ¬ (0 ≤ z ∧ z < (K : Int))) := p2_0
  have er : r_2 = (nI rv_2) := er
  subst er
  rcases p2_0 with ⟨h2, c_2⟩ | ⟨h2, c_2⟩
  · skip
    subst h2
    refine lv_if_ne (tgt := 10) hx hb dX6_about_5 (by decide) (fun _ => ?_) (fun c_x => absurd c_x (by decide))
    refine lv_iload_n hx hb dX6_about_10 rfl (lv_at hl 2 rfl) ?_
    refine z_if_ne (tgt := 23) hx hb dX6_about_11 (by decide) (zc_eq (a := w) (b := 0) rfl iI_0 (by omega)) (fun c_11 => ?_) (fun c_11 => ?_)
    · skip
      refine lv_iload_n hx hb dX6_about_23 rfl (lv_at hl 2 rfl) ?_
      refine lv_iconst (v := nI 1) hx hb dX6_about_24 (by decide) ?_
      refine z_icmp_ne (tgt := 37) hx hb dX6_about_25 (by decide) (zc_eq (a := w) (b := 1) rfl (iI_N _) (by omega)) (fun c_25 => ?_) (fun c_25 => ?_)
      · skip
        refine lv_iload_n hx hb dX6_about_37 rfl (lv_at hl 2 rfl) ?_
        refine lv_iconst (v := nI 2) hx hb dX6_about_38 (by decide) ?_
        refine z_icmp_ne (tgt := 51) hx hb dX6_about_39 (by decide) (zc_eq (a := w) (b := 2) rfl (iI_N _) (by omega)) (fun c_39 => ?_) (fun c_39 => ?_)
        · skip
          refine lv_bipush (v := iI (-2)) hx hb dX6_about_51 (by decide) ?_
          have q_0 : (-2 : Int) = if 0 ≤ z ∧ z < (K : Int) then (if w = 0 then (F z.toNat : Int) else if w = 1 then (G z.toNat : Int) else if w = 2 then (C z.toNat : Int) else -2) else -1 := by (repeat (first | rw [if_pos (by omega)] | rw [if_neg (by omega)])); try omega
          exact hRET _ ls H locs ((iI (-2))) ((-2 : Int)) dX6_about_53 ⟨rfl, q_0⟩ hP hD hS
        · skip
          refine lv_aload_n hx hb dX6_about_42 rfl (lv_at hl 0 rfl) ?_
          refine z_get (D := (dC, dI)) (ci := 6) (v := .ref x4) (C := RX6) (T := TX6) (N := 23) hx hb hts uX6 hown hK hP 0 rfl rfl 5 (by decide) w19 rfl rfl dX6_about_43 ?_
          refine lv_iload_n hx hb dX6_about_46 rfl (lv_at hl 1 rfl) ?_
          refine z_c0 (v := nI z.toNat) (z_ZtoN (by first | assumption | omega)) ?_
          refine z_iald (v := (nI (C z.toNat))) hx hb hK hP 3 0 rfl rfl z.toNat rfl (by omega) rfl dX6_about_47 ?_
          refine lv_goto (tgt := 53) hx hb dX6_about_48 (by decide) ?_
          refine z_c0 (v := iI ((C z.toNat : Nat) : Int)) (iI_N _) ?_
          have q_0 : ((C z.toNat : Nat) : Int) = if 0 ≤ z ∧ z < (K : Int) then (if w = 0 then (F z.toNat : Int) else if w = 1 then (G z.toNat : Int) else if w = 2 then (C z.toNat : Int) else -2) else -1 := by (repeat (first | rw [if_pos (by omega)] | rw [if_neg (by omega)])); try omega
          exact hRET _ ls H locs ((iI ((C z.toNat : Nat) : Int))) (((C z.toNat : Nat) : Int)) dX6_about_53 ⟨rfl, q_0⟩ hP hD hS
      · skip
        refine lv_aload_n hx hb dX6_about_28 rfl (lv_at hl 0 rfl) ?_
        refine z_get (D := (dC, dI)) (ci := 6) (v := .ref x3) (C := RX6) (T := TX6) (N := 23) hx hb hts uX6 hown hK hP 0 rfl rfl 4 (by decide) w16 rfl rfl dX6_about_29 ?_
        refine lv_iload_n hx hb dX6_about_32 rfl (lv_at hl 1 rfl) ?_
        refine z_c0 (v := nI z.toNat) (z_ZtoN (by first | assumption | omega)) ?_
        refine z_iald (v := (nI (G z.toNat))) hx hb hK hP 2 0 rfl rfl z.toNat rfl (by omega) rfl dX6_about_33 ?_
        refine lv_goto (tgt := 53) hx hb dX6_about_34 (by decide) ?_
        refine z_c0 (v := iI ((G z.toNat : Nat) : Int)) (iI_N _) ?_
        have q_0 : ((G z.toNat : Nat) : Int) = if 0 ≤ z ∧ z < (K : Int) then (if w = 0 then (F z.toNat : Int) else if w = 1 then (G z.toNat : Int) else if w = 2 then (C z.toNat : Int) else -2) else -1 := by (repeat (first | rw [if_pos (by omega)] | rw [if_neg (by omega)])); try omega
        exact hRET _ ls H locs ((iI ((G z.toNat : Nat) : Int))) (((G z.toNat : Nat) : Int)) dX6_about_53 ⟨rfl, q_0⟩ hP hD hS
    · skip
      refine lv_aload_n hx hb dX6_about_14 rfl (lv_at hl 0 rfl) ?_
      refine z_get (D := (dC, dI)) (ci := 6) (v := .ref x2) (C := RX6) (T := TX6) (N := 23) hx hb hts uX6 hown hK hP 0 rfl rfl 3 (by decide) w13 rfl rfl dX6_about_15 ?_
      refine lv_iload_n hx hb dX6_about_18 rfl (lv_at hl 1 rfl) ?_
      refine z_c0 (v := nI z.toNat) (z_ZtoN (by first | assumption | omega)) ?_
      refine z_iald (v := (nI (F z.toNat))) hx hb hK hP 1 0 rfl rfl z.toNat rfl (by omega) rfl dX6_about_19 ?_
      refine lv_goto (tgt := 53) hx hb dX6_about_20 (by decide) ?_
      refine z_c0 (v := iI ((F z.toNat : Nat) : Int)) (iI_N _) ?_
      have q_0 : ((F z.toNat : Nat) : Int) = if 0 ≤ z ∧ z < (K : Int) then (if w = 0 then (F z.toNat : Int) else if w = 1 then (G z.toNat : Int) else if w = 2 then (C z.toNat : Int) else -2) else -1 := by (repeat (first | rw [if_pos (by omega)] | rw [if_neg (by omega)])); try omega
      exact hRET _ ls H locs ((iI ((F z.toNat : Nat) : Int))) (((F z.toNat : Nat) : Int)) dX6_about_53 ⟨rfl, q_0⟩ hP hD hS
  · skip
    subst h2
    refine lv_if_ne (tgt := 10) hx hb dX6_about_5 (by decide) (fun c_x => absurd c_x (by decide)) (fun _ => ?_)
    refine lv_iconst (v := iI (-1)) hx hb dX6_about_8 (by decide) ?_
    have q_0 : (-1 : Int) = if 0 ≤ z ∧ z < (K : Int) then (if w = 0 then (F z.toNat : Int) else if w = 1 then (G z.toNat : Int) else if w = 2 then (C z.toNat : Int) else -2) else -1 := by (repeat (first | rw [if_pos (by omega)] | rw [if_neg (by omega)])); try omega
    exact hRET _ ls H locs ((iI (-1))) ((-1 : Int)) dX6_about_9 ⟨rfl, q_0⟩ hP hD hS

set_option maxHeartbeats 4000000 in
set_option maxRecDepth 100000 in
theorem c_X6_isReady (l : Launch) (dC : Nat → ClassId) (dI : Nat → Nat → Nat) (cI cJ : ClassId) (sz : Nat) (m0 : Nat) (x1 : Nat) (x2 : Nat) (x3 : Nat) (x4 : Nat) (x5 : Nat) (x6 : Nat) (x7 : Nat) (x8 : Nat) (x9 : Nat) (y1 : Nat) (y2 : Nat) (y3 : Nat) (y4 : Nat) (y5 : Nat) (y6 : Nat) (y7 : Nat) (N : Nat) (K : Nat) (lo : Nat) (ns : Nat) (nd : Nat) (rm : Nat) (pls : Nat) (G : Nat → Nat) (C : Nat → Nat) (v : Nat) (bK : K ≤ 16) (bC : ∀ a, C a ≤ 9) (bG : ∀ a, G a < 8) (bv : v < 8) : Met l yX6_isReady wsX6_isReady (zR 0 0 0 0) (va_Pc [.ref m0, .int (nI v)] (zP (dC, dI) [(cI, .int), (cJ, .long)] [(m0, .inr (6, [.int (nI N), .ref x1, .int (nI K), .ref x2, .ref x3, .ref x4, .int (nI lo), .ref x5, .ref x6, .ref x7, .ref x8, .int (nI ns), .int (nI nd), .ref x9, .ref y1, .ref y2, .int (nI rm), .ref y3, .ref y4, .ref y5, .ref y6, .ref y7, .int (nI pls)])), (x3, .inl (cI, 16, .inl (fun z_ => nI (G z_)))), (x4, .inl (cI, 16, .inl (fun z_ => nI (C z_))))] sz nwA)) (va_Qi (fun (r : Int32) (u : (Nat)) => r = (nI u) ∧ ((u = 1 ∧ sp_rdy K G C v = true) ∨ (u = 0 ∧ sp_rdy K G C v = false))) (zB (dC, dI) (fun (u : (Nat)) => [(m0, .inr (6, [.int (nI N), .ref x1, .int (nI K), .ref x2, .ref x3, .ref x4, .int (nI lo), .ref x5, .ref x6, .ref x7, .ref x8, .int (nI ns), .int (nI nd), .ref x9, .ref y1, .ref y2, .int (nI rm), .ref y3, .ref y4, .ref y5, .ref y6, .ref y7, .int (nI pls)])), (x3, .inl (cI, 16, .inl (fun z_ => nI (G z_)))), (x4, .inl (cI, 16, .inl (fun z_ => nI (C z_))))]) (va_A [(m0, .inr (6, [.int (nI N), .ref x1, .int (nI K), .ref x2, .ref x3, .ref x4, .int (nI lo), .ref x5, .ref x6, .ref x7, .ref x8, .int (nI ns), .int (nI nd), .ref x9, .ref y1, .ref y2, .int (nI rm), .ref y3, .ref y4, .ref y5, .ref y6, .ref y7, .int (nI pls)])), (x3, .inl (cI, 16, .inl (fun z_ => nI (G z_)))), (x4, .inl (cI, 16, .inl (fun z_ => nI (C z_))))] sz)) (va_A [(m0, .inr (6, [.int (nI N), .ref x1, .int (nI K), .ref x2, .ref x3, .ref x4, .int (nI lo), .ref x5, .ref x6, .ref x7, .ref x8, .int (nI ns), .int (nI nd), .ref x9, .ref y1, .ref y2, .int (nI rm), .ref y3, .ref y4, .ref y5, .ref y6, .ref y7, .int (nI pls)])), (x3, .inl (cI, 16, .inl (fun z_ => nI (G z_)))), (x4, .inl (cI, 16, .inl (fun z_ => nI (C z_))))] sz)) 0 0 (va_A [(m0, .inr (6, [.int (nI N), .ref x1, .int (nI K), .ref x2, .ref x3, .ref x4, .int (nI lo), .ref x5, .ref x6, .ref x7, .ref x8, .int (nI ns), .int (nI nd), .ref x9, .ref y1, .ref y2, .int (nI rm), .ref y3, .ref y4, .ref y5, .ref y6, .ref y7, .int (nI pls)])), (x3, .inl (cI, 16, .inl (fun z_ => nI (G z_)))), (x4, .inl (cI, 16, .inl (fun z_ => nI (C z_))))] sz) := by
  refine z_met_z (cc := cX6_isReady) (maxL := 4) (by decide) rfl (Nat.le_of_ble_eq_true rfl) ?_
  intro p e s m args below meth c Q A ls hx hb hml hown hts hin hA hK hP hD hN hl hRET
  have hown : s.vm.findClass RX6 = some m.cls := hown
  obtain ⟨H, eH⟩ : ∃ H : Heap, H = s.heap := ⟨_, rfl⟩
  rw [← eH] at hP
  obtain ⟨locs, eL⟩ : ∃ z : List Loc, z = [] := ⟨_, rfl⟩
  rw [← eH, ← eL]
  have hS : va_S A s.heap H locs := by rw [eH, eL]; exact va_S.rf
  have hl : lv_has ls 4 [(0, .ref m0), (1, .int (nI v))] := hl
  have w67 := hts (.fieldLink RX6 67 "PullCardsModel" "arcs" "I") (by decide +kernel)
  have uX6 : ∀ w ∈ wsX60, w ∈ wsX6_isReady := by decide +kernel
  have w16 := hts (.fieldLink RX6 16 "PullCardsModel" "to" "[I") (by decide +kernel)
  have w19 := hts (.fieldLink RX6 19 "PullCardsModel" "cards" "[I") (by decide +kernel)
  refine lv_iconst (v := nI 1) hx hb dX6_isReady_0 (by decide) ?_
  refine lv_istore_n (lv' := [(2, .int (nI 1)), (0, .ref m0), (1, .int (nI v))]) hx hb dX6_isReady_1 rfl hl (by decide) rfl (fun ls hl => ?_)
  refine lv_iconst (v := nI 0) hx hb dX6_isReady_2 (by decide) ?_
  refine lv_istore_n (lv' := [(3, .int (nI 0)), (2, .int (nI 1)), (0, .ref m0), (1, .int (nI v))]) hx hb dX6_isReady_3 rfl hl (by decide) rfl (fun ls hl => ?_)
  have L4 : ∀ (n4 : Nat) (j : Nat) (b : Nat), (K - j) < n4 → (j ≤ K) → ((b = 1 ∧ (∀ a, a < j → G a = v → ¬ C a = 0)) ∨ (b = 0 ∧ (∃ a, a < j ∧ (G a = v ∧ C a = 0)))) → (b ≤ 1) → ∀ (H : Heap) (locs : List Loc), va_P (dC, dI) vwCl [(m0, .inr (6, [.int (nI N), .ref x1, .int (nI K), .ref x2, .ref x3, .ref x4, .int (nI lo), .ref x5, .ref x6, .ref x7, .ref x8, .int (nI ns), .int (nI nd), .ref x9, .ref y1, .ref y2, .int (nI rm), .ref y3, .ref y4, .ref y5, .ref y6, .ref y7, .int (nI pls)])), (x3, .inl (cI, 16, .inl (fun z_ => nI (G z_)))), (x4, .inl (cI, 16, .inl (fun z_ => nI (C z_))))] H → va_D A [(m0, .inr (6, [.int (nI N), .ref x1, .int (nI K), .ref x2, .ref x3, .ref x4, .int (nI lo), .ref x5, .ref x6, .ref x7, .ref x8, .int (nI ns), .int (nI nd), .ref x9, .ref y1, .ref y2, .int (nI rm), .ref y3, .ref y4, .ref y5, .ref y6, .ref y7, .int (nI pls)])), (x3, .inl (cI, 16, .inl (fun z_ => nI (G z_)))), (x4, .inl (cI, 16, .inl (fun z_ => nI (C z_))))] → va_S A s.heap H locs → ∀ (ls : Array Slot), lv_has ls 4 [(0, .ref m0), (1, .int (nI v)), (2, .int (nI b)), (3, .int (nI j))] → W p l e (zR 0 0 0 0) s m args below meth c H locs 0 0 Q (F0 m 4 ls []) := by
    intro n4
    induction n4 with
    | zero => intro j b hn; exact absurd hn (Nat.not_lt_zero _)
    | succ n4 ih =>
      intro j b hn i1 i2 i3 H locs hP hD hS ls hl
      have ih4 := ih
      have hn4 := hn
      clear ih hn
      refine lv_iload_n hx hb dX6_isReady_4 rfl (lv_at hl 3 rfl) ?_
      refine lv_aload_n hx hb dX6_isReady_5 rfl (lv_at hl 0 rfl) ?_
      refine z_get (D := (dC, dI)) (ci := 6) (v := .int (nI K)) (C := RX6) (T := TX6) (N := 23) hx hb hts uX6 hown hK hP 0 rfl rfl 2 (by decide) w67 rfl rfl dX6_isReady_6 ?_
      refine z_icmp_ge (tgt := 47) hx hb dX6_isReady_9 (by decide) (zcn_le (a := K) (b := j) rfl rfl (by omega)) (fun c_9 => ?_) (fun c_9 => ?_)
      · skip
        refine lv_iload_n hx hb dX6_isReady_47 rfl (lv_at hl 2 rfl) ?_
        have q_0 : (b = 1 ∧ sp_rdy K G C v = true) ∨ (b = 0 ∧ sp_rdy K G C v = false) := by rcases i2 with ⟨hz, h⟩ | ⟨hz, a, h1, h2⟩; exact Or.inl ⟨hz, sp_rdy_t (fun a ha => h a (by omega))⟩; exact Or.inr ⟨hz, sp_rdy_f a (by omega) h2.1 h2.2⟩
        exact hRET _ ls H locs ((nI b)) (b) dX6_isReady_48 (by exact z_nb (by rcases i2 with h | h; exact Or.inr h.1; exact Or.inl h.1)) ⟨rfl, q_0⟩ hP hD hS
      · skip
        refine lv_iload_n hx hb dX6_isReady_12 rfl (lv_at hl 2 rfl) ?_
        refine z_if_eq (tgt := 39) hx hb dX6_isReady_13 (by decide) (zcn_eq (a := b) (b := 0) rfl nI_00 (by omega)) (fun c_13 => ?_) (fun c_13 => ?_)
        · skip
          refine lv_iconst (v := nI 0) hx hb dX6_isReady_39 (by decide) ?_
          refine lv_istore_n (lv' := [(2, .int (nI 0)), (0, .ref m0), (1, .int (nI v)), (3, .int (nI j))]) hx hb dX6_isReady_40 rfl hl (by decide) rfl (fun ls hl => ?_)
          refine lv_iinc (v := (nI (j + 1))) (lv' := [(3, .int (nI (j + 1))), (2, .int (nI 0)), (0, .ref m0), (1, .int (nI v))]) hx hb dX6_isReady_41 hl (k := 3) rfl (z_incN j 1 (by decide)) (by decide) rfl (fun ls hl => ?_)
          refine lv_goto (tgt := 4) hx hb dX6_isReady_44 (by decide) ?_
          have o_i1 : (j + 1) ≤ K := by first | assumption | omega
          have o_i2 : (0 = 1 ∧ (∀ a, a < (j + 1) → G a = v → ¬ C a = 0)) ∨ (0 = 0 ∧ (∃ a, a < (j + 1) ∧ (G a = v ∧ C a = 0))) := by rcases i2 with ⟨hz, h⟩ | ⟨hz, a, h1, h2⟩ <;> first | exact Or.inl ⟨rfl, lt_s h (fun e1 => by omega)⟩ | exact Or.inl ⟨rfl, lt_s h (fun e1 e2 => by omega)⟩ | exact Or.inr ⟨rfl, j, by omega, by omega⟩ | exact Or.inr ⟨rfl, a, by omega, h2⟩ | (exfalso; omega)
          have o_i3 : 0 ≤ 1 := by first | assumption | omega
          have o_mu : (K - (j + 1)) < n4 := by omega
          exact ih4 (j + 1) 0 o_mu o_i1 o_i2 o_i3 H locs hP hD hS ls (lv_sub hl [2, 3, 1, 0] rfl)
        · skip
          refine lv_aload_n hx hb dX6_isReady_16 rfl (lv_at hl 0 rfl) ?_
          refine z_get (D := (dC, dI)) (ci := 6) (v := .ref x3) (C := RX6) (T := TX6) (N := 23) hx hb hts uX6 hown hK hP 0 rfl rfl 4 (by decide) w16 rfl rfl dX6_isReady_17 ?_
          refine lv_iload_n hx hb dX6_isReady_20 rfl (lv_at hl 3 rfl) ?_
          refine z_iald (v := (nI (G j))) hx hb hK hP 1 0 rfl rfl j rfl (by omega) rfl dX6_isReady_21 ?_
          have f21_0 := bG j
          refine lv_iload_n hx hb dX6_isReady_22 rfl (lv_at hl 1 rfl) ?_
          refine z_icmp_ne (tgt := 35) hx hb dX6_isReady_23 (by decide) (zcn_eq (a := G j) (b := v) rfl rfl (by omega)) (fun c_23 => ?_) (fun c_23 => ?_)
          · skip
            refine lv_iconst (v := nI 1) hx hb dX6_isReady_35 (by decide) ?_
            refine lv_goto (tgt := 40) hx hb dX6_isReady_36 (by decide) ?_
            refine lv_istore_n (lv' := [(2, .int (nI 1)), (0, .ref m0), (1, .int (nI v)), (3, .int (nI j))]) hx hb dX6_isReady_40 rfl hl (by decide) rfl (fun ls hl => ?_)
            refine lv_iinc (v := (nI (j + 1))) (lv' := [(3, .int (nI (j + 1))), (2, .int (nI 1)), (0, .ref m0), (1, .int (nI v))]) hx hb dX6_isReady_41 hl (k := 3) rfl (z_incN j 1 (by decide)) (by decide) rfl (fun ls hl => ?_)
            refine lv_goto (tgt := 4) hx hb dX6_isReady_44 (by decide) ?_
            have o_i1 : (j + 1) ≤ K := by first | assumption | omega
            have o_i2 : (1 = 1 ∧ (∀ a, a < (j + 1) → G a = v → ¬ C a = 0)) ∨ (1 = 0 ∧ (∃ a, a < (j + 1) ∧ (G a = v ∧ C a = 0))) := by rcases i2 with ⟨hz, h⟩ | ⟨hz, a, h1, h2⟩ <;> first | exact Or.inl ⟨rfl, lt_s h (fun e1 => by omega)⟩ | exact Or.inl ⟨rfl, lt_s h (fun e1 e2 => by omega)⟩ | exact Or.inr ⟨rfl, j, by omega, by omega⟩ | exact Or.inr ⟨rfl, a, by omega, h2⟩ | (exfalso; omega)
            have o_i3 : 1 ≤ 1 := by first | assumption | omega
            have o_mu : (K - (j + 1)) < n4 := by omega
            exact ih4 (j + 1) 1 o_mu o_i1 o_i2 o_i3 H locs hP hD hS ls (lv_sub hl [2, 3, 1, 0] rfl)
          · skip
            refine lv_aload_n hx hb dX6_isReady_26 rfl (lv_at hl 0 rfl) ?_
            refine z_get (D := (dC, dI)) (ci := 6) (v := .ref x4) (C := RX6) (T := TX6) (N := 23) hx hb hts uX6 hown hK hP 0 rfl rfl 5 (by decide) w19 rfl rfl dX6_isReady_27 ?_
            refine lv_iload_n hx hb dX6_isReady_30 rfl (lv_at hl 3 rfl) ?_
            refine z_iald (v := (nI (C j))) hx hb hK hP 2 0 rfl rfl j rfl (by omega) rfl dX6_isReady_31 ?_
            have f31_0 := bC j
            refine z_if_le (tgt := 39) hx hb dX6_isReady_32 (by decide) (zcn_le (a := C j) (b := 0) rfl nI_00 (by omega)) (fun c_32 => ?_) (fun c_32 => ?_)
            · skip
              refine lv_iconst (v := nI 0) hx hb dX6_isReady_39 (by decide) ?_
              refine lv_istore_n (lv' := [(2, .int (nI 0)), (0, .ref m0), (1, .int (nI v)), (3, .int (nI j))]) hx hb dX6_isReady_40 rfl hl (by decide) rfl (fun ls hl => ?_)
              refine lv_iinc (v := (nI (j + 1))) (lv' := [(3, .int (nI (j + 1))), (2, .int (nI 0)), (0, .ref m0), (1, .int (nI v))]) hx hb dX6_isReady_41 hl (k := 3) rfl (z_incN j 1 (by decide)) (by decide) rfl (fun ls hl => ?_)
              refine lv_goto (tgt := 4) hx hb dX6_isReady_44 (by decide) ?_
              have o_i1 : (j + 1) ≤ K := by first | assumption | omega
              have o_i2 : (0 = 1 ∧ (∀ a, a < (j + 1) → G a = v → ¬ C a = 0)) ∨ (0 = 0 ∧ (∃ a, a < (j + 1) ∧ (G a = v ∧ C a = 0))) := by rcases i2 with ⟨hz, h⟩ | ⟨hz, a, h1, h2⟩ <;> first | exact Or.inl ⟨rfl, lt_s h (fun e1 => by omega)⟩ | exact Or.inl ⟨rfl, lt_s h (fun e1 e2 => by omega)⟩ | exact Or.inr ⟨rfl, j, by omega, by omega⟩ | exact Or.inr ⟨rfl, a, by omega, h2⟩ | (exfalso; omega)
              have o_i3 : 0 ≤ 1 := by first | assumption | omega
              have o_mu : (K - (j + 1)) < n4 := by omega
              exact ih4 (j + 1) 0 o_mu o_i1 o_i2 o_i3 H locs hP hD hS ls (lv_sub hl [2, 3, 1, 0] rfl)
            · skip
              refine lv_iconst (v := nI 1) hx hb dX6_isReady_35 (by decide) ?_
              refine lv_goto (tgt := 40) hx hb dX6_isReady_36 (by decide) ?_
              refine lv_istore_n (lv' := [(2, .int (nI 1)), (0, .ref m0), (1, .int (nI v)), (3, .int (nI j))]) hx hb dX6_isReady_40 rfl hl (by decide) rfl (fun ls hl => ?_)
              refine lv_iinc (v := (nI (j + 1))) (lv' := [(3, .int (nI (j + 1))), (2, .int (nI 1)), (0, .ref m0), (1, .int (nI v))]) hx hb dX6_isReady_41 hl (k := 3) rfl (z_incN j 1 (by decide)) (by decide) rfl (fun ls hl => ?_)
              refine lv_goto (tgt := 4) hx hb dX6_isReady_44 (by decide) ?_
              have o_i1 : (j + 1) ≤ K := by first | assumption | omega
              have o_i2 : (1 = 1 ∧ (∀ a, a < (j + 1) → G a = v → ¬ C a = 0)) ∨ (1 = 0 ∧ (∃ a, a < (j + 1) ∧ (G a = v ∧ C a = 0))) := by rcases i2 with ⟨hz, h⟩ | ⟨hz, a, h1, h2⟩ <;> first | exact Or.inl ⟨rfl, lt_s h (fun e1 => by omega)⟩ | exact Or.inl ⟨rfl, lt_s h (fun e1 e2 => by omega)⟩ | exact Or.inr ⟨rfl, j, by omega, by omega⟩ | exact Or.inr ⟨rfl, a, by omega, h2⟩ | (exfalso; omega)
              have o_i3 : 1 ≤ 1 := by first | assumption | omega
              have o_mu : (K - (j + 1)) < n4 := by omega
              exact ih4 (j + 1) 1 o_mu o_i1 o_i2 o_i3 H locs hP hD hS ls (lv_sub hl [2, 3, 1, 0] rfl)
  have o_i1 : 0 ≤ K := by first | assumption | omega
  have o_i2 : (1 = 1 ∧ (∀ a, a < 0 → G a = v → ¬ C a = 0)) ∨ (1 = 0 ∧ (∃ a, a < 0 ∧ (G a = v ∧ C a = 0))) := by exact Or.inl ⟨rfl, fun a h => by omega⟩
  have o_i3 : 1 ≤ 1 := by first | assumption | omega
  exact L4 ((K - 0) + 1) 0 1 (Nat.lt_succ_self _) o_i1 o_i2 o_i3 H locs hP hD hS ls (lv_sub hl [2, 3, 1, 0] rfl)

set_option maxHeartbeats 4000000 in
set_option maxRecDepth 100000 in
theorem c_X6_hasRoom (l : Launch) (dC : Nat → ClassId) (dI : Nat → Nat → Nat) (cI cJ : ClassId) (sz : Nat) (m0 : Nat) (x1 : Nat) (x2 : Nat) (x3 : Nat) (x4 : Nat) (x5 : Nat) (x6 : Nat) (x7 : Nat) (x8 : Nat) (x9 : Nat) (y1 : Nat) (y2 : Nat) (y3 : Nat) (y4 : Nat) (y5 : Nat) (y6 : Nat) (y7 : Nat) (N : Nat) (K : Nat) (lo : Nat) (ns : Nat) (nd : Nat) (rm : Nat) (pls : Nat) (F : Nat → Nat) (G : Nat → Nat) (C : Nat → Nat) (v : Nat) (bK : K ≤ 16) (bC : ∀ a, C a ≤ 9) (bF : ∀ a, F a < 8) (bG : ∀ a, G a < 8) (bv : v < 8) : Met l yX6_hasRoom wsX6_hasRoom (zR 0 0 0 0) (va_Pc [.ref m0, .int (nI v)] (zP (dC, dI) [(cI, .int), (cJ, .long)] [(m0, .inr (6, [.int (nI N), .ref x1, .int (nI K), .ref x2, .ref x3, .ref x4, .int (nI lo), .ref x5, .ref x6, .ref x7, .ref x8, .int (nI ns), .int (nI nd), .ref x9, .ref y1, .ref y2, .int (nI rm), .ref y3, .ref y4, .ref y5, .ref y6, .ref y7, .int (nI pls)])), (x2, .inl (cI, 16, .inl (fun z_ => nI (F z_)))), (x3, .inl (cI, 16, .inl (fun z_ => nI (G z_)))), (x4, .inl (cI, 16, .inl (fun z_ => nI (C z_))))] sz nwA)) (va_Qi (fun (r : Int32) (u : (Nat)) => r = (nI u) ∧ ((u = 1 ∧ sp_room K F G C v = true) ∨ (u = 0 ∧ sp_room K F G C v = false))) (zB (dC, dI) (fun (u : (Nat)) => [(m0, .inr (6, [.int (nI N), .ref x1, .int (nI K), .ref x2, .ref x3, .ref x4, .int (nI lo), .ref x5, .ref x6, .ref x7, .ref x8, .int (nI ns), .int (nI nd), .ref x9, .ref y1, .ref y2, .int (nI rm), .ref y3, .ref y4, .ref y5, .ref y6, .ref y7, .int (nI pls)])), (x2, .inl (cI, 16, .inl (fun z_ => nI (F z_)))), (x3, .inl (cI, 16, .inl (fun z_ => nI (G z_)))), (x4, .inl (cI, 16, .inl (fun z_ => nI (C z_))))]) (va_A [(m0, .inr (6, [.int (nI N), .ref x1, .int (nI K), .ref x2, .ref x3, .ref x4, .int (nI lo), .ref x5, .ref x6, .ref x7, .ref x8, .int (nI ns), .int (nI nd), .ref x9, .ref y1, .ref y2, .int (nI rm), .ref y3, .ref y4, .ref y5, .ref y6, .ref y7, .int (nI pls)])), (x2, .inl (cI, 16, .inl (fun z_ => nI (F z_)))), (x3, .inl (cI, 16, .inl (fun z_ => nI (G z_)))), (x4, .inl (cI, 16, .inl (fun z_ => nI (C z_))))] sz)) (va_A [(m0, .inr (6, [.int (nI N), .ref x1, .int (nI K), .ref x2, .ref x3, .ref x4, .int (nI lo), .ref x5, .ref x6, .ref x7, .ref x8, .int (nI ns), .int (nI nd), .ref x9, .ref y1, .ref y2, .int (nI rm), .ref y3, .ref y4, .ref y5, .ref y6, .ref y7, .int (nI pls)])), (x2, .inl (cI, 16, .inl (fun z_ => nI (F z_)))), (x3, .inl (cI, 16, .inl (fun z_ => nI (G z_)))), (x4, .inl (cI, 16, .inl (fun z_ => nI (C z_))))] sz)) 0 0 (va_A [(m0, .inr (6, [.int (nI N), .ref x1, .int (nI K), .ref x2, .ref x3, .ref x4, .int (nI lo), .ref x5, .ref x6, .ref x7, .ref x8, .int (nI ns), .int (nI nd), .ref x9, .ref y1, .ref y2, .int (nI rm), .ref y3, .ref y4, .ref y5, .ref y6, .ref y7, .int (nI pls)])), (x2, .inl (cI, 16, .inl (fun z_ => nI (F z_)))), (x3, .inl (cI, 16, .inl (fun z_ => nI (G z_)))), (x4, .inl (cI, 16, .inl (fun z_ => nI (C z_))))] sz) := by
  refine z_met_z (cc := cX6_hasRoom) (maxL := 4) (by decide) rfl (Nat.le_of_ble_eq_true rfl) ?_
  intro p e s m args below meth c Q A ls hx hb hml hown hts hin hA hK hP hD hN hl hRET
  have hown : s.vm.findClass RX6 = some m.cls := hown
  obtain ⟨H, eH⟩ : ∃ H : Heap, H = s.heap := ⟨_, rfl⟩
  rw [← eH] at hP
  obtain ⟨locs, eL⟩ : ∃ z : List Loc, z = [] := ⟨_, rfl⟩
  rw [← eH, ← eL]
  have hS : va_S A s.heap H locs := by rw [eH, eL]; exact va_S.rf
  have hl : lv_has ls 4 [(0, .ref m0), (1, .int (nI v))] := hl
  have w67 := hts (.fieldLink RX6 67 "PullCardsModel" "arcs" "I") (by decide +kernel)
  have uX6 : ∀ w ∈ wsX60, w ∈ wsX6_hasRoom := by decide +kernel
  have w13 := hts (.fieldLink RX6 13 "PullCardsModel" "from" "[I") (by decide +kernel)
  have w16 := hts (.fieldLink RX6 16 "PullCardsModel" "to" "[I") (by decide +kernel)
  have w19 := hts (.fieldLink RX6 19 "PullCardsModel" "cards" "[I") (by decide +kernel)
  refine lv_iconst (v := nI 1) hx hb dX6_hasRoom_0 (by decide) ?_
  refine lv_istore_n (lv' := [(2, .int (nI 1)), (0, .ref m0), (1, .int (nI v))]) hx hb dX6_hasRoom_1 rfl hl (by decide) rfl (fun ls hl => ?_)
  refine lv_iconst (v := nI 0) hx hb dX6_hasRoom_2 (by decide) ?_
  refine lv_istore_n (lv' := [(3, .int (nI 0)), (2, .int (nI 1)), (0, .ref m0), (1, .int (nI v))]) hx hb dX6_hasRoom_3 rfl hl (by decide) rfl (fun ls hl => ?_)
  have L4 : ∀ (n4 : Nat) (j : Nat) (b : Nat), (K - j) < n4 → (j ≤ K) → ((b = 1 ∧ (∀ a, a < j → F a = v → ¬ G a = v → C a < 9)) ∨ (b = 0 ∧ (∃ a, a < j ∧ (F a = v ∧ ¬ G a = v ∧ ¬ C a < 9)))) → (b ≤ 1) → ∀ (H : Heap) (locs : List Loc), va_P (dC, dI) vwCl [(m0, .inr (6, [.int (nI N), .ref x1, .int (nI K), .ref x2, .ref x3, .ref x4, .int (nI lo), .ref x5, .ref x6, .ref x7, .ref x8, .int (nI ns), .int (nI nd), .ref x9, .ref y1, .ref y2, .int (nI rm), .ref y3, .ref y4, .ref y5, .ref y6, .ref y7, .int (nI pls)])), (x2, .inl (cI, 16, .inl (fun z_ => nI (F z_)))), (x3, .inl (cI, 16, .inl (fun z_ => nI (G z_)))), (x4, .inl (cI, 16, .inl (fun z_ => nI (C z_))))] H → va_D A [(m0, .inr (6, [.int (nI N), .ref x1, .int (nI K), .ref x2, .ref x3, .ref x4, .int (nI lo), .ref x5, .ref x6, .ref x7, .ref x8, .int (nI ns), .int (nI nd), .ref x9, .ref y1, .ref y2, .int (nI rm), .ref y3, .ref y4, .ref y5, .ref y6, .ref y7, .int (nI pls)])), (x2, .inl (cI, 16, .inl (fun z_ => nI (F z_)))), (x3, .inl (cI, 16, .inl (fun z_ => nI (G z_)))), (x4, .inl (cI, 16, .inl (fun z_ => nI (C z_))))] → va_S A s.heap H locs → ∀ (ls : Array Slot), lv_has ls 4 [(0, .ref m0), (1, .int (nI v)), (2, .int (nI b)), (3, .int (nI j))] → W p l e (zR 0 0 0 0) s m args below meth c H locs 0 0 Q (F0 m 4 ls []) := by
    intro n4
    induction n4 with
    | zero => intro j b hn; exact absurd hn (Nat.not_lt_zero _)
    | succ n4 ih =>
      intro j b hn i1 i2 i3 H locs hP hD hS ls hl
      have ih4 := ih
      have hn4 := hn
      clear ih hn
      refine lv_iload_n hx hb dX6_hasRoom_4 rfl (lv_at hl 3 rfl) ?_
      refine lv_aload_n hx hb dX6_hasRoom_5 rfl (lv_at hl 0 rfl) ?_
      refine z_get (D := (dC, dI)) (ci := 6) (v := .int (nI K)) (C := RX6) (T := TX6) (N := 23) hx hb hts uX6 hown hK hP 0 rfl rfl 2 (by decide) w67 rfl rfl dX6_hasRoom_6 ?_
      refine z_icmp_ge (tgt := 59) hx hb dX6_hasRoom_9 (by decide) (zcn_le (a := K) (b := j) rfl rfl (by omega)) (fun c_9 => ?_) (fun c_9 => ?_)
      · skip
        refine lv_iload_n hx hb dX6_hasRoom_59 rfl (lv_at hl 2 rfl) ?_
        have q_0 : (b = 1 ∧ sp_room K F G C v = true) ∨ (b = 0 ∧ sp_room K F G C v = false) := by rcases i2 with ⟨hz, h⟩ | ⟨hz, a, h1, h2⟩; exact Or.inl ⟨hz, sp_room_t (fun a ha => h a (by omega))⟩; exact Or.inr ⟨hz, sp_room_f a (by omega) h2.1 h2.2.1 h2.2.2⟩
        exact hRET _ ls H locs ((nI b)) (b) dX6_hasRoom_60 (by exact z_nb (by rcases i2 with h | h; exact Or.inr h.1; exact Or.inl h.1)) ⟨rfl, q_0⟩ hP hD hS
      · skip
        refine lv_iload_n hx hb dX6_hasRoom_12 rfl (lv_at hl 2 rfl) ?_
        refine z_if_eq (tgt := 51) hx hb dX6_hasRoom_13 (by decide) (zcn_eq (a := b) (b := 0) rfl nI_00 (by omega)) (fun c_13 => ?_) (fun c_13 => ?_)
        · skip
          refine lv_iconst (v := nI 0) hx hb dX6_hasRoom_51 (by decide) ?_
          refine lv_istore_n (lv' := [(2, .int (nI 0)), (0, .ref m0), (1, .int (nI v)), (3, .int (nI j))]) hx hb dX6_hasRoom_52 rfl hl (by decide) rfl (fun ls hl => ?_)
          refine lv_iinc (v := (nI (j + 1))) (lv' := [(3, .int (nI (j + 1))), (2, .int (nI 0)), (0, .ref m0), (1, .int (nI v))]) hx hb dX6_hasRoom_53 hl (k := 3) rfl (z_incN j 1 (by decide)) (by decide) rfl (fun ls hl => ?_)
          refine lv_goto (tgt := 4) hx hb dX6_hasRoom_56 (by decide) ?_
          have o_i1 : (j + 1) ≤ K := by first | assumption | omega
          have o_i2 : (0 = 1 ∧ (∀ a, a < (j + 1) → F a = v → ¬ G a = v → C a < 9)) ∨ (0 = 0 ∧ (∃ a, a < (j + 1) ∧ (F a = v ∧ ¬ G a = v ∧ ¬ C a < 9))) := by rcases i2 with ⟨hz, h⟩ | ⟨hz, a, h1, h2⟩ <;> first | exact Or.inl ⟨rfl, lt_s h (fun e1 => by omega)⟩ | exact Or.inl ⟨rfl, lt_s h (fun e1 e2 => by omega)⟩ | exact Or.inr ⟨rfl, j, by omega, by omega⟩ | exact Or.inr ⟨rfl, a, by omega, h2⟩ | (exfalso; omega)
          have o_i3 : 0 ≤ 1 := by first | assumption | omega
          have o_mu : (K - (j + 1)) < n4 := by omega
          exact ih4 (j + 1) 0 o_mu o_i1 o_i2 o_i3 H locs hP hD hS ls (lv_sub hl [2, 3, 1, 0] rfl)
        · skip
          refine lv_aload_n hx hb dX6_hasRoom_16 rfl (lv_at hl 0 rfl) ?_
          refine z_get (D := (dC, dI)) (ci := 6) (v := .ref x2) (C := RX6) (T := TX6) (N := 23) hx hb hts uX6 hown hK hP 0 rfl rfl 3 (by decide) w13 rfl rfl dX6_hasRoom_17 ?_
          refine lv_iload_n hx hb dX6_hasRoom_20 rfl (lv_at hl 3 rfl) ?_
          refine z_iald (v := (nI (F j))) hx hb hK hP 1 0 rfl rfl j rfl (by omega) rfl dX6_hasRoom_21 ?_
          have f21_0 := bF j
          refine lv_iload_n hx hb dX6_hasRoom_22 rfl (lv_at hl 1 rfl) ?_
          refine z_icmp_ne (tgt := 47) hx hb dX6_hasRoom_23 (by decide) (zcn_eq (a := F j) (b := v) rfl rfl (by omega)) (fun c_23 => ?_) (fun c_23 => ?_)
          · skip
            refine lv_iconst (v := nI 1) hx hb dX6_hasRoom_47 (by decide) ?_
            refine lv_goto (tgt := 52) hx hb dX6_hasRoom_48 (by decide) ?_
            refine lv_istore_n (lv' := [(2, .int (nI 1)), (0, .ref m0), (1, .int (nI v)), (3, .int (nI j))]) hx hb dX6_hasRoom_52 rfl hl (by decide) rfl (fun ls hl => ?_)
            refine lv_iinc (v := (nI (j + 1))) (lv' := [(3, .int (nI (j + 1))), (2, .int (nI 1)), (0, .ref m0), (1, .int (nI v))]) hx hb dX6_hasRoom_53 hl (k := 3) rfl (z_incN j 1 (by decide)) (by decide) rfl (fun ls hl => ?_)
            refine lv_goto (tgt := 4) hx hb dX6_hasRoom_56 (by decide) ?_
            have o_i1 : (j + 1) ≤ K := by first | assumption | omega
            have o_i2 : (1 = 1 ∧ (∀ a, a < (j + 1) → F a = v → ¬ G a = v → C a < 9)) ∨ (1 = 0 ∧ (∃ a, a < (j + 1) ∧ (F a = v ∧ ¬ G a = v ∧ ¬ C a < 9))) := by rcases i2 with ⟨hz, h⟩ | ⟨hz, a, h1, h2⟩ <;> first | exact Or.inl ⟨rfl, lt_s h (fun e1 => by omega)⟩ | exact Or.inl ⟨rfl, lt_s h (fun e1 e2 => by omega)⟩ | exact Or.inr ⟨rfl, j, by omega, by omega⟩ | exact Or.inr ⟨rfl, a, by omega, h2⟩ | (exfalso; omega)
            have o_i3 : 1 ≤ 1 := by first | assumption | omega
            have o_mu : (K - (j + 1)) < n4 := by omega
            exact ih4 (j + 1) 1 o_mu o_i1 o_i2 o_i3 H locs hP hD hS ls (lv_sub hl [2, 3, 1, 0] rfl)
          · skip
            refine lv_aload_n hx hb dX6_hasRoom_26 rfl (lv_at hl 0 rfl) ?_
            refine z_get (D := (dC, dI)) (ci := 6) (v := .ref x3) (C := RX6) (T := TX6) (N := 23) hx hb hts uX6 hown hK hP 0 rfl rfl 4 (by decide) w16 rfl rfl dX6_hasRoom_27 ?_
            refine lv_iload_n hx hb dX6_hasRoom_30 rfl (lv_at hl 3 rfl) ?_
            refine z_iald (v := (nI (G j))) hx hb hK hP 2 0 rfl rfl j rfl (by omega) rfl dX6_hasRoom_31 ?_
            have f31_0 := bG j
            refine lv_iload_n hx hb dX6_hasRoom_32 rfl (lv_at hl 1 rfl) ?_
            refine z_icmp_eq (tgt := 47) hx hb dX6_hasRoom_33 (by decide) (zcn_eq (a := G j) (b := v) rfl rfl (by omega)) (fun c_33 => ?_) (fun c_33 => ?_)
            · skip
              refine lv_iconst (v := nI 1) hx hb dX6_hasRoom_47 (by decide) ?_
              refine lv_goto (tgt := 52) hx hb dX6_hasRoom_48 (by decide) ?_
              refine lv_istore_n (lv' := [(2, .int (nI 1)), (0, .ref m0), (1, .int (nI v)), (3, .int (nI j))]) hx hb dX6_hasRoom_52 rfl hl (by decide) rfl (fun ls hl => ?_)
              refine lv_iinc (v := (nI (j + 1))) (lv' := [(3, .int (nI (j + 1))), (2, .int (nI 1)), (0, .ref m0), (1, .int (nI v))]) hx hb dX6_hasRoom_53 hl (k := 3) rfl (z_incN j 1 (by decide)) (by decide) rfl (fun ls hl => ?_)
              refine lv_goto (tgt := 4) hx hb dX6_hasRoom_56 (by decide) ?_
              have o_i1 : (j + 1) ≤ K := by first | assumption | omega
              have o_i2 : (1 = 1 ∧ (∀ a, a < (j + 1) → F a = v → ¬ G a = v → C a < 9)) ∨ (1 = 0 ∧ (∃ a, a < (j + 1) ∧ (F a = v ∧ ¬ G a = v ∧ ¬ C a < 9))) := by rcases i2 with ⟨hz, h⟩ | ⟨hz, a, h1, h2⟩ <;> first | exact Or.inl ⟨rfl, lt_s h (fun e1 => by omega)⟩ | exact Or.inl ⟨rfl, lt_s h (fun e1 e2 => by omega)⟩ | exact Or.inr ⟨rfl, j, by omega, by omega⟩ | exact Or.inr ⟨rfl, a, by omega, h2⟩ | (exfalso; omega)
              have o_i3 : 1 ≤ 1 := by first | assumption | omega
              have o_mu : (K - (j + 1)) < n4 := by omega
              exact ih4 (j + 1) 1 o_mu o_i1 o_i2 o_i3 H locs hP hD hS ls (lv_sub hl [2, 3, 1, 0] rfl)
            · skip
              refine lv_aload_n hx hb dX6_hasRoom_36 rfl (lv_at hl 0 rfl) ?_
              refine z_get (D := (dC, dI)) (ci := 6) (v := .ref x4) (C := RX6) (T := TX6) (N := 23) hx hb hts uX6 hown hK hP 0 rfl rfl 5 (by decide) w19 rfl rfl dX6_hasRoom_37 ?_
              refine lv_iload_n hx hb dX6_hasRoom_40 rfl (lv_at hl 3 rfl) ?_
              refine z_iald (v := (nI (C j))) hx hb hK hP 3 0 rfl rfl j rfl (by omega) rfl dX6_hasRoom_41 ?_
              have f41_0 := bC j
              refine lv_bipush (v := nI 9) hx hb dX6_hasRoom_42 (by decide) ?_
              refine z_icmp_ge (tgt := 51) hx hb dX6_hasRoom_44 (by decide) (zcn_le (a := 9) (b := C j) rfl rfl (by omega)) (fun c_44 => ?_) (fun c_44 => ?_)
              · skip
                refine lv_iconst (v := nI 0) hx hb dX6_hasRoom_51 (by decide) ?_
                refine lv_istore_n (lv' := [(2, .int (nI 0)), (0, .ref m0), (1, .int (nI v)), (3, .int (nI j))]) hx hb dX6_hasRoom_52 rfl hl (by decide) rfl (fun ls hl => ?_)
                refine lv_iinc (v := (nI (j + 1))) (lv' := [(3, .int (nI (j + 1))), (2, .int (nI 0)), (0, .ref m0), (1, .int (nI v))]) hx hb dX6_hasRoom_53 hl (k := 3) rfl (z_incN j 1 (by decide)) (by decide) rfl (fun ls hl => ?_)
                refine lv_goto (tgt := 4) hx hb dX6_hasRoom_56 (by decide) ?_
                have o_i1 : (j + 1) ≤ K := by first | assumption | omega
                have o_i2 : (0 = 1 ∧ (∀ a, a < (j + 1) → F a = v → ¬ G a = v → C a < 9)) ∨ (0 = 0 ∧ (∃ a, a < (j + 1) ∧ (F a = v ∧ ¬ G a = v ∧ ¬ C a < 9))) := by rcases i2 with ⟨hz, h⟩ | ⟨hz, a, h1, h2⟩ <;> first | exact Or.inl ⟨rfl, lt_s h (fun e1 => by omega)⟩ | exact Or.inl ⟨rfl, lt_s h (fun e1 e2 => by omega)⟩ | exact Or.inr ⟨rfl, j, by omega, by omega⟩ | exact Or.inr ⟨rfl, a, by omega, h2⟩ | (exfalso; omega)
                have o_i3 : 0 ≤ 1 := by first | assumption | omega
                have o_mu : (K - (j + 1)) < n4 := by omega
                exact ih4 (j + 1) 0 o_mu o_i1 o_i2 o_i3 H locs hP hD hS ls (lv_sub hl [2, 3, 1, 0] rfl)
              · skip
                refine lv_iconst (v := nI 1) hx hb dX6_hasRoom_47 (by decide) ?_
                refine lv_goto (tgt := 52) hx hb dX6_hasRoom_48 (by decide) ?_
                refine lv_istore_n (lv' := [(2, .int (nI 1)), (0, .ref m0), (1, .int (nI v)), (3, .int (nI j))]) hx hb dX6_hasRoom_52 rfl hl (by decide) rfl (fun ls hl => ?_)
                refine lv_iinc (v := (nI (j + 1))) (lv' := [(3, .int (nI (j + 1))), (2, .int (nI 1)), (0, .ref m0), (1, .int (nI v))]) hx hb dX6_hasRoom_53 hl (k := 3) rfl (z_incN j 1 (by decide)) (by decide) rfl (fun ls hl => ?_)
                refine lv_goto (tgt := 4) hx hb dX6_hasRoom_56 (by decide) ?_
                have o_i1 : (j + 1) ≤ K := by first | assumption | omega
                have o_i2 : (1 = 1 ∧ (∀ a, a < (j + 1) → F a = v → ¬ G a = v → C a < 9)) ∨ (1 = 0 ∧ (∃ a, a < (j + 1) ∧ (F a = v ∧ ¬ G a = v ∧ ¬ C a < 9))) := by rcases i2 with ⟨hz, h⟩ | ⟨hz, a, h1, h2⟩ <;> first | exact Or.inl ⟨rfl, lt_s h (fun e1 => by omega)⟩ | exact Or.inl ⟨rfl, lt_s h (fun e1 e2 => by omega)⟩ | exact Or.inr ⟨rfl, j, by omega, by omega⟩ | exact Or.inr ⟨rfl, a, by omega, h2⟩ | (exfalso; omega)
                have o_i3 : 1 ≤ 1 := by first | assumption | omega
                have o_mu : (K - (j + 1)) < n4 := by omega
                exact ih4 (j + 1) 1 o_mu o_i1 o_i2 o_i3 H locs hP hD hS ls (lv_sub hl [2, 3, 1, 0] rfl)
  have o_i1 : 0 ≤ K := by first | assumption | omega
  have o_i2 : (1 = 1 ∧ (∀ a, a < 0 → F a = v → ¬ G a = v → C a < 9)) ∨ (1 = 0 ∧ (∃ a, a < 0 ∧ (F a = v ∧ ¬ G a = v ∧ ¬ C a < 9))) := by exact Or.inl ⟨rfl, fun a h => by omega⟩
  have o_i3 : 1 ≤ 1 := by first | assumption | omega
  exact L4 ((K - 0) + 1) 0 1 (Nat.lt_succ_self _) o_i1 o_i2 o_i3 H locs hP hD hS ls (lv_sub hl [2, 3, 1, 0] rfl)

set_option maxHeartbeats 4000000 in
set_option maxRecDepth 100000 in
theorem c_X6_fires (l : Launch) (dC : Nat → ClassId) (dI : Nat → Nat → Nat) (cI cJ : ClassId) (sz : Nat) (m0 : Nat) (x1 : Nat) (x2 : Nat) (x3 : Nat) (x4 : Nat) (x5 : Nat) (x6 : Nat) (x7 : Nat) (x8 : Nat) (x9 : Nat) (y1 : Nat) (y2 : Nat) (y3 : Nat) (y4 : Nat) (y5 : Nat) (y6 : Nat) (y7 : Nat) (N : Nat) (K : Nat) (lo : Nat) (ns : Nat) (nd : Nat) (rm : Nat) (pls : Nat) (F : Nat → Nat) (G : Nat → Nat) (C : Nat → Nat) (v : Nat) (bK : K ≤ 16) (bC : ∀ a, C a ≤ 9) (bF : ∀ a, F a < 8) (bG : ∀ a, G a < 8) (bv : v < 8) (hr : sp_rdy K G C v = true) : Met l yX6_fires wsX6_fires (zR 0 0 0 0) (va_Pc [.ref m0, .int (nI v)] (zP (dC, dI) [(cI, .int), (cJ, .long)] [(m0, .inr (6, [.int (nI N), .ref x1, .int (nI K), .ref x2, .ref x3, .ref x4, .int (nI lo), .ref x5, .ref x6, .ref x7, .ref x8, .int (nI ns), .int (nI nd), .ref x9, .ref y1, .ref y2, .int (nI rm), .ref y3, .ref y4, .ref y5, .ref y6, .ref y7, .int (nI pls)])), (x2, .inl (cI, 16, .inl (fun z_ => nI (F z_)))), (x3, .inl (cI, 16, .inl (fun z_ => nI (G z_)))), (x4, .inl (cI, 16, .inl (fun z_ => nI (C z_))))] sz nwA)) (va_Qv (fun (u : (Nat → Nat)) => (u = sp_mv K F G C v)) (zB (dC, dI) (fun (u : (Nat → Nat)) => [(m0, .inr (6, [.int (nI N), .ref x1, .int (nI K), .ref x2, .ref x3, .ref x4, .int (nI lo), .ref x5, .ref x6, .ref x7, .ref x8, .int (nI ns), .int (nI nd), .ref x9, .ref y1, .ref y2, .int (nI rm), .ref y3, .ref y4, .ref y5, .ref y6, .ref y7, .int (nI pls)])), (x2, .inl (cI, 16, .inl (fun z_ => nI (F z_)))), (x3, .inl (cI, 16, .inl (fun z_ => nI (G z_)))), (x4, .inl (cI, 16, .inl (fun z_ => nI (u z_))))]) (va_A [(m0, .inr (6, [.int (nI N), .ref x1, .int (nI K), .ref x2, .ref x3, .ref x4, .int (nI lo), .ref x5, .ref x6, .ref x7, .ref x8, .int (nI ns), .int (nI nd), .ref x9, .ref y1, .ref y2, .int (nI rm), .ref y3, .ref y4, .ref y5, .ref y6, .ref y7, .int (nI pls)])), (x2, .inl (cI, 16, .inl (fun z_ => nI (F z_)))), (x3, .inl (cI, 16, .inl (fun z_ => nI (G z_)))), (x4, .inl (cI, 16, .inl (fun z_ => nI (C z_))))] sz)) (va_A [(m0, .inr (6, [.int (nI N), .ref x1, .int (nI K), .ref x2, .ref x3, .ref x4, .int (nI lo), .ref x5, .ref x6, .ref x7, .ref x8, .int (nI ns), .int (nI nd), .ref x9, .ref y1, .ref y2, .int (nI rm), .ref y3, .ref y4, .ref y5, .ref y6, .ref y7, .int (nI pls)])), (x2, .inl (cI, 16, .inl (fun z_ => nI (F z_)))), (x3, .inl (cI, 16, .inl (fun z_ => nI (G z_)))), (x4, .inl (cI, 16, .inl (fun z_ => nI (C z_))))] sz)) 0 0 (va_A [(m0, .inr (6, [.int (nI N), .ref x1, .int (nI K), .ref x2, .ref x3, .ref x4, .int (nI lo), .ref x5, .ref x6, .ref x7, .ref x8, .int (nI ns), .int (nI nd), .ref x9, .ref y1, .ref y2, .int (nI rm), .ref y3, .ref y4, .ref y5, .ref y6, .ref y7, .int (nI pls)])), (x2, .inl (cI, 16, .inl (fun z_ => nI (F z_)))), (x3, .inl (cI, 16, .inl (fun z_ => nI (G z_)))), (x4, .inl (cI, 16, .inl (fun z_ => nI (C z_))))] sz) := by
  refine z_met_v (cc := cX6_fires) (maxL := 3) (by decide) rfl (Nat.le_of_ble_eq_true rfl) ?_
  intro p e s m args below meth c Q A ls hx hb hml hown hts hin hA hK hP hD hN hl hRET
  have hown : s.vm.findClass RX6 = some m.cls := hown
  obtain ⟨H, eH⟩ : ∃ H : Heap, H = s.heap := ⟨_, rfl⟩
  rw [← eH] at hP
  obtain ⟨locs, eL⟩ : ∃ z : List Loc, z = [] := ⟨_, rfl⟩
  rw [← eH, ← eL]
  have hS : va_S A s.heap H locs := by rw [eH, eL]; exact va_S.rf
  have hl : lv_has ls 3 [(0, .ref m0), (1, .int (nI v))] := hl
  have w67 := hts (.fieldLink RX6 67 "PullCardsModel" "arcs" "I") (by decide +kernel)
  have uX6 : ∀ w ∈ wsX60, w ∈ wsX6_fires := by decide +kernel
  have w19 := hts (.fieldLink RX6 19 "PullCardsModel" "cards" "[I") (by decide +kernel)
  have w13 := hts (.fieldLink RX6 13 "PullCardsModel" "from" "[I") (by decide +kernel)
  have w16 := hts (.fieldLink RX6 16 "PullCardsModel" "to" "[I") (by decide +kernel)
  refine lv_iconst (v := nI 0) hx hb dX6_fires_0 (by decide) ?_
  refine lv_istore_n (lv' := [(2, .int (nI 0)), (0, .ref m0), (1, .int (nI v))]) hx hb dX6_fires_1 rfl hl (by decide) rfl (fun ls hl => ?_)
  have L2 : ∀ (n2 : Nat) (j : Nat) (C1 : Nat → Nat), (K - j) < n2 → (j ≤ K) → (C1 = sp_mv j F G C v) → ∀ (H : Heap) (locs : List Loc), va_P (dC, dI) vwCl [(m0, .inr (6, [.int (nI N), .ref x1, .int (nI K), .ref x2, .ref x3, .ref x4, .int (nI lo), .ref x5, .ref x6, .ref x7, .ref x8, .int (nI ns), .int (nI nd), .ref x9, .ref y1, .ref y2, .int (nI rm), .ref y3, .ref y4, .ref y5, .ref y6, .ref y7, .int (nI pls)])), (x2, .inl (cI, 16, .inl (fun z_ => nI (F z_)))), (x3, .inl (cI, 16, .inl (fun z_ => nI (G z_)))), (x4, .inl (cI, 16, .inl (fun z_ => nI (C1 z_))))] H → va_D A [(m0, .inr (6, [.int (nI N), .ref x1, .int (nI K), .ref x2, .ref x3, .ref x4, .int (nI lo), .ref x5, .ref x6, .ref x7, .ref x8, .int (nI ns), .int (nI nd), .ref x9, .ref y1, .ref y2, .int (nI rm), .ref y3, .ref y4, .ref y5, .ref y6, .ref y7, .int (nI pls)])), (x2, .inl (cI, 16, .inl (fun z_ => nI (F z_)))), (x3, .inl (cI, 16, .inl (fun z_ => nI (G z_)))), (x4, .inl (cI, 16, .inl (fun z_ => nI (C1 z_))))] → va_S A s.heap H locs → ∀ (ls : Array Slot), lv_has ls 3 [(0, .ref m0), (1, .int (nI v)), (2, .int (nI j))] → W p l e (zR 0 0 0 0) s m args below meth c H locs 0 0 Q (F0 m 2 ls []) := by
    intro n2
    induction n2 with
    | zero => intro j C1 hn; exact absurd hn (Nat.not_lt_zero _)
    | succ n2 ih =>
      intro j C1 hn i1 i2 H locs hP hD hS ls hl
      have ih2 := ih
      have hn2 := hn
      clear ih hn
      refine lv_iload_n hx hb dX6_fires_2 rfl (lv_at hl 2 rfl) ?_
      refine lv_aload_n hx hb dX6_fires_3 rfl (lv_at hl 0 rfl) ?_
      refine z_get (D := (dC, dI)) (ci := 6) (v := .int (nI K)) (C := RX6) (T := TX6) (N := 23) hx hb hts uX6 hown hK hP 0 rfl rfl 2 (by decide) w67 rfl rfl dX6_fires_4 ?_
      refine z_icmp_ge (tgt := 56) hx hb dX6_fires_7 (by decide) (zcn_le (a := K) (b := j) rfl rfl (by omega)) (fun c_7 => ?_) (fun c_7 => ?_)
      · skip
        have q_0 : C1 = sp_mv K F G C v := by rw [i2, show j = K from by omega]
        exact hRET _ ls H locs (C1) dX6_fires_56 q_0 hP hD hS
      · skip
        refine lv_aload_n hx hb dX6_fires_10 rfl (lv_at hl 0 rfl) ?_
        refine z_get (D := (dC, dI)) (ci := 6) (v := .ref x4) (C := RX6) (T := TX6) (N := 23) hx hb hts uX6 hown hK hP 0 rfl rfl 5 (by decide) w19 rfl rfl dX6_fires_11 ?_
        refine lv_iload_n hx hb dX6_fires_14 rfl (lv_at hl 2 rfl) ?_
        refine lv_dup2_11 hx hb dX6_fires_15 rfl rfl ?_
        refine z_iald (v := (nI (C1 j))) hx hb hK hP 3 0 rfl rfl j rfl (by omega) rfl dX6_fires_16 ?_
        refine lv_aload_n hx hb dX6_fires_17 rfl (lv_at hl 0 rfl) ?_
        refine z_get (D := (dC, dI)) (ci := 6) (v := .ref x2) (C := RX6) (T := TX6) (N := 23) hx hb hts uX6 hown hK hP 0 rfl rfl 3 (by decide) w13 rfl rfl dX6_fires_18 ?_
        refine lv_iload_n hx hb dX6_fires_21 rfl (lv_at hl 2 rfl) ?_
        refine z_iald (v := (nI (F j))) hx hb hK hP 1 0 rfl rfl j rfl (by omega) rfl dX6_fires_22 ?_
        have f22_0 := bF j
        refine lv_iload_n hx hb dX6_fires_23 rfl (lv_at hl 1 rfl) ?_
        refine z_icmp_ne (tgt := 31) hx hb dX6_fires_24 (by decide) (zcn_eq (a := F j) (b := v) rfl rfl (by omega)) (fun c_24 => ?_) (fun c_24 => ?_)
        · skip
          refine lv_iconst (v := nI 0) hx hb dX6_fires_31 (by decide) ?_
          refine lv_aload_n hx hb dX6_fires_32 rfl (lv_at hl 0 rfl) ?_
          refine z_get (D := (dC, dI)) (ci := 6) (v := .ref x3) (C := RX6) (T := TX6) (N := 23) hx hb hts uX6 hown hK hP 0 rfl rfl 4 (by decide) w16 rfl rfl dX6_fires_33 ?_
          refine lv_iload_n hx hb dX6_fires_36 rfl (lv_at hl 2 rfl) ?_
          refine z_iald (v := (nI (G j))) hx hb hK hP 2 0 rfl rfl j rfl (by omega) rfl dX6_fires_37 ?_
          have f37_0 := bG j
          refine lv_iload_n hx hb dX6_fires_38 rfl (lv_at hl 1 rfl) ?_
          refine z_icmp_ne (tgt := 46) hx hb dX6_fires_39 (by decide) (zcn_eq (a := G j) (b := v) rfl rfl (by omega)) (fun c_39 => ?_) (fun c_39 => ?_)
          · skip
            refine lv_iconst (v := nI 0) hx hb dX6_fires_46 (by decide) ?_
            refine z_isub (v := (nI 0)) hx hb dX6_fires_47 (by decide) ?_
            refine z_iadd (v := (nI ((C1 j) + 0))) hx hb dX6_fires_48 (nI_add _ _) ?_
            have hq : C1 j = C j := by rw [i2, sp_mv_at]
            have hz := sp_rdy_i hr j (by omega)
            refine z_c0 (v := nI (C1 j + (if F j = v then 1 else 0) - (if G j = v then 1 else 0))) (z_Ncg (by (first | rw [if_pos c_24] | rw [if_neg c_24]); (first | rw [if_pos c_39] | rw [if_neg c_39]); (first | (have := hz c_39; omega) | omega))) ?_
            refine z_iast hx hb hK hP hD hS 3 0 rfl rfl j rfl (by omega) (upd_N C1 j (C1 j + (if F j = v then 1 else 0) - (if G j = v then 1 else 0))) [(m0, .inr (6, [.int (nI N), .ref x1, .int (nI K), .ref x2, .ref x3, .ref x4, .int (nI lo), .ref x5, .ref x6, .ref x7, .ref x8, .int (nI ns), .int (nI nd), .ref x9, .ref y1, .ref y2, .int (nI rm), .ref y3, .ref y4, .ref y5, .ref y6, .ref y7, .int (nI pls)])), (x2, .inl (cI, 16, .inl (fun z_ => nI (F z_)))), (x3, .inl (cI, 16, .inl (fun z_ => nI (G z_)))), (x4, .inl (cI, 16, .inl (fun z_ => nI ((up C1 j (C1 j + (if F j = v then 1 else 0) - (if G j = v then 1 else 0))) z_))))] rfl dX6_fires_49 (fun H locs hP hD hS => ?_)
            refine lv_iinc (v := (nI (j + 1))) (lv' := [(2, .int (nI (j + 1))), (0, .ref m0), (1, .int (nI v))]) hx hb dX6_fires_50 hl (k := 2) rfl (z_incN j 1 (by decide)) (by decide) rfl (fun ls hl => ?_)
            refine lv_goto (tgt := 2) hx hb dX6_fires_53 (by decide) ?_
            have o_i1 : (j + 1) ≤ K := by first | assumption | omega
            have o_i2 : (up C1 j (C1 j + (if F j = v then 1 else 0) - (if G j = v then 1 else 0))) = sp_mv (j + 1) F G C v := by exact sp_mv_c i2 (fun a ha => up_n _ _ ha) (by rw [up_s, hq])
            have o_mu : (K - (j + 1)) < n2 := by omega
            exact ih2 (j + 1) (up C1 j (C1 j + (if F j = v then 1 else 0) - (if G j = v then 1 else 0))) o_mu o_i1 o_i2 H locs hP hD hS ls (lv_sub hl [1, 2, 0] rfl)
          · skip
            refine lv_iconst (v := nI 1) hx hb dX6_fires_42 (by decide) ?_
            refine lv_goto (tgt := 47) hx hb dX6_fires_43 (by decide) ?_
            refine z_isub (v := (iI (-1))) hx hb dX6_fires_47 (by decide) ?_
            refine z_iadd (v := (iI (((C1 j : Nat) : Int) + (-1)))) hx hb dX6_fires_48 (za_add (iI_N _) rfl) ?_
            have hq : C1 j = C j := by rw [i2, sp_mv_at]
            have hz := sp_rdy_i hr j (by omega)
            refine z_c0 (v := nI (C1 j + (if F j = v then 1 else 0) - (if G j = v then 1 else 0))) (z_ZtoN (by (first | rw [if_pos c_24] | rw [if_neg c_24]); (first | rw [if_pos c_39] | rw [if_neg c_39]); (first | (have := hz c_39; omega) | omega))) ?_
            refine z_iast hx hb hK hP hD hS 3 0 rfl rfl j rfl (by omega) (upd_N C1 j (C1 j + (if F j = v then 1 else 0) - (if G j = v then 1 else 0))) [(m0, .inr (6, [.int (nI N), .ref x1, .int (nI K), .ref x2, .ref x3, .ref x4, .int (nI lo), .ref x5, .ref x6, .ref x7, .ref x8, .int (nI ns), .int (nI nd), .ref x9, .ref y1, .ref y2, .int (nI rm), .ref y3, .ref y4, .ref y5, .ref y6, .ref y7, .int (nI pls)])), (x2, .inl (cI, 16, .inl (fun z_ => nI (F z_)))), (x3, .inl (cI, 16, .inl (fun z_ => nI (G z_)))), (x4, .inl (cI, 16, .inl (fun z_ => nI ((up C1 j (C1 j + (if F j = v then 1 else 0) - (if G j = v then 1 else 0))) z_))))] rfl dX6_fires_49 (fun H locs hP hD hS => ?_)
            refine lv_iinc (v := (nI (j + 1))) (lv' := [(2, .int (nI (j + 1))), (0, .ref m0), (1, .int (nI v))]) hx hb dX6_fires_50 hl (k := 2) rfl (z_incN j 1 (by decide)) (by decide) rfl (fun ls hl => ?_)
            refine lv_goto (tgt := 2) hx hb dX6_fires_53 (by decide) ?_
            have o_i1 : (j + 1) ≤ K := by first | assumption | omega
            have o_i2 : (up C1 j (C1 j + (if F j = v then 1 else 0) - (if G j = v then 1 else 0))) = sp_mv (j + 1) F G C v := by exact sp_mv_c i2 (fun a ha => up_n _ _ ha) (by rw [up_s, hq])
            have o_mu : (K - (j + 1)) < n2 := by omega
            exact ih2 (j + 1) (up C1 j (C1 j + (if F j = v then 1 else 0) - (if G j = v then 1 else 0))) o_mu o_i1 o_i2 H locs hP hD hS ls (lv_sub hl [1, 2, 0] rfl)
        · skip
          refine lv_iconst (v := nI 1) hx hb dX6_fires_27 (by decide) ?_
          refine lv_goto (tgt := 32) hx hb dX6_fires_28 (by decide) ?_
          refine lv_aload_n hx hb dX6_fires_32 rfl (lv_at hl 0 rfl) ?_
          refine z_get (D := (dC, dI)) (ci := 6) (v := .ref x3) (C := RX6) (T := TX6) (N := 23) hx hb hts uX6 hown hK hP 0 rfl rfl 4 (by decide) w16 rfl rfl dX6_fires_33 ?_
          refine lv_iload_n hx hb dX6_fires_36 rfl (lv_at hl 2 rfl) ?_
          refine z_iald (v := (nI (G j))) hx hb hK hP 2 0 rfl rfl j rfl (by omega) rfl dX6_fires_37 ?_
          have f37_0 := bG j
          refine lv_iload_n hx hb dX6_fires_38 rfl (lv_at hl 1 rfl) ?_
          refine z_icmp_ne (tgt := 46) hx hb dX6_fires_39 (by decide) (zcn_eq (a := G j) (b := v) rfl rfl (by omega)) (fun c_39 => ?_) (fun c_39 => ?_)
          · skip
            refine lv_iconst (v := nI 0) hx hb dX6_fires_46 (by decide) ?_
            refine z_isub (v := (nI 1)) hx hb dX6_fires_47 (by decide) ?_
            refine z_iadd (v := (nI ((C1 j) + 1))) hx hb dX6_fires_48 (nI_add _ _) ?_
            have hq : C1 j = C j := by rw [i2, sp_mv_at]
            have hz := sp_rdy_i hr j (by omega)
            refine z_c0 (v := nI (C1 j + (if F j = v then 1 else 0) - (if G j = v then 1 else 0))) (z_Ncg (by (first | rw [if_pos c_24] | rw [if_neg c_24]); (first | rw [if_pos c_39] | rw [if_neg c_39]); (first | (have := hz c_39; omega) | omega))) ?_
            refine z_iast hx hb hK hP hD hS 3 0 rfl rfl j rfl (by omega) (upd_N C1 j (C1 j + (if F j = v then 1 else 0) - (if G j = v then 1 else 0))) [(m0, .inr (6, [.int (nI N), .ref x1, .int (nI K), .ref x2, .ref x3, .ref x4, .int (nI lo), .ref x5, .ref x6, .ref x7, .ref x8, .int (nI ns), .int (nI nd), .ref x9, .ref y1, .ref y2, .int (nI rm), .ref y3, .ref y4, .ref y5, .ref y6, .ref y7, .int (nI pls)])), (x2, .inl (cI, 16, .inl (fun z_ => nI (F z_)))), (x3, .inl (cI, 16, .inl (fun z_ => nI (G z_)))), (x4, .inl (cI, 16, .inl (fun z_ => nI ((up C1 j (C1 j + (if F j = v then 1 else 0) - (if G j = v then 1 else 0))) z_))))] rfl dX6_fires_49 (fun H locs hP hD hS => ?_)
            refine lv_iinc (v := (nI (j + 1))) (lv' := [(2, .int (nI (j + 1))), (0, .ref m0), (1, .int (nI v))]) hx hb dX6_fires_50 hl (k := 2) rfl (z_incN j 1 (by decide)) (by decide) rfl (fun ls hl => ?_)
            refine lv_goto (tgt := 2) hx hb dX6_fires_53 (by decide) ?_
            have o_i1 : (j + 1) ≤ K := by first | assumption | omega
            have o_i2 : (up C1 j (C1 j + (if F j = v then 1 else 0) - (if G j = v then 1 else 0))) = sp_mv (j + 1) F G C v := by exact sp_mv_c i2 (fun a ha => up_n _ _ ha) (by rw [up_s, hq])
            have o_mu : (K - (j + 1)) < n2 := by omega
            exact ih2 (j + 1) (up C1 j (C1 j + (if F j = v then 1 else 0) - (if G j = v then 1 else 0))) o_mu o_i1 o_i2 H locs hP hD hS ls (lv_sub hl [1, 2, 0] rfl)
          · skip
            refine lv_iconst (v := nI 1) hx hb dX6_fires_42 (by decide) ?_
            refine lv_goto (tgt := 47) hx hb dX6_fires_43 (by decide) ?_
            refine z_isub (v := (nI 0)) hx hb dX6_fires_47 (by decide) ?_
            refine z_iadd (v := (nI ((C1 j) + 0))) hx hb dX6_fires_48 (nI_add _ _) ?_
            have hq : C1 j = C j := by rw [i2, sp_mv_at]
            have hz := sp_rdy_i hr j (by omega)
            refine z_c0 (v := nI (C1 j + (if F j = v then 1 else 0) - (if G j = v then 1 else 0))) (z_Ncg (by (first | rw [if_pos c_24] | rw [if_neg c_24]); (first | rw [if_pos c_39] | rw [if_neg c_39]); (first | (have := hz c_39; omega) | omega))) ?_
            refine z_iast hx hb hK hP hD hS 3 0 rfl rfl j rfl (by omega) (upd_N C1 j (C1 j + (if F j = v then 1 else 0) - (if G j = v then 1 else 0))) [(m0, .inr (6, [.int (nI N), .ref x1, .int (nI K), .ref x2, .ref x3, .ref x4, .int (nI lo), .ref x5, .ref x6, .ref x7, .ref x8, .int (nI ns), .int (nI nd), .ref x9, .ref y1, .ref y2, .int (nI rm), .ref y3, .ref y4, .ref y5, .ref y6, .ref y7, .int (nI pls)])), (x2, .inl (cI, 16, .inl (fun z_ => nI (F z_)))), (x3, .inl (cI, 16, .inl (fun z_ => nI (G z_)))), (x4, .inl (cI, 16, .inl (fun z_ => nI ((up C1 j (C1 j + (if F j = v then 1 else 0) - (if G j = v then 1 else 0))) z_))))] rfl dX6_fires_49 (fun H locs hP hD hS => ?_)
            refine lv_iinc (v := (nI (j + 1))) (lv' := [(2, .int (nI (j + 1))), (0, .ref m0), (1, .int (nI v))]) hx hb dX6_fires_50 hl (k := 2) rfl (z_incN j 1 (by decide)) (by decide) rfl (fun ls hl => ?_)
            refine lv_goto (tgt := 2) hx hb dX6_fires_53 (by decide) ?_
            have o_i1 : (j + 1) ≤ K := by first | assumption | omega
            have o_i2 : (up C1 j (C1 j + (if F j = v then 1 else 0) - (if G j = v then 1 else 0))) = sp_mv (j + 1) F G C v := by exact sp_mv_c i2 (fun a ha => up_n _ _ ha) (by rw [up_s, hq])
            have o_mu : (K - (j + 1)) < n2 := by omega
            exact ih2 (j + 1) (up C1 j (C1 j + (if F j = v then 1 else 0) - (if G j = v then 1 else 0))) o_mu o_i1 o_i2 H locs hP hD hS ls (lv_sub hl [1, 2, 0] rfl)
  have o_i1 : 0 ≤ K := by first | assumption | omega
  have o_i2 : C = sp_mv 0 F G C v := by exact sp_mv_0 F G C v
  exact L2 ((K - 0) + 1) 0 C (Nat.lt_succ_self _) o_i1 o_i2 H locs hP hD hS ls (lv_sub hl [1, 2, 0] rfl)

set_option maxHeartbeats 4000000 in
set_option maxRecDepth 100000 in
theorem c_X6_readyMany (l : Launch) (dC : Nat → ClassId) (dI : Nat → Nat → Nat) (cI cJ : ClassId) (sz : Nat) (m0 : Nat) (x1 : Nat) (x2 : Nat) (x3 : Nat) (x4 : Nat) (x5 : Nat) (x6 : Nat) (x7 : Nat) (x8 : Nat) (x9 : Nat) (y1 : Nat) (y2 : Nat) (y3 : Nat) (y4 : Nat) (y5 : Nat) (y6 : Nat) (y7 : Nat) (N : Nat) (K : Nat) (lo : Nat) (ns : Nat) (nd : Nat) (rm : Nat) (pls : Nat) (G : Nat → Nat) (C : Nat → Nat) (bN : N ≤ 8) (bK : K ≤ 16) (bC : ∀ a, C a ≤ 9) (bG : ∀ a, G a < 8) : Met l yX6_readyMany wsX6_readyMany (zR 1 0 0 23) (va_Pc [.ref m0] (zP (dC, dI) [(cI, .int), (cJ, .long)] [(m0, .inr (6, [.int (nI N), .ref x1, .int (nI K), .ref x2, .ref x3, .ref x4, .int (nI lo), .ref x5, .ref x6, .ref x7, .ref x8, .int (nI ns), .int (nI nd), .ref x9, .ref y1, .ref y2, .int (nI rm), .ref y3, .ref y4, .ref y5, .ref y6, .ref y7, .int (nI pls)])), (x3, .inl (cI, 16, .inl (fun z_ => nI (G z_)))), (x4, .inl (cI, 16, .inl (fun z_ => nI (C z_))))] sz nwA)) (va_Qi (fun (r : Int32) (u : (Nat)) => r = (nI u) ∧ (u = sp_cnt N K G C)) (zB (dC, dI) (fun (u : (Nat)) => [(m0, .inr (6, [.int (nI N), .ref x1, .int (nI K), .ref x2, .ref x3, .ref x4, .int (nI lo), .ref x5, .ref x6, .ref x7, .ref x8, .int (nI ns), .int (nI nd), .ref x9, .ref y1, .ref y2, .int (nI rm), .ref y3, .ref y4, .ref y5, .ref y6, .ref y7, .int (nI pls)])), (x3, .inl (cI, 16, .inl (fun z_ => nI (G z_)))), (x4, .inl (cI, 16, .inl (fun z_ => nI (C z_))))]) (va_A [(m0, .inr (6, [.int (nI N), .ref x1, .int (nI K), .ref x2, .ref x3, .ref x4, .int (nI lo), .ref x5, .ref x6, .ref x7, .ref x8, .int (nI ns), .int (nI nd), .ref x9, .ref y1, .ref y2, .int (nI rm), .ref y3, .ref y4, .ref y5, .ref y6, .ref y7, .int (nI pls)])), (x3, .inl (cI, 16, .inl (fun z_ => nI (G z_)))), (x4, .inl (cI, 16, .inl (fun z_ => nI (C z_))))] sz)) (va_A [(m0, .inr (6, [.int (nI N), .ref x1, .int (nI K), .ref x2, .ref x3, .ref x4, .int (nI lo), .ref x5, .ref x6, .ref x7, .ref x8, .int (nI ns), .int (nI nd), .ref x9, .ref y1, .ref y2, .int (nI rm), .ref y3, .ref y4, .ref y5, .ref y6, .ref y7, .int (nI pls)])), (x3, .inl (cI, 16, .inl (fun z_ => nI (G z_)))), (x4, .inl (cI, 16, .inl (fun z_ => nI (C z_))))] sz)) 0 0 (va_A [(m0, .inr (6, [.int (nI N), .ref x1, .int (nI K), .ref x2, .ref x3, .ref x4, .int (nI lo), .ref x5, .ref x6, .ref x7, .ref x8, .int (nI ns), .int (nI nd), .ref x9, .ref y1, .ref y2, .int (nI rm), .ref y3, .ref y4, .ref y5, .ref y6, .ref y7, .int (nI pls)])), (x3, .inl (cI, 16, .inl (fun z_ => nI (G z_)))), (x4, .inl (cI, 16, .inl (fun z_ => nI (C z_))))] sz) := by
  refine z_met_i (cc := cX6_readyMany) (maxL := 3) (by decide) rfl (Nat.le_of_ble_eq_true rfl) ?_
  intro p e s m args below meth c Q A ls hx hb hml hown hts hin hA hK hP hD hN hl hRET
  have hown : s.vm.findClass RX6 = some m.cls := hown
  obtain ⟨H, eH⟩ : ∃ H : Heap, H = s.heap := ⟨_, rfl⟩
  rw [← eH] at hP
  obtain ⟨locs, eL⟩ : ∃ z : List Loc, z = [] := ⟨_, rfl⟩
  rw [← eH, ← eL]
  have hS : va_S A s.heap H locs := by rw [eH, eL]; exact va_S.rf
  have hl : lv_has ls 3 [(0, .ref m0)] := hl
  have w59 := hts (.fieldLink RX6 59 "PullCardsModel" "stations" "I") (by decide +kernel)
  have uX6 : ∀ w ∈ wsX60, w ∈ wsX6_readyMany := by decide +kernel
  refine lv_iconst (v := nI 0) hx hb dX6_readyMany_0 (by decide) ?_
  refine lv_istore_n (lv' := [(1, .int (nI 0)), (0, .ref m0)]) hx hb dX6_readyMany_1 rfl hl (by decide) rfl (fun ls hl => ?_)
  refine lv_iconst (v := nI 0) hx hb dX6_readyMany_2 (by decide) ?_
  refine lv_istore_n (lv' := [(2, .int (nI 0)), (1, .int (nI 0)), (0, .ref m0)]) hx hb dX6_readyMany_3 rfl hl (by decide) rfl (fun ls hl => ?_)
  have L4 : ∀ (n4 : Nat) (j : Nat) (n1 : Nat), (N - j) < n4 → (j ≤ N) → (n1 = fb_ct (fun v => sp_rdy K G C v) j) → (n1 ≤ j) → ∀ (H : Heap) (locs : List Loc), va_P (dC, dI) vwCl [(m0, .inr (6, [.int (nI N), .ref x1, .int (nI K), .ref x2, .ref x3, .ref x4, .int (nI lo), .ref x5, .ref x6, .ref x7, .ref x8, .int (nI ns), .int (nI nd), .ref x9, .ref y1, .ref y2, .int (nI rm), .ref y3, .ref y4, .ref y5, .ref y6, .ref y7, .int (nI pls)])), (x3, .inl (cI, 16, .inl (fun z_ => nI (G z_)))), (x4, .inl (cI, 16, .inl (fun z_ => nI (C z_))))] H → va_D A [(m0, .inr (6, [.int (nI N), .ref x1, .int (nI K), .ref x2, .ref x3, .ref x4, .int (nI lo), .ref x5, .ref x6, .ref x7, .ref x8, .int (nI ns), .int (nI nd), .ref x9, .ref y1, .ref y2, .int (nI rm), .ref y3, .ref y4, .ref y5, .ref y6, .ref y7, .int (nI pls)])), (x3, .inl (cI, 16, .inl (fun z_ => nI (G z_)))), (x4, .inl (cI, 16, .inl (fun z_ => nI (C z_))))] → va_S A s.heap H locs → ∀ (ls : Array Slot), lv_has ls 3 [(0, .ref m0), (1, .int (nI n1)), (2, .int (nI j))] → W p l e (zR 1 0 0 23) s m args below meth c H locs 0 0 Q (F0 m 4 ls []) := by
    intro n4
    induction n4 with
    | zero => intro j n1 hn; exact absurd hn (Nat.not_lt_zero _)
    | succ n4 ih =>
      intro j n1 hn i1 i2 i3 H locs hP hD hS ls hl
      have ih4 := ih
      have hn4 := hn
      clear ih hn
      refine lv_iload_n hx hb dX6_readyMany_4 rfl (lv_at hl 2 rfl) ?_
      refine lv_aload_n hx hb dX6_readyMany_5 rfl (lv_at hl 0 rfl) ?_
      refine z_get (D := (dC, dI)) (ci := 6) (v := .int (nI N)) (C := RX6) (T := TX6) (N := 23) hx hb hts uX6 hown hK hP 0 rfl rfl 0 (by decide) w59 rfl rfl dX6_readyMany_6 ?_
      refine z_icmp_ge (tgt := 34) hx hb dX6_readyMany_9 (by decide) (zcn_le (a := N) (b := j) rfl rfl (by omega)) (fun c_9 => ?_) (fun c_9 => ?_)
      · skip
        refine lv_iload_n hx hb dX6_readyMany_34 rfl (lv_at hl 1 rfl) ?_
        have q_0 : n1 = sp_cnt N K G C := by rw [i2, show j = N from by omega]; rfl
        exact hRET _ ls H locs ((nI n1)) (n1) dX6_readyMany_35 ⟨rfl, q_0⟩ hP hD hS
      · skip
        refine lv_iload_n hx hb dX6_readyMany_12 rfl (lv_at hl 1 rfl) ?_
        refine lv_aload_n hx hb dX6_readyMany_13 rfl (lv_at hl 0 rfl) ?_
        refine lv_iload_n hx hb dX6_readyMany_14 rfl (lv_at hl 2 rfl) ?_
        refine z_callVi (As := [.int (nI j)]) (rest := [.int (nI n1)]) (wr := []) ⟨hx, hb, hml, hown, hts⟩ (c_X6_isReady l dC dI cI cJ H.size m0 x1 x2 x3 x4 x5 x6 x7 x8 x9 y1 y2 y3 y4 y5 y6 y7 N K lo ns nd rm pls G C j (by first | assumption | omega) (by first | assumption | omega) (by first | assumption | omega) (by first | assumption | omega)) (cwV 1 hts gX6_readyMany_X6_isReady rfl rfl rfl (by decide +kernel) ⟨Nat.le_of_ble_eq_true rfl, Nat.le_of_ble_eq_true rfl⟩) hA hK hP hD hS [0, 1, 2] [] [0, 1, 2] rfl rfl (by decide) (by decide) (by decide) nwA_ok hN (ci := 6) rfl rfl 0 rfl hl.1 (Nat.le_of_ble_eq_true rfl) ⟨Nat.le_refl _, Nat.le_refl _⟩ rfl rfl dX6_readyMany_15 (fun (u : (Nat)) => [(m0, .inr (6, [.int (nI N), .ref x1, .int (nI K), .ref x2, .ref x3, .ref x4, .int (nI lo), .ref x5, .ref x6, .ref x7, .ref x8, .int (nI ns), .int (nI nd), .ref x9, .ref y1, .ref y2, .int (nI rm), .ref y3, .ref y4, .ref y5, .ref y6, .ref y7, .int (nI pls)])), (x3, .inl (cI, 16, .inl (fun z_ => nI (G z_)))), (x4, .inl (cI, 16, .inl (fun z_ => nI (C z_))))]) (fun u => rfl) (by decide) (fun r_15 u H locs hw hP hD hS => ?_)
        obtain ⟨rv_15, eu⟩ : ∃ z, z = u := ⟨_, rfl⟩
        subst eu
        have hP : va_P (dC, dI) vwCl [(m0, .inr (6, [.int (nI N), .ref x1, .int (nI K), .ref x2, .ref x3, .ref x4, .int (nI lo), .ref x5, .ref x6, .ref x7, .ref x8, .int (nI ns), .int (nI nd), .ref x9, .ref y1, .ref y2, .int (nI rm), .ref y3, .ref y4, .ref y5, .ref y6, .ref y7, .int (nI pls)])), (x3, .inl (cI, 16, .inl (fun z_ => nI (G z_)))), (x4, .inl (cI, 16, .inl (fun z_ => nI (C z_))))] H := hP
        have hD : va_D A [(m0, .inr (6, [.int (nI N), .ref x1, .int (nI K), .ref x2, .ref x3, .ref x4, .int (nI lo), .ref x5, .ref x6, .ref x7, .ref x8, .int (nI ns), .int (nI nd), .ref x9, .ref y1, .ref y2, .int (nI rm), .ref y3, .ref y4, .ref y5, .ref y6, .ref y7, .int (nI pls)])), (x3, .inl (cI, 16, .inl (fun z_ => nI (G z_)))), (x4, .inl (cI, 16, .inl (fun z_ => nI (C z_))))] := hD
        obtain ⟨er, p15_0⟩ := hw
        have p15_0 : (rv_15 = 1 ∧ sp_rdy K G C j = true) ∨ (rv_15 = 0 ∧ sp_rdy K G C j = false) := p15_0
        have er : r_15 = (nI rv_15) := er
        subst er
        rcases p15_0 with ⟨h15, c_15⟩ | ⟨h15, c_15⟩
        · skip
          subst h15
          refine lv_if_eq (tgt := 25) hx hb dX6_readyMany_18 (by decide) (fun c_x => absurd c_x (by decide)) (fun _ => ?_)
          refine lv_iconst (v := nI 1) hx hb dX6_readyMany_21 (by decide) ?_
          refine lv_goto (tgt := 26) hx hb dX6_readyMany_22 (by decide) ?_
          refine z_iadd (v := (nI (n1 + 1))) hx hb dX6_readyMany_26 (nI_add _ _) ?_
          refine lv_istore_n (lv' := [(1, .int (nI (n1 + 1))), (0, .ref m0), (2, .int (nI j))]) hx hb dX6_readyMany_27 rfl hl (by decide) rfl (fun ls hl => ?_)
          refine lv_iinc (v := (nI (j + 1))) (lv' := [(2, .int (nI (j + 1))), (1, .int (nI (n1 + 1))), (0, .ref m0)]) hx hb dX6_readyMany_28 hl (k := 2) rfl (z_incN j 1 (by decide)) (by decide) rfl (fun ls hl => ?_)
          refine lv_goto (tgt := 4) hx hb dX6_readyMany_31 (by decide) ?_
          have o_i1 : (j + 1) ≤ N := by first | assumption | omega
          have o_i2 : (n1 + 1) = fb_ct (fun v => sp_rdy K G C v) (j + 1) := by rw [fb_ct_succ, i2]; simp [c_15]
          have o_i3 : (n1 + 1) ≤ (j + 1) := by first | assumption | omega
          have o_mu : (N - (j + 1)) < n4 := by omega
          exact ih4 (j + 1) (n1 + 1) o_mu o_i1 o_i2 o_i3 H locs hP hD hS ls (lv_sub hl [2, 1, 0] rfl)
        · skip
          subst h15
          refine lv_if_eq (tgt := 25) hx hb dX6_readyMany_18 (by decide) (fun _ => ?_) (fun c_x => absurd c_x (by decide))
          refine lv_iconst (v := nI 0) hx hb dX6_readyMany_25 (by decide) ?_
          refine z_iadd (v := (nI (n1 + 0))) hx hb dX6_readyMany_26 (nI_add _ _) ?_
          refine lv_istore_n (lv' := [(1, .int (nI (n1 + 0))), (0, .ref m0), (2, .int (nI j))]) hx hb dX6_readyMany_27 rfl hl (by decide) rfl (fun ls hl => ?_)
          refine lv_iinc (v := (nI (j + 1))) (lv' := [(2, .int (nI (j + 1))), (1, .int (nI (n1 + 0))), (0, .ref m0)]) hx hb dX6_readyMany_28 hl (k := 2) rfl (z_incN j 1 (by decide)) (by decide) rfl (fun ls hl => ?_)
          refine lv_goto (tgt := 4) hx hb dX6_readyMany_31 (by decide) ?_
          have o_i1 : (j + 1) ≤ N := by first | assumption | omega
          have o_i2 : (n1 + 0) = fb_ct (fun v => sp_rdy K G C v) (j + 1) := by rw [fb_ct_succ, i2]; simp [c_15]
          have o_i3 : (n1 + 0) ≤ (j + 1) := by first | assumption | omega
          have o_mu : (N - (j + 1)) < n4 := by omega
          exact ih4 (j + 1) (n1 + 0) o_mu o_i1 o_i2 o_i3 H locs hP hD hS ls (lv_sub hl [2, 1, 0] rfl)
  have o_i1 : 0 ≤ N := by first | assumption | omega
  have o_i2 : 0 = fb_ct (fun v => sp_rdy K G C v) 0 := by rfl
  have o_i3 : 0 ≤ 0 := by first | assumption | omega
  exact L4 ((N - 0) + 1) 0 0 (Nat.lt_succ_self _) o_i1 o_i2 o_i3 H locs hP hD hS ls (lv_sub hl [2, 1, 0] rfl)

set_option maxHeartbeats 4000000 in
set_option maxRecDepth 100000 in
theorem c_X6_ready (l : Launch) (dC : Nat → ClassId) (dI : Nat → Nat → Nat) (cI cJ : ClassId) (sz : Nat) (m0 : Nat) (x1 : Nat) (x2 : Nat) (x3 : Nat) (x4 : Nat) (x5 : Nat) (x6 : Nat) (x7 : Nat) (x8 : Nat) (x9 : Nat) (y1 : Nat) (y2 : Nat) (y3 : Nat) (y4 : Nat) (y5 : Nat) (y6 : Nat) (y7 : Nat) (N : Nat) (K : Nat) (lo : Nat) (ns : Nat) (nd : Nat) (rm : Nat) (pls : Nat) (G : Nat → Nat) (C : Nat → Nat) (z : Int) (bN : N ≤ 8) (bK : K ≤ 16) (bC : ∀ a, C a ≤ 9) (bG : ∀ a, G a < 8) (bz : -2147483648 ≤ z ∧ z < 2147483648) : Met l yX6_ready wsX6_ready (zR 2 0 0 46) (va_Pc [.ref m0, .int (iI z)] (zP (dC, dI) [(cI, .int), (cJ, .long)] [(m0, .inr (6, [.int (nI N), .ref x1, .int (nI K), .ref x2, .ref x3, .ref x4, .int (nI lo), .ref x5, .ref x6, .ref x7, .ref x8, .int (nI ns), .int (nI nd), .ref x9, .ref y1, .ref y2, .int (nI rm), .ref y3, .ref y4, .ref y5, .ref y6, .ref y7, .int (nI pls)])), (x3, .inl (cI, 16, .inl (fun z_ => nI (G z_)))), (x4, .inl (cI, 16, .inl (fun z_ => nI (C z_))))] sz nwA)) (va_Qi (fun (r : Int32) (u : (Int)) => r = (iI u) ∧ (u = if 0 ≤ z ∧ z < (N : Int) then (if sp_rdy K G C z.toNat = true then 1 else 0) else -1)) (zB (dC, dI) (fun (u : (Int)) => [(m0, .inr (6, [.int (nI N), .ref x1, .int (nI K), .ref x2, .ref x3, .ref x4, .int (nI lo), .ref x5, .ref x6, .ref x7, .ref x8, .int (nI ns), .int (nI nd), .ref x9, .ref y1, .ref y2, .int (nI rm), .ref y3, .ref y4, .ref y5, .ref y6, .ref y7, .int (nI pls)])), (x3, .inl (cI, 16, .inl (fun z_ => nI (G z_)))), (x4, .inl (cI, 16, .inl (fun z_ => nI (C z_))))]) (va_A [(m0, .inr (6, [.int (nI N), .ref x1, .int (nI K), .ref x2, .ref x3, .ref x4, .int (nI lo), .ref x5, .ref x6, .ref x7, .ref x8, .int (nI ns), .int (nI nd), .ref x9, .ref y1, .ref y2, .int (nI rm), .ref y3, .ref y4, .ref y5, .ref y6, .ref y7, .int (nI pls)])), (x3, .inl (cI, 16, .inl (fun z_ => nI (G z_)))), (x4, .inl (cI, 16, .inl (fun z_ => nI (C z_))))] sz)) (va_A [(m0, .inr (6, [.int (nI N), .ref x1, .int (nI K), .ref x2, .ref x3, .ref x4, .int (nI lo), .ref x5, .ref x6, .ref x7, .ref x8, .int (nI ns), .int (nI nd), .ref x9, .ref y1, .ref y2, .int (nI rm), .ref y3, .ref y4, .ref y5, .ref y6, .ref y7, .int (nI pls)])), (x3, .inl (cI, 16, .inl (fun z_ => nI (G z_)))), (x4, .inl (cI, 16, .inl (fun z_ => nI (C z_))))] sz)) 0 0 (va_A [(m0, .inr (6, [.int (nI N), .ref x1, .int (nI K), .ref x2, .ref x3, .ref x4, .int (nI lo), .ref x5, .ref x6, .ref x7, .ref x8, .int (nI ns), .int (nI nd), .ref x9, .ref y1, .ref y2, .int (nI rm), .ref y3, .ref y4, .ref y5, .ref y6, .ref y7, .int (nI pls)])), (x3, .inl (cI, 16, .inl (fun z_ => nI (G z_)))), (x4, .inl (cI, 16, .inl (fun z_ => nI (C z_))))] sz) := by
  refine z_met_i (cc := cX6_ready) (maxL := 2) (by decide) rfl (Nat.le_of_ble_eq_true rfl) ?_
  intro p e s m args below meth c Q A ls hx hb hml hown hts hin hA hK hP hD hN hl hRET
  have hown : s.vm.findClass RX6 = some m.cls := hown
  obtain ⟨H, eH⟩ : ∃ H : Heap, H = s.heap := ⟨_, rfl⟩
  rw [← eH] at hP
  obtain ⟨locs, eL⟩ : ∃ z : List Loc, z = [] := ⟨_, rfl⟩
  rw [← eH, ← eL]
  have hS : va_S A s.heap H locs := by rw [eH, eL]; exact va_S.rf
  have hl : lv_has ls 2 [(0, .ref m0), (1, .int (iI z))] := hl
  refine lv_aload_n hx hb dX6_ready_0 rfl (lv_at hl 0 rfl) ?_
  refine lv_iload_n hx hb dX6_ready_1 rfl (lv_at hl 1 rfl) ?_
  refine z_callVi (As := [.int (iI z)]) (rest := []) (wr := [(x3, .inl (cI, 16, .inl (fun z_ => nI (G z_)))), (x4, .inl (cI, 16, .inl (fun z_ => nI (C z_))))]) ⟨hx, hb, hml, hown, hts⟩ (c_X6_isStation l dC dI cI cJ H.size m0 x1 x2 x3 x4 x5 x6 x7 x8 x9 y1 y2 y3 y4 y5 y6 y7 N K lo ns nd rm pls z (by first | assumption | omega) (by first | assumption | omega) (by first | assumption | omega)) (cwV 1 hts gX6_ready_X6_isStation rfl rfl rfl (by decide +kernel) ⟨Nat.le_of_ble_eq_true rfl, Nat.le_of_ble_eq_true rfl⟩) hA hK hP hD hS [0] [1, 2] [2, 0, 1] rfl rfl (by decide) (by decide) (by decide) nwA_ok hN (ci := 6) rfl rfl 0 rfl hl.1 (Nat.le_of_ble_eq_true rfl) ⟨Nat.le_refl _, Nat.le_refl _⟩ rfl rfl dX6_ready_2 (fun (u : (Nat)) => [(m0, .inr (6, [.int (nI N), .ref x1, .int (nI K), .ref x2, .ref x3, .ref x4, .int (nI lo), .ref x5, .ref x6, .ref x7, .ref x8, .int (nI ns), .int (nI nd), .ref x9, .ref y1, .ref y2, .int (nI rm), .ref y3, .ref y4, .ref y5, .ref y6, .ref y7, .int (nI pls)])), (x3, .inl (cI, 16, .inl (fun z_ => nI (G z_)))), (x4, .inl (cI, 16, .inl (fun z_ => nI (C z_))))]) (fun u => rfl) (by decide) (fun r_2 u H locs hw hP hD hS => ?_)
  obtain ⟨rv_2, eu⟩ : ∃ z, z = u := ⟨_, rfl⟩
  subst eu
  have hP : va_P (dC, dI) vwCl [(m0, .inr (6, [.int (nI N), .ref x1, .int (nI K), .ref x2, .ref x3, .ref x4, .int (nI lo), .ref x5, .ref x6, .ref x7, .ref x8, .int (nI ns), .int (nI nd), .ref x9, .ref y1, .ref y2, .int (nI rm), .ref y3, .ref y4, .ref y5, .ref y6, .ref y7, .int (nI pls)])), (x3, .inl (cI, 16, .inl (fun z_ => nI (G z_)))), (x4, .inl (cI, 16, .inl (fun z_ => nI (C z_))))] H := hP
  have hD : va_D A [(m0, .inr (6, [.int (nI N), .ref x1, .int (nI K), .ref x2, .ref x3, .ref x4, .int (nI lo), .ref x5, .ref x6, .ref x7, .ref x8, .int (nI ns), .int (nI nd), .ref x9, .ref y1, .ref y2, .int (nI rm), .ref y3, .ref y4, .ref y5, .ref y6, .ref y7, .int (nI pls)])), (x3, .inl (cI, 16, .inl (fun z_ => nI (G z_)))), (x4, .inl (cI, 16, .inl (fun z_ => nI (C z_))))] := hD
  obtain ⟨er, p2_0⟩ := hw
  have p2_0 : (rv_2 = 1 ∧ (0 ≤ z ∧ z < (N : Int))) ∨ (rv_2 = 0 ∧ ¬ (0 ≤ z ∧ z < (N : Int))) := p2_0
  have er : r_2 = (nI rv_2) := er
  subst er
  rcases p2_0 with ⟨h2, c_2⟩ | ⟨h2, c_2⟩
  · skip
    subst h2
    refine lv_if_ne (tgt := 12) hx hb dX6_ready_5 (by decide) (fun _ => ?_) (fun c_x => absurd c_x (by decide))
    refine lv_aload_n hx hb dX6_ready_12 rfl (lv_at hl 0 rfl) ?_
    refine lv_iload_n hx hb dX6_ready_13 rfl (lv_at hl 1 rfl) ?_
    refine z_c0 (v := nI z.toNat) (z_ZtoN (by first | assumption | omega)) ?_
    refine z_callVi (As := [.int (nI z.toNat)]) (rest := []) (wr := []) ⟨hx, hb, hml, hown, hts⟩ (c_X6_isReady l dC dI cI cJ H.size m0 x1 x2 x3 x4 x5 x6 x7 x8 x9 y1 y2 y3 y4 y5 y6 y7 N K lo ns nd rm pls G C z.toNat (by first | assumption | omega) (by first | assumption | omega) (by first | assumption | omega) (by first | assumption | omega)) (cwV 1 hts gX6_ready_X6_isReady rfl rfl rfl (by decide +kernel) ⟨Nat.le_of_ble_eq_true rfl, Nat.le_of_ble_eq_true rfl⟩) hA hK hP hD hS [0, 1, 2] [] [0, 1, 2] rfl rfl (by decide) (by decide) (by decide) nwA_ok hN (ci := 6) rfl rfl 0 rfl hl.1 (Nat.le_of_ble_eq_true rfl) ⟨Nat.le_refl _, Nat.le_refl _⟩ rfl rfl dX6_ready_14 (fun (u : (Nat)) => [(m0, .inr (6, [.int (nI N), .ref x1, .int (nI K), .ref x2, .ref x3, .ref x4, .int (nI lo), .ref x5, .ref x6, .ref x7, .ref x8, .int (nI ns), .int (nI nd), .ref x9, .ref y1, .ref y2, .int (nI rm), .ref y3, .ref y4, .ref y5, .ref y6, .ref y7, .int (nI pls)])), (x3, .inl (cI, 16, .inl (fun z_ => nI (G z_)))), (x4, .inl (cI, 16, .inl (fun z_ => nI (C z_))))]) (fun u => rfl) (by decide) (fun r_14 u H locs hw hP hD hS => ?_)
    obtain ⟨rv_14, eu⟩ : ∃ z, z = u := ⟨_, rfl⟩
    subst eu
    have hP : va_P (dC, dI) vwCl [(m0, .inr (6, [.int (nI N), .ref x1, .int (nI K), .ref x2, .ref x3, .ref x4, .int (nI lo), .ref x5, .ref x6, .ref x7, .ref x8, .int (nI ns), .int (nI nd), .ref x9, .ref y1, .ref y2, .int (nI rm), .ref y3, .ref y4, .ref y5, .ref y6, .ref y7, .int (nI pls)])), (x3, .inl (cI, 16, .inl (fun z_ => nI (G z_)))), (x4, .inl (cI, 16, .inl (fun z_ => nI (C z_))))] H := hP
    have hD : va_D A [(m0, .inr (6, [.int (nI N), .ref x1, .int (nI K), .ref x2, .ref x3, .ref x4, .int (nI lo), .ref x5, .ref x6, .ref x7, .ref x8, .int (nI ns), .int (nI nd), .ref x9, .ref y1, .ref y2, .int (nI rm), .ref y3, .ref y4, .ref y5, .ref y6, .ref y7, .int (nI pls)])), (x3, .inl (cI, 16, .inl (fun z_ => nI (G z_)))), (x4, .inl (cI, 16, .inl (fun z_ => nI (C z_))))] := hD
    obtain ⟨er, p14_0⟩ := hw
    have p14_0 : (rv_14 = 1 ∧ sp_rdy K G C z.toNat = true) ∨ (rv_14 = 0 ∧ sp_rdy K G C z.toNat = false) := p14_0
    have er : r_14 = (nI rv_14) := er
    subst er
    rcases p14_0 with ⟨h14, c_14⟩ | ⟨h14, c_14⟩
    · skip
      subst h14
      refine lv_if_eq (tgt := 24) hx hb dX6_ready_17 (by decide) (fun c_x => absurd c_x (by decide)) (fun _ => ?_)
      refine lv_iconst (v := nI 1) hx hb dX6_ready_20 (by decide) ?_
      refine lv_goto (tgt := 25) hx hb dX6_ready_21 (by decide) ?_
      refine z_c0 (v := iI 1) (by decide) ?_
      have q_0 : (1 : Int) = if 0 ≤ z ∧ z < (N : Int) then (if sp_rdy K G C z.toNat = true then 1 else 0) else -1 := by first | rw [if_pos (by omega), if_pos (by assumption)] | rw [if_pos (by omega), if_neg (by simp [*])] | rw [if_neg (by omega)]
      exact hRET _ ls H locs ((iI 1)) ((1 : Int)) dX6_ready_25 ⟨rfl, q_0⟩ hP hD hS
    · skip
      subst h14
      refine lv_if_eq (tgt := 24) hx hb dX6_ready_17 (by decide) (fun _ => ?_) (fun c_x => absurd c_x (by decide))
      refine lv_iconst (v := nI 0) hx hb dX6_ready_24 (by decide) ?_
      refine z_c0 (v := iI 0) (by decide) ?_
      have q_0 : (0 : Int) = if 0 ≤ z ∧ z < (N : Int) then (if sp_rdy K G C z.toNat = true then 1 else 0) else -1 := by first | rw [if_pos (by omega), if_pos (by assumption)] | rw [if_pos (by omega), if_neg (by simp [*])] | rw [if_neg (by omega)]
      exact hRET _ ls H locs ((iI 0)) ((0 : Int)) dX6_ready_25 ⟨rfl, q_0⟩ hP hD hS
  · skip
    subst h2
    refine lv_if_ne (tgt := 12) hx hb dX6_ready_5 (by decide) (fun c_x => absurd c_x (by decide)) (fun _ => ?_)
    refine lv_iconst (v := iI (-1)) hx hb dX6_ready_8 (by decide) ?_
    refine lv_goto (tgt := 25) hx hb dX6_ready_9 (by decide) ?_
    have q_0 : (-1 : Int) = if 0 ≤ z ∧ z < (N : Int) then (if sp_rdy K G C z.toNat = true then 1 else 0) else -1 := by first | rw [if_pos (by omega), if_pos (by assumption)] | rw [if_pos (by omega), if_neg (by simp [*])] | rw [if_neg (by omega)]
    exact hRET _ ls H locs ((iI (-1))) ((-1 : Int)) dX6_ready_25 ⟨rfl, q_0⟩ hP hD hS

set_option maxHeartbeats 4000000 in
set_option maxRecDepth 100000 in
theorem c_X6_fire (l : Launch) (dC : Nat → ClassId) (dI : Nat → Nat → Nat) (cI cJ : ClassId) (sz : Nat) (m0 : Nat) (x1 : Nat) (x2 : Nat) (x3 : Nat) (x4 : Nat) (x5 : Nat) (x6 : Nat) (x7 : Nat) (x8 : Nat) (x9 : Nat) (y1 : Nat) (y2 : Nat) (y3 : Nat) (y4 : Nat) (y5 : Nat) (y6 : Nat) (y7 : Nat) (N : Nat) (K : Nat) (lo : Nat) (ns : Nat) (nd : Nat) (rm : Nat) (pls : Nat) (F : Nat → Nat) (G : Nat → Nat) (C : Nat → Nat) (z : Int) (bN : N ≤ 8) (bK : K ≤ 16) (bC : ∀ a, C a ≤ 9) (bF : ∀ a, F a < 8) (bG : ∀ a, G a < 8) (bz : -2147483648 ≤ z ∧ z < 2147483648) : Met l yX6_fire wsX6_fire (zR 2 0 0 46) (va_Pc [.ref m0, .int (iI z)] (zP (dC, dI) [(cI, .int), (cJ, .long)] [(m0, .inr (6, [.int (nI N), .ref x1, .int (nI K), .ref x2, .ref x3, .ref x4, .int (nI lo), .ref x5, .ref x6, .ref x7, .ref x8, .int (nI ns), .int (nI nd), .ref x9, .ref y1, .ref y2, .int (nI rm), .ref y3, .ref y4, .ref y5, .ref y6, .ref y7, .int (nI pls)])), (x2, .inl (cI, 16, .inl (fun z_ => nI (F z_)))), (x3, .inl (cI, 16, .inl (fun z_ => nI (G z_)))), (x4, .inl (cI, 16, .inl (fun z_ => nI (C z_))))] sz nwA)) (va_Qi (fun (r : Int32) (u : (Int) × (Nat → Nat)) => r = (iI u.1) ∧ (u.1 = if 0 ≤ z ∧ z < (N : Int) then (if sp_rdy K G C z.toNat = true then (if sp_room K F G C z.toNat = true then (sp_cnt N K G (sp_mv K F G C z.toNat) : Int) else -4) else -3) else -1) ∧ (u.2 = if ((0 ≤ z ∧ z < (N : Int)) ∧ sp_rdy K G C z.toNat = true ∧ sp_room K F G C z.toNat = true) then sp_mv K F G C z.toNat else C)) (zB (dC, dI) (fun (u : (Int) × (Nat → Nat)) => [(m0, .inr (6, [.int (nI N), .ref x1, .int (nI K), .ref x2, .ref x3, .ref x4, .int (nI lo), .ref x5, .ref x6, .ref x7, .ref x8, .int (nI ns), .int (nI nd), .ref x9, .ref y1, .ref y2, .int (nI rm), .ref y3, .ref y4, .ref y5, .ref y6, .ref y7, .int (nI pls)])), (x2, .inl (cI, 16, .inl (fun z_ => nI (F z_)))), (x3, .inl (cI, 16, .inl (fun z_ => nI (G z_)))), (x4, .inl (cI, 16, .inl (fun z_ => nI (u.2 z_))))]) (va_A [(m0, .inr (6, [.int (nI N), .ref x1, .int (nI K), .ref x2, .ref x3, .ref x4, .int (nI lo), .ref x5, .ref x6, .ref x7, .ref x8, .int (nI ns), .int (nI nd), .ref x9, .ref y1, .ref y2, .int (nI rm), .ref y3, .ref y4, .ref y5, .ref y6, .ref y7, .int (nI pls)])), (x2, .inl (cI, 16, .inl (fun z_ => nI (F z_)))), (x3, .inl (cI, 16, .inl (fun z_ => nI (G z_)))), (x4, .inl (cI, 16, .inl (fun z_ => nI (C z_))))] sz)) (va_A [(m0, .inr (6, [.int (nI N), .ref x1, .int (nI K), .ref x2, .ref x3, .ref x4, .int (nI lo), .ref x5, .ref x6, .ref x7, .ref x8, .int (nI ns), .int (nI nd), .ref x9, .ref y1, .ref y2, .int (nI rm), .ref y3, .ref y4, .ref y5, .ref y6, .ref y7, .int (nI pls)])), (x2, .inl (cI, 16, .inl (fun z_ => nI (F z_)))), (x3, .inl (cI, 16, .inl (fun z_ => nI (G z_)))), (x4, .inl (cI, 16, .inl (fun z_ => nI (C z_))))] sz)) 0 0 (va_A [(m0, .inr (6, [.int (nI N), .ref x1, .int (nI K), .ref x2, .ref x3, .ref x4, .int (nI lo), .ref x5, .ref x6, .ref x7, .ref x8, .int (nI ns), .int (nI nd), .ref x9, .ref y1, .ref y2, .int (nI rm), .ref y3, .ref y4, .ref y5, .ref y6, .ref y7, .int (nI pls)])), (x2, .inl (cI, 16, .inl (fun z_ => nI (F z_)))), (x3, .inl (cI, 16, .inl (fun z_ => nI (G z_)))), (x4, .inl (cI, 16, .inl (fun z_ => nI (C z_))))] sz) := by
  refine z_met_i (cc := cX6_fire) (maxL := 2) (by decide) rfl (Nat.le_of_ble_eq_true rfl) ?_
  intro p e s m args below meth c Q A ls hx hb hml hown hts hin hA hK hP hD hN hl hRET
  have hown : s.vm.findClass RX6 = some m.cls := hown
  obtain ⟨H, eH⟩ : ∃ H : Heap, H = s.heap := ⟨_, rfl⟩
  rw [← eH] at hP
  obtain ⟨locs, eL⟩ : ∃ z : List Loc, z = [] := ⟨_, rfl⟩
  rw [← eH, ← eL]
  have hS : va_S A s.heap H locs := by rw [eH, eL]; exact va_S.rf
  have hl : lv_has ls 2 [(0, .ref m0), (1, .int (iI z))] := hl
  refine lv_aload_n hx hb dX6_fire_0 rfl (lv_at hl 0 rfl) ?_
  refine lv_iload_n hx hb dX6_fire_1 rfl (lv_at hl 1 rfl) ?_
  refine z_callVi (As := [.int (iI z)]) (rest := []) (wr := [(x2, .inl (cI, 16, .inl (fun z_ => nI (F z_)))), (x3, .inl (cI, 16, .inl (fun z_ => nI (G z_)))), (x4, .inl (cI, 16, .inl (fun z_ => nI (C z_))))]) ⟨hx, hb, hml, hown, hts⟩ (c_X6_isStation l dC dI cI cJ H.size m0 x1 x2 x3 x4 x5 x6 x7 x8 x9 y1 y2 y3 y4 y5 y6 y7 N K lo ns nd rm pls z (by first | assumption | omega) (by first | assumption | omega) (by first | assumption | omega)) (cwV 1 hts gX6_fire_X6_isStation rfl rfl rfl (by decide +kernel) ⟨Nat.le_of_ble_eq_true rfl, Nat.le_of_ble_eq_true rfl⟩) hA hK hP hD hS [0] [1, 2, 3] [3, 0, 1, 2] rfl rfl (by decide) (by decide) (by decide) nwA_ok hN (ci := 6) rfl rfl 0 rfl hl.1 (Nat.le_of_ble_eq_true rfl) ⟨Nat.le_refl _, Nat.le_refl _⟩ rfl rfl dX6_fire_2 (fun (u : (Nat)) => [(m0, .inr (6, [.int (nI N), .ref x1, .int (nI K), .ref x2, .ref x3, .ref x4, .int (nI lo), .ref x5, .ref x6, .ref x7, .ref x8, .int (nI ns), .int (nI nd), .ref x9, .ref y1, .ref y2, .int (nI rm), .ref y3, .ref y4, .ref y5, .ref y6, .ref y7, .int (nI pls)])), (x2, .inl (cI, 16, .inl (fun z_ => nI (F z_)))), (x3, .inl (cI, 16, .inl (fun z_ => nI (G z_)))), (x4, .inl (cI, 16, .inl (fun z_ => nI (C z_))))]) (fun u => rfl) (by decide) (fun r_2 u H locs hw hP hD hS => ?_)
  obtain ⟨rv_2, eu⟩ : ∃ z, z = u := ⟨_, rfl⟩
  subst eu
  have hP : va_P (dC, dI) vwCl [(m0, .inr (6, [.int (nI N), .ref x1, .int (nI K), .ref x2, .ref x3, .ref x4, .int (nI lo), .ref x5, .ref x6, .ref x7, .ref x8, .int (nI ns), .int (nI nd), .ref x9, .ref y1, .ref y2, .int (nI rm), .ref y3, .ref y4, .ref y5, .ref y6, .ref y7, .int (nI pls)])), (x2, .inl (cI, 16, .inl (fun z_ => nI (F z_)))), (x3, .inl (cI, 16, .inl (fun z_ => nI (G z_)))), (x4, .inl (cI, 16, .inl (fun z_ => nI (C z_))))] H := hP
  have hD : va_D A [(m0, .inr (6, [.int (nI N), .ref x1, .int (nI K), .ref x2, .ref x3, .ref x4, .int (nI lo), .ref x5, .ref x6, .ref x7, .ref x8, .int (nI ns), .int (nI nd), .ref x9, .ref y1, .ref y2, .int (nI rm), .ref y3, .ref y4, .ref y5, .ref y6, .ref y7, .int (nI pls)])), (x2, .inl (cI, 16, .inl (fun z_ => nI (F z_)))), (x3, .inl (cI, 16, .inl (fun z_ => nI (G z_)))), (x4, .inl (cI, 16, .inl (fun z_ => nI (C z_))))] := hD
  obtain ⟨er, p2_0⟩ := hw
  have p2_0 : (rv_2 = 1 ∧ (0 ≤ z ∧ z < (N : Int))) ∨ (rv_2 = 0 ∧ ¬ (0 ≤ z ∧ z < (N : Int))) := p2_0
  have er : r_2 = (nI rv_2) := er
  subst er
  rcases p2_0 with ⟨h2, c_2⟩ | ⟨h2, c_2⟩
  · skip
    subst h2
    refine lv_if_ne (tgt := 10) hx hb dX6_fire_5 (by decide) (fun _ => ?_) (fun c_x => absurd c_x (by decide))
    refine lv_aload_n hx hb dX6_fire_10 rfl (lv_at hl 0 rfl) ?_
    refine lv_iload_n hx hb dX6_fire_11 rfl (lv_at hl 1 rfl) ?_
    refine z_c0 (v := nI z.toNat) (z_ZtoN (by first | assumption | omega)) ?_
    refine z_callVi (As := [.int (nI z.toNat)]) (rest := []) (wr := [(x2, .inl (cI, 16, .inl (fun z_ => nI (F z_))))]) ⟨hx, hb, hml, hown, hts⟩ (c_X6_isReady l dC dI cI cJ H.size m0 x1 x2 x3 x4 x5 x6 x7 x8 x9 y1 y2 y3 y4 y5 y6 y7 N K lo ns nd rm pls G C z.toNat (by first | assumption | omega) (by first | assumption | omega) (by first | assumption | omega) (by first | assumption | omega)) (cwV 1 hts gX6_fire_X6_isReady rfl rfl rfl (by decide +kernel) ⟨Nat.le_of_ble_eq_true rfl, Nat.le_of_ble_eq_true rfl⟩) hA hK hP hD hS [0, 2, 3] [1] [1, 0, 2, 3] rfl rfl (by decide) (by decide) (by decide) nwA_ok hN (ci := 6) rfl rfl 0 rfl hl.1 (Nat.le_of_ble_eq_true rfl) ⟨Nat.le_refl _, Nat.le_refl _⟩ rfl rfl dX6_fire_12 (fun (u : (Nat)) => [(m0, .inr (6, [.int (nI N), .ref x1, .int (nI K), .ref x2, .ref x3, .ref x4, .int (nI lo), .ref x5, .ref x6, .ref x7, .ref x8, .int (nI ns), .int (nI nd), .ref x9, .ref y1, .ref y2, .int (nI rm), .ref y3, .ref y4, .ref y5, .ref y6, .ref y7, .int (nI pls)])), (x2, .inl (cI, 16, .inl (fun z_ => nI (F z_)))), (x3, .inl (cI, 16, .inl (fun z_ => nI (G z_)))), (x4, .inl (cI, 16, .inl (fun z_ => nI (C z_))))]) (fun u => rfl) (by decide) (fun r_12 u H locs hw hP hD hS => ?_)
    obtain ⟨rv_12, eu⟩ : ∃ z, z = u := ⟨_, rfl⟩
    subst eu
    have hP : va_P (dC, dI) vwCl [(m0, .inr (6, [.int (nI N), .ref x1, .int (nI K), .ref x2, .ref x3, .ref x4, .int (nI lo), .ref x5, .ref x6, .ref x7, .ref x8, .int (nI ns), .int (nI nd), .ref x9, .ref y1, .ref y2, .int (nI rm), .ref y3, .ref y4, .ref y5, .ref y6, .ref y7, .int (nI pls)])), (x2, .inl (cI, 16, .inl (fun z_ => nI (F z_)))), (x3, .inl (cI, 16, .inl (fun z_ => nI (G z_)))), (x4, .inl (cI, 16, .inl (fun z_ => nI (C z_))))] H := hP
    have hD : va_D A [(m0, .inr (6, [.int (nI N), .ref x1, .int (nI K), .ref x2, .ref x3, .ref x4, .int (nI lo), .ref x5, .ref x6, .ref x7, .ref x8, .int (nI ns), .int (nI nd), .ref x9, .ref y1, .ref y2, .int (nI rm), .ref y3, .ref y4, .ref y5, .ref y6, .ref y7, .int (nI pls)])), (x2, .inl (cI, 16, .inl (fun z_ => nI (F z_)))), (x3, .inl (cI, 16, .inl (fun z_ => nI (G z_)))), (x4, .inl (cI, 16, .inl (fun z_ => nI (C z_))))] := hD
    obtain ⟨er, p12_0⟩ := hw
    have p12_0 : (rv_12 = 1 ∧ sp_rdy K G C z.toNat = true) ∨ (rv_12 = 0 ∧ sp_rdy K G C z.toNat = false) := p12_0
    have er : r_12 = (nI rv_12) := er
    subst er
    rcases p12_0 with ⟨h12, c_12⟩ | ⟨h12, c_12⟩
    · skip
      subst h12
      refine lv_if_ne (tgt := 21) hx hb dX6_fire_15 (by decide) (fun _ => ?_) (fun c_x => absurd c_x (by decide))
      refine lv_aload_n hx hb dX6_fire_21 rfl (lv_at hl 0 rfl) ?_
      refine lv_iload_n hx hb dX6_fire_22 rfl (lv_at hl 1 rfl) ?_
      refine z_c0 (v := nI z.toNat) (z_ZtoN (by first | assumption | omega)) ?_
      refine z_callVi (As := [.int (nI z.toNat)]) (rest := []) (wr := []) ⟨hx, hb, hml, hown, hts⟩ (c_X6_hasRoom l dC dI cI cJ H.size m0 x1 x2 x3 x4 x5 x6 x7 x8 x9 y1 y2 y3 y4 y5 y6 y7 N K lo ns nd rm pls F G C z.toNat (by first | assumption | omega) (by first | assumption | omega) (by first | assumption | omega) (by first | assumption | omega) (by first | assumption | omega)) (cwV 1 hts gX6_fire_X6_hasRoom rfl rfl rfl (by decide +kernel) ⟨Nat.le_of_ble_eq_true rfl, Nat.le_of_ble_eq_true rfl⟩) hA hK hP hD hS [0, 1, 2, 3] [] [0, 1, 2, 3] rfl rfl (by decide) (by decide) (by decide) nwA_ok hN (ci := 6) rfl rfl 0 rfl hl.1 (Nat.le_of_ble_eq_true rfl) ⟨Nat.le_refl _, Nat.le_refl _⟩ rfl rfl dX6_fire_23 (fun (u : (Nat)) => [(m0, .inr (6, [.int (nI N), .ref x1, .int (nI K), .ref x2, .ref x3, .ref x4, .int (nI lo), .ref x5, .ref x6, .ref x7, .ref x8, .int (nI ns), .int (nI nd), .ref x9, .ref y1, .ref y2, .int (nI rm), .ref y3, .ref y4, .ref y5, .ref y6, .ref y7, .int (nI pls)])), (x2, .inl (cI, 16, .inl (fun z_ => nI (F z_)))), (x3, .inl (cI, 16, .inl (fun z_ => nI (G z_)))), (x4, .inl (cI, 16, .inl (fun z_ => nI (C z_))))]) (fun u => rfl) (by decide) (fun r_23 u H locs hw hP hD hS => ?_)
      obtain ⟨rv_23, eu⟩ : ∃ z, z = u := ⟨_, rfl⟩
      subst eu
      have hP : va_P (dC, dI) vwCl [(m0, .inr (6, [.int (nI N), .ref x1, .int (nI K), .ref x2, .ref x3, .ref x4, .int (nI lo), .ref x5, .ref x6, .ref x7, .ref x8, .int (nI ns), .int (nI nd), .ref x9, .ref y1, .ref y2, .int (nI rm), .ref y3, .ref y4, .ref y5, .ref y6, .ref y7, .int (nI pls)])), (x2, .inl (cI, 16, .inl (fun z_ => nI (F z_)))), (x3, .inl (cI, 16, .inl (fun z_ => nI (G z_)))), (x4, .inl (cI, 16, .inl (fun z_ => nI (C z_))))] H := hP
      have hD : va_D A [(m0, .inr (6, [.int (nI N), .ref x1, .int (nI K), .ref x2, .ref x3, .ref x4, .int (nI lo), .ref x5, .ref x6, .ref x7, .ref x8, .int (nI ns), .int (nI nd), .ref x9, .ref y1, .ref y2, .int (nI rm), .ref y3, .ref y4, .ref y5, .ref y6, .ref y7, .int (nI pls)])), (x2, .inl (cI, 16, .inl (fun z_ => nI (F z_)))), (x3, .inl (cI, 16, .inl (fun z_ => nI (G z_)))), (x4, .inl (cI, 16, .inl (fun z_ => nI (C z_))))] := hD
      obtain ⟨er, p23_0⟩ := hw
      have p23_0 : (rv_23 = 1 ∧ sp_room K F G C z.toNat = true) ∨ (rv_23 = 0 ∧ sp_room K F G C z.toNat = false) := p23_0
      have er : r_23 = (nI rv_23) := er
      subst er
      rcases p23_0 with ⟨h23, c_23⟩ | ⟨h23, c_23⟩
      · skip
        subst h23
        refine lv_if_ne (tgt := 32) hx hb dX6_fire_26 (by decide) (fun _ => ?_) (fun c_x => absurd c_x (by decide))
        refine lv_aload_n hx hb dX6_fire_32 rfl (lv_at hl 0 rfl) ?_
        refine lv_iload_n hx hb dX6_fire_33 rfl (lv_at hl 1 rfl) ?_
        refine z_c0 (v := nI z.toNat) (z_ZtoN (by first | assumption | omega)) ?_
        refine z_callVv (As := [.int (nI z.toNat)]) (rest := []) (wr := []) ⟨hx, hb, hml, hown, hts⟩ (c_X6_fires l dC dI cI cJ H.size m0 x1 x2 x3 x4 x5 x6 x7 x8 x9 y1 y2 y3 y4 y5 y6 y7 N K lo ns nd rm pls F G C z.toNat (by first | assumption | omega) (by first | assumption | omega) (by first | assumption | omega) (by first | assumption | omega) (by first | assumption | omega) (by first | assumption | omega)) (cwV 1 hts gX6_fire_X6_fires rfl rfl rfl (by decide +kernel) ⟨Nat.le_of_ble_eq_true rfl, Nat.le_of_ble_eq_true rfl⟩) hA hK hP hD hS [0, 1, 2, 3] [] [0, 1, 2, 3] rfl rfl (by decide) (by decide) (by decide) nwA_ok hN (ci := 6) rfl rfl 0 rfl hl.1 (Nat.le_of_ble_eq_true rfl) ⟨Nat.le_refl _, Nat.le_refl _⟩ rfl rfl dX6_fire_34 (fun (u : (Nat → Nat)) => [(m0, .inr (6, [.int (nI N), .ref x1, .int (nI K), .ref x2, .ref x3, .ref x4, .int (nI lo), .ref x5, .ref x6, .ref x7, .ref x8, .int (nI ns), .int (nI nd), .ref x9, .ref y1, .ref y2, .int (nI rm), .ref y3, .ref y4, .ref y5, .ref y6, .ref y7, .int (nI pls)])), (x2, .inl (cI, 16, .inl (fun z_ => nI (F z_)))), (x3, .inl (cI, 16, .inl (fun z_ => nI (G z_)))), (x4, .inl (cI, 16, .inl (fun z_ => nI (u z_))))]) (fun u => rfl) (by decide) (fun u H locs hw hP hD hS => ?_)
        obtain ⟨C2_34, eu⟩ : ∃ z, z = u := ⟨_, rfl⟩
        subst eu
        have hP : va_P (dC, dI) vwCl [(m0, .inr (6, [.int (nI N), .ref x1, .int (nI K), .ref x2, .ref x3, .ref x4, .int (nI lo), .ref x5, .ref x6, .ref x7, .ref x8, .int (nI ns), .int (nI nd), .ref x9, .ref y1, .ref y2, .int (nI rm), .ref y3, .ref y4, .ref y5, .ref y6, .ref y7, .int (nI pls)])), (x2, .inl (cI, 16, .inl (fun z_ => nI (F z_)))), (x3, .inl (cI, 16, .inl (fun z_ => nI (G z_)))), (x4, .inl (cI, 16, .inl (fun z_ => nI (C2_34 z_))))] H := hP
        have hD : va_D A [(m0, .inr (6, [.int (nI N), .ref x1, .int (nI K), .ref x2, .ref x3, .ref x4, .int (nI lo), .ref x5, .ref x6, .ref x7, .ref x8, .int (nI ns), .int (nI nd), .ref x9, .ref y1, .ref y2, .int (nI rm), .ref y3, .ref y4, .ref y5, .ref y6, .ref y7, .int (nI pls)])), (x2, .inl (cI, 16, .inl (fun z_ => nI (F z_)))), (x3, .inl (cI, 16, .inl (fun z_ => nI (G z_)))), (x4, .inl (cI, 16, .inl (fun z_ => nI (C2_34 z_))))] := hD
        have p34_0 := hw
        have p34_0 : C2_34 = sp_mv K F G C z.toNat := p34_0
        subst p34_0
        refine lv_aload_n hx hb dX6_fire_37 rfl (lv_at hl 0 rfl) ?_
        refine z_callVi (As := []) (rest := []) (wr := [(x2, .inl (cI, 16, .inl (fun z_ => nI (F z_))))]) ⟨hx, hb, hml, hown, hts⟩ (c_X6_readyMany l dC dI cI cJ H.size m0 x1 x2 x3 x4 x5 x6 x7 x8 x9 y1 y2 y3 y4 y5 y6 y7 N K lo ns nd rm pls G (sp_mv K F G C z.toNat) (by first | assumption | omega) (by first | assumption | omega) (by exact sp_mv_le bC c_12 c_23) (by first | assumption | omega)) (cwV 0 hts gX6_fire_X6_readyMany rfl rfl rfl (by decide +kernel) ⟨Nat.le_of_ble_eq_true rfl, Nat.le_of_ble_eq_true rfl⟩) hA hK hP hD hS [0, 2, 3] [1] [1, 0, 2, 3] rfl rfl (by decide) (by decide) (by decide) nwA_ok hN (ci := 6) rfl rfl 0 rfl hl.1 (Nat.le_of_ble_eq_true rfl) ⟨Nat.le_refl _, Nat.le_refl _⟩ rfl rfl dX6_fire_38 (fun (u : (Nat)) => [(m0, .inr (6, [.int (nI N), .ref x1, .int (nI K), .ref x2, .ref x3, .ref x4, .int (nI lo), .ref x5, .ref x6, .ref x7, .ref x8, .int (nI ns), .int (nI nd), .ref x9, .ref y1, .ref y2, .int (nI rm), .ref y3, .ref y4, .ref y5, .ref y6, .ref y7, .int (nI pls)])), (x2, .inl (cI, 16, .inl (fun z_ => nI (F z_)))), (x3, .inl (cI, 16, .inl (fun z_ => nI (G z_)))), (x4, .inl (cI, 16, .inl (fun z_ => nI ((sp_mv K F G C z.toNat) z_))))]) (fun u => rfl) (by decide) (fun r_38 u H locs hw hP hD hS => ?_)
        obtain ⟨rv_38, eu⟩ : ∃ z, z = u := ⟨_, rfl⟩
        subst eu
        have hP : va_P (dC, dI) vwCl [(m0, .inr (6, [.int (nI N), .ref x1, .int (nI K), .ref x2, .ref x3, .ref x4, .int (nI lo), .ref x5, .ref x6, .ref x7, .ref x8, .int (nI ns), .int (nI nd), .ref x9, .ref y1, .ref y2, .int (nI rm), .ref y3, .ref y4, .ref y5, .ref y6, .ref y7, .int (nI pls)])), (x2, .inl (cI, 16, .inl (fun z_ => nI (F z_)))), (x3, .inl (cI, 16, .inl (fun z_ => nI (G z_)))), (x4, .inl (cI, 16, .inl (fun z_ => nI ((sp_mv K F G C z.toNat) z_))))] H := hP
        have hD : va_D A [(m0, .inr (6, [.int (nI N), .ref x1, .int (nI K), .ref x2, .ref x3, .ref x4, .int (nI lo), .ref x5, .ref x6, .ref x7, .ref x8, .int (nI ns), .int (nI nd), .ref x9, .ref y1, .ref y2, .int (nI rm), .ref y3, .ref y4, .ref y5, .ref y6, .ref y7, .int (nI pls)])), (x2, .inl (cI, 16, .inl (fun z_ => nI (F z_)))), (x3, .inl (cI, 16, .inl (fun z_ => nI (G z_)))), (x4, .inl (cI, 16, .inl (fun z_ => nI ((sp_mv K F G C z.toNat) z_))))] := hD
        obtain ⟨er, p38_0⟩ := hw
        have p38_0 : rv_38 = sp_cnt N K G (sp_mv K F G C z.toNat) := p38_0
        have er : r_38 = (nI rv_38) := er
        subst er
        subst p38_0
        refine z_c0 (v := iI (((sp_cnt N K G (sp_mv K F G C z.toNat)) : Nat) : Int)) (iI_N _) ?_
        have q_0 : (((sp_cnt N K G (sp_mv K F G C z.toNat)) : Nat) : Int) = if 0 ≤ z ∧ z < (N : Int) then (if sp_rdy K G C z.toNat = true then (if sp_room K F G C z.toNat = true then (sp_cnt N K G (sp_mv K F G C z.toNat) : Int) else -4) else -3) else -1 := by first | rw [if_pos (by omega), if_pos (by assumption), if_pos (by assumption)] | rw [if_pos (by omega), if_pos (by assumption), if_neg (by simp [*])] | rw [if_pos (by omega), if_neg (by simp [*])] | rw [if_neg (by omega)]
        have q_1 : (sp_mv K F G C z.toNat) = if ((0 ≤ z ∧ z < (N : Int)) ∧ sp_rdy K G C z.toNat = true ∧ sp_room K F G C z.toNat = true) then sp_mv K F G C z.toNat else C := by first | rw [if_pos ⟨by omega, by assumption, by assumption⟩] | rw [if_neg (fun h => absurd h.1 (by omega))] | rw [if_neg (fun h => by rw [c_12] at h; exact absurd h.2.1 (by decide))] | rw [if_neg (fun h => by rw [c_23] at h; exact absurd h.2.2 (by decide))]
        exact hRET _ ls H locs ((iI (((sp_cnt N K G (sp_mv K F G C z.toNat)) : Nat) : Int))) ((((sp_cnt N K G (sp_mv K F G C z.toNat)) : Nat) : Int), (sp_mv K F G C z.toNat)) dX6_fire_41 ⟨rfl, q_0, q_1⟩ hP hD hS
      · skip
        subst h23
        refine lv_if_ne (tgt := 32) hx hb dX6_fire_26 (by decide) (fun c_x => absurd c_x (by decide)) (fun _ => ?_)
        refine lv_bipush (v := iI (-4)) hx hb dX6_fire_29 (by decide) ?_
        have q_0 : (-4 : Int) = if 0 ≤ z ∧ z < (N : Int) then (if sp_rdy K G C z.toNat = true then (if sp_room K F G C z.toNat = true then (sp_cnt N K G (sp_mv K F G C z.toNat) : Int) else -4) else -3) else -1 := by first | rw [if_pos (by omega), if_pos (by assumption), if_pos (by assumption)] | rw [if_pos (by omega), if_pos (by assumption), if_neg (by simp [*])] | rw [if_pos (by omega), if_neg (by simp [*])] | rw [if_neg (by omega)]
        have q_1 : C = if ((0 ≤ z ∧ z < (N : Int)) ∧ sp_rdy K G C z.toNat = true ∧ sp_room K F G C z.toNat = true) then sp_mv K F G C z.toNat else C := by first | rw [if_pos ⟨by omega, by assumption, by assumption⟩] | rw [if_neg (fun h => absurd h.1 (by omega))] | rw [if_neg (fun h => by rw [c_12] at h; exact absurd h.2.1 (by decide))] | rw [if_neg (fun h => by rw [c_23] at h; exact absurd h.2.2 (by decide))]
        exact hRET _ ls H locs ((iI (-4))) ((-4 : Int), C) dX6_fire_31 ⟨rfl, q_0, q_1⟩ hP hD hS
    · skip
      subst h12
      refine lv_if_ne (tgt := 21) hx hb dX6_fire_15 (by decide) (fun c_x => absurd c_x (by decide)) (fun _ => ?_)
      refine lv_bipush (v := iI (-3)) hx hb dX6_fire_18 (by decide) ?_
      have q_0 : (-3 : Int) = if 0 ≤ z ∧ z < (N : Int) then (if sp_rdy K G C z.toNat = true then (if sp_room K F G C z.toNat = true then (sp_cnt N K G (sp_mv K F G C z.toNat) : Int) else -4) else -3) else -1 := by first | rw [if_pos (by omega), if_pos (by assumption), if_pos (by assumption)] | rw [if_pos (by omega), if_pos (by assumption), if_neg (by simp [*])] | rw [if_pos (by omega), if_neg (by simp [*])] | rw [if_neg (by omega)]
      have q_1 : C = if ((0 ≤ z ∧ z < (N : Int)) ∧ sp_rdy K G C z.toNat = true ∧ sp_room K F G C z.toNat = true) then sp_mv K F G C z.toNat else C := by first | rw [if_pos ⟨by omega, by assumption, by assumption⟩] | rw [if_neg (fun h => absurd h.1 (by omega))] | rw [if_neg (fun h => by rw [c_12] at h; exact absurd h.2.1 (by decide))] | rw [if_neg (fun h => by rw [c_23] at h; exact absurd h.2.2 (by decide))]
      exact hRET _ ls H locs ((iI (-3))) ((-3 : Int), C) dX6_fire_20 ⟨rfl, q_0, q_1⟩ hP hD hS
  · skip
    subst h2
    refine lv_if_ne (tgt := 10) hx hb dX6_fire_5 (by decide) (fun c_x => absurd c_x (by decide)) (fun _ => ?_)
    refine lv_iconst (v := iI (-1)) hx hb dX6_fire_8 (by decide) ?_
    have q_0 : (-1 : Int) = if 0 ≤ z ∧ z < (N : Int) then (if sp_rdy K G C z.toNat = true then (if sp_room K F G C z.toNat = true then (sp_cnt N K G (sp_mv K F G C z.toNat) : Int) else -4) else -3) else -1 := by first | rw [if_pos (by omega), if_pos (by assumption), if_pos (by assumption)] | rw [if_pos (by omega), if_pos (by assumption), if_neg (by simp [*])] | rw [if_pos (by omega), if_neg (by simp [*])] | rw [if_neg (by omega)]
    have q_1 : C = if ((0 ≤ z ∧ z < (N : Int)) ∧ sp_rdy K G C z.toNat = true ∧ sp_room K F G C z.toNat = true) then sp_mv K F G C z.toNat else C := by first | rw [if_pos ⟨by omega, by assumption, by assumption⟩] | rw [if_neg (fun h => absurd h.1 (by omega))] | rw [if_neg (fun h => by rw [c_12] at h; exact absurd h.2.1 (by decide))] | rw [if_neg (fun h => by rw [c_23] at h; exact absurd h.2.2 (by decide))]
    exact hRET _ ls H locs ((iI (-1))) ((-1 : Int), C) dX6_fire_9 ⟨rfl, q_0, q_1⟩ hP hD hS

set_option maxHeartbeats 4000000 in
set_option maxRecDepth 100000 in
theorem c_X6_round (l : Launch) (dC : Nat → ClassId) (dI : Nat → Nat → Nat) (cI cJ : ClassId) (sz : Nat) (m0 : Nat) (x1 : Nat) (x2 : Nat) (x3 : Nat) (x4 : Nat) (x5 : Nat) (x6 : Nat) (x7 : Nat) (x8 : Nat) (x9 : Nat) (y1 : Nat) (y2 : Nat) (y3 : Nat) (y4 : Nat) (y5 : Nat) (y6 : Nat) (y7 : Nat) (N : Nat) (K : Nat) (lo : Nat) (ns : Nat) (nd : Nat) (rm : Nat) (pls : Nat) (F : Nat → Nat) (G : Nat → Nat) (C : Nat → Nat) (bN : N ≤ 8) (bK : K ≤ 16) (bC : ∀ a, C a ≤ 9) (bF : ∀ a, F a < 8) (bG : ∀ a, G a < 8) : Met l yX6_round wsX6_round (zR 1 0 0 23) (va_Pc [.ref m0] (zP (dC, dI) [(cI, .int), (cJ, .long)] [(m0, .inr (6, [.int (nI N), .ref x1, .int (nI K), .ref x2, .ref x3, .ref x4, .int (nI lo), .ref x5, .ref x6, .ref x7, .ref x8, .int (nI ns), .int (nI nd), .ref x9, .ref y1, .ref y2, .int (nI rm), .ref y3, .ref y4, .ref y5, .ref y6, .ref y7, .int (nI pls)])), (x2, .inl (cI, 16, .inl (fun z_ => nI (F z_)))), (x3, .inl (cI, 16, .inl (fun z_ => nI (G z_)))), (x4, .inl (cI, 16, .inl (fun z_ => nI (C z_))))] sz nwA)) (va_Qi (fun (r : Int32) (u : (Nat) × (Nat → Nat)) => r = (nI u.1) ∧ (u.1 = fb_ct (sp_rok K F G C) N) ∧ (u.2 = sp_rC K F G C N)) (zB (dC, dI) (fun (u : (Nat) × (Nat → Nat)) => [(m0, .inr (6, [.int (nI N), .ref x1, .int (nI K), .ref x2, .ref x3, .ref x4, .int (nI lo), .ref x5, .ref x6, .ref x7, .ref x8, .int (nI ns), .int (nI nd), .ref x9, .ref y1, .ref y2, .int (nI rm), .ref y3, .ref y4, .ref y5, .ref y6, .ref y7, .int (nI pls)])), (x2, .inl (cI, 16, .inl (fun z_ => nI (F z_)))), (x3, .inl (cI, 16, .inl (fun z_ => nI (G z_)))), (x4, .inl (cI, 16, .inl (fun z_ => nI (u.2 z_))))]) (va_A [(m0, .inr (6, [.int (nI N), .ref x1, .int (nI K), .ref x2, .ref x3, .ref x4, .int (nI lo), .ref x5, .ref x6, .ref x7, .ref x8, .int (nI ns), .int (nI nd), .ref x9, .ref y1, .ref y2, .int (nI rm), .ref y3, .ref y4, .ref y5, .ref y6, .ref y7, .int (nI pls)])), (x2, .inl (cI, 16, .inl (fun z_ => nI (F z_)))), (x3, .inl (cI, 16, .inl (fun z_ => nI (G z_)))), (x4, .inl (cI, 16, .inl (fun z_ => nI (C z_))))] sz)) (va_A [(m0, .inr (6, [.int (nI N), .ref x1, .int (nI K), .ref x2, .ref x3, .ref x4, .int (nI lo), .ref x5, .ref x6, .ref x7, .ref x8, .int (nI ns), .int (nI nd), .ref x9, .ref y1, .ref y2, .int (nI rm), .ref y3, .ref y4, .ref y5, .ref y6, .ref y7, .int (nI pls)])), (x2, .inl (cI, 16, .inl (fun z_ => nI (F z_)))), (x3, .inl (cI, 16, .inl (fun z_ => nI (G z_)))), (x4, .inl (cI, 16, .inl (fun z_ => nI (C z_))))] sz)) 0 0 (va_A [(m0, .inr (6, [.int (nI N), .ref x1, .int (nI K), .ref x2, .ref x3, .ref x4, .int (nI lo), .ref x5, .ref x6, .ref x7, .ref x8, .int (nI ns), .int (nI nd), .ref x9, .ref y1, .ref y2, .int (nI rm), .ref y3, .ref y4, .ref y5, .ref y6, .ref y7, .int (nI pls)])), (x2, .inl (cI, 16, .inl (fun z_ => nI (F z_)))), (x3, .inl (cI, 16, .inl (fun z_ => nI (G z_)))), (x4, .inl (cI, 16, .inl (fun z_ => nI (C z_))))] sz) := by
  refine z_met_i (cc := cX6_round) (maxL := 3) (by decide) rfl (Nat.le_of_ble_eq_true rfl) ?_
  intro p e s m args below meth c Q A ls hx hb hml hown hts hin hA hK hP hD hN hl hRET
  have hown : s.vm.findClass RX6 = some m.cls := hown
  obtain ⟨H, eH⟩ : ∃ H : Heap, H = s.heap := ⟨_, rfl⟩
  rw [← eH] at hP
  obtain ⟨locs, eL⟩ : ∃ z : List Loc, z = [] := ⟨_, rfl⟩
  rw [← eH, ← eL]
  have hS : va_S A s.heap H locs := by rw [eH, eL]; exact va_S.rf
  have hl : lv_has ls 3 [(0, .ref m0)] := hl
  have w59 := hts (.fieldLink RX6 59 "PullCardsModel" "stations" "I") (by decide +kernel)
  have uX6 : ∀ w ∈ wsX60, w ∈ wsX6_round := by decide +kernel
  refine lv_iconst (v := nI 0) hx hb dX6_round_0 (by decide) ?_
  refine lv_istore_n (lv' := [(1, .int (nI 0)), (0, .ref m0)]) hx hb dX6_round_1 rfl hl (by decide) rfl (fun ls hl => ?_)
  refine lv_iconst (v := nI 0) hx hb dX6_round_2 (by decide) ?_
  refine lv_istore_n (lv' := [(2, .int (nI 0)), (1, .int (nI 0)), (0, .ref m0)]) hx hb dX6_round_3 rfl hl (by decide) rfl (fun ls hl => ?_)
  have L4 : ∀ (n4 : Nat) (j : Nat) (n1 : Nat) (C1 : Nat → Nat), (N - j) < n4 → (j ≤ N) → (C1 = sp_rC K F G C j) → (n1 = fb_ct (sp_rok K F G C) j) → (n1 ≤ j) → ∀ (H : Heap) (locs : List Loc), va_P (dC, dI) vwCl [(m0, .inr (6, [.int (nI N), .ref x1, .int (nI K), .ref x2, .ref x3, .ref x4, .int (nI lo), .ref x5, .ref x6, .ref x7, .ref x8, .int (nI ns), .int (nI nd), .ref x9, .ref y1, .ref y2, .int (nI rm), .ref y3, .ref y4, .ref y5, .ref y6, .ref y7, .int (nI pls)])), (x2, .inl (cI, 16, .inl (fun z_ => nI (F z_)))), (x3, .inl (cI, 16, .inl (fun z_ => nI (G z_)))), (x4, .inl (cI, 16, .inl (fun z_ => nI (C1 z_))))] H → va_D A [(m0, .inr (6, [.int (nI N), .ref x1, .int (nI K), .ref x2, .ref x3, .ref x4, .int (nI lo), .ref x5, .ref x6, .ref x7, .ref x8, .int (nI ns), .int (nI nd), .ref x9, .ref y1, .ref y2, .int (nI rm), .ref y3, .ref y4, .ref y5, .ref y6, .ref y7, .int (nI pls)])), (x2, .inl (cI, 16, .inl (fun z_ => nI (F z_)))), (x3, .inl (cI, 16, .inl (fun z_ => nI (G z_)))), (x4, .inl (cI, 16, .inl (fun z_ => nI (C1 z_))))] → va_S A s.heap H locs → ∀ (ls : Array Slot), lv_has ls 3 [(0, .ref m0), (1, .int (nI n1)), (2, .int (nI j))] → W p l e (zR 1 0 0 23) s m args below meth c H locs 0 0 Q (F0 m 4 ls []) := by
    intro n4
    induction n4 with
    | zero => intro j n1 C1 hn; exact absurd hn (Nat.not_lt_zero _)
    | succ n4 ih =>
      intro j n1 C1 hn i1 i2 i3 i4 H locs hP hD hS ls hl
      have ih4 := ih
      have hn4 := hn
      clear ih hn
      have bC1 : ∀ a, C1 a ≤ 9 := by rw [i2]; exact sp_rC_le bC j
      refine lv_iload_n hx hb dX6_round_4 rfl (lv_at hl 2 rfl) ?_
      refine lv_aload_n hx hb dX6_round_5 rfl (lv_at hl 0 rfl) ?_
      refine z_get (D := (dC, dI)) (ci := 6) (v := .int (nI N)) (C := RX6) (T := TX6) (N := 23) hx hb hts uX6 hown hK hP 0 rfl rfl 0 (by decide) w59 rfl rfl dX6_round_6 ?_
      refine z_icmp_ge (tgt := 42) hx hb dX6_round_9 (by decide) (zcn_le (a := N) (b := j) rfl rfl (by omega)) (fun c_9 => ?_) (fun c_9 => ?_)
      · skip
        refine lv_iload_n hx hb dX6_round_42 rfl (lv_at hl 1 rfl) ?_
        have q_0 : n1 = fb_ct (sp_rok K F G C) N := by rw [i3, show j = N by omega]
        have q_1 : C1 = sp_rC K F G C N := by rw [i2, show j = N by omega]
        exact hRET _ ls H locs ((nI n1)) (n1, C1) dX6_round_43 ⟨rfl, q_0, q_1⟩ hP hD hS
      · skip
        refine lv_aload_n hx hb dX6_round_12 rfl (lv_at hl 0 rfl) ?_
        refine lv_iload_n hx hb dX6_round_13 rfl (lv_at hl 2 rfl) ?_
        refine z_callVi (As := [.int (nI j)]) (rest := []) (wr := [(x2, .inl (cI, 16, .inl (fun z_ => nI (F z_))))]) ⟨hx, hb, hml, hown, hts⟩ (c_X6_isReady l dC dI cI cJ H.size m0 x1 x2 x3 x4 x5 x6 x7 x8 x9 y1 y2 y3 y4 y5 y6 y7 N K lo ns nd rm pls G C1 j (by first | assumption | omega) (by exact bC1) (by first | assumption | omega) (by first | assumption | omega)) (cwV 1 hts gX6_round_X6_isReady rfl rfl rfl (by decide +kernel) ⟨Nat.le_of_ble_eq_true rfl, Nat.le_of_ble_eq_true rfl⟩) hA hK hP hD hS [0, 2, 3] [1] [1, 0, 2, 3] rfl rfl (by decide) (by decide) (by decide) nwA_ok hN (ci := 6) rfl rfl 0 rfl hl.1 (Nat.le_of_ble_eq_true rfl) ⟨Nat.le_refl _, Nat.le_refl _⟩ rfl rfl dX6_round_14 (fun (u : (Nat)) => [(m0, .inr (6, [.int (nI N), .ref x1, .int (nI K), .ref x2, .ref x3, .ref x4, .int (nI lo), .ref x5, .ref x6, .ref x7, .ref x8, .int (nI ns), .int (nI nd), .ref x9, .ref y1, .ref y2, .int (nI rm), .ref y3, .ref y4, .ref y5, .ref y6, .ref y7, .int (nI pls)])), (x2, .inl (cI, 16, .inl (fun z_ => nI (F z_)))), (x3, .inl (cI, 16, .inl (fun z_ => nI (G z_)))), (x4, .inl (cI, 16, .inl (fun z_ => nI (C1 z_))))]) (fun u => rfl) (by decide) (fun r_14 u H locs hw hP hD hS => ?_)
        obtain ⟨rv_14, eu⟩ : ∃ z, z = u := ⟨_, rfl⟩
        subst eu
        have hP : va_P (dC, dI) vwCl [(m0, .inr (6, [.int (nI N), .ref x1, .int (nI K), .ref x2, .ref x3, .ref x4, .int (nI lo), .ref x5, .ref x6, .ref x7, .ref x8, .int (nI ns), .int (nI nd), .ref x9, .ref y1, .ref y2, .int (nI rm), .ref y3, .ref y4, .ref y5, .ref y6, .ref y7, .int (nI pls)])), (x2, .inl (cI, 16, .inl (fun z_ => nI (F z_)))), (x3, .inl (cI, 16, .inl (fun z_ => nI (G z_)))), (x4, .inl (cI, 16, .inl (fun z_ => nI (C1 z_))))] H := hP
        have hD : va_D A [(m0, .inr (6, [.int (nI N), .ref x1, .int (nI K), .ref x2, .ref x3, .ref x4, .int (nI lo), .ref x5, .ref x6, .ref x7, .ref x8, .int (nI ns), .int (nI nd), .ref x9, .ref y1, .ref y2, .int (nI rm), .ref y3, .ref y4, .ref y5, .ref y6, .ref y7, .int (nI pls)])), (x2, .inl (cI, 16, .inl (fun z_ => nI (F z_)))), (x3, .inl (cI, 16, .inl (fun z_ => nI (G z_)))), (x4, .inl (cI, 16, .inl (fun z_ => nI (C1 z_))))] := hD
        obtain ⟨er, p14_0⟩ := hw
        have p14_0 : (rv_14 = 1 ∧ sp_rdy K G C1 j = true) ∨ (rv_14 = 0 ∧ sp_rdy K G C1 j = false) := p14_0
        have er : r_14 = (nI rv_14) := er
        subst er
        rcases p14_0 with ⟨h14, c_14⟩ | ⟨h14, c_14⟩
        · skip
          subst h14
          refine lv_if_eq (tgt := 36) hx hb dX6_round_17 (by decide) (fun c_x => absurd c_x (by decide)) (fun _ => ?_)
          refine lv_aload_n hx hb dX6_round_20 rfl (lv_at hl 0 rfl) ?_
          refine lv_iload_n hx hb dX6_round_21 rfl (lv_at hl 2 rfl) ?_
          refine z_callVi (As := [.int (nI j)]) (rest := []) (wr := []) ⟨hx, hb, hml, hown, hts⟩ (c_X6_hasRoom l dC dI cI cJ H.size m0 x1 x2 x3 x4 x5 x6 x7 x8 x9 y1 y2 y3 y4 y5 y6 y7 N K lo ns nd rm pls F G C1 j (by first | assumption | omega) (by exact bC1) (by first | assumption | omega) (by first | assumption | omega) (by first | assumption | omega)) (cwV 1 hts gX6_round_X6_hasRoom rfl rfl rfl (by decide +kernel) ⟨Nat.le_of_ble_eq_true rfl, Nat.le_of_ble_eq_true rfl⟩) hA hK hP hD hS [0, 1, 2, 3] [] [0, 1, 2, 3] rfl rfl (by decide) (by decide) (by decide) nwA_ok hN (ci := 6) rfl rfl 0 rfl hl.1 (Nat.le_of_ble_eq_true rfl) ⟨Nat.le_refl _, Nat.le_refl _⟩ rfl rfl dX6_round_22 (fun (u : (Nat)) => [(m0, .inr (6, [.int (nI N), .ref x1, .int (nI K), .ref x2, .ref x3, .ref x4, .int (nI lo), .ref x5, .ref x6, .ref x7, .ref x8, .int (nI ns), .int (nI nd), .ref x9, .ref y1, .ref y2, .int (nI rm), .ref y3, .ref y4, .ref y5, .ref y6, .ref y7, .int (nI pls)])), (x2, .inl (cI, 16, .inl (fun z_ => nI (F z_)))), (x3, .inl (cI, 16, .inl (fun z_ => nI (G z_)))), (x4, .inl (cI, 16, .inl (fun z_ => nI (C1 z_))))]) (fun u => rfl) (by decide) (fun r_22 u H locs hw hP hD hS => ?_)
          obtain ⟨rv_22, eu⟩ : ∃ z, z = u := ⟨_, rfl⟩
          subst eu
          have hP : va_P (dC, dI) vwCl [(m0, .inr (6, [.int (nI N), .ref x1, .int (nI K), .ref x2, .ref x3, .ref x4, .int (nI lo), .ref x5, .ref x6, .ref x7, .ref x8, .int (nI ns), .int (nI nd), .ref x9, .ref y1, .ref y2, .int (nI rm), .ref y3, .ref y4, .ref y5, .ref y6, .ref y7, .int (nI pls)])), (x2, .inl (cI, 16, .inl (fun z_ => nI (F z_)))), (x3, .inl (cI, 16, .inl (fun z_ => nI (G z_)))), (x4, .inl (cI, 16, .inl (fun z_ => nI (C1 z_))))] H := hP
          have hD : va_D A [(m0, .inr (6, [.int (nI N), .ref x1, .int (nI K), .ref x2, .ref x3, .ref x4, .int (nI lo), .ref x5, .ref x6, .ref x7, .ref x8, .int (nI ns), .int (nI nd), .ref x9, .ref y1, .ref y2, .int (nI rm), .ref y3, .ref y4, .ref y5, .ref y6, .ref y7, .int (nI pls)])), (x2, .inl (cI, 16, .inl (fun z_ => nI (F z_)))), (x3, .inl (cI, 16, .inl (fun z_ => nI (G z_)))), (x4, .inl (cI, 16, .inl (fun z_ => nI (C1 z_))))] := hD
          obtain ⟨er, p22_0⟩ := hw
          have p22_0 : (rv_22 = 1 ∧ sp_room K F G C1 j = true) ∨ (rv_22 = 0 ∧ sp_room K F G C1 j = false) := p22_0
          have er : r_22 = (nI rv_22) := er
          subst er
          rcases p22_0 with ⟨h22, c_22⟩ | ⟨h22, c_22⟩
          · skip
            subst h22
            have es := sp_rC_y (by rw [← i2]; exact c_14) (by rw [← i2]; exact c_22)
            refine lv_if_eq (tgt := 36) hx hb dX6_round_25 (by decide) (fun c_x => absurd c_x (by decide)) (fun _ => ?_)
            refine lv_aload_n hx hb dX6_round_28 rfl (lv_at hl 0 rfl) ?_
            refine lv_iload_n hx hb dX6_round_29 rfl (lv_at hl 2 rfl) ?_
            refine z_callVv (As := [.int (nI j)]) (rest := []) (wr := []) ⟨hx, hb, hml, hown, hts⟩ (c_X6_fires l dC dI cI cJ H.size m0 x1 x2 x3 x4 x5 x6 x7 x8 x9 y1 y2 y3 y4 y5 y6 y7 N K lo ns nd rm pls F G C1 j (by first | assumption | omega) (by exact bC1) (by first | assumption | omega) (by first | assumption | omega) (by first | assumption | omega) (by first | assumption | omega)) (cwV 1 hts gX6_round_X6_fires rfl rfl rfl (by decide +kernel) ⟨Nat.le_of_ble_eq_true rfl, Nat.le_of_ble_eq_true rfl⟩) hA hK hP hD hS [0, 1, 2, 3] [] [0, 1, 2, 3] rfl rfl (by decide) (by decide) (by decide) nwA_ok hN (ci := 6) rfl rfl 0 rfl hl.1 (Nat.le_of_ble_eq_true rfl) ⟨Nat.le_refl _, Nat.le_refl _⟩ rfl rfl dX6_round_30 (fun (u : (Nat → Nat)) => [(m0, .inr (6, [.int (nI N), .ref x1, .int (nI K), .ref x2, .ref x3, .ref x4, .int (nI lo), .ref x5, .ref x6, .ref x7, .ref x8, .int (nI ns), .int (nI nd), .ref x9, .ref y1, .ref y2, .int (nI rm), .ref y3, .ref y4, .ref y5, .ref y6, .ref y7, .int (nI pls)])), (x2, .inl (cI, 16, .inl (fun z_ => nI (F z_)))), (x3, .inl (cI, 16, .inl (fun z_ => nI (G z_)))), (x4, .inl (cI, 16, .inl (fun z_ => nI (u z_))))]) (fun u => rfl) (by decide) (fun u H locs hw hP hD hS => ?_)
            obtain ⟨C2_30, eu⟩ : ∃ z, z = u := ⟨_, rfl⟩
            subst eu
            have hP : va_P (dC, dI) vwCl [(m0, .inr (6, [.int (nI N), .ref x1, .int (nI K), .ref x2, .ref x3, .ref x4, .int (nI lo), .ref x5, .ref x6, .ref x7, .ref x8, .int (nI ns), .int (nI nd), .ref x9, .ref y1, .ref y2, .int (nI rm), .ref y3, .ref y4, .ref y5, .ref y6, .ref y7, .int (nI pls)])), (x2, .inl (cI, 16, .inl (fun z_ => nI (F z_)))), (x3, .inl (cI, 16, .inl (fun z_ => nI (G z_)))), (x4, .inl (cI, 16, .inl (fun z_ => nI (C2_30 z_))))] H := hP
            have hD : va_D A [(m0, .inr (6, [.int (nI N), .ref x1, .int (nI K), .ref x2, .ref x3, .ref x4, .int (nI lo), .ref x5, .ref x6, .ref x7, .ref x8, .int (nI ns), .int (nI nd), .ref x9, .ref y1, .ref y2, .int (nI rm), .ref y3, .ref y4, .ref y5, .ref y6, .ref y7, .int (nI pls)])), (x2, .inl (cI, 16, .inl (fun z_ => nI (F z_)))), (x3, .inl (cI, 16, .inl (fun z_ => nI (G z_)))), (x4, .inl (cI, 16, .inl (fun z_ => nI (C2_30 z_))))] := hD
            have p30_0 := hw
            have p30_0 : C2_30 = sp_mv K F G C1 j := p30_0
            refine lv_iinc (v := (nI (n1 + 1))) (lv' := [(1, .int (nI (n1 + 1))), (0, .ref m0), (2, .int (nI j))]) hx hb dX6_round_33 hl (k := 1) rfl (z_incN n1 1 (by decide)) (by decide) rfl (fun ls hl => ?_)
            refine lv_iinc (v := (nI (j + 1))) (lv' := [(2, .int (nI (j + 1))), (1, .int (nI (n1 + 1))), (0, .ref m0)]) hx hb dX6_round_36 hl (k := 2) rfl (z_incN j 1 (by decide)) (by decide) rfl (fun ls hl => ?_)
            refine lv_goto (tgt := 4) hx hb dX6_round_39 (by decide) ?_
            have o_i1 : (j + 1) ≤ N := by first | assumption | omega
            have o_i2 : C2_30 = sp_rC K F G C (j + 1) := by rw [es.1]; (first | exact i2 | (rw [p30_0, i2]))
            have o_i3 : (n1 + 1) = fb_ct (sp_rok K F G C) (j + 1) := by rw [fb_ct_succ, es.2, ← i3]; rfl
            have o_i4 : (n1 + 1) ≤ (j + 1) := by first | assumption | omega
            have o_mu : (N - (j + 1)) < n4 := by omega
            exact ih4 (j + 1) (n1 + 1) C2_30 o_mu o_i1 o_i2 o_i3 o_i4 H locs hP hD hS ls (lv_sub hl [2, 1, 0] rfl)
          · skip
            subst h22
            have es := sp_rC_n (Or.inr (by rw [← i2]; exact c_22))
            refine lv_if_eq (tgt := 36) hx hb dX6_round_25 (by decide) (fun _ => ?_) (fun c_x => absurd c_x (by decide))
            refine lv_iinc (v := (nI (j + 1))) (lv' := [(2, .int (nI (j + 1))), (0, .ref m0), (1, .int (nI n1))]) hx hb dX6_round_36 hl (k := 2) rfl (z_incN j 1 (by decide)) (by decide) rfl (fun ls hl => ?_)
            refine lv_goto (tgt := 4) hx hb dX6_round_39 (by decide) ?_
            have o_i1 : (j + 1) ≤ N := by first | assumption | omega
            have o_i2 : C1 = sp_rC K F G C (j + 1) := by rw [es.1]; (first | exact i2 | (rw [p30_0, i2]))
            have o_i3 : n1 = fb_ct (sp_rok K F G C) (j + 1) := by rw [fb_ct_succ, es.2, ← i3]; rfl
            have o_i4 : n1 ≤ (j + 1) := by first | assumption | omega
            have o_mu : (N - (j + 1)) < n4 := by omega
            exact ih4 (j + 1) n1 C1 o_mu o_i1 o_i2 o_i3 o_i4 H locs hP hD hS ls (lv_sub hl [1, 2, 0] rfl)
        · skip
          subst h14
          have es := sp_rC_n (F := F) (Or.inl (by rw [← i2]; exact c_14))
          refine lv_if_eq (tgt := 36) hx hb dX6_round_17 (by decide) (fun _ => ?_) (fun c_x => absurd c_x (by decide))
          refine lv_iinc (v := (nI (j + 1))) (lv' := [(2, .int (nI (j + 1))), (0, .ref m0), (1, .int (nI n1))]) hx hb dX6_round_36 hl (k := 2) rfl (z_incN j 1 (by decide)) (by decide) rfl (fun ls hl => ?_)
          refine lv_goto (tgt := 4) hx hb dX6_round_39 (by decide) ?_
          have o_i1 : (j + 1) ≤ N := by first | assumption | omega
          have o_i2 : C1 = sp_rC K F G C (j + 1) := by rw [es.1]; (first | exact i2 | (rw [p30_0, i2]))
          have o_i3 : n1 = fb_ct (sp_rok K F G C) (j + 1) := by rw [fb_ct_succ, es.2, ← i3]; rfl
          have o_i4 : n1 ≤ (j + 1) := by first | assumption | omega
          have o_mu : (N - (j + 1)) < n4 := by omega
          exact ih4 (j + 1) n1 C1 o_mu o_i1 o_i2 o_i3 o_i4 H locs hP hD hS ls (lv_sub hl [1, 2, 0] rfl)
  have o_i1 : 0 ≤ N := by first | assumption | omega
  have o_i2 : C = sp_rC K F G C 0 := by rfl
  have o_i3 : 0 = fb_ct (sp_rok K F G C) 0 := by rfl
  have o_i4 : 0 ≤ 0 := by first | assumption | omega
  exact L4 ((N - 0) + 1) 0 0 C (Nat.lt_succ_self _) o_i1 o_i2 o_i3 o_i4 H locs hP hD hS ls (lv_sub hl [2, 1, 0] rfl)

set_option maxHeartbeats 4000000 in
set_option maxRecDepth 100000 in
theorem c_X6_machine (l : Launch) (dC : Nat → ClassId) (dI : Nat → Nat → Nat) (cI cJ : ClassId) (sz : Nat) (m0 : Nat) (x1 : Nat) (x2 : Nat) (x3 : Nat) (x4 : Nat) (x5 : Nat) (x6 : Nat) (x7 : Nat) (x8 : Nat) (x9 : Nat) (y1 : Nat) (y2 : Nat) (y3 : Nat) (y4 : Nat) (y5 : Nat) (y6 : Nat) (y7 : Nat) (N : Nat) (K : Nat) (lo : Nat) (ns : Nat) (nd : Nat) (rm : Nat) (pls : Nat) (BR : Nat → Nat) (RP : Nat → Nat) (z : Int) (b : Int) (rr : Int) (bBR : ∀ i, BR i ≤ 4) (bRP : ∀ i, RP i ≤ 4) (bz : -2147483648 ≤ z ∧ z < 2147483648) (bb : -2147483648 ≤ b ∧ b < 2147483648) (br : -2147483648 ≤ rr ∧ rr < 2147483648) : Met l yX6_machine wsX6_machine (zR 1 0 0 25) (va_Pc [.ref m0, .int (iI z), .int (iI b), .int (iI rr)] (zP (dC, dI) [(cI, .int), (cJ, .long)] [(m0, .inr (6, [.int (nI N), .ref x1, .int (nI K), .ref x2, .ref x3, .ref x4, .int (nI lo), .ref x5, .ref x6, .ref x7, .ref x8, .int (nI ns), .int (nI nd), .ref x9, .ref y1, .ref y2, .int (nI rm), .ref y3, .ref y4, .ref y5, .ref y6, .ref y7, .int (nI pls)])), (y1, .inl (cI, 2, .inl (fun z_ => nI (BR z_)))), (y2, .inl (cI, 2, .inl (fun z_ => nI (RP z_))))] sz nwA)) (va_Qi (fun (r : Int32) (u : (Int) × (Nat → Nat) × (Nat → Nat)) => r = (iI u.1) ∧ (u.1 = if 0 ≤ z ∧ z ≤ 1 then (if (0 ≤ b ∧ b ≤ 4) ∧ (0 ≤ rr ∧ rr ≤ 4) then ((10 * BR z.toNat + RP z.toNat : Nat) : Int) else -2) else -1) ∧ (u.2.1 = if ((0 ≤ z ∧ z ≤ 1) ∧ ((0 ≤ b ∧ b ≤ 4) ∧ (0 ≤ rr ∧ rr ≤ 4))) then up BR z.toNat b.toNat else BR) ∧ (u.2.2 = if ((0 ≤ z ∧ z ≤ 1) ∧ ((0 ≤ b ∧ b ≤ 4) ∧ (0 ≤ rr ∧ rr ≤ 4))) then up RP z.toNat rr.toNat else RP)) (zB (dC, dI) (fun (u : (Int) × (Nat → Nat) × (Nat → Nat)) => [(m0, .inr (6, [.int (nI N), .ref x1, .int (nI K), .ref x2, .ref x3, .ref x4, .int (nI lo), .ref x5, .ref x6, .ref x7, .ref x8, .int (nI ns), .int (nI nd), .ref x9, .ref y1, .ref y2, .int (nI rm), .ref y3, .ref y4, .ref y5, .ref y6, .ref y7, .int (nI pls)])), (y1, .inl (cI, 2, .inl (fun z_ => nI (u.2.1 z_)))), (y2, .inl (cI, 2, .inl (fun z_ => nI (u.2.2 z_))))]) (va_A [(m0, .inr (6, [.int (nI N), .ref x1, .int (nI K), .ref x2, .ref x3, .ref x4, .int (nI lo), .ref x5, .ref x6, .ref x7, .ref x8, .int (nI ns), .int (nI nd), .ref x9, .ref y1, .ref y2, .int (nI rm), .ref y3, .ref y4, .ref y5, .ref y6, .ref y7, .int (nI pls)])), (y1, .inl (cI, 2, .inl (fun z_ => nI (BR z_)))), (y2, .inl (cI, 2, .inl (fun z_ => nI (RP z_))))] sz)) (va_A [(m0, .inr (6, [.int (nI N), .ref x1, .int (nI K), .ref x2, .ref x3, .ref x4, .int (nI lo), .ref x5, .ref x6, .ref x7, .ref x8, .int (nI ns), .int (nI nd), .ref x9, .ref y1, .ref y2, .int (nI rm), .ref y3, .ref y4, .ref y5, .ref y6, .ref y7, .int (nI pls)])), (y1, .inl (cI, 2, .inl (fun z_ => nI (BR z_)))), (y2, .inl (cI, 2, .inl (fun z_ => nI (RP z_))))] sz)) 0 0 (va_A [(m0, .inr (6, [.int (nI N), .ref x1, .int (nI K), .ref x2, .ref x3, .ref x4, .int (nI lo), .ref x5, .ref x6, .ref x7, .ref x8, .int (nI ns), .int (nI nd), .ref x9, .ref y1, .ref y2, .int (nI rm), .ref y3, .ref y4, .ref y5, .ref y6, .ref y7, .int (nI pls)])), (y1, .inl (cI, 2, .inl (fun z_ => nI (BR z_)))), (y2, .inl (cI, 2, .inl (fun z_ => nI (RP z_))))] sz) := by
  refine z_met_i (cc := cX6_machine) (maxL := 5) (by decide) rfl (Nat.le_of_ble_eq_true rfl) ?_
  intro p e s m args below meth c Q A ls hx hb hml hown hts hin hA hK hP hD hN hl hRET
  have hown : s.vm.findClass RX6 = some m.cls := hown
  obtain ⟨H, eH⟩ : ∃ H : Heap, H = s.heap := ⟨_, rfl⟩
  rw [← eH] at hP
  obtain ⟨locs, eL⟩ : ∃ z : List Loc, z = [] := ⟨_, rfl⟩
  rw [← eH, ← eL]
  have hS : va_S A s.heap H locs := by rw [eH, eL]; exact va_S.rf
  have hl : lv_has ls 5 [(0, .ref m0), (1, .int (iI z)), (2, .int (iI b)), (3, .int (iI rr))] := hl
  have w37 := hts (.fieldLink RX6 37 "PullCardsModel" "breaks" "[I") (by decide +kernel)
  have uX6 : ∀ w ∈ wsX60, w ∈ wsX6_machine := by decide +kernel
  have w40 := hts (.fieldLink RX6 40 "PullCardsModel" "mends" "[I") (by decide +kernel)
  refine lv_iload_n hx hb dX6_machine_0 rfl (lv_at hl 1 rfl) ?_
  refine lv_i2l (v := (lI z)) hx hb dX6_machine_1 (zl_i2l rfl (by omega)) ?_
  refine lv_lconst (v := lN 0) hx hb dX6_machine_2 (by decide) ?_
  refine lv_lconst (v := lN 1) hx hb dX6_machine_3 (by decide) ?_
  refine z_l0 (v := lI 1) (by decide) ?_
  refine z_l1 (v := lI 0) (by decide) ?_
  refine z_callSi (As := [.long (lI z), .long (lI 0), .long (lI 1)]) (rest := []) (wr := [(m0, .inr (6, [.int (nI N), .ref x1, .int (nI K), .ref x2, .ref x3, .ref x4, .int (nI lo), .ref x5, .ref x6, .ref x7, .ref x8, .int (nI ns), .int (nI nd), .ref x9, .ref y1, .ref y2, .int (nI rm), .ref y3, .ref y4, .ref y5, .ref y6, .ref y7, .int (nI pls)])), (y1, .inl (cI, 2, .inl (fun z_ => nI (BR z_)))), (y2, .inl (cI, 2, .inl (fun z_ => nI (RP z_))))]) ⟨hx, hb, hml, hown, hts⟩ (c_X6_in l dC dI cI cJ H.size z (0 : Int) (1 : Int) (by first | assumption | omega) (by first | assumption | omega) (by first | assumption | omega)) (va_cwS 3 hts gX6_machine_X6_in rfl rfl rfl (by decide +kernel) ⟨Nat.le_of_ble_eq_true rfl, Nat.le_of_ble_eq_true rfl⟩) hA hK hP hD hS [] [0, 1, 2] [0, 1, 2] rfl rfl (by decide) (by decide) (by decide) nwA_ok hN hl.1 (Nat.le_of_ble_eq_true rfl) ⟨Nat.le_refl _, Nat.le_refl _⟩ rfl rfl dX6_machine_4 (fun (u : (Nat)) => [(m0, .inr (6, [.int (nI N), .ref x1, .int (nI K), .ref x2, .ref x3, .ref x4, .int (nI lo), .ref x5, .ref x6, .ref x7, .ref x8, .int (nI ns), .int (nI nd), .ref x9, .ref y1, .ref y2, .int (nI rm), .ref y3, .ref y4, .ref y5, .ref y6, .ref y7, .int (nI pls)])), (y1, .inl (cI, 2, .inl (fun z_ => nI (BR z_)))), (y2, .inl (cI, 2, .inl (fun z_ => nI (RP z_))))]) (fun u => rfl) (by decide) (fun r_4 u H locs hw hP hD hS => ?_)
  obtain ⟨rv_4, eu⟩ : ∃ z, z = u := ⟨_, rfl⟩
  subst eu
  have hP : va_P (dC, dI) vwCl [(m0, .inr (6, [.int (nI N), .ref x1, .int (nI K), .ref x2, .ref x3, .ref x4, .int (nI lo), .ref x5, .ref x6, .ref x7, .ref x8, .int (nI ns), .int (nI nd), .ref x9, .ref y1, .ref y2, .int (nI rm), .ref y3, .ref y4, .ref y5, .ref y6, .ref y7, .int (nI pls)])), (y1, .inl (cI, 2, .inl (fun z_ => nI (BR z_)))), (y2, .inl (cI, 2, .inl (fun z_ => nI (RP z_))))] H := hP
  have hD : va_D A [(m0, .inr (6, [.int (nI N), .ref x1, .int (nI K), .ref x2, .ref x3, .ref x4, .int (nI lo), .ref x5, .ref x6, .ref x7, .ref x8, .int (nI ns), .int (nI nd), .ref x9, .ref y1, .ref y2, .int (nI rm), .ref y3, .ref y4, .ref y5, .ref y6, .ref y7, .int (nI pls)])), (y1, .inl (cI, 2, .inl (fun z_ => nI (BR z_)))), (y2, .inl (cI, 2, .inl (fun z_ => nI (RP z_))))] := hD
  obtain ⟨er, p4_0⟩ := hw
  have p4_0 : (rv_4 = 1 ∧ ((0 : Int) ≤ z ∧ z ≤ (1 : Int))) ∨ (rv_4 = 0 ∧ ¬ ((0 : Int) ≤ z ∧ z ≤ (1 : Int))) := p4_0
  have er : r_4 = (nI rv_4) := er
  subst er
  rcases p4_0 with ⟨h4, c_4⟩ | ⟨h4, c_4⟩
  · skip
    subst h4
    refine lv_if_ne (tgt := 12) hx hb dX6_machine_7 (by decide) (fun _ => ?_) (fun c_x => absurd c_x (by decide))
    refine lv_iload_n hx hb dX6_machine_12 rfl (lv_at hl 2 rfl) ?_
    refine lv_i2l (v := (lI b)) hx hb dX6_machine_13 (zl_i2l rfl (by omega)) ?_
    refine lv_lconst (v := lN 0) hx hb dX6_machine_14 (by decide) ?_
    refine lv_ldc2 (v := (4 : Int64)) hx hb hown (hts (.constantLong RX6 147 (4)) (by decide +kernel)) dX6_machine_15 ?_
    refine z_l0 (v := (lN 4)) (by decide) ?_
    refine z_l0 (v := lI 4) (by decide) ?_
    refine z_l1 (v := lI 0) (by decide) ?_
    refine z_callSi (As := [.long (lI b), .long (lI 0), .long (lI 4)]) (rest := []) (wr := [(m0, .inr (6, [.int (nI N), .ref x1, .int (nI K), .ref x2, .ref x3, .ref x4, .int (nI lo), .ref x5, .ref x6, .ref x7, .ref x8, .int (nI ns), .int (nI nd), .ref x9, .ref y1, .ref y2, .int (nI rm), .ref y3, .ref y4, .ref y5, .ref y6, .ref y7, .int (nI pls)])), (y1, .inl (cI, 2, .inl (fun z_ => nI (BR z_)))), (y2, .inl (cI, 2, .inl (fun z_ => nI (RP z_))))]) ⟨hx, hb, hml, hown, hts⟩ (c_X6_in l dC dI cI cJ H.size b (0 : Int) (4 : Int) (by first | assumption | omega) (by first | assumption | omega) (by first | assumption | omega)) (va_cwS 3 hts gX6_machine_X6_in rfl rfl rfl (by decide +kernel) ⟨Nat.le_of_ble_eq_true rfl, Nat.le_of_ble_eq_true rfl⟩) hA hK hP hD hS [] [0, 1, 2] [0, 1, 2] rfl rfl (by decide) (by decide) (by decide) nwA_ok hN hl.1 (Nat.le_of_ble_eq_true rfl) ⟨Nat.le_refl _, Nat.le_refl _⟩ rfl rfl dX6_machine_18 (fun (u : (Nat)) => [(m0, .inr (6, [.int (nI N), .ref x1, .int (nI K), .ref x2, .ref x3, .ref x4, .int (nI lo), .ref x5, .ref x6, .ref x7, .ref x8, .int (nI ns), .int (nI nd), .ref x9, .ref y1, .ref y2, .int (nI rm), .ref y3, .ref y4, .ref y5, .ref y6, .ref y7, .int (nI pls)])), (y1, .inl (cI, 2, .inl (fun z_ => nI (BR z_)))), (y2, .inl (cI, 2, .inl (fun z_ => nI (RP z_))))]) (fun u => rfl) (by decide) (fun r_18 u H locs hw hP hD hS => ?_)
    obtain ⟨rv_18, eu⟩ : ∃ z, z = u := ⟨_, rfl⟩
    subst eu
    have hP : va_P (dC, dI) vwCl [(m0, .inr (6, [.int (nI N), .ref x1, .int (nI K), .ref x2, .ref x3, .ref x4, .int (nI lo), .ref x5, .ref x6, .ref x7, .ref x8, .int (nI ns), .int (nI nd), .ref x9, .ref y1, .ref y2, .int (nI rm), .ref y3, .ref y4, .ref y5, .ref y6, .ref y7, .int (nI pls)])), (y1, .inl (cI, 2, .inl (fun z_ => nI (BR z_)))), (y2, .inl (cI, 2, .inl (fun z_ => nI (RP z_))))] H := hP
    have hD : va_D A [(m0, .inr (6, [.int (nI N), .ref x1, .int (nI K), .ref x2, .ref x3, .ref x4, .int (nI lo), .ref x5, .ref x6, .ref x7, .ref x8, .int (nI ns), .int (nI nd), .ref x9, .ref y1, .ref y2, .int (nI rm), .ref y3, .ref y4, .ref y5, .ref y6, .ref y7, .int (nI pls)])), (y1, .inl (cI, 2, .inl (fun z_ => nI (BR z_)))), (y2, .inl (cI, 2, .inl (fun z_ => nI (RP z_))))] := hD
    obtain ⟨er, p18_0⟩ := hw
    have p18_0 : (rv_18 = 1 ∧ ((0 : Int) ≤ b ∧ b ≤ (4 : Int))) ∨ (rv_18 = 0 ∧ ¬ ((0 : Int) ≤ b ∧ b ≤ (4 : Int))) := p18_0
    have er : r_18 = (nI rv_18) := er
    subst er
    rcases p18_0 with ⟨h18, c_18⟩ | ⟨h18, c_18⟩
    · skip
      subst h18
      refine lv_if_eq (tgt := 36) hx hb dX6_machine_21 (by decide) (fun c_x => absurd c_x (by decide)) (fun _ => ?_)
      refine lv_iload_n hx hb dX6_machine_24 rfl (lv_at hl 3 rfl) ?_
      refine lv_i2l (v := (lI rr)) hx hb dX6_machine_25 (zl_i2l rfl (by omega)) ?_
      refine lv_lconst (v := lN 0) hx hb dX6_machine_26 (by decide) ?_
      refine lv_ldc2 (v := (4 : Int64)) hx hb hown (hts (.constantLong RX6 147 (4)) (by decide +kernel)) dX6_machine_27 ?_
      refine z_l0 (v := (lN 4)) (by decide) ?_
      refine z_l0 (v := lI 4) (by decide) ?_
      refine z_l1 (v := lI 0) (by decide) ?_
      refine z_callSi (As := [.long (lI rr), .long (lI 0), .long (lI 4)]) (rest := []) (wr := [(m0, .inr (6, [.int (nI N), .ref x1, .int (nI K), .ref x2, .ref x3, .ref x4, .int (nI lo), .ref x5, .ref x6, .ref x7, .ref x8, .int (nI ns), .int (nI nd), .ref x9, .ref y1, .ref y2, .int (nI rm), .ref y3, .ref y4, .ref y5, .ref y6, .ref y7, .int (nI pls)])), (y1, .inl (cI, 2, .inl (fun z_ => nI (BR z_)))), (y2, .inl (cI, 2, .inl (fun z_ => nI (RP z_))))]) ⟨hx, hb, hml, hown, hts⟩ (c_X6_in l dC dI cI cJ H.size rr (0 : Int) (4 : Int) (by first | assumption | omega) (by first | assumption | omega) (by first | assumption | omega)) (va_cwS 3 hts gX6_machine_X6_in rfl rfl rfl (by decide +kernel) ⟨Nat.le_of_ble_eq_true rfl, Nat.le_of_ble_eq_true rfl⟩) hA hK hP hD hS [] [0, 1, 2] [0, 1, 2] rfl rfl (by decide) (by decide) (by decide) nwA_ok hN hl.1 (Nat.le_of_ble_eq_true rfl) ⟨Nat.le_refl _, Nat.le_refl _⟩ rfl rfl dX6_machine_30 (fun (u : (Nat)) => [(m0, .inr (6, [.int (nI N), .ref x1, .int (nI K), .ref x2, .ref x3, .ref x4, .int (nI lo), .ref x5, .ref x6, .ref x7, .ref x8, .int (nI ns), .int (nI nd), .ref x9, .ref y1, .ref y2, .int (nI rm), .ref y3, .ref y4, .ref y5, .ref y6, .ref y7, .int (nI pls)])), (y1, .inl (cI, 2, .inl (fun z_ => nI (BR z_)))), (y2, .inl (cI, 2, .inl (fun z_ => nI (RP z_))))]) (fun u => rfl) (by decide) (fun r_30 u H locs hw hP hD hS => ?_)
      obtain ⟨rv_30, eu⟩ : ∃ z, z = u := ⟨_, rfl⟩
      subst eu
      have hP : va_P (dC, dI) vwCl [(m0, .inr (6, [.int (nI N), .ref x1, .int (nI K), .ref x2, .ref x3, .ref x4, .int (nI lo), .ref x5, .ref x6, .ref x7, .ref x8, .int (nI ns), .int (nI nd), .ref x9, .ref y1, .ref y2, .int (nI rm), .ref y3, .ref y4, .ref y5, .ref y6, .ref y7, .int (nI pls)])), (y1, .inl (cI, 2, .inl (fun z_ => nI (BR z_)))), (y2, .inl (cI, 2, .inl (fun z_ => nI (RP z_))))] H := hP
      have hD : va_D A [(m0, .inr (6, [.int (nI N), .ref x1, .int (nI K), .ref x2, .ref x3, .ref x4, .int (nI lo), .ref x5, .ref x6, .ref x7, .ref x8, .int (nI ns), .int (nI nd), .ref x9, .ref y1, .ref y2, .int (nI rm), .ref y3, .ref y4, .ref y5, .ref y6, .ref y7, .int (nI pls)])), (y1, .inl (cI, 2, .inl (fun z_ => nI (BR z_)))), (y2, .inl (cI, 2, .inl (fun z_ => nI (RP z_))))] := hD
      obtain ⟨er, p30_0⟩ := hw
      have p30_0 : (rv_30 = 1 ∧ ((0 : Int) ≤ rr ∧ rr ≤ (4 : Int))) ∨ (rv_30 = 0 ∧ ¬ ((0 : Int) ≤ rr ∧ rr ≤ (4 : Int))) := p30_0
      have er : r_30 = (nI rv_30) := er
      subst er
      rcases p30_0 with ⟨h30, c_30⟩ | ⟨h30, c_30⟩
      · skip
        subst h30
        refine lv_if_ne (tgt := 39) hx hb dX6_machine_33 (by decide) (fun _ => ?_) (fun c_x => absurd c_x (by decide))
        refine lv_bipush (v := nI 10) hx hb dX6_machine_39 (by decide) ?_
        refine lv_aload_n hx hb dX6_machine_41 rfl (lv_at hl 0 rfl) ?_
        refine z_get (D := (dC, dI)) (ci := 6) (v := .ref y1) (C := RX6) (T := TX6) (N := 23) hx hb hts uX6 hown hK hP 0 rfl rfl 14 (by decide) w37 rfl rfl dX6_machine_42 ?_
        refine lv_iload_n hx hb dX6_machine_45 rfl (lv_at hl 1 rfl) ?_
        refine z_c0 (v := nI z.toNat) (z_ZtoN (by first | assumption | omega)) ?_
        refine z_iald (v := (nI (BR z.toNat))) hx hb hK hP 1 0 rfl rfl z.toNat rfl (by omega) rfl dX6_machine_46 ?_
        refine z_imul (v := (nI (10 * (BR z.toNat)))) hx hb dX6_machine_47 (pk_mul _ _) ?_
        refine lv_aload_n hx hb dX6_machine_48 rfl (lv_at hl 0 rfl) ?_
        refine z_get (D := (dC, dI)) (ci := 6) (v := .ref y2) (C := RX6) (T := TX6) (N := 23) hx hb hts uX6 hown hK hP 0 rfl rfl 15 (by decide) w40 rfl rfl dX6_machine_49 ?_
        refine lv_iload_n hx hb dX6_machine_52 rfl (lv_at hl 1 rfl) ?_
        refine z_c0 (v := nI z.toNat) (z_ZtoN (by first | assumption | omega)) ?_
        refine z_iald (v := (nI (RP z.toNat))) hx hb hK hP 2 0 rfl rfl z.toNat rfl (by omega) rfl dX6_machine_53 ?_
        refine z_iadd (v := (nI ((10 * (BR z.toNat)) + (RP z.toNat)))) hx hb dX6_machine_54 (nI_add _ _) ?_
        refine lv_istore (lv' := [(4, .int (nI ((10 * (BR z.toNat)) + (RP z.toNat)))), (0, .ref m0), (1, .int (iI z)), (2, .int (iI b)), (3, .int (iI rr))]) hx hb dX6_machine_55 hl (by decide) rfl (fun ls hl => ?_)
        refine lv_aload_n hx hb dX6_machine_57 rfl (lv_at hl 1 rfl) ?_
        refine z_get (D := (dC, dI)) (ci := 6) (v := .ref y1) (C := RX6) (T := TX6) (N := 23) hx hb hts uX6 hown hK hP 0 rfl rfl 14 (by decide) w37 rfl rfl dX6_machine_58 ?_
        refine lv_iload_n hx hb dX6_machine_61 rfl (lv_at hl 2 rfl) ?_
        refine lv_iload_n hx hb dX6_machine_62 rfl (lv_at hl 3 rfl) ?_
        refine z_c0 (v := nI b.toNat) (z_ZtoN (by first | assumption | omega)) ?_
        refine z_c1 (v := nI z.toNat) (z_ZtoN (by first | assumption | omega)) ?_
        refine z_iast hx hb hK hP hD hS 1 0 rfl rfl z.toNat rfl (by omega) (upd_N BR z.toNat b.toNat) [(m0, .inr (6, [.int (nI N), .ref x1, .int (nI K), .ref x2, .ref x3, .ref x4, .int (nI lo), .ref x5, .ref x6, .ref x7, .ref x8, .int (nI ns), .int (nI nd), .ref x9, .ref y1, .ref y2, .int (nI rm), .ref y3, .ref y4, .ref y5, .ref y6, .ref y7, .int (nI pls)])), (y1, .inl (cI, 2, .inl (fun z_ => nI ((up BR z.toNat b.toNat) z_)))), (y2, .inl (cI, 2, .inl (fun z_ => nI (RP z_))))] rfl dX6_machine_63 (fun H locs hP hD hS => ?_)
        refine lv_aload_n hx hb dX6_machine_64 rfl (lv_at hl 1 rfl) ?_
        refine z_get (D := (dC, dI)) (ci := 6) (v := .ref y2) (C := RX6) (T := TX6) (N := 23) hx hb hts uX6 hown hK hP 0 rfl rfl 15 (by decide) w40 rfl rfl dX6_machine_65 ?_
        refine lv_iload_n hx hb dX6_machine_68 rfl (lv_at hl 2 rfl) ?_
        refine lv_iload_n hx hb dX6_machine_69 rfl (lv_at hl 4 rfl) ?_
        refine z_c0 (v := nI rr.toNat) (z_ZtoN (by first | assumption | omega)) ?_
        refine z_c1 (v := nI z.toNat) (z_ZtoN (by first | assumption | omega)) ?_
        refine z_iast hx hb hK hP hD hS 2 0 rfl rfl z.toNat rfl (by omega) (upd_N RP z.toNat rr.toNat) [(m0, .inr (6, [.int (nI N), .ref x1, .int (nI K), .ref x2, .ref x3, .ref x4, .int (nI lo), .ref x5, .ref x6, .ref x7, .ref x8, .int (nI ns), .int (nI nd), .ref x9, .ref y1, .ref y2, .int (nI rm), .ref y3, .ref y4, .ref y5, .ref y6, .ref y7, .int (nI pls)])), (y1, .inl (cI, 2, .inl (fun z_ => nI ((up BR z.toNat b.toNat) z_)))), (y2, .inl (cI, 2, .inl (fun z_ => nI ((up RP z.toNat rr.toNat) z_))))] rfl dX6_machine_70 (fun H locs hP hD hS => ?_)
        refine lv_iload hx hb dX6_machine_71 (lv_at hl 0 rfl) ?_
        refine z_c0 (v := iI (((10 * (BR z.toNat)) + (RP z.toNat) : Nat) : Int)) (iI_N _) ?_
        have q_0 : (((10 * (BR z.toNat)) + (RP z.toNat) : Nat) : Int) = if 0 ≤ z ∧ z ≤ 1 then (if (0 ≤ b ∧ b ≤ 4) ∧ (0 ≤ rr ∧ rr ≤ 4) then ((10 * BR z.toNat + RP z.toNat : Nat) : Int) else -2) else -1 := by (repeat (first | rw [if_pos (by omega)] | rw [if_neg (by omega)])); try omega
        have q_1 : (up BR z.toNat b.toNat) = if ((0 ≤ z ∧ z ≤ 1) ∧ ((0 ≤ b ∧ b ≤ 4) ∧ (0 ≤ rr ∧ rr ≤ 4))) then up BR z.toNat b.toNat else BR := by (repeat (first | rw [if_pos (by omega)] | rw [if_neg (by omega)])); try omega
        have q_2 : (up RP z.toNat rr.toNat) = if ((0 ≤ z ∧ z ≤ 1) ∧ ((0 ≤ b ∧ b ≤ 4) ∧ (0 ≤ rr ∧ rr ≤ 4))) then up RP z.toNat rr.toNat else RP := by (repeat (first | rw [if_pos (by omega)] | rw [if_neg (by omega)])); try omega
        exact hRET _ ls H locs ((iI (((10 * (BR z.toNat)) + (RP z.toNat) : Nat) : Int))) ((((10 * (BR z.toNat)) + (RP z.toNat) : Nat) : Int), up BR z.toNat b.toNat, up RP z.toNat rr.toNat) dX6_machine_73 ⟨rfl, q_0, q_1, q_2⟩ hP hD hS
      · skip
        subst h30
        refine lv_if_ne (tgt := 39) hx hb dX6_machine_33 (by decide) (fun c_x => absurd c_x (by decide)) (fun _ => ?_)
        refine lv_bipush (v := iI (-2)) hx hb dX6_machine_36 (by decide) ?_
        have q_0 : (-2 : Int) = if 0 ≤ z ∧ z ≤ 1 then (if (0 ≤ b ∧ b ≤ 4) ∧ (0 ≤ rr ∧ rr ≤ 4) then ((10 * BR z.toNat + RP z.toNat : Nat) : Int) else -2) else -1 := by (repeat (first | rw [if_pos (by omega)] | rw [if_neg (by omega)])); try omega
        have q_1 : BR = if ((0 ≤ z ∧ z ≤ 1) ∧ ((0 ≤ b ∧ b ≤ 4) ∧ (0 ≤ rr ∧ rr ≤ 4))) then up BR z.toNat b.toNat else BR := by (repeat (first | rw [if_pos (by omega)] | rw [if_neg (by omega)])); try omega
        have q_2 : RP = if ((0 ≤ z ∧ z ≤ 1) ∧ ((0 ≤ b ∧ b ≤ 4) ∧ (0 ≤ rr ∧ rr ≤ 4))) then up RP z.toNat rr.toNat else RP := by (repeat (first | rw [if_pos (by omega)] | rw [if_neg (by omega)])); try omega
        exact hRET _ ls H locs ((iI (-2))) ((-2 : Int), BR, RP) dX6_machine_38 ⟨rfl, q_0, q_1, q_2⟩ hP hD hS
    · skip
      subst h18
      refine lv_if_eq (tgt := 36) hx hb dX6_machine_21 (by decide) (fun _ => ?_) (fun c_x => absurd c_x (by decide))
      refine lv_bipush (v := iI (-2)) hx hb dX6_machine_36 (by decide) ?_
      have q_0 : (-2 : Int) = if 0 ≤ z ∧ z ≤ 1 then (if (0 ≤ b ∧ b ≤ 4) ∧ (0 ≤ rr ∧ rr ≤ 4) then ((10 * BR z.toNat + RP z.toNat : Nat) : Int) else -2) else -1 := by (repeat (first | rw [if_pos (by omega)] | rw [if_neg (by omega)])); try omega
      have q_1 : BR = if ((0 ≤ z ∧ z ≤ 1) ∧ ((0 ≤ b ∧ b ≤ 4) ∧ (0 ≤ rr ∧ rr ≤ 4))) then up BR z.toNat b.toNat else BR := by (repeat (first | rw [if_pos (by omega)] | rw [if_neg (by omega)])); try omega
      have q_2 : RP = if ((0 ≤ z ∧ z ≤ 1) ∧ ((0 ≤ b ∧ b ≤ 4) ∧ (0 ≤ rr ∧ rr ≤ 4))) then up RP z.toNat rr.toNat else RP := by (repeat (first | rw [if_pos (by omega)] | rw [if_neg (by omega)])); try omega
      exact hRET _ ls H locs ((iI (-2))) ((-2 : Int), BR, RP) dX6_machine_38 ⟨rfl, q_0, q_1, q_2⟩ hP hD hS
  · skip
    subst h4
    refine lv_if_ne (tgt := 12) hx hb dX6_machine_7 (by decide) (fun c_x => absurd c_x (by decide)) (fun _ => ?_)
    refine lv_iconst (v := iI (-1)) hx hb dX6_machine_10 (by decide) ?_
    have q_0 : (-1 : Int) = if 0 ≤ z ∧ z ≤ 1 then (if (0 ≤ b ∧ b ≤ 4) ∧ (0 ≤ rr ∧ rr ≤ 4) then ((10 * BR z.toNat + RP z.toNat : Nat) : Int) else -2) else -1 := by (repeat (first | rw [if_pos (by omega)] | rw [if_neg (by omega)])); try omega
    have q_1 : BR = if ((0 ≤ z ∧ z ≤ 1) ∧ ((0 ≤ b ∧ b ≤ 4) ∧ (0 ≤ rr ∧ rr ≤ 4))) then up BR z.toNat b.toNat else BR := by (repeat (first | rw [if_pos (by omega)] | rw [if_neg (by omega)])); try omega
    have q_2 : RP = if ((0 ≤ z ∧ z ≤ 1) ∧ ((0 ≤ b ∧ b ≤ 4) ∧ (0 ≤ rr ∧ rr ≤ 4))) then up RP z.toNat rr.toNat else RP := by (repeat (first | rw [if_pos (by omega)] | rw [if_neg (by omega)])); try omega
    exact hRET _ ls H locs ((iI (-1))) ((-1 : Int), BR, RP) dX6_machine_11 ⟨rfl, q_0, q_1, q_2⟩ hP hD hS

set_option maxHeartbeats 4000000 in
set_option maxRecDepth 100000 in
theorem c_X6_store (l : Launch) (dC : Nat → ClassId) (dI : Nat → Nat → Nat) (cI cJ : ClassId) (sz : Nat) (m0 : Nat) (x1 : Nat) (x2 : Nat) (x3 : Nat) (x4 : Nat) (x5 : Nat) (x6 : Nat) (x7 : Nat) (x8 : Nat) (x9 : Nat) (y1 : Nat) (y2 : Nat) (y3 : Nat) (y4 : Nat) (y5 : Nat) (y6 : Nat) (y7 : Nat) (N : Nat) (K : Nat) (lo : Nat) (ns : Nat) (nd : Nat) (rm : Nat) (pls : Nat) (b : Int) (bb : -2147483648 ≤ b ∧ b < 2147483648) : Met l yX6_store wsX6_store (zR 1 0 0 25) (va_Pc [.ref m0, .int (iI b)] (zP (dC, dI) [(cI, .int), (cJ, .long)] [(m0, .inr (6, [.int (nI N), .ref x1, .int (nI K), .ref x2, .ref x3, .ref x4, .int (nI lo), .ref x5, .ref x6, .ref x7, .ref x8, .int (nI ns), .int (nI nd), .ref x9, .ref y1, .ref y2, .int (nI rm), .ref y3, .ref y4, .ref y5, .ref y6, .ref y7, .int (nI pls)]))] sz nwA)) (va_Qi (fun (r : Int32) (u : (Int) × (Nat)) => r = (iI u.1) ∧ (u.1 = if 0 ≤ b ∧ b ≤ 6 then (rm : Int) else -2) ∧ (u.2 = if 0 ≤ b ∧ b ≤ 6 then b.toNat else rm)) (zB (dC, dI) (fun (u : (Int) × (Nat)) => [(m0, .inr (6, [.int (nI N), .ref x1, .int (nI K), .ref x2, .ref x3, .ref x4, .int (nI lo), .ref x5, .ref x6, .ref x7, .ref x8, .int (nI ns), .int (nI nd), .ref x9, .ref y1, .ref y2, .int (nI u.2), .ref y3, .ref y4, .ref y5, .ref y6, .ref y7, .int (nI pls)]))]) (va_A [(m0, .inr (6, [.int (nI N), .ref x1, .int (nI K), .ref x2, .ref x3, .ref x4, .int (nI lo), .ref x5, .ref x6, .ref x7, .ref x8, .int (nI ns), .int (nI nd), .ref x9, .ref y1, .ref y2, .int (nI rm), .ref y3, .ref y4, .ref y5, .ref y6, .ref y7, .int (nI pls)]))] sz)) (va_A [(m0, .inr (6, [.int (nI N), .ref x1, .int (nI K), .ref x2, .ref x3, .ref x4, .int (nI lo), .ref x5, .ref x6, .ref x7, .ref x8, .int (nI ns), .int (nI nd), .ref x9, .ref y1, .ref y2, .int (nI rm), .ref y3, .ref y4, .ref y5, .ref y6, .ref y7, .int (nI pls)]))] sz)) 0 0 (va_A [(m0, .inr (6, [.int (nI N), .ref x1, .int (nI K), .ref x2, .ref x3, .ref x4, .int (nI lo), .ref x5, .ref x6, .ref x7, .ref x8, .int (nI ns), .int (nI nd), .ref x9, .ref y1, .ref y2, .int (nI rm), .ref y3, .ref y4, .ref y5, .ref y6, .ref y7, .int (nI pls)]))] sz) := by
  refine z_met_i (cc := cX6_store) (maxL := 3) (by decide) rfl (Nat.le_of_ble_eq_true rfl) ?_
  intro p e s m args below meth c Q A ls hx hb hml hown hts hin hA hK hP hD hN hl hRET
  have hown : s.vm.findClass RX6 = some m.cls := hown
  obtain ⟨H, eH⟩ : ∃ H : Heap, H = s.heap := ⟨_, rfl⟩
  rw [← eH] at hP
  obtain ⟨locs, eL⟩ : ∃ z : List Loc, z = [] := ⟨_, rfl⟩
  rw [← eH, ← eL]
  have hS : va_S A s.heap H locs := by rw [eH, eL]; exact va_S.rf
  have hl : lv_has ls 3 [(0, .ref m0), (1, .int (iI b))] := hl
  have w151 := hts (.fieldLink RX6 151 "PullCardsModel" "room" "I") (by decide +kernel)
  have uX6 : ∀ w ∈ wsX60, w ∈ wsX6_store := by decide +kernel
  refine lv_iload_n hx hb dX6_store_0 rfl (lv_at hl 1 rfl) ?_
  refine lv_i2l (v := (lI b)) hx hb dX6_store_1 (zl_i2l rfl (by omega)) ?_
  refine lv_lconst (v := lN 0) hx hb dX6_store_2 (by decide) ?_
  refine lv_ldc2 (v := (6 : Int64)) hx hb hown (hts (.constantLong RX6 149 (6)) (by decide +kernel)) dX6_store_3 ?_
  refine z_l0 (v := (lN 6)) (by decide) ?_
  refine z_l0 (v := lI 6) (by decide) ?_
  refine z_l1 (v := lI 0) (by decide) ?_
  refine z_callSi (As := [.long (lI b), .long (lI 0), .long (lI 6)]) (rest := []) (wr := [(m0, .inr (6, [.int (nI N), .ref x1, .int (nI K), .ref x2, .ref x3, .ref x4, .int (nI lo), .ref x5, .ref x6, .ref x7, .ref x8, .int (nI ns), .int (nI nd), .ref x9, .ref y1, .ref y2, .int (nI rm), .ref y3, .ref y4, .ref y5, .ref y6, .ref y7, .int (nI pls)]))]) ⟨hx, hb, hml, hown, hts⟩ (c_X6_in l dC dI cI cJ H.size b (0 : Int) (6 : Int) (by first | assumption | omega) (by first | assumption | omega) (by first | assumption | omega)) (va_cwS 3 hts gX6_store_X6_in rfl rfl rfl (by decide +kernel) ⟨Nat.le_of_ble_eq_true rfl, Nat.le_of_ble_eq_true rfl⟩) hA hK hP hD hS [] [0] [0] rfl rfl (by decide) (by decide) (by decide) nwA_ok hN hl.1 (Nat.le_of_ble_eq_true rfl) ⟨Nat.le_refl _, Nat.le_refl _⟩ rfl rfl dX6_store_6 (fun (u : (Nat)) => [(m0, .inr (6, [.int (nI N), .ref x1, .int (nI K), .ref x2, .ref x3, .ref x4, .int (nI lo), .ref x5, .ref x6, .ref x7, .ref x8, .int (nI ns), .int (nI nd), .ref x9, .ref y1, .ref y2, .int (nI rm), .ref y3, .ref y4, .ref y5, .ref y6, .ref y7, .int (nI pls)]))]) (fun u => rfl) (by decide) (fun r_6 u H locs hw hP hD hS => ?_)
  obtain ⟨rv_6, eu⟩ : ∃ z, z = u := ⟨_, rfl⟩
  subst eu
  have hP : va_P (dC, dI) vwCl [(m0, .inr (6, [.int (nI N), .ref x1, .int (nI K), .ref x2, .ref x3, .ref x4, .int (nI lo), .ref x5, .ref x6, .ref x7, .ref x8, .int (nI ns), .int (nI nd), .ref x9, .ref y1, .ref y2, .int (nI rm), .ref y3, .ref y4, .ref y5, .ref y6, .ref y7, .int (nI pls)]))] H := hP
  have hD : va_D A [(m0, .inr (6, [.int (nI N), .ref x1, .int (nI K), .ref x2, .ref x3, .ref x4, .int (nI lo), .ref x5, .ref x6, .ref x7, .ref x8, .int (nI ns), .int (nI nd), .ref x9, .ref y1, .ref y2, .int (nI rm), .ref y3, .ref y4, .ref y5, .ref y6, .ref y7, .int (nI pls)]))] := hD
  obtain ⟨er, p6_0⟩ := hw
  have p6_0 : (rv_6 = 1 ∧ ((0 : Int) ≤ b ∧ b ≤ (6 : Int))) ∨ (rv_6 = 0 ∧ ¬ ((0 : Int) ≤ b ∧ b ≤ (6 : Int))) := p6_0
  have er : r_6 = (nI rv_6) := er
  subst er
  rcases p6_0 with ⟨h6, c_6⟩ | ⟨h6, c_6⟩
  · skip
    subst h6
    refine lv_if_ne (tgt := 15) hx hb dX6_store_9 (by decide) (fun _ => ?_) (fun c_x => absurd c_x (by decide))
    refine lv_aload_n hx hb dX6_store_15 rfl (lv_at hl 0 rfl) ?_
    refine z_get (D := (dC, dI)) (ci := 6) (v := .int (nI rm)) (C := RX6) (T := TX6) (N := 23) hx hb hts uX6 hown hK hP 0 rfl rfl 16 (by decide) w151 rfl rfl dX6_store_16 ?_
    refine lv_istore_n (lv' := [(2, .int (nI rm)), (0, .ref m0), (1, .int (iI b))]) hx hb dX6_store_19 rfl hl (by decide) rfl (fun ls hl => ?_)
    refine lv_aload_n hx hb dX6_store_20 rfl (lv_at hl 1 rfl) ?_
    refine lv_iload_n hx hb dX6_store_21 rfl (lv_at hl 2 rfl) ?_
    refine z_c0 (v := nI b.toNat) (z_ZtoN (by first | assumption | omega)) ?_
    refine z_put (D := (dC, dI)) (ci := 6) (v := .int (nI b.toNat)) (C := RX6) (T := TX6) (N := 23) hx hb hts uX6 tyX6 tyX6_ok nmX6 hown hK hP hD hS 0 rfl rfl 16 (by decide) w151 rfl rfl rfl rfl (Nat.le_of_ble_eq_true rfl) [(m0, .inr (6, [.int (nI N), .ref x1, .int (nI K), .ref x2, .ref x3, .ref x4, .int (nI lo), .ref x5, .ref x6, .ref x7, .ref x8, .int (nI ns), .int (nI nd), .ref x9, .ref y1, .ref y2, .int (nI b.toNat), .ref y3, .ref y4, .ref y5, .ref y6, .ref y7, .int (nI pls)]))] rfl dX6_store_22 (fun H locs hP hD hS => ?_)
    refine lv_iload_n hx hb dX6_store_25 rfl (lv_at hl 0 rfl) ?_
    refine z_c0 (v := iI ((rm : Nat) : Int)) (iI_N _) ?_
    have q_0 : ((rm : Nat) : Int) = if 0 ≤ b ∧ b ≤ 6 then (rm : Int) else -2 := by (repeat (first | rw [if_pos (by omega)] | rw [if_neg (by omega)])); try omega
    have q_1 : b.toNat = if 0 ≤ b ∧ b ≤ 6 then b.toNat else rm := by (repeat (first | rw [if_pos (by omega)] | rw [if_neg (by omega)])); try omega
    exact hRET _ ls H locs ((iI ((rm : Nat) : Int))) (((rm : Nat) : Int), b.toNat) dX6_store_26 ⟨rfl, q_0, q_1⟩ hP hD hS
  · skip
    subst h6
    refine lv_if_ne (tgt := 15) hx hb dX6_store_9 (by decide) (fun c_x => absurd c_x (by decide)) (fun _ => ?_)
    refine lv_bipush (v := iI (-2)) hx hb dX6_store_12 (by decide) ?_
    have q_0 : (-2 : Int) = if 0 ≤ b ∧ b ≤ 6 then (rm : Int) else -2 := by (repeat (first | rw [if_pos (by omega)] | rw [if_neg (by omega)])); try omega
    have q_1 : rm = if 0 ≤ b ∧ b ≤ 6 then b.toNat else rm := by (repeat (first | rw [if_pos (by omega)] | rw [if_neg (by omega)])); try omega
    exact hRET _ ls H locs ((iI (-2))) ((-2 : Int), rm) dX6_store_14 ⟨rfl, q_0, q_1⟩ hP hD hS

set_option maxHeartbeats 4000000 in
set_option maxRecDepth 100000 in
theorem c_X6_demand (l : Launch) (dC : Nat → ClassId) (dI : Nat → Nat → Nat) (cI cJ : ClassId) (sz : Nat) (m0 : Nat) (x1 : Nat) (x2 : Nat) (x3 : Nat) (x4 : Nat) (x5 : Nat) (x6 : Nat) (x7 : Nat) (x8 : Nat) (x9 : Nat) (y1 : Nat) (y2 : Nat) (y3 : Nat) (y4 : Nat) (y5 : Nat) (y6 : Nat) (y7 : Nat) (N : Nat) (K : Nat) (lo : Nat) (ns : Nat) (nd : Nat) (rm : Nat) (pls : Nat) (DM : Nat → Nat) (z : Int) (n : Int) (bz : -2147483648 ≤ z ∧ z < 2147483648) (bn : -2147483648 ≤ n ∧ n < 2147483648) : Met l yX6_demand wsX6_demand (zR 1 0 0 25) (va_Pc [.ref m0, .int (iI z), .int (iI n)] (zP (dC, dI) [(cI, .int), (cJ, .long)] [(m0, .inr (6, [.int (nI N), .ref x1, .int (nI K), .ref x2, .ref x3, .ref x4, .int (nI lo), .ref x5, .ref x6, .ref x7, .ref x8, .int (nI ns), .int (nI nd), .ref x9, .ref y1, .ref y2, .int (nI rm), .ref y3, .ref y4, .ref y5, .ref y6, .ref y7, .int (nI pls)])), (y5, .inl (cI, 6, .inl (fun z_ => nI (DM z_))))] sz nwA)) (va_Qi (fun (r : Int32) (u : (Int) × (Nat → Nat)) => r = (iI u.1) ∧ (u.1 = if 0 ≤ z ∧ z ≤ 5 then (if 0 ≤ n ∧ n ≤ 20 then (DM z.toNat : Int) else -2) else -1) ∧ (u.2 = if ((0 ≤ z ∧ z ≤ 5) ∧ (0 ≤ n ∧ n ≤ 20)) then up DM z.toNat n.toNat else DM)) (zB (dC, dI) (fun (u : (Int) × (Nat → Nat)) => [(m0, .inr (6, [.int (nI N), .ref x1, .int (nI K), .ref x2, .ref x3, .ref x4, .int (nI lo), .ref x5, .ref x6, .ref x7, .ref x8, .int (nI ns), .int (nI nd), .ref x9, .ref y1, .ref y2, .int (nI rm), .ref y3, .ref y4, .ref y5, .ref y6, .ref y7, .int (nI pls)])), (y5, .inl (cI, 6, .inl (fun z_ => nI (u.2 z_))))]) (va_A [(m0, .inr (6, [.int (nI N), .ref x1, .int (nI K), .ref x2, .ref x3, .ref x4, .int (nI lo), .ref x5, .ref x6, .ref x7, .ref x8, .int (nI ns), .int (nI nd), .ref x9, .ref y1, .ref y2, .int (nI rm), .ref y3, .ref y4, .ref y5, .ref y6, .ref y7, .int (nI pls)])), (y5, .inl (cI, 6, .inl (fun z_ => nI (DM z_))))] sz)) (va_A [(m0, .inr (6, [.int (nI N), .ref x1, .int (nI K), .ref x2, .ref x3, .ref x4, .int (nI lo), .ref x5, .ref x6, .ref x7, .ref x8, .int (nI ns), .int (nI nd), .ref x9, .ref y1, .ref y2, .int (nI rm), .ref y3, .ref y4, .ref y5, .ref y6, .ref y7, .int (nI pls)])), (y5, .inl (cI, 6, .inl (fun z_ => nI (DM z_))))] sz)) 0 0 (va_A [(m0, .inr (6, [.int (nI N), .ref x1, .int (nI K), .ref x2, .ref x3, .ref x4, .int (nI lo), .ref x5, .ref x6, .ref x7, .ref x8, .int (nI ns), .int (nI nd), .ref x9, .ref y1, .ref y2, .int (nI rm), .ref y3, .ref y4, .ref y5, .ref y6, .ref y7, .int (nI pls)])), (y5, .inl (cI, 6, .inl (fun z_ => nI (DM z_))))] sz) := by
  refine z_met_i (cc := cX6_demand) (maxL := 4) (by decide) rfl (Nat.le_of_ble_eq_true rfl) ?_
  intro p e s m args below meth c Q A ls hx hb hml hown hts hin hA hK hP hD hN hl hRET
  have hown : s.vm.findClass RX6 = some m.cls := hown
  obtain ⟨H, eH⟩ : ∃ H : Heap, H = s.heap := ⟨_, rfl⟩
  rw [← eH] at hP
  obtain ⟨locs, eL⟩ : ∃ z : List Loc, z = [] := ⟨_, rfl⟩
  rw [← eH, ← eL]
  have hS : va_S A s.heap H locs := by rw [eH, eL]; exact va_S.rf
  have hl : lv_has ls 4 [(0, .ref m0), (1, .int (iI z)), (2, .int (iI n))] := hl
  have w50 := hts (.fieldLink RX6 50 "PullCardsModel" "demand" "[I") (by decide +kernel)
  have uX6 : ∀ w ∈ wsX60, w ∈ wsX6_demand := by decide +kernel
  refine lv_iload_n hx hb dX6_demand_0 rfl (lv_at hl 1 rfl) ?_
  refine lv_i2l (v := (lI z)) hx hb dX6_demand_1 (zl_i2l rfl (by omega)) ?_
  refine lv_lconst (v := lN 0) hx hb dX6_demand_2 (by decide) ?_
  refine lv_ldc2 (v := (5 : Int64)) hx hb hown (hts (.constantLong RX6 177 (5)) (by decide +kernel)) dX6_demand_3 ?_
  refine z_l0 (v := (lN 5)) (by decide) ?_
  refine z_l0 (v := lI 5) (by decide) ?_
  refine z_l1 (v := lI 0) (by decide) ?_
  refine z_callSi (As := [.long (lI z), .long (lI 0), .long (lI 5)]) (rest := []) (wr := [(m0, .inr (6, [.int (nI N), .ref x1, .int (nI K), .ref x2, .ref x3, .ref x4, .int (nI lo), .ref x5, .ref x6, .ref x7, .ref x8, .int (nI ns), .int (nI nd), .ref x9, .ref y1, .ref y2, .int (nI rm), .ref y3, .ref y4, .ref y5, .ref y6, .ref y7, .int (nI pls)])), (y5, .inl (cI, 6, .inl (fun z_ => nI (DM z_))))]) ⟨hx, hb, hml, hown, hts⟩ (c_X6_in l dC dI cI cJ H.size z (0 : Int) (5 : Int) (by first | assumption | omega) (by first | assumption | omega) (by first | assumption | omega)) (va_cwS 3 hts gX6_demand_X6_in rfl rfl rfl (by decide +kernel) ⟨Nat.le_of_ble_eq_true rfl, Nat.le_of_ble_eq_true rfl⟩) hA hK hP hD hS [] [0, 1] [0, 1] rfl rfl (by decide) (by decide) (by decide) nwA_ok hN hl.1 (Nat.le_of_ble_eq_true rfl) ⟨Nat.le_refl _, Nat.le_refl _⟩ rfl rfl dX6_demand_6 (fun (u : (Nat)) => [(m0, .inr (6, [.int (nI N), .ref x1, .int (nI K), .ref x2, .ref x3, .ref x4, .int (nI lo), .ref x5, .ref x6, .ref x7, .ref x8, .int (nI ns), .int (nI nd), .ref x9, .ref y1, .ref y2, .int (nI rm), .ref y3, .ref y4, .ref y5, .ref y6, .ref y7, .int (nI pls)])), (y5, .inl (cI, 6, .inl (fun z_ => nI (DM z_))))]) (fun u => rfl) (by decide) (fun r_6 u H locs hw hP hD hS => ?_)
  obtain ⟨rv_6, eu⟩ : ∃ z, z = u := ⟨_, rfl⟩
  subst eu
  have hP : va_P (dC, dI) vwCl [(m0, .inr (6, [.int (nI N), .ref x1, .int (nI K), .ref x2, .ref x3, .ref x4, .int (nI lo), .ref x5, .ref x6, .ref x7, .ref x8, .int (nI ns), .int (nI nd), .ref x9, .ref y1, .ref y2, .int (nI rm), .ref y3, .ref y4, .ref y5, .ref y6, .ref y7, .int (nI pls)])), (y5, .inl (cI, 6, .inl (fun z_ => nI (DM z_))))] H := hP
  have hD : va_D A [(m0, .inr (6, [.int (nI N), .ref x1, .int (nI K), .ref x2, .ref x3, .ref x4, .int (nI lo), .ref x5, .ref x6, .ref x7, .ref x8, .int (nI ns), .int (nI nd), .ref x9, .ref y1, .ref y2, .int (nI rm), .ref y3, .ref y4, .ref y5, .ref y6, .ref y7, .int (nI pls)])), (y5, .inl (cI, 6, .inl (fun z_ => nI (DM z_))))] := hD
  obtain ⟨er, p6_0⟩ := hw
  have p6_0 : (rv_6 = 1 ∧ ((0 : Int) ≤ z ∧ z ≤ (5 : Int))) ∨ (rv_6 = 0 ∧ ¬ ((0 : Int) ≤ z ∧ z ≤ (5 : Int))) := p6_0
  have er : r_6 = (nI rv_6) := er
  subst er
  rcases p6_0 with ⟨h6, c_6⟩ | ⟨h6, c_6⟩
  · skip
    subst h6
    refine lv_if_ne (tgt := 14) hx hb dX6_demand_9 (by decide) (fun _ => ?_) (fun c_x => absurd c_x (by decide))
    refine lv_iload_n hx hb dX6_demand_14 rfl (lv_at hl 2 rfl) ?_
    refine lv_i2l (v := (lI n)) hx hb dX6_demand_15 (zl_i2l rfl (by omega)) ?_
    refine lv_lconst (v := lN 0) hx hb dX6_demand_16 (by decide) ?_
    refine lv_ldc2 (v := (20 : Int64)) hx hb hown (hts (.constantLong RX6 70 (20)) (by decide +kernel)) dX6_demand_17 ?_
    refine z_l0 (v := (lN 20)) (by decide) ?_
    refine z_l0 (v := lI 20) (by decide) ?_
    refine z_l1 (v := lI 0) (by decide) ?_
    refine z_callSi (As := [.long (lI n), .long (lI 0), .long (lI 20)]) (rest := []) (wr := [(m0, .inr (6, [.int (nI N), .ref x1, .int (nI K), .ref x2, .ref x3, .ref x4, .int (nI lo), .ref x5, .ref x6, .ref x7, .ref x8, .int (nI ns), .int (nI nd), .ref x9, .ref y1, .ref y2, .int (nI rm), .ref y3, .ref y4, .ref y5, .ref y6, .ref y7, .int (nI pls)])), (y5, .inl (cI, 6, .inl (fun z_ => nI (DM z_))))]) ⟨hx, hb, hml, hown, hts⟩ (c_X6_in l dC dI cI cJ H.size n (0 : Int) (20 : Int) (by first | assumption | omega) (by first | assumption | omega) (by first | assumption | omega)) (va_cwS 3 hts gX6_demand_X6_in rfl rfl rfl (by decide +kernel) ⟨Nat.le_of_ble_eq_true rfl, Nat.le_of_ble_eq_true rfl⟩) hA hK hP hD hS [] [0, 1] [0, 1] rfl rfl (by decide) (by decide) (by decide) nwA_ok hN hl.1 (Nat.le_of_ble_eq_true rfl) ⟨Nat.le_refl _, Nat.le_refl _⟩ rfl rfl dX6_demand_20 (fun (u : (Nat)) => [(m0, .inr (6, [.int (nI N), .ref x1, .int (nI K), .ref x2, .ref x3, .ref x4, .int (nI lo), .ref x5, .ref x6, .ref x7, .ref x8, .int (nI ns), .int (nI nd), .ref x9, .ref y1, .ref y2, .int (nI rm), .ref y3, .ref y4, .ref y5, .ref y6, .ref y7, .int (nI pls)])), (y5, .inl (cI, 6, .inl (fun z_ => nI (DM z_))))]) (fun u => rfl) (by decide) (fun r_20 u H locs hw hP hD hS => ?_)
    obtain ⟨rv_20, eu⟩ : ∃ z, z = u := ⟨_, rfl⟩
    subst eu
    have hP : va_P (dC, dI) vwCl [(m0, .inr (6, [.int (nI N), .ref x1, .int (nI K), .ref x2, .ref x3, .ref x4, .int (nI lo), .ref x5, .ref x6, .ref x7, .ref x8, .int (nI ns), .int (nI nd), .ref x9, .ref y1, .ref y2, .int (nI rm), .ref y3, .ref y4, .ref y5, .ref y6, .ref y7, .int (nI pls)])), (y5, .inl (cI, 6, .inl (fun z_ => nI (DM z_))))] H := hP
    have hD : va_D A [(m0, .inr (6, [.int (nI N), .ref x1, .int (nI K), .ref x2, .ref x3, .ref x4, .int (nI lo), .ref x5, .ref x6, .ref x7, .ref x8, .int (nI ns), .int (nI nd), .ref x9, .ref y1, .ref y2, .int (nI rm), .ref y3, .ref y4, .ref y5, .ref y6, .ref y7, .int (nI pls)])), (y5, .inl (cI, 6, .inl (fun z_ => nI (DM z_))))] := hD
    obtain ⟨er, p20_0⟩ := hw
    have p20_0 : (rv_20 = 1 ∧ ((0 : Int) ≤ n ∧ n ≤ (20 : Int))) ∨ (rv_20 = 0 ∧ ¬ ((0 : Int) ≤ n ∧ n ≤ (20 : Int))) := p20_0
    have er : r_20 = (nI rv_20) := er
    subst er
    rcases p20_0 with ⟨h20, c_20⟩ | ⟨h20, c_20⟩
    · skip
      subst h20
      refine lv_if_ne (tgt := 29) hx hb dX6_demand_23 (by decide) (fun _ => ?_) (fun c_x => absurd c_x (by decide))
      refine lv_aload_n hx hb dX6_demand_29 rfl (lv_at hl 0 rfl) ?_
      refine z_get (D := (dC, dI)) (ci := 6) (v := .ref y5) (C := RX6) (T := TX6) (N := 23) hx hb hts uX6 hown hK hP 0 rfl rfl 19 (by decide) w50 rfl rfl dX6_demand_30 ?_
      refine lv_iload_n hx hb dX6_demand_33 rfl (lv_at hl 1 rfl) ?_
      refine z_c0 (v := nI z.toNat) (z_ZtoN (by first | assumption | omega)) ?_
      refine z_iald (v := (nI (DM z.toNat))) hx hb hK hP 1 0 rfl rfl z.toNat rfl (by omega) rfl dX6_demand_34 ?_
      refine lv_istore_n (lv' := [(3, .int (nI (DM z.toNat))), (0, .ref m0), (1, .int (iI z)), (2, .int (iI n))]) hx hb dX6_demand_35 rfl hl (by decide) rfl (fun ls hl => ?_)
      refine lv_aload_n hx hb dX6_demand_36 rfl (lv_at hl 1 rfl) ?_
      refine z_get (D := (dC, dI)) (ci := 6) (v := .ref y5) (C := RX6) (T := TX6) (N := 23) hx hb hts uX6 hown hK hP 0 rfl rfl 19 (by decide) w50 rfl rfl dX6_demand_37 ?_
      refine lv_iload_n hx hb dX6_demand_40 rfl (lv_at hl 2 rfl) ?_
      refine lv_iload_n hx hb dX6_demand_41 rfl (lv_at hl 3 rfl) ?_
      refine z_c0 (v := nI n.toNat) (z_ZtoN (by first | assumption | omega)) ?_
      refine z_c1 (v := nI z.toNat) (z_ZtoN (by first | assumption | omega)) ?_
      refine z_iast hx hb hK hP hD hS 1 0 rfl rfl z.toNat rfl (by omega) (upd_N DM z.toNat n.toNat) [(m0, .inr (6, [.int (nI N), .ref x1, .int (nI K), .ref x2, .ref x3, .ref x4, .int (nI lo), .ref x5, .ref x6, .ref x7, .ref x8, .int (nI ns), .int (nI nd), .ref x9, .ref y1, .ref y2, .int (nI rm), .ref y3, .ref y4, .ref y5, .ref y6, .ref y7, .int (nI pls)])), (y5, .inl (cI, 6, .inl (fun z_ => nI ((up DM z.toNat n.toNat) z_))))] rfl dX6_demand_42 (fun H locs hP hD hS => ?_)
      refine lv_iload_n hx hb dX6_demand_43 rfl (lv_at hl 0 rfl) ?_
      refine z_c0 (v := iI ((DM z.toNat : Nat) : Int)) (iI_N _) ?_
      have q_0 : ((DM z.toNat : Nat) : Int) = if 0 ≤ z ∧ z ≤ 5 then (if 0 ≤ n ∧ n ≤ 20 then (DM z.toNat : Int) else -2) else -1 := by (repeat (first | rw [if_pos (by omega)] | rw [if_neg (by omega)])); try omega
      have q_1 : (up DM z.toNat n.toNat) = if ((0 ≤ z ∧ z ≤ 5) ∧ (0 ≤ n ∧ n ≤ 20)) then up DM z.toNat n.toNat else DM := by (repeat (first | rw [if_pos (by omega)] | rw [if_neg (by omega)])); try omega
      exact hRET _ ls H locs ((iI ((DM z.toNat : Nat) : Int))) (((DM z.toNat : Nat) : Int), up DM z.toNat n.toNat) dX6_demand_44 ⟨rfl, q_0, q_1⟩ hP hD hS
    · skip
      subst h20
      refine lv_if_ne (tgt := 29) hx hb dX6_demand_23 (by decide) (fun c_x => absurd c_x (by decide)) (fun _ => ?_)
      refine lv_bipush (v := iI (-2)) hx hb dX6_demand_26 (by decide) ?_
      have q_0 : (-2 : Int) = if 0 ≤ z ∧ z ≤ 5 then (if 0 ≤ n ∧ n ≤ 20 then (DM z.toNat : Int) else -2) else -1 := by (repeat (first | rw [if_pos (by omega)] | rw [if_neg (by omega)])); try omega
      have q_1 : DM = if ((0 ≤ z ∧ z ≤ 5) ∧ (0 ≤ n ∧ n ≤ 20)) then up DM z.toNat n.toNat else DM := by (repeat (first | rw [if_pos (by omega)] | rw [if_neg (by omega)])); try omega
      exact hRET _ ls H locs ((iI (-2))) ((-2 : Int), DM) dX6_demand_28 ⟨rfl, q_0, q_1⟩ hP hD hS
  · skip
    subst h6
    refine lv_if_ne (tgt := 14) hx hb dX6_demand_9 (by decide) (fun c_x => absurd c_x (by decide)) (fun _ => ?_)
    refine lv_iconst (v := iI (-1)) hx hb dX6_demand_12 (by decide) ?_
    have q_0 : (-1 : Int) = if 0 ≤ z ∧ z ≤ 5 then (if 0 ≤ n ∧ n ≤ 20 then (DM z.toNat : Int) else -2) else -1 := by (repeat (first | rw [if_pos (by omega)] | rw [if_neg (by omega)])); try omega
    have q_1 : DM = if ((0 ≤ z ∧ z ≤ 5) ∧ (0 ≤ n ∧ n ≤ 20)) then up DM z.toNat n.toNat else DM := by (repeat (first | rw [if_pos (by omega)] | rw [if_neg (by omega)])); try omega
    exact hRET _ ls H locs ((iI (-1))) ((-1 : Int), DM) dX6_demand_13 ⟨rfl, q_0, q_1⟩ hP hD hS

set_option maxHeartbeats 4000000 in
set_option maxRecDepth 100000 in
theorem c_X6_lay (l : Launch) (dC : Nat → ClassId) (dI : Nat → Nat → Nat) (cI cJ : ClassId) (sz : Nat) (m0 : Nat) (x1 : Nat) (x2 : Nat) (x3 : Nat) (x4 : Nat) (x5 : Nat) (x6 : Nat) (x7 : Nat) (x8 : Nat) (x9 : Nat) (y1 : Nat) (y2 : Nat) (y3 : Nat) (y4 : Nat) (y5 : Nat) (y6 : Nat) (y7 : Nat) (N : Nat) (K : Nat) (lo : Nat) (ns : Nat) (nd : Nat) (rm : Nat) (pls : Nat) (DM : Nat → Nat) (CM : Nat → Nat) (RO : Nat → Nat) (bDM : ∀ k, DM k ≤ 20) : Met l yX6_lay wsX6_lay (zR 0 0 0 0) (va_Pc [.ref m0] (zP (dC, dI) [(cI, .int), (cJ, .long)] [(m0, .inr (6, [.int (nI N), .ref x1, .int (nI K), .ref x2, .ref x3, .ref x4, .int (nI lo), .ref x5, .ref x6, .ref x7, .ref x8, .int (nI ns), .int (nI nd), .ref x9, .ref y1, .ref y2, .int (nI rm), .ref y3, .ref y4, .ref y5, .ref y6, .ref y7, .int (nI pls)])), (y5, .inl (cI, 6, .inl (fun z_ => nI (DM z_)))), (y6, .inl (cI, 6, .inl (fun z_ => nI (CM z_)))), (y7, .inl (cI, 120, .inl (fun z_ => nI (RO z_))))] sz nwA)) (va_Qi (fun (r : Int32) (u : (Nat) × (Nat → Nat) × (Nat → Nat) × (Nat)) => r = (nI u.1) ∧ (u.1 = sp_rg DM (fb_sm DM 6) (fb_sm DM 6)) ∧ (u.2.2.2 = fb_sm DM 6) ∧ (∀ q, q < u.2.2.2 → u.2.2.1 q = sp_kd DM (fb_sm DM 6) q)) (zB (dC, dI) (fun (u : (Nat) × (Nat → Nat) × (Nat → Nat) × (Nat)) => [(m0, .inr (6, [.int (nI N), .ref x1, .int (nI K), .ref x2, .ref x3, .ref x4, .int (nI lo), .ref x5, .ref x6, .ref x7, .ref x8, .int (nI ns), .int (nI nd), .ref x9, .ref y1, .ref y2, .int (nI rm), .ref y3, .ref y4, .ref y5, .ref y6, .ref y7, .int (nI u.2.2.2)])), (y5, .inl (cI, 6, .inl (fun z_ => nI (DM z_)))), (y6, .inl (cI, 6, .inl (fun z_ => nI (u.2.1 z_)))), (y7, .inl (cI, 120, .inl (fun z_ => nI (u.2.2.1 z_))))]) (va_A [(m0, .inr (6, [.int (nI N), .ref x1, .int (nI K), .ref x2, .ref x3, .ref x4, .int (nI lo), .ref x5, .ref x6, .ref x7, .ref x8, .int (nI ns), .int (nI nd), .ref x9, .ref y1, .ref y2, .int (nI rm), .ref y3, .ref y4, .ref y5, .ref y6, .ref y7, .int (nI pls)])), (y5, .inl (cI, 6, .inl (fun z_ => nI (DM z_)))), (y6, .inl (cI, 6, .inl (fun z_ => nI (CM z_)))), (y7, .inl (cI, 120, .inl (fun z_ => nI (RO z_))))] sz)) (va_A [(m0, .inr (6, [.int (nI N), .ref x1, .int (nI K), .ref x2, .ref x3, .ref x4, .int (nI lo), .ref x5, .ref x6, .ref x7, .ref x8, .int (nI ns), .int (nI nd), .ref x9, .ref y1, .ref y2, .int (nI rm), .ref y3, .ref y4, .ref y5, .ref y6, .ref y7, .int (nI pls)])), (y5, .inl (cI, 6, .inl (fun z_ => nI (DM z_)))), (y6, .inl (cI, 6, .inl (fun z_ => nI (CM z_)))), (y7, .inl (cI, 120, .inl (fun z_ => nI (RO z_))))] sz)) 0 0 (va_A [(m0, .inr (6, [.int (nI N), .ref x1, .int (nI K), .ref x2, .ref x3, .ref x4, .int (nI lo), .ref x5, .ref x6, .ref x7, .ref x8, .int (nI ns), .int (nI nd), .ref x9, .ref y1, .ref y2, .int (nI rm), .ref y3, .ref y4, .ref y5, .ref y6, .ref y7, .int (nI pls)])), (y5, .inl (cI, 6, .inl (fun z_ => nI (DM z_)))), (y6, .inl (cI, 6, .inl (fun z_ => nI (CM z_)))), (y7, .inl (cI, 120, .inl (fun z_ => nI (RO z_))))] sz) := by
  refine z_met_i (cc := cX6_lay) (maxL := 6) (by decide) rfl (Nat.le_of_ble_eq_true rfl) ?_
  intro p e s m args below meth c Q A ls hx hb hml hown hts hin hA hK hP hD hN hl hRET
  have hown : s.vm.findClass RX6 = some m.cls := hown
  obtain ⟨H, eH⟩ : ∃ H : Heap, H = s.heap := ⟨_, rfl⟩
  rw [← eH] at hP
  obtain ⟨locs, eL⟩ : ∃ z : List Loc, z = [] := ⟨_, rfl⟩
  rw [← eH, ← eL]
  have hS : va_S A s.heap H locs := by rw [eH, eL]; exact va_S.rf
  have hl : lv_has ls 6 [(0, .ref m0)] := hl
  have w179 := hts (.fieldLink RX6 179 "PullCardsModel" "places" "I") (by decide +kernel)
  have uX6 : ∀ w ∈ wsX60, w ∈ wsX6_lay := by decide +kernel
  have w50 := hts (.fieldLink RX6 50 "PullCardsModel" "demand" "[I") (by decide +kernel)
  have w53 := hts (.fieldLink RX6 53 "PullCardsModel" "came" "[I") (by decide +kernel)
  have w56 := hts (.fieldLink RX6 56 "PullCardsModel" "row" "[I") (by decide +kernel)
  refine lv_aload_n hx hb dX6_lay_0 rfl (lv_at hl 0 rfl) ?_
  refine lv_iconst (v := nI 0) hx hb dX6_lay_1 (by decide) ?_
  refine z_put (D := (dC, dI)) (ci := 6) (v := .int (nI 0)) (C := RX6) (T := TX6) (N := 23) hx hb hts uX6 tyX6 tyX6_ok nmX6 hown hK hP hD hS 0 rfl rfl 22 (by decide) w179 rfl rfl rfl rfl (Nat.le_of_ble_eq_true rfl) [(m0, .inr (6, [.int (nI N), .ref x1, .int (nI K), .ref x2, .ref x3, .ref x4, .int (nI lo), .ref x5, .ref x6, .ref x7, .ref x8, .int (nI ns), .int (nI nd), .ref x9, .ref y1, .ref y2, .int (nI rm), .ref y3, .ref y4, .ref y5, .ref y6, .ref y7, .int (nI 0)])), (y5, .inl (cI, 6, .inl (fun z_ => nI (DM z_)))), (y6, .inl (cI, 6, .inl (fun z_ => nI (CM z_)))), (y7, .inl (cI, 120, .inl (fun z_ => nI (RO z_))))] rfl dX6_lay_2 (fun H locs hP hD hS => ?_)
  refine lv_iconst (v := nI 0) hx hb dX6_lay_5 (by decide) ?_
  refine lv_istore_n (lv' := [(1, .int (nI 0)), (0, .ref m0)]) hx hb dX6_lay_6 rfl hl (by decide) rfl (fun ls hl => ?_)
  refine lv_iconst (v := nI 0) hx hb dX6_lay_7 (by decide) ?_
  refine lv_istore_n (lv' := [(2, .int (nI 0)), (1, .int (nI 0)), (0, .ref m0)]) hx hb dX6_lay_8 rfl hl (by decide) rfl (fun ls hl => ?_)
  have L9 : ∀ (n9 : Nat) (j : Nat) (sm : Nat) (CM1 : Nat → Nat), (6 - j) < n9 → (j ≤ 6) → (sm = fb_sm DM j) → (∀ k, k < j → CM1 k = 0) → ∀ (H : Heap) (locs : List Loc), va_P (dC, dI) vwCl [(m0, .inr (6, [.int (nI N), .ref x1, .int (nI K), .ref x2, .ref x3, .ref x4, .int (nI lo), .ref x5, .ref x6, .ref x7, .ref x8, .int (nI ns), .int (nI nd), .ref x9, .ref y1, .ref y2, .int (nI rm), .ref y3, .ref y4, .ref y5, .ref y6, .ref y7, .int (nI sm)])), (y5, .inl (cI, 6, .inl (fun z_ => nI (DM z_)))), (y6, .inl (cI, 6, .inl (fun z_ => nI (CM1 z_)))), (y7, .inl (cI, 120, .inl (fun z_ => nI (RO z_))))] H → va_D A [(m0, .inr (6, [.int (nI N), .ref x1, .int (nI K), .ref x2, .ref x3, .ref x4, .int (nI lo), .ref x5, .ref x6, .ref x7, .ref x8, .int (nI ns), .int (nI nd), .ref x9, .ref y1, .ref y2, .int (nI rm), .ref y3, .ref y4, .ref y5, .ref y6, .ref y7, .int (nI sm)])), (y5, .inl (cI, 6, .inl (fun z_ => nI (DM z_)))), (y6, .inl (cI, 6, .inl (fun z_ => nI (CM1 z_)))), (y7, .inl (cI, 120, .inl (fun z_ => nI (RO z_))))] → va_S A s.heap H locs → ∀ (ls : Array Slot), lv_has ls 6 [(0, .ref m0), (1, .int (nI 0)), (2, .int (nI j))] → W p l e (zR 0 0 0 0) s m args below meth c H locs 0 0 Q (F0 m 9 ls []) := by
    intro n9
    induction n9 with
    | zero => intro j sm CM1 hn; exact absurd hn (Nat.not_lt_zero _)
    | succ n9 ih =>
      intro j sm CM1 hn i1 i2 i3 H locs hP hD hS ls hl
      have ih9 := ih
      have hn9 := hn
      clear ih hn
      refine lv_iload_n hx hb dX6_lay_9 rfl (lv_at hl 2 rfl) ?_
      refine lv_bipush (v := nI 6) hx hb dX6_lay_10 (by decide) ?_
      refine z_icmp_ge (tgt := 43) hx hb dX6_lay_12 (by decide) (zcn_le (a := 6) (b := j) rfl rfl (by omega)) (fun c_12 => ?_) (fun c_12 => ?_)
      · skip
        have hsm : sm = fb_sm DM 6 := by rw [i2, show j = 6 from by omega]
        have hsm2 : sm ≤ 120 := by rw [hsm]; exact sp_len_le bDM
        refine lv_iconst (v := nI 0) hx hb dX6_lay_43 (by decide) ?_
        refine lv_istore_n (lv' := [(2, .int (nI 0)), (0, .ref m0), (1, .int (nI 0))]) hx hb dX6_lay_44 rfl hl (by decide) rfl (fun ls hl => ?_)
        have L45 : ∀ (n45 : Nat) (pl : Nat) (rg : Nat) (CM3 : Nat → Nat) (RO3 : Nat → Nat), (sm - pl) < n45 → (pl ≤ sm) → (∀ k, k < 6 → CM3 k = sp_cm DM sm pl k) → (∀ q, q < pl → RO3 q = sp_kd DM sm q) → (rg = sp_rg DM sm pl) → ∀ (H : Heap) (locs : List Loc), va_P (dC, dI) vwCl [(m0, .inr (6, [.int (nI N), .ref x1, .int (nI K), .ref x2, .ref x3, .ref x4, .int (nI lo), .ref x5, .ref x6, .ref x7, .ref x8, .int (nI ns), .int (nI nd), .ref x9, .ref y1, .ref y2, .int (nI rm), .ref y3, .ref y4, .ref y5, .ref y6, .ref y7, .int (nI sm)])), (y5, .inl (cI, 6, .inl (fun z_ => nI (DM z_)))), (y6, .inl (cI, 6, .inl (fun z_ => nI (CM3 z_)))), (y7, .inl (cI, 120, .inl (fun z_ => nI (RO3 z_))))] H → va_D A [(m0, .inr (6, [.int (nI N), .ref x1, .int (nI K), .ref x2, .ref x3, .ref x4, .int (nI lo), .ref x5, .ref x6, .ref x7, .ref x8, .int (nI ns), .int (nI nd), .ref x9, .ref y1, .ref y2, .int (nI rm), .ref y3, .ref y4, .ref y5, .ref y6, .ref y7, .int (nI sm)])), (y5, .inl (cI, 6, .inl (fun z_ => nI (DM z_)))), (y6, .inl (cI, 6, .inl (fun z_ => nI (CM3 z_)))), (y7, .inl (cI, 120, .inl (fun z_ => nI (RO3 z_))))] → va_S A s.heap H locs → ∀ (ls : Array Slot), lv_has ls 6 [(0, .ref m0), (1, .int (nI rg)), (2, .int (nI pl))] → W p l e (zR 0 0 0 0) s m args below meth c H locs 0 0 Q (F0 m 45 ls []) := by
          intro n45
          induction n45 with
          | zero => intro pl rg CM3 RO3 hn; exact absurd hn (Nat.not_lt_zero _)
          | succ n45 ih =>
            intro pl rg CM3 RO3 hn k1 k2 k3 k4 H locs hP hD hS ls hl
            have ih45 := ih
            have hn45 := hn
            clear ih hn
            have k7 := sp_rg_le hsm hsm2 bDM pl k1
            have k8 := sp_cm_ok hsm pl k1
            have bCM : ∀ k, k < 6 → CM3 k ≤ 20 := fun k hk => by rw [k2 k hk]; exact Nat.le_trans (k8.1 k hk) (bDM k)
            refine lv_iload_n hx hb dX6_lay_45 rfl (lv_at hl 2 rfl) ?_
            refine lv_aload_n hx hb dX6_lay_46 rfl (lv_at hl 0 rfl) ?_
            refine z_get (D := (dC, dI)) (ci := 6) (v := .int (nI sm)) (C := RX6) (T := TX6) (N := 23) hx hb hts uX6 hown hK hP 0 rfl rfl 22 (by decide) w179 rfl rfl dX6_lay_47 ?_
            refine z_icmp_ge (tgt := 256) hx hb dX6_lay_50 (by decide) (zcn_le (a := sm) (b := pl) rfl rfl (by omega)) (fun c_50 => ?_) (fun c_50 => ?_)
            · skip
              refine lv_iload_n hx hb dX6_lay_256 rfl (lv_at hl 1 rfl) ?_
              have q_0 : rg = sp_rg DM (fb_sm DM 6) (fb_sm DM 6) := by rw [← hsm, k4, show pl = sm from by omega]
              have q_1 : sm = fb_sm DM 6 := by exact hsm
              have q_2 : ∀ q, q < sm → RO3 q = sp_kd DM (fb_sm DM 6) q := by intro q hq; rw [← hsm]; exact k3 q (by omega)
              exact hRET _ ls H locs ((nI rg)) (rg, CM3, RO3, sm) dX6_lay_257 ⟨rfl, q_0, q_1, q_2⟩ hP hD hS
            · skip
              refine lv_bipush (v := iI (-9)) hx hb dX6_lay_53 (by decide) ?_
              refine lv_istore_n (lv' := [(3, .int (iI (-9))), (0, .ref m0), (1, .int (nI rg)), (2, .int (nI pl))]) hx hb dX6_lay_55 rfl hl (by decide) rfl (fun ls hl => ?_)
              refine lv_iconst (v := nI 0) hx hb dX6_lay_56 (by decide) ?_
              refine lv_istore (lv' := [(4, .int (nI 0)), (3, .int (iI (-9))), (0, .ref m0), (1, .int (nI rg)), (2, .int (nI pl))]) hx hb dX6_lay_57 hl (by decide) rfl (fun ls hl => ?_)
              have L59 : ∀ (n59 : Nat) (k : Nat) (b : Int), (6 - k) < n59 → (k ≤ 6) → (b = sp_nk DM CM3 sm pl k) → (b = -9 ∨ (0 ≤ b ∧ b < 6)) → ∀ (H : Heap) (locs : List Loc), va_P (dC, dI) vwCl [(m0, .inr (6, [.int (nI N), .ref x1, .int (nI K), .ref x2, .ref x3, .ref x4, .int (nI lo), .ref x5, .ref x6, .ref x7, .ref x8, .int (nI ns), .int (nI nd), .ref x9, .ref y1, .ref y2, .int (nI rm), .ref y3, .ref y4, .ref y5, .ref y6, .ref y7, .int (nI sm)])), (y5, .inl (cI, 6, .inl (fun z_ => nI (DM z_)))), (y6, .inl (cI, 6, .inl (fun z_ => nI (CM3 z_)))), (y7, .inl (cI, 120, .inl (fun z_ => nI (RO3 z_))))] H → va_D A [(m0, .inr (6, [.int (nI N), .ref x1, .int (nI K), .ref x2, .ref x3, .ref x4, .int (nI lo), .ref x5, .ref x6, .ref x7, .ref x8, .int (nI ns), .int (nI nd), .ref x9, .ref y1, .ref y2, .int (nI rm), .ref y3, .ref y4, .ref y5, .ref y6, .ref y7, .int (nI sm)])), (y5, .inl (cI, 6, .inl (fun z_ => nI (DM z_)))), (y6, .inl (cI, 6, .inl (fun z_ => nI (CM3 z_)))), (y7, .inl (cI, 120, .inl (fun z_ => nI (RO3 z_))))] → va_S A s.heap H locs → ∀ (ls : Array Slot), lv_has ls 6 [(0, .ref m0), (1, .int (nI rg)), (2, .int (nI pl)), (3, .int (iI b)), (4, .int (nI k))] → W p l e (zR 0 0 0 0) s m args below meth c H locs 0 0 Q (F0 m 59 ls []) := by
                intro n59
                induction n59 with
                | zero => intro k b hn; exact absurd hn (Nat.not_lt_zero _)
                | succ n59 ih =>
                  intro k b hn n1 n2 n3 H locs hP hD hS ls hl
                  have ih59 := ih
                  have hn59 := hn
                  clear ih hn
                  refine lv_iload hx hb dX6_lay_59 (lv_at hl 4 rfl) ?_
                  refine lv_bipush (v := nI 6) hx hb dX6_lay_61 (by decide) ?_
                  refine z_icmp_ge (tgt := 163) hx hb dX6_lay_63 (by decide) (zcn_le (a := 6) (b := k) rfl rfl (by omega)) (fun c_63 => ?_) (fun c_63 => ?_)
                  · skip
                    have kd : b = sp_nk DM (sp_cm DM sm pl) sm pl 6 := by rw [n2, show k = 6 from by omega]; exact sp_nk_cong 6 k2
                    have kd2 := sp_nk_ok hsm (show pl < sm by omega)
                    rw [← kd] at kd2
                    have kd3 : b.toNat = sp_kd DM sm pl := by rw [kd]; rfl
                    have kc : ∀ k, k < 6 → up CM3 b.toNat (CM3 b.toNat + 1) k = sp_cm DM sm (pl + 1) k := fun k hk => by rw [sp_cm_s, ← kd3]; unfold up; rw [k2 k hk, k2 b.toNat (by omega)]
                    have k9 := sp_cm_ok hsm (pl + 1) (by omega)
                    refine lv_aload_n hx hb dX6_lay_163 rfl (lv_at hl 0 rfl) ?_
                    refine z_get (D := (dC, dI)) (ci := 6) (v := .ref y7) (C := RX6) (T := TX6) (N := 23) hx hb hts uX6 hown hK hP 0 rfl rfl 21 (by decide) w56 rfl rfl dX6_lay_164 ?_
                    refine lv_iload_n hx hb dX6_lay_167 rfl (lv_at hl 2 rfl) ?_
                    refine lv_iload_n hx hb dX6_lay_168 rfl (lv_at hl 3 rfl) ?_
                    refine z_c0 (v := nI b.toNat) (z_ZtoN (by first | assumption | omega)) ?_
                    refine z_iast hx hb hK hP hD hS 3 0 rfl rfl pl rfl (by omega) (upd_N RO3 pl b.toNat) [(m0, .inr (6, [.int (nI N), .ref x1, .int (nI K), .ref x2, .ref x3, .ref x4, .int (nI lo), .ref x5, .ref x6, .ref x7, .ref x8, .int (nI ns), .int (nI nd), .ref x9, .ref y1, .ref y2, .int (nI rm), .ref y3, .ref y4, .ref y5, .ref y6, .ref y7, .int (nI sm)])), (y5, .inl (cI, 6, .inl (fun z_ => nI (DM z_)))), (y6, .inl (cI, 6, .inl (fun z_ => nI (CM3 z_)))), (y7, .inl (cI, 120, .inl (fun z_ => nI ((up RO3 pl b.toNat) z_))))] rfl dX6_lay_169 (fun H locs hP hD hS => ?_)
                    refine lv_aload_n hx hb dX6_lay_170 rfl (lv_at hl 0 rfl) ?_
                    refine z_get (D := (dC, dI)) (ci := 6) (v := .ref y6) (C := RX6) (T := TX6) (N := 23) hx hb hts uX6 hown hK hP 0 rfl rfl 20 (by decide) w53 rfl rfl dX6_lay_171 ?_
                    refine lv_iload_n hx hb dX6_lay_174 rfl (lv_at hl 3 rfl) ?_
                    refine z_c0 (v := nI b.toNat) (z_ZtoN (by first | assumption | omega)) ?_
                    refine lv_dup2_11 hx hb dX6_lay_175 rfl rfl ?_
                    refine z_iald (v := (nI (CM3 b.toNat))) hx hb hK hP 2 0 rfl rfl b.toNat rfl (by omega) rfl dX6_lay_176 ?_
                    refine lv_iconst (v := nI 1) hx hb dX6_lay_177 (by decide) ?_
                    refine z_iadd (v := (nI ((CM3 b.toNat) + 1))) hx hb dX6_lay_178 (nI_add _ _) ?_
                    refine z_iast hx hb hK hP hD hS 2 0 rfl rfl b.toNat rfl (by omega) (upd_N CM3 b.toNat ((CM3 b.toNat) + 1)) [(m0, .inr (6, [.int (nI N), .ref x1, .int (nI K), .ref x2, .ref x3, .ref x4, .int (nI lo), .ref x5, .ref x6, .ref x7, .ref x8, .int (nI ns), .int (nI nd), .ref x9, .ref y1, .ref y2, .int (nI rm), .ref y3, .ref y4, .ref y5, .ref y6, .ref y7, .int (nI sm)])), (y5, .inl (cI, 6, .inl (fun z_ => nI (DM z_)))), (y6, .inl (cI, 6, .inl (fun z_ => nI ((up CM3 b.toNat ((CM3 b.toNat) + 1)) z_)))), (y7, .inl (cI, 120, .inl (fun z_ => nI ((up RO3 pl b.toNat) z_))))] rfl dX6_lay_179 (fun H locs hP hD hS => ?_)
                    obtain ⟨CM5, eCM5⟩ : ∃ z : Nat → Nat, z = (up CM3 b.toNat ((CM3 b.toNat) + 1)) := ⟨_, rfl⟩
                    rw [← eCM5] at hP hD
                    have hP : va_P (dC, dI) vwCl [(m0, .inr (6, [.int (nI N), .ref x1, .int (nI K), .ref x2, .ref x3, .ref x4, .int (nI lo), .ref x5, .ref x6, .ref x7, .ref x8, .int (nI ns), .int (nI nd), .ref x9, .ref y1, .ref y2, .int (nI rm), .ref y3, .ref y4, .ref y5, .ref y6, .ref y7, .int (nI sm)])), (y5, .inl (cI, 6, .inl (fun z_ => nI (DM z_)))), (y6, .inl (cI, 6, .inl (fun z_ => nI (CM5 z_)))), (y7, .inl (cI, 120, .inl (fun z_ => nI ((up RO3 pl b.toNat) z_))))] H := hP
                    have hD : va_D A [(m0, .inr (6, [.int (nI N), .ref x1, .int (nI K), .ref x2, .ref x3, .ref x4, .int (nI lo), .ref x5, .ref x6, .ref x7, .ref x8, .int (nI ns), .int (nI nd), .ref x9, .ref y1, .ref y2, .int (nI rm), .ref y3, .ref y4, .ref y5, .ref y6, .ref y7, .int (nI sm)])), (y5, .inl (cI, 6, .inl (fun z_ => nI (DM z_)))), (y6, .inl (cI, 6, .inl (fun z_ => nI (CM5 z_)))), (y7, .inl (cI, 120, .inl (fun z_ => nI ((up RO3 pl b.toNat) z_))))] := hD
                    refine lv_iconst (v := nI 0) hx hb dX6_lay_180 (by decide) ?_
                    have kc5 : ∀ k, k < 6 → CM5 k = sp_cm DM sm (pl + 1) k := fun k hk => by rw [eCM5]; exact kc k hk
                    have bC2 : ∀ k, k < 6 → CM5 k ≤ 20 := fun k hk => by rw [kc5 k hk]; exact Nat.le_trans (k9.1 k hk) (bDM k)
                    refine lv_istore (lv' := [(4, .int (nI 0)), (0, .ref m0), (1, .int (nI rg)), (2, .int (nI pl)), (3, .int (iI b))]) hx hb dX6_lay_181 hl (by decide) rfl (fun ls hl => ?_)
                    have L183 : ∀ (n183 : Nat) (kk : Nat) (rg2 : Nat), (6 - kk) < n183 → (kk ≤ 6) → (rg2 = max rg (sp_far DM CM5 sm (pl + 1) kk)) → (rg2 ≤ 2400) → ∀ (H : Heap) (locs : List Loc), va_P (dC, dI) vwCl [(m0, .inr (6, [.int (nI N), .ref x1, .int (nI K), .ref x2, .ref x3, .ref x4, .int (nI lo), .ref x5, .ref x6, .ref x7, .ref x8, .int (nI ns), .int (nI nd), .ref x9, .ref y1, .ref y2, .int (nI rm), .ref y3, .ref y4, .ref y5, .ref y6, .ref y7, .int (nI sm)])), (y5, .inl (cI, 6, .inl (fun z_ => nI (DM z_)))), (y6, .inl (cI, 6, .inl (fun z_ => nI (CM5 z_)))), (y7, .inl (cI, 120, .inl (fun z_ => nI ((up RO3 pl b.toNat) z_))))] H → va_D A [(m0, .inr (6, [.int (nI N), .ref x1, .int (nI K), .ref x2, .ref x3, .ref x4, .int (nI lo), .ref x5, .ref x6, .ref x7, .ref x8, .int (nI ns), .int (nI nd), .ref x9, .ref y1, .ref y2, .int (nI rm), .ref y3, .ref y4, .ref y5, .ref y6, .ref y7, .int (nI sm)])), (y5, .inl (cI, 6, .inl (fun z_ => nI (DM z_)))), (y6, .inl (cI, 6, .inl (fun z_ => nI (CM5 z_)))), (y7, .inl (cI, 120, .inl (fun z_ => nI ((up RO3 pl b.toNat) z_))))] → va_S A s.heap H locs → ∀ (ls : Array Slot), lv_has ls 6 [(0, .ref m0), (1, .int (nI rg2)), (2, .int (nI pl)), (4, .int (nI kk))] → W p l e (zR 0 0 0 0) s m args below meth c H locs 0 0 Q (F0 m 183 ls []) := by
                      intro n183
                      induction n183 with
                      | zero => intro kk rg2 hn; exact absurd hn (Nat.not_lt_zero _)
                      | succ n183 ih =>
                        intro kk rg2 hn r1 r2 r3 H locs hP hD hS ls hl
                        have ih183 := ih
                        have hn183 := hn
                        clear ih hn
                        refine lv_iload hx hb dX6_lay_183 (lv_at hl 3 rfl) ?_
                        refine lv_bipush (v := nI 6) hx hb dX6_lay_185 (by decide) ?_
                        refine z_icmp_ge (tgt := 250) hx hb dX6_lay_187 (by decide) (zcn_le (a := 6) (b := kk) rfl rfl (by omega)) (fun c_187 => ?_) (fun c_187 => ?_)
                        · skip
                          refine lv_iinc (v := (nI (pl + 1))) (lv' := [(2, .int (nI (pl + 1))), (0, .ref m0), (1, .int (nI rg2)), (4, .int (nI kk))]) hx hb dX6_lay_250 hl (k := 2) rfl (z_incN pl 1 (by decide)) (by decide) rfl (fun ls hl => ?_)
                          refine lv_goto (tgt := 45) hx hb dX6_lay_253 (by decide) ?_
                          have o_k1 : (pl + 1) ≤ sm := by first | assumption | omega
                          have o_k2 : ∀ k, k < 6 → CM5 k = sp_cm DM sm (pl + 1) k := by exact kc5
                          have o_k3 : ∀ q, q < (pl + 1) → (up RO3 pl b.toNat) q = sp_kd DM sm q := by exact lt_s (fun q hq => by rw [up_n _ _ (by omega)]; exact k3 q hq) (by rw [up_s]; exact kd3)
                          have o_k4 : rg2 = sp_rg DM sm (pl + 1) := by rw [sp_rg_s, r2, ← k4, show kk = 6 from by omega, sp_far_cong 6 kc5]
                          have o_mu : (sm - (pl + 1)) < n45 := by omega
                          exact ih45 (pl + 1) rg2 CM5 (up RO3 pl b.toNat) o_mu o_k1 o_k2 o_k3 o_k4 H locs hP hD hS ls (lv_sub hl [1, 2, 0] rfl)
                        · skip
                          refine lv_aload_n hx hb dX6_lay_190 rfl (lv_at hl 0 rfl) ?_
                          refine z_get (D := (dC, dI)) (ci := 6) (v := .int (nI sm)) (C := RX6) (T := TX6) (N := 23) hx hb hts uX6 hown hK hP 0 rfl rfl 22 (by decide) w179 rfl rfl dX6_lay_191 ?_
                          refine lv_aload_n hx hb dX6_lay_194 rfl (lv_at hl 0 rfl) ?_
                          refine z_get (D := (dC, dI)) (ci := 6) (v := .ref y6) (C := RX6) (T := TX6) (N := 23) hx hb hts uX6 hown hK hP 0 rfl rfl 20 (by decide) w53 rfl rfl dX6_lay_195 ?_
                          refine lv_iload hx hb dX6_lay_198 (lv_at hl 3 rfl) ?_
                          refine z_iald (v := (nI (CM5 kk))) hx hb hK hP 2 0 rfl rfl kk rfl (by omega) rfl dX6_lay_200 ?_
                          refine z_imul (v := (nI (sm * (CM5 kk)))) hx hb dX6_lay_201 (pk_mul _ _) ?_
                          refine lv_aload_n hx hb dX6_lay_202 rfl (lv_at hl 0 rfl) ?_
                          refine z_get (D := (dC, dI)) (ci := 6) (v := .ref y5) (C := RX6) (T := TX6) (N := 23) hx hb hts uX6 hown hK hP 0 rfl rfl 19 (by decide) w50 rfl rfl dX6_lay_203 ?_
                          refine lv_iload hx hb dX6_lay_206 (lv_at hl 3 rfl) ?_
                          refine z_iald (v := (nI (DM kk))) hx hb hK hP 1 0 rfl rfl kk rfl (by omega) rfl dX6_lay_208 ?_
                          have f208_0 := bDM kk
                          refine lv_iload_n hx hb dX6_lay_209 rfl (lv_at hl 2 rfl) ?_
                          refine lv_iconst (v := nI 1) hx hb dX6_lay_210 (by decide) ?_
                          refine z_iadd (v := (nI (pl + 1))) hx hb dX6_lay_211 (nI_add _ _) ?_
                          refine z_imul (v := (nI ((DM kk) * (pl + 1)))) hx hb dX6_lay_212 (pk_mul _ _) ?_
                          refine z_isub (v := (iI (((sm * (CM5 kk) : Nat) : Int) - (((DM kk) * (pl + 1) : Nat) : Int)))) hx hb dX6_lay_213 (za_sub (iI_N _) (iI_N _)) ?_
                          have m1 := Nat.mul_le_mul (bDM kk) (show pl + 1 ≤ 120 by omega)
                          have m2 := Nat.mul_le_mul hsm2 (bC2 kk (by omega))
                          refine lv_istore (lv' := [(5, .int (iI (((sm * (CM5 kk) : Nat) : Int) - (((DM kk) * (pl + 1) : Nat) : Int)))), (0, .ref m0), (1, .int (nI rg2)), (2, .int (nI pl)), (4, .int (nI kk))]) hx hb dX6_lay_214 hl (by decide) rfl (fun ls hl => ?_)
                          refine lv_iload hx hb dX6_lay_216 (lv_at hl 0 rfl) ?_
                          refine z_if_ge (tgt := 227) hx hb dX6_lay_218 (by decide) (zc_le (a := 0) (b := ((sm * (CM5 kk) : Nat) : Int) - (((DM kk) * (pl + 1) : Nat) : Int)) iI_0 rfl (by omega)) (fun c_218 => ?_) (fun c_218 => ?_)
                          · skip
                            refine lv_iload hx hb dX6_lay_227 (lv_at hl 0 rfl) ?_
                            refine z_c0 (v := nI (((((sm * (CM5 kk) : Nat) : Int) - (((DM kk) * (pl + 1) : Nat) : Int))).natAbs)) (z_ZtoN (by first | assumption | omega)) ?_
                            refine lv_istore (lv' := [(5, .int (nI (((((sm * (CM5 kk) : Nat) : Int) - (((DM kk) * (pl + 1) : Nat) : Int))).natAbs))), (0, .ref m0), (1, .int (nI rg2)), (2, .int (nI pl)), (4, .int (nI kk))]) hx hb dX6_lay_229 hl (by decide) rfl (fun ls hl => ?_)
                            refine lv_iload hx hb dX6_lay_231 (lv_at hl 0 rfl) ?_
                            refine lv_iload_n hx hb dX6_lay_233 rfl (lv_at hl 2 rfl) ?_
                            refine z_icmp_le (tgt := 242) hx hb dX6_lay_234 (by decide) (zcn_le (a := ((((sm * (CM5 kk) : Nat) : Int) - (((DM kk) * (pl + 1) : Nat) : Int))).natAbs) (b := rg2) rfl rfl (by omega)) (fun c_234 => ?_) (fun c_234 => ?_)
                            · skip
                              refine lv_iload_n hx hb dX6_lay_242 rfl (lv_at hl 2 rfl) ?_
                              refine lv_istore_n (lv' := [(1, .int (nI rg2)), (5, .int (nI (((((sm * (CM5 kk) : Nat) : Int) - (((DM kk) * (pl + 1) : Nat) : Int))).natAbs))), (0, .ref m0), (2, .int (nI pl)), (4, .int (nI kk))]) hx hb dX6_lay_243 rfl hl (by decide) rfl (fun ls hl => ?_)
                              refine lv_iinc (v := (nI (kk + 1))) (lv' := [(4, .int (nI (kk + 1))), (1, .int (nI rg2)), (5, .int (nI (((((sm * (CM5 kk) : Nat) : Int) - (((DM kk) * (pl + 1) : Nat) : Int))).natAbs))), (0, .ref m0), (2, .int (nI pl))]) hx hb dX6_lay_244 hl (k := 4) rfl (z_incN kk 1 (by decide)) (by decide) rfl (fun ls hl => ?_)
                              refine lv_goto (tgt := 183) hx hb dX6_lay_247 (by decide) ?_
                              have o_r1 : (kk + 1) ≤ 6 := by first | assumption | omega
                              have o_r2 : rg2 = max rg (sp_far DM CM5 sm (pl + 1) (kk + 1)) := by rw [sp_far_s]; omega
                              have o_r3 : rg2 ≤ 2400 := by first | assumption | omega
                              have o_mu : (6 - (kk + 1)) < n183 := by omega
                              exact ih183 (kk + 1) rg2 o_mu o_r1 o_r2 o_r3 H locs hP hD hS ls (lv_sub hl [3, 1, 4, 0] rfl)
                            · skip
                              refine lv_iload hx hb dX6_lay_237 (lv_at hl 0 rfl) ?_
                              refine lv_goto (tgt := 243) hx hb dX6_lay_239 (by decide) ?_
                              refine lv_istore_n (lv' := [(1, .int (nI (((((sm * (CM5 kk) : Nat) : Int) - (((DM kk) * (pl + 1) : Nat) : Int))).natAbs))), (5, .int (nI (((((sm * (CM5 kk) : Nat) : Int) - (((DM kk) * (pl + 1) : Nat) : Int))).natAbs))), (0, .ref m0), (2, .int (nI pl)), (4, .int (nI kk))]) hx hb dX6_lay_243 rfl hl (by decide) rfl (fun ls hl => ?_)
                              refine lv_iinc (v := (nI (kk + 1))) (lv' := [(4, .int (nI (kk + 1))), (1, .int (nI (((((sm * (CM5 kk) : Nat) : Int) - (((DM kk) * (pl + 1) : Nat) : Int))).natAbs))), (5, .int (nI (((((sm * (CM5 kk) : Nat) : Int) - (((DM kk) * (pl + 1) : Nat) : Int))).natAbs))), (0, .ref m0), (2, .int (nI pl))]) hx hb dX6_lay_244 hl (k := 4) rfl (z_incN kk 1 (by decide)) (by decide) rfl (fun ls hl => ?_)
                              refine lv_goto (tgt := 183) hx hb dX6_lay_247 (by decide) ?_
                              have o_r1 : (kk + 1) ≤ 6 := by first | assumption | omega
                              have o_r2 : (((((sm * (CM5 kk) : Nat) : Int) - (((DM kk) * (pl + 1) : Nat) : Int))).natAbs) = max rg (sp_far DM CM5 sm (pl + 1) (kk + 1)) := by rw [sp_far_s]; omega
                              have o_r3 : (((((sm * (CM5 kk) : Nat) : Int) - (((DM kk) * (pl + 1) : Nat) : Int))).natAbs) ≤ 2400 := by first | assumption | omega
                              have o_mu : (6 - (kk + 1)) < n183 := by omega
                              exact ih183 (kk + 1) (((((sm * (CM5 kk) : Nat) : Int) - (((DM kk) * (pl + 1) : Nat) : Int))).natAbs) o_mu o_r1 o_r2 o_r3 H locs hP hD hS ls (lv_sub hl [3, 1, 4, 0] rfl)
                          · skip
                            refine lv_iload hx hb dX6_lay_221 (lv_at hl 0 rfl) ?_
                            refine z_ineg (v := iI (-(((sm * (CM5 kk) : Nat) : Int) - (((DM kk) * (pl + 1) : Nat) : Int)))) hx hb dX6_lay_223 (za_neg rfl) ?_
                            refine lv_goto (tgt := 229) hx hb dX6_lay_224 (by decide) ?_
                            refine z_c0 (v := nI (((((sm * (CM5 kk) : Nat) : Int) - (((DM kk) * (pl + 1) : Nat) : Int))).natAbs)) (z_ZtoN (by first | assumption | omega)) ?_
                            refine lv_istore (lv' := [(5, .int (nI (((((sm * (CM5 kk) : Nat) : Int) - (((DM kk) * (pl + 1) : Nat) : Int))).natAbs))), (0, .ref m0), (1, .int (nI rg2)), (2, .int (nI pl)), (4, .int (nI kk))]) hx hb dX6_lay_229 hl (by decide) rfl (fun ls hl => ?_)
                            refine lv_iload hx hb dX6_lay_231 (lv_at hl 0 rfl) ?_
                            refine lv_iload_n hx hb dX6_lay_233 rfl (lv_at hl 2 rfl) ?_
                            refine z_icmp_le (tgt := 242) hx hb dX6_lay_234 (by decide) (zcn_le (a := ((((sm * (CM5 kk) : Nat) : Int) - (((DM kk) * (pl + 1) : Nat) : Int))).natAbs) (b := rg2) rfl rfl (by omega)) (fun c_234 => ?_) (fun c_234 => ?_)
                            · skip
                              refine lv_iload_n hx hb dX6_lay_242 rfl (lv_at hl 2 rfl) ?_
                              refine lv_istore_n (lv' := [(1, .int (nI rg2)), (5, .int (nI (((((sm * (CM5 kk) : Nat) : Int) - (((DM kk) * (pl + 1) : Nat) : Int))).natAbs))), (0, .ref m0), (2, .int (nI pl)), (4, .int (nI kk))]) hx hb dX6_lay_243 rfl hl (by decide) rfl (fun ls hl => ?_)
                              refine lv_iinc (v := (nI (kk + 1))) (lv' := [(4, .int (nI (kk + 1))), (1, .int (nI rg2)), (5, .int (nI (((((sm * (CM5 kk) : Nat) : Int) - (((DM kk) * (pl + 1) : Nat) : Int))).natAbs))), (0, .ref m0), (2, .int (nI pl))]) hx hb dX6_lay_244 hl (k := 4) rfl (z_incN kk 1 (by decide)) (by decide) rfl (fun ls hl => ?_)
                              refine lv_goto (tgt := 183) hx hb dX6_lay_247 (by decide) ?_
                              have o_r1 : (kk + 1) ≤ 6 := by first | assumption | omega
                              have o_r2 : rg2 = max rg (sp_far DM CM5 sm (pl + 1) (kk + 1)) := by rw [sp_far_s]; omega
                              have o_r3 : rg2 ≤ 2400 := by first | assumption | omega
                              have o_mu : (6 - (kk + 1)) < n183 := by omega
                              exact ih183 (kk + 1) rg2 o_mu o_r1 o_r2 o_r3 H locs hP hD hS ls (lv_sub hl [3, 1, 4, 0] rfl)
                            · skip
                              refine lv_iload hx hb dX6_lay_237 (lv_at hl 0 rfl) ?_
                              refine lv_goto (tgt := 243) hx hb dX6_lay_239 (by decide) ?_
                              refine lv_istore_n (lv' := [(1, .int (nI (((((sm * (CM5 kk) : Nat) : Int) - (((DM kk) * (pl + 1) : Nat) : Int))).natAbs))), (5, .int (nI (((((sm * (CM5 kk) : Nat) : Int) - (((DM kk) * (pl + 1) : Nat) : Int))).natAbs))), (0, .ref m0), (2, .int (nI pl)), (4, .int (nI kk))]) hx hb dX6_lay_243 rfl hl (by decide) rfl (fun ls hl => ?_)
                              refine lv_iinc (v := (nI (kk + 1))) (lv' := [(4, .int (nI (kk + 1))), (1, .int (nI (((((sm * (CM5 kk) : Nat) : Int) - (((DM kk) * (pl + 1) : Nat) : Int))).natAbs))), (5, .int (nI (((((sm * (CM5 kk) : Nat) : Int) - (((DM kk) * (pl + 1) : Nat) : Int))).natAbs))), (0, .ref m0), (2, .int (nI pl))]) hx hb dX6_lay_244 hl (k := 4) rfl (z_incN kk 1 (by decide)) (by decide) rfl (fun ls hl => ?_)
                              refine lv_goto (tgt := 183) hx hb dX6_lay_247 (by decide) ?_
                              have o_r1 : (kk + 1) ≤ 6 := by first | assumption | omega
                              have o_r2 : (((((sm * (CM5 kk) : Nat) : Int) - (((DM kk) * (pl + 1) : Nat) : Int))).natAbs) = max rg (sp_far DM CM5 sm (pl + 1) (kk + 1)) := by rw [sp_far_s]; omega
                              have o_r3 : (((((sm * (CM5 kk) : Nat) : Int) - (((DM kk) * (pl + 1) : Nat) : Int))).natAbs) ≤ 2400 := by first | assumption | omega
                              have o_mu : (6 - (kk + 1)) < n183 := by omega
                              exact ih183 (kk + 1) (((((sm * (CM5 kk) : Nat) : Int) - (((DM kk) * (pl + 1) : Nat) : Int))).natAbs) o_mu o_r1 o_r2 o_r3 H locs hP hD hS ls (lv_sub hl [3, 1, 4, 0] rfl)
                    have o_r1 : 0 ≤ 6 := by first | assumption | omega
                    have o_r2 : rg = max rg (sp_far DM CM5 sm (pl + 1) 0) := by show rg = max rg 0; omega
                    have o_r3 : rg ≤ 2400 := by first | assumption | omega
                    exact L183 ((6 - 0) + 1) 0 rg (Nat.lt_succ_self _) o_r1 o_r2 o_r3 H locs hP hD hS ls (lv_sub hl [1, 2, 3, 0] rfl)
                  · skip
                    refine lv_aload_n hx hb dX6_lay_66 rfl (lv_at hl 0 rfl) ?_
                    refine z_get (D := (dC, dI)) (ci := 6) (v := .ref y6) (C := RX6) (T := TX6) (N := 23) hx hb hts uX6 hown hK hP 0 rfl rfl 20 (by decide) w53 rfl rfl dX6_lay_67 ?_
                    refine lv_iload hx hb dX6_lay_70 (lv_at hl 4 rfl) ?_
                    refine z_iald (v := (nI (CM3 k))) hx hb hK hP 2 0 rfl rfl k rfl (by omega) rfl dX6_lay_72 ?_
                    refine lv_aload_n hx hb dX6_lay_73 rfl (lv_at hl 0 rfl) ?_
                    refine z_get (D := (dC, dI)) (ci := 6) (v := .ref y5) (C := RX6) (T := TX6) (N := 23) hx hb hts uX6 hown hK hP 0 rfl rfl 19 (by decide) w50 rfl rfl dX6_lay_74 ?_
                    refine lv_iload hx hb dX6_lay_77 (lv_at hl 4 rfl) ?_
                    refine z_iald (v := (nI (DM k))) hx hb hK hP 1 0 rfl rfl k rfl (by omega) rfl dX6_lay_79 ?_
                    have f79_0 := bDM k
                    have f72 := bCM k (by omega)
                    refine z_icmp_ge (tgt := 87) hx hb dX6_lay_80 (by decide) (zcn_le (a := DM k) (b := CM3 k) rfl rfl (by omega)) (fun c_80 => ?_) (fun c_80 => ?_)
                    · skip
                      refine lv_iconst (v := nI 0) hx hb dX6_lay_87 (by decide) ?_
                      refine lv_istore (lv' := [(5, .int (nI 0)), (0, .ref m0), (1, .int (nI rg)), (2, .int (nI pl)), (3, .int (iI b)), (4, .int (nI k))]) hx hb dX6_lay_88 hl (by decide) rfl (fun ls hl => ?_)
                      refine lv_iload hx hb dX6_lay_90 (lv_at hl 0 rfl) ?_
                      refine lv_if_eq (tgt := 155) hx hb dX6_lay_92 (by decide) (fun _ => ?_) (fun c_x => absurd c_x (by decide))
                      refine lv_iload_n hx hb dX6_lay_155 rfl (lv_at hl 4 rfl) ?_
                      refine lv_istore_n (lv' := [(3, .int (iI b)), (5, .int (nI 0)), (0, .ref m0), (1, .int (nI rg)), (2, .int (nI pl)), (4, .int (nI k))]) hx hb dX6_lay_156 rfl hl (by decide) rfl (fun ls hl => ?_)
                      refine lv_iinc (v := (nI (k + 1))) (lv' := [(4, .int (nI (k + 1))), (3, .int (iI b)), (5, .int (nI 0)), (0, .ref m0), (1, .int (nI rg)), (2, .int (nI pl))]) hx hb dX6_lay_157 hl (k := 5) rfl (z_incN k 1 (by decide)) (by decide) rfl (fun ls hl => ?_)
                      refine lv_goto (tgt := 59) hx hb dX6_lay_160 (by decide) ?_
                      have o_n1 : (k + 1) ≤ 6 := by first | assumption | omega
                      have o_n2 : b = sp_nk DM CM3 sm pl (k + 1) := by rw [sp_nk_s, ← n2]; (first | rw [if_pos ⟨by omega, Or.inl (by omega)⟩] | rw [if_pos ⟨by omega, Or.inr (by unfold sp_due; omega)⟩] | (rw [if_neg]; intro hq; rcases hq.2 with h2 | h2; exact absurd h2 (by omega); unfold sp_due at h2; omega) | (rw [if_neg]; intro hq; exact absurd hq.1 (by omega)))
                      have o_n3 : b = -9 ∨ (0 ≤ b ∧ b < 6) := by first | assumption | omega
                      have o_mu : (6 - (k + 1)) < n59 := by omega
                      exact ih59 (k + 1) b o_mu o_n1 o_n2 o_n3 H locs hP hD hS ls (lv_sub hl [3, 4, 5, 1, 0] rfl)
                    · skip
                      refine lv_iconst (v := nI 1) hx hb dX6_lay_83 (by decide) ?_
                      refine lv_goto (tgt := 88) hx hb dX6_lay_84 (by decide) ?_
                      refine lv_istore (lv' := [(5, .int (nI 1)), (0, .ref m0), (1, .int (nI rg)), (2, .int (nI pl)), (3, .int (iI b)), (4, .int (nI k))]) hx hb dX6_lay_88 hl (by decide) rfl (fun ls hl => ?_)
                      refine lv_iload hx hb dX6_lay_90 (lv_at hl 0 rfl) ?_
                      refine lv_if_eq (tgt := 155) hx hb dX6_lay_92 (by decide) (fun c_x => absurd c_x (by decide)) (fun _ => ?_)
                      refine lv_iload_n hx hb dX6_lay_95 rfl (lv_at hl 4 rfl) ?_
                      refine lv_bipush (v := iI (-9)) hx hb dX6_lay_96 (by decide) ?_
                      refine z_icmp_eq (tgt := 150) hx hb dX6_lay_98 (by decide) (zc_eq (a := b) (b := -9) rfl rfl (by omega)) (fun c_98 => ?_) (fun c_98 => ?_)
                      · skip
                        refine lv_iload hx hb dX6_lay_150 (lv_at hl 5 rfl) ?_
                        refine lv_goto (tgt := 156) hx hb dX6_lay_152 (by decide) ?_
                        refine z_c0 (v := iI ((k : Nat) : Int)) (iI_N _) ?_
                        refine lv_istore_n (lv' := [(3, .int (iI ((k : Nat) : Int))), (5, .int (nI 1)), (0, .ref m0), (1, .int (nI rg)), (2, .int (nI pl)), (4, .int (nI k))]) hx hb dX6_lay_156 rfl hl (by decide) rfl (fun ls hl => ?_)
                        refine lv_iinc (v := (nI (k + 1))) (lv' := [(4, .int (nI (k + 1))), (3, .int (iI ((k : Nat) : Int))), (5, .int (nI 1)), (0, .ref m0), (1, .int (nI rg)), (2, .int (nI pl))]) hx hb dX6_lay_157 hl (k := 5) rfl (z_incN k 1 (by decide)) (by decide) rfl (fun ls hl => ?_)
                        refine lv_goto (tgt := 59) hx hb dX6_lay_160 (by decide) ?_
                        have o_n1 : (k + 1) ≤ 6 := by first | assumption | omega
                        have o_n2 : ((k : Nat) : Int) = sp_nk DM CM3 sm pl (k + 1) := by rw [sp_nk_s, ← n2]; (first | rw [if_pos ⟨by omega, Or.inl (by omega)⟩] | rw [if_pos ⟨by omega, Or.inr (by unfold sp_due; omega)⟩] | (rw [if_neg]; intro hq; rcases hq.2 with h2 | h2; exact absurd h2 (by omega); unfold sp_due at h2; omega) | (rw [if_neg]; intro hq; exact absurd hq.1 (by omega)))
                        have o_n3 : ((k : Nat) : Int) = -9 ∨ (0 ≤ ((k : Nat) : Int) ∧ ((k : Nat) : Int) < 6) := by first | assumption | omega
                        have o_mu : (6 - (k + 1)) < n59 := by omega
                        exact ih59 (k + 1) ((k : Nat) : Int) o_mu o_n1 o_n2 o_n3 H locs hP hD hS ls (lv_sub hl [3, 4, 5, 1, 0] rfl)
                      · skip
                        refine lv_aload_n hx hb dX6_lay_101 rfl (lv_at hl 1 rfl) ?_
                        refine z_get (D := (dC, dI)) (ci := 6) (v := .ref y5) (C := RX6) (T := TX6) (N := 23) hx hb hts uX6 hown hK hP 0 rfl rfl 19 (by decide) w50 rfl rfl dX6_lay_102 ?_
                        refine lv_iload hx hb dX6_lay_105 (lv_at hl 5 rfl) ?_
                        refine z_iald (v := (nI (DM k))) hx hb hK hP 1 0 rfl rfl k rfl (by omega) rfl dX6_lay_107 ?_
                        have f107_0 := bDM k
                        refine lv_iload_n hx hb dX6_lay_108 rfl (lv_at hl 3 rfl) ?_
                        refine lv_iconst (v := nI 1) hx hb dX6_lay_109 (by decide) ?_
                        refine z_iadd (v := (nI (pl + 1))) hx hb dX6_lay_110 (nI_add _ _) ?_
                        refine z_imul (v := (nI ((DM k) * (pl + 1)))) hx hb dX6_lay_111 (pk_mul _ _) ?_
                        refine lv_aload_n hx hb dX6_lay_112 rfl (lv_at hl 1 rfl) ?_
                        refine z_get (D := (dC, dI)) (ci := 6) (v := .int (nI sm)) (C := RX6) (T := TX6) (N := 23) hx hb hts uX6 hown hK hP 0 rfl rfl 22 (by decide) w179 rfl rfl dX6_lay_113 ?_
                        refine lv_aload_n hx hb dX6_lay_116 rfl (lv_at hl 1 rfl) ?_
                        refine z_get (D := (dC, dI)) (ci := 6) (v := .ref y6) (C := RX6) (T := TX6) (N := 23) hx hb hts uX6 hown hK hP 0 rfl rfl 20 (by decide) w53 rfl rfl dX6_lay_117 ?_
                        refine lv_iload hx hb dX6_lay_120 (lv_at hl 5 rfl) ?_
                        refine z_iald (v := (nI (CM3 k))) hx hb hK hP 2 0 rfl rfl k rfl (by omega) rfl dX6_lay_122 ?_
                        refine z_imul (v := (nI (sm * (CM3 k)))) hx hb dX6_lay_123 (pk_mul _ _) ?_
                        refine z_isub (v := (iI ((((DM k) * (pl + 1) : Nat) : Int) - ((sm * (CM3 k) : Nat) : Int)))) hx hb dX6_lay_124 (za_sub (iI_N _) (iI_N _)) ?_
                        refine lv_aload_n hx hb dX6_lay_125 rfl (lv_at hl 1 rfl) ?_
                        refine z_get (D := (dC, dI)) (ci := 6) (v := .ref y5) (C := RX6) (T := TX6) (N := 23) hx hb hts uX6 hown hK hP 0 rfl rfl 19 (by decide) w50 rfl rfl dX6_lay_126 ?_
                        refine lv_iload_n hx hb dX6_lay_129 rfl (lv_at hl 4 rfl) ?_
                        refine z_iald (v := (nI (DM b.toNat))) hx hb hK hP 1 0 rfl rfl b.toNat (z_ZtoN (by omega)) (by omega) rfl dX6_lay_130 ?_
                        have f130_0 := bDM b.toNat
                        refine lv_iload_n hx hb dX6_lay_131 rfl (lv_at hl 3 rfl) ?_
                        refine lv_iconst (v := nI 1) hx hb dX6_lay_132 (by decide) ?_
                        refine z_iadd (v := (nI (pl + 1))) hx hb dX6_lay_133 (nI_add _ _) ?_
                        refine z_imul (v := (nI ((DM b.toNat) * (pl + 1)))) hx hb dX6_lay_134 (pk_mul _ _) ?_
                        refine lv_aload_n hx hb dX6_lay_135 rfl (lv_at hl 1 rfl) ?_
                        refine z_get (D := (dC, dI)) (ci := 6) (v := .int (nI sm)) (C := RX6) (T := TX6) (N := 23) hx hb hts uX6 hown hK hP 0 rfl rfl 22 (by decide) w179 rfl rfl dX6_lay_136 ?_
                        refine lv_aload_n hx hb dX6_lay_139 rfl (lv_at hl 1 rfl) ?_
                        refine z_get (D := (dC, dI)) (ci := 6) (v := .ref y6) (C := RX6) (T := TX6) (N := 23) hx hb hts uX6 hown hK hP 0 rfl rfl 20 (by decide) w53 rfl rfl dX6_lay_140 ?_
                        refine lv_iload_n hx hb dX6_lay_143 rfl (lv_at hl 4 rfl) ?_
                        refine z_iald (v := (nI (CM3 b.toNat))) hx hb hK hP 2 0 rfl rfl b.toNat (z_ZtoN (by omega)) (by omega) rfl dX6_lay_144 ?_
                        refine z_imul (v := (nI (sm * (CM3 b.toNat)))) hx hb dX6_lay_145 (pk_mul _ _) ?_
                        refine z_isub (v := (iI ((((DM b.toNat) * (pl + 1) : Nat) : Int) - ((sm * (CM3 b.toNat) : Nat) : Int)))) hx hb dX6_lay_146 (za_sub (iI_N _) (iI_N _)) ?_
                        have m1 := Nat.mul_le_mul (bDM k) (show pl + 1 ≤ 120 by omega)
                        have m2 := Nat.mul_le_mul hsm2 (bCM k (by omega))
                        have m3 := Nat.mul_le_mul (bDM b.toNat) (show pl + 1 ≤ 120 by omega)
                        have m4 := Nat.mul_le_mul hsm2 (bCM b.toNat (by omega))
                        refine z_icmp_le (tgt := 155) hx hb dX6_lay_147 (by decide) (zc_le (a := (((DM k) * (pl + 1) : Nat) : Int) - ((sm * (CM3 k) : Nat) : Int)) (b := (((DM b.toNat) * (pl + 1) : Nat) : Int) - ((sm * (CM3 b.toNat) : Nat) : Int)) rfl rfl (by omega)) (fun c_147 => ?_) (fun c_147 => ?_)
                        · skip
                          refine lv_iload_n hx hb dX6_lay_155 rfl (lv_at hl 4 rfl) ?_
                          refine lv_istore_n (lv' := [(3, .int (iI b)), (5, .int (nI 1)), (0, .ref m0), (1, .int (nI rg)), (2, .int (nI pl)), (4, .int (nI k))]) hx hb dX6_lay_156 rfl hl (by decide) rfl (fun ls hl => ?_)
                          refine lv_iinc (v := (nI (k + 1))) (lv' := [(4, .int (nI (k + 1))), (3, .int (iI b)), (5, .int (nI 1)), (0, .ref m0), (1, .int (nI rg)), (2, .int (nI pl))]) hx hb dX6_lay_157 hl (k := 5) rfl (z_incN k 1 (by decide)) (by decide) rfl (fun ls hl => ?_)
                          refine lv_goto (tgt := 59) hx hb dX6_lay_160 (by decide) ?_
                          have o_n1 : (k + 1) ≤ 6 := by first | assumption | omega
                          have o_n2 : b = sp_nk DM CM3 sm pl (k + 1) := by rw [sp_nk_s, ← n2]; (first | rw [if_pos ⟨by omega, Or.inl (by omega)⟩] | rw [if_pos ⟨by omega, Or.inr (by unfold sp_due; omega)⟩] | (rw [if_neg]; intro hq; rcases hq.2 with h2 | h2; exact absurd h2 (by omega); unfold sp_due at h2; omega) | (rw [if_neg]; intro hq; exact absurd hq.1 (by omega)))
                          have o_n3 : b = -9 ∨ (0 ≤ b ∧ b < 6) := by first | assumption | omega
                          have o_mu : (6 - (k + 1)) < n59 := by omega
                          exact ih59 (k + 1) b o_mu o_n1 o_n2 o_n3 H locs hP hD hS ls (lv_sub hl [3, 4, 5, 1, 0] rfl)
                        · skip
                          refine lv_iload hx hb dX6_lay_150 (lv_at hl 5 rfl) ?_
                          refine lv_goto (tgt := 156) hx hb dX6_lay_152 (by decide) ?_
                          refine z_c0 (v := iI ((k : Nat) : Int)) (iI_N _) ?_
                          refine lv_istore_n (lv' := [(3, .int (iI ((k : Nat) : Int))), (5, .int (nI 1)), (0, .ref m0), (1, .int (nI rg)), (2, .int (nI pl)), (4, .int (nI k))]) hx hb dX6_lay_156 rfl hl (by decide) rfl (fun ls hl => ?_)
                          refine lv_iinc (v := (nI (k + 1))) (lv' := [(4, .int (nI (k + 1))), (3, .int (iI ((k : Nat) : Int))), (5, .int (nI 1)), (0, .ref m0), (1, .int (nI rg)), (2, .int (nI pl))]) hx hb dX6_lay_157 hl (k := 5) rfl (z_incN k 1 (by decide)) (by decide) rfl (fun ls hl => ?_)
                          refine lv_goto (tgt := 59) hx hb dX6_lay_160 (by decide) ?_
                          have o_n1 : (k + 1) ≤ 6 := by first | assumption | omega
                          have o_n2 : ((k : Nat) : Int) = sp_nk DM CM3 sm pl (k + 1) := by rw [sp_nk_s, ← n2]; (first | rw [if_pos ⟨by omega, Or.inl (by omega)⟩] | rw [if_pos ⟨by omega, Or.inr (by unfold sp_due; omega)⟩] | (rw [if_neg]; intro hq; rcases hq.2 with h2 | h2; exact absurd h2 (by omega); unfold sp_due at h2; omega) | (rw [if_neg]; intro hq; exact absurd hq.1 (by omega)))
                          have o_n3 : ((k : Nat) : Int) = -9 ∨ (0 ≤ ((k : Nat) : Int) ∧ ((k : Nat) : Int) < 6) := by first | assumption | omega
                          have o_mu : (6 - (k + 1)) < n59 := by omega
                          exact ih59 (k + 1) ((k : Nat) : Int) o_mu o_n1 o_n2 o_n3 H locs hP hD hS ls (lv_sub hl [3, 4, 5, 1, 0] rfl)
              have o_n1 : 0 ≤ 6 := by first | assumption | omega
              have o_n2 : (-9 : Int) = sp_nk DM CM3 sm pl 0 := by rfl
              have o_n3 : (-9 : Int) = -9 ∨ (0 ≤ (-9 : Int) ∧ (-9 : Int) < 6) := by first | assumption | omega
              exact L59 ((6 - 0) + 1) 0 (-9 : Int) (Nat.lt_succ_self _) o_n1 o_n2 o_n3 H locs hP hD hS ls (lv_sub hl [2, 3, 4, 1, 0] rfl)
        have o_k1 : 0 ≤ sm := by first | assumption | omega
        have o_k2 : ∀ k, k < 6 → CM1 k = sp_cm DM sm 0 k := by intro k hk; exact i3 k (by omega)
        have o_k3 : ∀ q, q < 0 → RO q = sp_kd DM sm q := by intro q h; omega
        have o_k4 : 0 = sp_rg DM sm 0 := by rfl
        exact L45 ((sm - 0) + 1) 0 0 CM1 RO (Nat.lt_succ_self _) o_k1 o_k2 o_k3 o_k4 H locs hP hD hS ls (lv_sub hl [1, 2, 0] rfl)
      · skip
        refine lv_aload_n hx hb dX6_lay_15 rfl (lv_at hl 0 rfl) ?_
        refine lv_dup hx hb dX6_lay_16 rfl ?_
        refine z_get (D := (dC, dI)) (ci := 6) (v := .int (nI sm)) (C := RX6) (T := TX6) (N := 23) hx hb hts uX6 hown hK hP 0 rfl rfl 22 (by decide) w179 rfl rfl dX6_lay_17 ?_
        refine lv_aload_n hx hb dX6_lay_20 rfl (lv_at hl 0 rfl) ?_
        refine z_get (D := (dC, dI)) (ci := 6) (v := .ref y5) (C := RX6) (T := TX6) (N := 23) hx hb hts uX6 hown hK hP 0 rfl rfl 19 (by decide) w50 rfl rfl dX6_lay_21 ?_
        refine lv_iload_n hx hb dX6_lay_24 rfl (lv_at hl 2 rfl) ?_
        refine z_iald (v := (nI (DM j))) hx hb hK hP 1 0 rfl rfl j rfl (by omega) rfl dX6_lay_25 ?_
        have f25_0 := bDM j
        refine z_iadd (v := (nI (sm + (DM j)))) hx hb dX6_lay_26 (nI_add _ _) ?_
        refine z_put (D := (dC, dI)) (ci := 6) (v := .int (nI (sm + (DM j)))) (C := RX6) (T := TX6) (N := 23) hx hb hts uX6 tyX6 tyX6_ok nmX6 hown hK hP hD hS 0 rfl rfl 22 (by decide) w179 rfl rfl rfl rfl (Nat.le_of_ble_eq_true rfl) [(m0, .inr (6, [.int (nI N), .ref x1, .int (nI K), .ref x2, .ref x3, .ref x4, .int (nI lo), .ref x5, .ref x6, .ref x7, .ref x8, .int (nI ns), .int (nI nd), .ref x9, .ref y1, .ref y2, .int (nI rm), .ref y3, .ref y4, .ref y5, .ref y6, .ref y7, .int (nI (sm + (DM j)))])), (y5, .inl (cI, 6, .inl (fun z_ => nI (DM z_)))), (y6, .inl (cI, 6, .inl (fun z_ => nI (CM1 z_)))), (y7, .inl (cI, 120, .inl (fun z_ => nI (RO z_))))] rfl dX6_lay_27 (fun H locs hP hD hS => ?_)
        refine lv_aload_n hx hb dX6_lay_30 rfl (lv_at hl 0 rfl) ?_
        refine z_get (D := (dC, dI)) (ci := 6) (v := .ref y6) (C := RX6) (T := TX6) (N := 23) hx hb hts uX6 hown hK hP 0 rfl rfl 20 (by decide) w53 rfl rfl dX6_lay_31 ?_
        refine lv_iload_n hx hb dX6_lay_34 rfl (lv_at hl 2 rfl) ?_
        refine lv_iconst (v := nI 0) hx hb dX6_lay_35 (by decide) ?_
        refine z_iast hx hb hK hP hD hS 2 0 rfl rfl j rfl (by omega) (upd_N CM1 j 0) [(m0, .inr (6, [.int (nI N), .ref x1, .int (nI K), .ref x2, .ref x3, .ref x4, .int (nI lo), .ref x5, .ref x6, .ref x7, .ref x8, .int (nI ns), .int (nI nd), .ref x9, .ref y1, .ref y2, .int (nI rm), .ref y3, .ref y4, .ref y5, .ref y6, .ref y7, .int (nI (sm + (DM j)))])), (y5, .inl (cI, 6, .inl (fun z_ => nI (DM z_)))), (y6, .inl (cI, 6, .inl (fun z_ => nI ((up CM1 j 0) z_)))), (y7, .inl (cI, 120, .inl (fun z_ => nI (RO z_))))] rfl dX6_lay_36 (fun H locs hP hD hS => ?_)
        refine lv_iinc (v := (nI (j + 1))) (lv' := [(2, .int (nI (j + 1))), (0, .ref m0), (1, .int (nI 0))]) hx hb dX6_lay_37 hl (k := 2) rfl (z_incN j 1 (by decide)) (by decide) rfl (fun ls hl => ?_)
        refine lv_goto (tgt := 9) hx hb dX6_lay_40 (by decide) ?_
        have o_i1 : (j + 1) ≤ 6 := by first | assumption | omega
        have o_i2 : (sm + (DM j)) = fb_sm DM (j + 1) := by rw [fb_sm_succ, i2]
        have o_i3 : ∀ k, k < (j + 1) → (up CM1 j 0) k = 0 := by exact lt_s (fun k hk => by rw [up_n _ _ (by omega)]; exact i3 k hk) (up_s _ _ _)
        have o_mu : (6 - (j + 1)) < n9 := by omega
        exact ih9 (j + 1) (sm + (DM j)) (up CM1 j 0) o_mu o_i1 o_i2 o_i3 H locs hP hD hS ls (lv_sub hl [1, 2, 0] rfl)
  have o_i1 : 0 ≤ 6 := by first | assumption | omega
  have o_i2 : 0 = fb_sm DM 0 := by rfl
  have o_i3 : ∀ k, k < 0 → CM k = 0 := by intro k h; omega
  exact L9 ((6 - 0) + 1) 0 0 CM (Nat.lt_succ_self _) o_i1 o_i2 o_i3 H locs hP hD hS ls (lv_sub hl [2, 1, 0] rfl)

set_option maxHeartbeats 4000000 in
set_option maxRecDepth 100000 in
theorem c_X6_at (l : Launch) (dC : Nat → ClassId) (dI : Nat → Nat → Nat) (cI cJ : ClassId) (sz : Nat) (m0 : Nat) (x1 : Nat) (x2 : Nat) (x3 : Nat) (x4 : Nat) (x5 : Nat) (x6 : Nat) (x7 : Nat) (x8 : Nat) (x9 : Nat) (y1 : Nat) (y2 : Nat) (y3 : Nat) (y4 : Nat) (y5 : Nat) (y6 : Nat) (y7 : Nat) (N : Nat) (K : Nat) (lo : Nat) (ns : Nat) (nd : Nat) (rm : Nat) (pls : Nat) (DM : Nat → Nat) (CM : Nat → Nat) (RO : Nat → Nat) (z : Int) (bDM : ∀ k, DM k ≤ 20) (bz : -2147483648 ≤ z ∧ z < 2147483648) : Met l yX6_at wsX6_at (zR 1 0 0 25) (va_Pc [.ref m0, .int (iI z)] (zP (dC, dI) [(cI, .int), (cJ, .long)] [(m0, .inr (6, [.int (nI N), .ref x1, .int (nI K), .ref x2, .ref x3, .ref x4, .int (nI lo), .ref x5, .ref x6, .ref x7, .ref x8, .int (nI ns), .int (nI nd), .ref x9, .ref y1, .ref y2, .int (nI rm), .ref y3, .ref y4, .ref y5, .ref y6, .ref y7, .int (nI pls)])), (y5, .inl (cI, 6, .inl (fun z_ => nI (DM z_)))), (y6, .inl (cI, 6, .inl (fun z_ => nI (CM z_)))), (y7, .inl (cI, 120, .inl (fun z_ => nI (RO z_))))] sz nwA)) (va_Qi (fun (r : Int32) (u : (Int) × (Nat → Nat) × (Nat → Nat) × (Nat)) => r = (iI u.1) ∧ (u.1 = if 0 ≤ z ∧ z < (fb_sm DM 6 : Int) then (sp_kd DM (fb_sm DM 6) z.toNat : Int) else -9)) (zB (dC, dI) (fun (u : (Int) × (Nat → Nat) × (Nat → Nat) × (Nat)) => [(m0, .inr (6, [.int (nI N), .ref x1, .int (nI K), .ref x2, .ref x3, .ref x4, .int (nI lo), .ref x5, .ref x6, .ref x7, .ref x8, .int (nI ns), .int (nI nd), .ref x9, .ref y1, .ref y2, .int (nI rm), .ref y3, .ref y4, .ref y5, .ref y6, .ref y7, .int (nI u.2.2.2)])), (y5, .inl (cI, 6, .inl (fun z_ => nI (DM z_)))), (y6, .inl (cI, 6, .inl (fun z_ => nI (u.2.1 z_)))), (y7, .inl (cI, 120, .inl (fun z_ => nI (u.2.2.1 z_))))]) (va_A [(m0, .inr (6, [.int (nI N), .ref x1, .int (nI K), .ref x2, .ref x3, .ref x4, .int (nI lo), .ref x5, .ref x6, .ref x7, .ref x8, .int (nI ns), .int (nI nd), .ref x9, .ref y1, .ref y2, .int (nI rm), .ref y3, .ref y4, .ref y5, .ref y6, .ref y7, .int (nI pls)])), (y5, .inl (cI, 6, .inl (fun z_ => nI (DM z_)))), (y6, .inl (cI, 6, .inl (fun z_ => nI (CM z_)))), (y7, .inl (cI, 120, .inl (fun z_ => nI (RO z_))))] sz)) (va_A [(m0, .inr (6, [.int (nI N), .ref x1, .int (nI K), .ref x2, .ref x3, .ref x4, .int (nI lo), .ref x5, .ref x6, .ref x7, .ref x8, .int (nI ns), .int (nI nd), .ref x9, .ref y1, .ref y2, .int (nI rm), .ref y3, .ref y4, .ref y5, .ref y6, .ref y7, .int (nI pls)])), (y5, .inl (cI, 6, .inl (fun z_ => nI (DM z_)))), (y6, .inl (cI, 6, .inl (fun z_ => nI (CM z_)))), (y7, .inl (cI, 120, .inl (fun z_ => nI (RO z_))))] sz)) 0 0 (va_A [(m0, .inr (6, [.int (nI N), .ref x1, .int (nI K), .ref x2, .ref x3, .ref x4, .int (nI lo), .ref x5, .ref x6, .ref x7, .ref x8, .int (nI ns), .int (nI nd), .ref x9, .ref y1, .ref y2, .int (nI rm), .ref y3, .ref y4, .ref y5, .ref y6, .ref y7, .int (nI pls)])), (y5, .inl (cI, 6, .inl (fun z_ => nI (DM z_)))), (y6, .inl (cI, 6, .inl (fun z_ => nI (CM z_)))), (y7, .inl (cI, 120, .inl (fun z_ => nI (RO z_))))] sz) := by
  refine z_met_i (cc := cX6_at) (maxL := 3) (by decide) rfl (Nat.le_of_ble_eq_true rfl) ?_
  intro p e s m args below meth c Q A ls hx hb hml hown hts hin hA hK hP hD hN hl hRET
  have hown : s.vm.findClass RX6 = some m.cls := hown
  obtain ⟨H, eH⟩ : ∃ H : Heap, H = s.heap := ⟨_, rfl⟩
  rw [← eH] at hP
  obtain ⟨locs, eL⟩ : ∃ z : List Loc, z = [] := ⟨_, rfl⟩
  rw [← eH, ← eL]
  have hS : va_S A s.heap H locs := by rw [eH, eL]; exact va_S.rf
  have hl : lv_has ls 3 [(0, .ref m0), (1, .int (iI z))] := hl
  have w179 := hts (.fieldLink RX6 179 "PullCardsModel" "places" "I") (by decide +kernel)
  have uX6 : ∀ w ∈ wsX60, w ∈ wsX6_at := by decide +kernel
  have w56 := hts (.fieldLink RX6 56 "PullCardsModel" "row" "[I") (by decide +kernel)
  refine lv_aload_n hx hb dX6_at_0 rfl (lv_at hl 0 rfl) ?_
  refine z_callVi (As := []) (rest := []) (wr := []) ⟨hx, hb, hml, hown, hts⟩ (c_X6_lay l dC dI cI cJ H.size m0 x1 x2 x3 x4 x5 x6 x7 x8 x9 y1 y2 y3 y4 y5 y6 y7 N K lo ns nd rm pls DM CM RO (by first | assumption | omega)) (cwV 0 hts gX6_at_X6_lay rfl rfl rfl (by decide +kernel) ⟨Nat.le_of_ble_eq_true rfl, Nat.le_of_ble_eq_true rfl⟩) hA hK hP hD hS [0, 1, 2, 3] [] [0, 1, 2, 3] rfl rfl (by decide) (by decide) (by decide) nwA_ok hN (ci := 6) rfl rfl 0 rfl hl.1 (Nat.le_of_ble_eq_true rfl) ⟨Nat.le_refl _, Nat.le_refl _⟩ rfl rfl dX6_at_1 (fun (u : (Nat) × (Nat → Nat) × (Nat → Nat) × (Nat)) => [(m0, .inr (6, [.int (nI N), .ref x1, .int (nI K), .ref x2, .ref x3, .ref x4, .int (nI lo), .ref x5, .ref x6, .ref x7, .ref x8, .int (nI ns), .int (nI nd), .ref x9, .ref y1, .ref y2, .int (nI rm), .ref y3, .ref y4, .ref y5, .ref y6, .ref y7, .int (nI u.2.2.2)])), (y5, .inl (cI, 6, .inl (fun z_ => nI (DM z_)))), (y6, .inl (cI, 6, .inl (fun z_ => nI (u.2.1 z_)))), (y7, .inl (cI, 120, .inl (fun z_ => nI (u.2.2.1 z_))))]) (fun u => rfl) (by decide) (fun r_1 u H locs hw hP hD hS => ?_)
  obtain ⟨rv_1, CM2_1, RO2_1, pls2_1⟩ := u
  have hP : va_P (dC, dI) vwCl [(m0, .inr (6, [.int (nI N), .ref x1, .int (nI K), .ref x2, .ref x3, .ref x4, .int (nI lo), .ref x5, .ref x6, .ref x7, .ref x8, .int (nI ns), .int (nI nd), .ref x9, .ref y1, .ref y2, .int (nI rm), .ref y3, .ref y4, .ref y5, .ref y6, .ref y7, .int (nI pls2_1)])), (y5, .inl (cI, 6, .inl (fun z_ => nI (DM z_)))), (y6, .inl (cI, 6, .inl (fun z_ => nI (CM2_1 z_)))), (y7, .inl (cI, 120, .inl (fun z_ => nI (RO2_1 z_))))] H := hP
  have hD : va_D A [(m0, .inr (6, [.int (nI N), .ref x1, .int (nI K), .ref x2, .ref x3, .ref x4, .int (nI lo), .ref x5, .ref x6, .ref x7, .ref x8, .int (nI ns), .int (nI nd), .ref x9, .ref y1, .ref y2, .int (nI rm), .ref y3, .ref y4, .ref y5, .ref y6, .ref y7, .int (nI pls2_1)])), (y5, .inl (cI, 6, .inl (fun z_ => nI (DM z_)))), (y6, .inl (cI, 6, .inl (fun z_ => nI (CM2_1 z_)))), (y7, .inl (cI, 120, .inl (fun z_ => nI (RO2_1 z_))))] := hD
  obtain ⟨er, p1_0, p1_1, p1_2⟩ := hw
  have p1_0 : rv_1 = sp_rg DM (fb_sm DM 6) (fb_sm DM 6) := p1_0
  have p1_1 : pls2_1 = fb_sm DM 6 := p1_1
  have p1_2 : ∀ q, q < pls2_1 → RO2_1 q = sp_kd DM (fb_sm DM 6) q := p1_2
  have er : r_1 = (nI rv_1) := er
  subst er
  refine lv_istore_n (lv' := [(2, .int (nI rv_1)), (0, .ref m0), (1, .int (iI z))]) hx hb dX6_at_4 rfl hl (by decide) rfl (fun ls hl => ?_)
  have hln := sp_len_le bDM
  refine lv_iload_n hx hb dX6_at_5 rfl (lv_at hl 2 rfl) ?_
  refine lv_i2l (v := (lI z)) hx hb dX6_at_6 (zl_i2l rfl (by omega)) ?_
  refine lv_lconst (v := lN 0) hx hb dX6_at_7 (by decide) ?_
  refine lv_aload_n hx hb dX6_at_8 rfl (lv_at hl 1 rfl) ?_
  refine z_get (D := (dC, dI)) (ci := 6) (v := .int (nI pls2_1)) (C := RX6) (T := TX6) (N := 23) hx hb hts uX6 hown hK hP 0 rfl rfl 22 (by decide) w179 rfl rfl dX6_at_9 ?_
  refine lv_iconst (v := nI 1) hx hb dX6_at_12 (by decide) ?_
  refine z_isub (v := (iI (((pls2_1 : Nat) : Int) - 1))) hx hb dX6_at_13 (za_sub (iI_N _) (iI_N _)) ?_
  refine lv_i2l (v := (lI (((pls2_1 : Nat) : Int) - 1))) hx hb dX6_at_14 (zl_i2l rfl (by omega)) ?_
  refine z_l1 (v := lI 0) (by decide) ?_
  refine z_callSi (As := [.long (lI z), .long (lI 0), .long (lI (((pls2_1 : Nat) : Int) - 1))]) (rest := []) (wr := [(m0, .inr (6, [.int (nI N), .ref x1, .int (nI K), .ref x2, .ref x3, .ref x4, .int (nI lo), .ref x5, .ref x6, .ref x7, .ref x8, .int (nI ns), .int (nI nd), .ref x9, .ref y1, .ref y2, .int (nI rm), .ref y3, .ref y4, .ref y5, .ref y6, .ref y7, .int (nI pls2_1)])), (y5, .inl (cI, 6, .inl (fun z_ => nI (DM z_)))), (y6, .inl (cI, 6, .inl (fun z_ => nI (CM2_1 z_)))), (y7, .inl (cI, 120, .inl (fun z_ => nI (RO2_1 z_))))]) ⟨hx, hb, hml, hown, hts⟩ (c_X6_in l dC dI cI cJ H.size z (0 : Int) (((pls2_1 : Nat) : Int) - 1) (by first | assumption | omega) (by first | assumption | omega) (by first | assumption | omega)) (va_cwS 3 hts gX6_at_X6_in rfl rfl rfl (by decide +kernel) ⟨Nat.le_of_ble_eq_true rfl, Nat.le_of_ble_eq_true rfl⟩) hA hK hP hD hS [] [0, 1, 2, 3] [0, 1, 2, 3] rfl rfl (by decide) (by decide) (by decide) nwA_ok hN hl.1 (Nat.le_of_ble_eq_true rfl) ⟨Nat.le_refl _, Nat.le_refl _⟩ rfl rfl dX6_at_15 (fun (u : (Nat)) => [(m0, .inr (6, [.int (nI N), .ref x1, .int (nI K), .ref x2, .ref x3, .ref x4, .int (nI lo), .ref x5, .ref x6, .ref x7, .ref x8, .int (nI ns), .int (nI nd), .ref x9, .ref y1, .ref y2, .int (nI rm), .ref y3, .ref y4, .ref y5, .ref y6, .ref y7, .int (nI pls2_1)])), (y5, .inl (cI, 6, .inl (fun z_ => nI (DM z_)))), (y6, .inl (cI, 6, .inl (fun z_ => nI (CM2_1 z_)))), (y7, .inl (cI, 120, .inl (fun z_ => nI (RO2_1 z_))))]) (fun u => rfl) (by decide) (fun r_15 u H locs hw hP hD hS => ?_)
  obtain ⟨rv_15, eu⟩ : ∃ z, z = u := ⟨_, rfl⟩
  subst eu
  have hP : va_P (dC, dI) vwCl [(m0, .inr (6, [.int (nI N), .ref x1, .int (nI K), .ref x2, .ref x3, .ref x4, .int (nI lo), .ref x5, .ref x6, .ref x7, .ref x8, .int (nI ns), .int (nI nd), .ref x9, .ref y1, .ref y2, .int (nI rm), .ref y3, .ref y4, .ref y5, .ref y6, .ref y7, .int (nI pls2_1)])), (y5, .inl (cI, 6, .inl (fun z_ => nI (DM z_)))), (y6, .inl (cI, 6, .inl (fun z_ => nI (CM2_1 z_)))), (y7, .inl (cI, 120, .inl (fun z_ => nI (RO2_1 z_))))] H := hP
  have hD : va_D A [(m0, .inr (6, [.int (nI N), .ref x1, .int (nI K), .ref x2, .ref x3, .ref x4, .int (nI lo), .ref x5, .ref x6, .ref x7, .ref x8, .int (nI ns), .int (nI nd), .ref x9, .ref y1, .ref y2, .int (nI rm), .ref y3, .ref y4, .ref y5, .ref y6, .ref y7, .int (nI pls2_1)])), (y5, .inl (cI, 6, .inl (fun z_ => nI (DM z_)))), (y6, .inl (cI, 6, .inl (fun z_ => nI (CM2_1 z_)))), (y7, .inl (cI, 120, .inl (fun z_ => nI (RO2_1 z_))))] := hD
  obtain ⟨er, p15_0⟩ := hw
  have p15_0 : (rv_15 = 1 ∧ ((0 : Int) ≤ z ∧ z ≤ (((pls2_1 : Nat) : Int) - 1))) ∨ (rv_15 = 0 ∧ ¬ ((0 : Int) ≤ z ∧ z ≤ (((pls2_1 : Nat) : Int) - 1))) := p15_0
  have er : r_15 = (nI rv_15) := er
  subst er
  rcases p15_0 with ⟨h15, c_15⟩ | ⟨h15, c_15⟩
  · skip
    subst h15
    refine lv_if_eq (tgt := 30) hx hb dX6_at_18 (by decide) (fun c_x => absurd c_x (by decide)) (fun _ => ?_)
    refine lv_aload_n hx hb dX6_at_21 rfl (lv_at hl 1 rfl) ?_
    refine z_get (D := (dC, dI)) (ci := 6) (v := .ref y7) (C := RX6) (T := TX6) (N := 23) hx hb hts uX6 hown hK hP 0 rfl rfl 21 (by decide) w56 rfl rfl dX6_at_22 ?_
    refine lv_iload_n hx hb dX6_at_25 rfl (lv_at hl 2 rfl) ?_
    refine z_c0 (v := nI z.toNat) (z_ZtoN (by first | assumption | omega)) ?_
    refine z_iald (v := (nI (RO2_1 z.toNat))) hx hb hK hP 3 0 rfl rfl z.toNat rfl (by omega) rfl dX6_at_26 ?_
    refine lv_goto (tgt := 32) hx hb dX6_at_27 (by decide) ?_
    refine z_c0 (v := iI ((RO2_1 z.toNat : Nat) : Int)) (iI_N _) ?_
    have q_0 : ((RO2_1 z.toNat : Nat) : Int) = if 0 ≤ z ∧ z < (fb_sm DM 6 : Int) then (sp_kd DM (fb_sm DM 6) z.toNat : Int) else -9 := by first | (rw [if_pos (by omega), p1_2 z.toNat (by omega)]; done) | (rw [if_neg (by omega)]; done)
    exact hRET _ ls H locs ((iI ((RO2_1 z.toNat : Nat) : Int))) (((RO2_1 z.toNat : Nat) : Int), CM2_1, RO2_1, pls2_1) dX6_at_32 ⟨rfl, q_0⟩ hP hD hS
  · skip
    subst h15
    refine lv_if_eq (tgt := 30) hx hb dX6_at_18 (by decide) (fun _ => ?_) (fun c_x => absurd c_x (by decide))
    refine lv_bipush (v := iI (-9)) hx hb dX6_at_30 (by decide) ?_
    have q_0 : (-9 : Int) = if 0 ≤ z ∧ z < (fb_sm DM 6 : Int) then (sp_kd DM (fb_sm DM 6) z.toNat : Int) else -9 := by first | (rw [if_pos (by omega), p1_2 z.toNat (by omega)]; done) | (rw [if_neg (by omega)]; done)
    exact hRET _ ls H locs ((iI (-9))) ((-9 : Int), CM2_1, RO2_1, pls2_1) dX6_at_32 ⟨rfl, q_0⟩ hP hD hS

set_option maxHeartbeats 4000000 in
set_option maxRecDepth 100000 in
theorem c_X6_rough (l : Launch) (dC : Nat → ClassId) (dI : Nat → Nat → Nat) (cI cJ : ClassId) (sz : Nat) (m0 : Nat) (x1 : Nat) (x2 : Nat) (x3 : Nat) (x4 : Nat) (x5 : Nat) (x6 : Nat) (x7 : Nat) (x8 : Nat) (x9 : Nat) (y1 : Nat) (y2 : Nat) (y3 : Nat) (y4 : Nat) (y5 : Nat) (y6 : Nat) (y7 : Nat) (N : Nat) (K : Nat) (lo : Nat) (ns : Nat) (nd : Nat) (rm : Nat) (pls : Nat) (DM : Nat → Nat) (CM : Nat → Nat) (RO : Nat → Nat) (bDM : ∀ k, DM k ≤ 20) : Met l yX6_rough wsX6_rough (zR 1 0 0 25) (va_Pc [.ref m0] (zP (dC, dI) [(cI, .int), (cJ, .long)] [(m0, .inr (6, [.int (nI N), .ref x1, .int (nI K), .ref x2, .ref x3, .ref x4, .int (nI lo), .ref x5, .ref x6, .ref x7, .ref x8, .int (nI ns), .int (nI nd), .ref x9, .ref y1, .ref y2, .int (nI rm), .ref y3, .ref y4, .ref y5, .ref y6, .ref y7, .int (nI pls)])), (y5, .inl (cI, 6, .inl (fun z_ => nI (DM z_)))), (y6, .inl (cI, 6, .inl (fun z_ => nI (CM z_)))), (y7, .inl (cI, 120, .inl (fun z_ => nI (RO z_))))] sz nwA)) (va_Qi (fun (r : Int32) (u : (Nat) × (Nat → Nat) × (Nat → Nat) × (Nat)) => r = (nI u.1) ∧ (u.1 = sp_rg DM (fb_sm DM 6) (fb_sm DM 6))) (zB (dC, dI) (fun (u : (Nat) × (Nat → Nat) × (Nat → Nat) × (Nat)) => [(m0, .inr (6, [.int (nI N), .ref x1, .int (nI K), .ref x2, .ref x3, .ref x4, .int (nI lo), .ref x5, .ref x6, .ref x7, .ref x8, .int (nI ns), .int (nI nd), .ref x9, .ref y1, .ref y2, .int (nI rm), .ref y3, .ref y4, .ref y5, .ref y6, .ref y7, .int (nI u.2.2.2)])), (y5, .inl (cI, 6, .inl (fun z_ => nI (DM z_)))), (y6, .inl (cI, 6, .inl (fun z_ => nI (u.2.1 z_)))), (y7, .inl (cI, 120, .inl (fun z_ => nI (u.2.2.1 z_))))]) (va_A [(m0, .inr (6, [.int (nI N), .ref x1, .int (nI K), .ref x2, .ref x3, .ref x4, .int (nI lo), .ref x5, .ref x6, .ref x7, .ref x8, .int (nI ns), .int (nI nd), .ref x9, .ref y1, .ref y2, .int (nI rm), .ref y3, .ref y4, .ref y5, .ref y6, .ref y7, .int (nI pls)])), (y5, .inl (cI, 6, .inl (fun z_ => nI (DM z_)))), (y6, .inl (cI, 6, .inl (fun z_ => nI (CM z_)))), (y7, .inl (cI, 120, .inl (fun z_ => nI (RO z_))))] sz)) (va_A [(m0, .inr (6, [.int (nI N), .ref x1, .int (nI K), .ref x2, .ref x3, .ref x4, .int (nI lo), .ref x5, .ref x6, .ref x7, .ref x8, .int (nI ns), .int (nI nd), .ref x9, .ref y1, .ref y2, .int (nI rm), .ref y3, .ref y4, .ref y5, .ref y6, .ref y7, .int (nI pls)])), (y5, .inl (cI, 6, .inl (fun z_ => nI (DM z_)))), (y6, .inl (cI, 6, .inl (fun z_ => nI (CM z_)))), (y7, .inl (cI, 120, .inl (fun z_ => nI (RO z_))))] sz)) 0 0 (va_A [(m0, .inr (6, [.int (nI N), .ref x1, .int (nI K), .ref x2, .ref x3, .ref x4, .int (nI lo), .ref x5, .ref x6, .ref x7, .ref x8, .int (nI ns), .int (nI nd), .ref x9, .ref y1, .ref y2, .int (nI rm), .ref y3, .ref y4, .ref y5, .ref y6, .ref y7, .int (nI pls)])), (y5, .inl (cI, 6, .inl (fun z_ => nI (DM z_)))), (y6, .inl (cI, 6, .inl (fun z_ => nI (CM z_)))), (y7, .inl (cI, 120, .inl (fun z_ => nI (RO z_))))] sz) := by
  refine z_met_i (cc := cX6_rough) (maxL := 1) (by decide) rfl (Nat.le_of_ble_eq_true rfl) ?_
  intro p e s m args below meth c Q A ls hx hb hml hown hts hin hA hK hP hD hN hl hRET
  have hown : s.vm.findClass RX6 = some m.cls := hown
  obtain ⟨H, eH⟩ : ∃ H : Heap, H = s.heap := ⟨_, rfl⟩
  rw [← eH] at hP
  obtain ⟨locs, eL⟩ : ∃ z : List Loc, z = [] := ⟨_, rfl⟩
  rw [← eH, ← eL]
  have hS : va_S A s.heap H locs := by rw [eH, eL]; exact va_S.rf
  have hl : lv_has ls 1 [(0, .ref m0)] := hl
  refine lv_aload_n hx hb dX6_rough_0 rfl (lv_at hl 0 rfl) ?_
  refine z_callVi (As := []) (rest := []) (wr := []) ⟨hx, hb, hml, hown, hts⟩ (c_X6_lay l dC dI cI cJ H.size m0 x1 x2 x3 x4 x5 x6 x7 x8 x9 y1 y2 y3 y4 y5 y6 y7 N K lo ns nd rm pls DM CM RO (by first | assumption | omega)) (cwV 0 hts gX6_rough_X6_lay rfl rfl rfl (by decide +kernel) ⟨Nat.le_of_ble_eq_true rfl, Nat.le_of_ble_eq_true rfl⟩) hA hK hP hD hS [0, 1, 2, 3] [] [0, 1, 2, 3] rfl rfl (by decide) (by decide) (by decide) nwA_ok hN (ci := 6) rfl rfl 0 rfl hl.1 (Nat.le_of_ble_eq_true rfl) ⟨Nat.le_refl _, Nat.le_refl _⟩ rfl rfl dX6_rough_1 (fun (u : (Nat) × (Nat → Nat) × (Nat → Nat) × (Nat)) => [(m0, .inr (6, [.int (nI N), .ref x1, .int (nI K), .ref x2, .ref x3, .ref x4, .int (nI lo), .ref x5, .ref x6, .ref x7, .ref x8, .int (nI ns), .int (nI nd), .ref x9, .ref y1, .ref y2, .int (nI rm), .ref y3, .ref y4, .ref y5, .ref y6, .ref y7, .int (nI u.2.2.2)])), (y5, .inl (cI, 6, .inl (fun z_ => nI (DM z_)))), (y6, .inl (cI, 6, .inl (fun z_ => nI (u.2.1 z_)))), (y7, .inl (cI, 120, .inl (fun z_ => nI (u.2.2.1 z_))))]) (fun u => rfl) (by decide) (fun r_1 u H locs hw hP hD hS => ?_)
  obtain ⟨rv_1, CM2_1, RO2_1, pls2_1⟩ := u
  have hP : va_P (dC, dI) vwCl [(m0, .inr (6, [.int (nI N), .ref x1, .int (nI K), .ref x2, .ref x3, .ref x4, .int (nI lo), .ref x5, .ref x6, .ref x7, .ref x8, .int (nI ns), .int (nI nd), .ref x9, .ref y1, .ref y2, .int (nI rm), .ref y3, .ref y4, .ref y5, .ref y6, .ref y7, .int (nI pls2_1)])), (y5, .inl (cI, 6, .inl (fun z_ => nI (DM z_)))), (y6, .inl (cI, 6, .inl (fun z_ => nI (CM2_1 z_)))), (y7, .inl (cI, 120, .inl (fun z_ => nI (RO2_1 z_))))] H := hP
  have hD : va_D A [(m0, .inr (6, [.int (nI N), .ref x1, .int (nI K), .ref x2, .ref x3, .ref x4, .int (nI lo), .ref x5, .ref x6, .ref x7, .ref x8, .int (nI ns), .int (nI nd), .ref x9, .ref y1, .ref y2, .int (nI rm), .ref y3, .ref y4, .ref y5, .ref y6, .ref y7, .int (nI pls2_1)])), (y5, .inl (cI, 6, .inl (fun z_ => nI (DM z_)))), (y6, .inl (cI, 6, .inl (fun z_ => nI (CM2_1 z_)))), (y7, .inl (cI, 120, .inl (fun z_ => nI (RO2_1 z_))))] := hD
  obtain ⟨er, p1_0, p1_1, p1_2⟩ := hw
  have p1_0 : rv_1 = sp_rg DM (fb_sm DM 6) (fb_sm DM 6) := p1_0
  have p1_1 : pls2_1 = fb_sm DM 6 := p1_1
  have p1_2 : ∀ q, q < pls2_1 → RO2_1 q = sp_kd DM (fb_sm DM 6) q := p1_2
  have er : r_1 = (nI rv_1) := er
  subst er
  have q_0 : rv_1 = sp_rg DM (fb_sm DM 6) (fb_sm DM 6) := by exact p1_0
  exact hRET _ ls H locs ((nI rv_1)) (rv_1, CM2_1, RO2_1, pls2_1) dX6_rough_4 ⟨rfl, q_0⟩ hP hD hS

set_option maxHeartbeats 4000000 in
set_option maxRecDepth 100000 in
theorem c_X6_changes (l : Launch) (dC : Nat → ClassId) (dI : Nat → Nat → Nat) (cI cJ : ClassId) (sz : Nat) (m0 : Nat) (x1 : Nat) (x2 : Nat) (x3 : Nat) (x4 : Nat) (x5 : Nat) (x6 : Nat) (x7 : Nat) (x8 : Nat) (x9 : Nat) (y1 : Nat) (y2 : Nat) (y3 : Nat) (y4 : Nat) (y5 : Nat) (y6 : Nat) (y7 : Nat) (N : Nat) (K : Nat) (lo : Nat) (ns : Nat) (nd : Nat) (rm : Nat) (pls : Nat) (DM : Nat → Nat) (CM : Nat → Nat) (RO : Nat → Nat) (bDM : ∀ k, DM k ≤ 20) : Met l yX6_changes wsX6_changes (zR 1 0 0 25) (va_Pc [.ref m0] (zP (dC, dI) [(cI, .int), (cJ, .long)] [(m0, .inr (6, [.int (nI N), .ref x1, .int (nI K), .ref x2, .ref x3, .ref x4, .int (nI lo), .ref x5, .ref x6, .ref x7, .ref x8, .int (nI ns), .int (nI nd), .ref x9, .ref y1, .ref y2, .int (nI rm), .ref y3, .ref y4, .ref y5, .ref y6, .ref y7, .int (nI pls)])), (y5, .inl (cI, 6, .inl (fun z_ => nI (DM z_)))), (y6, .inl (cI, 6, .inl (fun z_ => nI (CM z_)))), (y7, .inl (cI, 120, .inl (fun z_ => nI (RO z_))))] sz nwA)) (va_Qi (fun (r : Int32) (u : (Nat) × (Nat → Nat) × (Nat → Nat) × (Nat)) => r = (nI u.1) ∧ (u.1 = sp_tn DM (fb_sm DM 6) (fb_sm DM 6))) (zB (dC, dI) (fun (u : (Nat) × (Nat → Nat) × (Nat → Nat) × (Nat)) => [(m0, .inr (6, [.int (nI N), .ref x1, .int (nI K), .ref x2, .ref x3, .ref x4, .int (nI lo), .ref x5, .ref x6, .ref x7, .ref x8, .int (nI ns), .int (nI nd), .ref x9, .ref y1, .ref y2, .int (nI rm), .ref y3, .ref y4, .ref y5, .ref y6, .ref y7, .int (nI u.2.2.2)])), (y5, .inl (cI, 6, .inl (fun z_ => nI (DM z_)))), (y6, .inl (cI, 6, .inl (fun z_ => nI (u.2.1 z_)))), (y7, .inl (cI, 120, .inl (fun z_ => nI (u.2.2.1 z_))))]) (va_A [(m0, .inr (6, [.int (nI N), .ref x1, .int (nI K), .ref x2, .ref x3, .ref x4, .int (nI lo), .ref x5, .ref x6, .ref x7, .ref x8, .int (nI ns), .int (nI nd), .ref x9, .ref y1, .ref y2, .int (nI rm), .ref y3, .ref y4, .ref y5, .ref y6, .ref y7, .int (nI pls)])), (y5, .inl (cI, 6, .inl (fun z_ => nI (DM z_)))), (y6, .inl (cI, 6, .inl (fun z_ => nI (CM z_)))), (y7, .inl (cI, 120, .inl (fun z_ => nI (RO z_))))] sz)) (va_A [(m0, .inr (6, [.int (nI N), .ref x1, .int (nI K), .ref x2, .ref x3, .ref x4, .int (nI lo), .ref x5, .ref x6, .ref x7, .ref x8, .int (nI ns), .int (nI nd), .ref x9, .ref y1, .ref y2, .int (nI rm), .ref y3, .ref y4, .ref y5, .ref y6, .ref y7, .int (nI pls)])), (y5, .inl (cI, 6, .inl (fun z_ => nI (DM z_)))), (y6, .inl (cI, 6, .inl (fun z_ => nI (CM z_)))), (y7, .inl (cI, 120, .inl (fun z_ => nI (RO z_))))] sz)) 0 0 (va_A [(m0, .inr (6, [.int (nI N), .ref x1, .int (nI K), .ref x2, .ref x3, .ref x4, .int (nI lo), .ref x5, .ref x6, .ref x7, .ref x8, .int (nI ns), .int (nI nd), .ref x9, .ref y1, .ref y2, .int (nI rm), .ref y3, .ref y4, .ref y5, .ref y6, .ref y7, .int (nI pls)])), (y5, .inl (cI, 6, .inl (fun z_ => nI (DM z_)))), (y6, .inl (cI, 6, .inl (fun z_ => nI (CM z_)))), (y7, .inl (cI, 120, .inl (fun z_ => nI (RO z_))))] sz) := by
  refine z_met_i (cc := cX6_changes) (maxL := 4) (by decide) rfl (Nat.le_of_ble_eq_true rfl) ?_
  intro p e s m args below meth c Q A ls hx hb hml hown hts hin hA hK hP hD hN hl hRET
  have hown : s.vm.findClass RX6 = some m.cls := hown
  obtain ⟨H, eH⟩ : ∃ H : Heap, H = s.heap := ⟨_, rfl⟩
  rw [← eH] at hP
  obtain ⟨locs, eL⟩ : ∃ z : List Loc, z = [] := ⟨_, rfl⟩
  rw [← eH, ← eL]
  have hS : va_S A s.heap H locs := by rw [eH, eL]; exact va_S.rf
  have hl : lv_has ls 4 [(0, .ref m0)] := hl
  have w179 := hts (.fieldLink RX6 179 "PullCardsModel" "places" "I") (by decide +kernel)
  have uX6 : ∀ w ∈ wsX60, w ∈ wsX6_changes := by decide +kernel
  have w56 := hts (.fieldLink RX6 56 "PullCardsModel" "row" "[I") (by decide +kernel)
  refine lv_aload_n hx hb dX6_changes_0 rfl (lv_at hl 0 rfl) ?_
  refine z_callVi (As := []) (rest := []) (wr := []) ⟨hx, hb, hml, hown, hts⟩ (c_X6_lay l dC dI cI cJ H.size m0 x1 x2 x3 x4 x5 x6 x7 x8 x9 y1 y2 y3 y4 y5 y6 y7 N K lo ns nd rm pls DM CM RO (by first | assumption | omega)) (cwV 0 hts gX6_changes_X6_lay rfl rfl rfl (by decide +kernel) ⟨Nat.le_of_ble_eq_true rfl, Nat.le_of_ble_eq_true rfl⟩) hA hK hP hD hS [0, 1, 2, 3] [] [0, 1, 2, 3] rfl rfl (by decide) (by decide) (by decide) nwA_ok hN (ci := 6) rfl rfl 0 rfl hl.1 (Nat.le_of_ble_eq_true rfl) ⟨Nat.le_refl _, Nat.le_refl _⟩ rfl rfl dX6_changes_1 (fun (u : (Nat) × (Nat → Nat) × (Nat → Nat) × (Nat)) => [(m0, .inr (6, [.int (nI N), .ref x1, .int (nI K), .ref x2, .ref x3, .ref x4, .int (nI lo), .ref x5, .ref x6, .ref x7, .ref x8, .int (nI ns), .int (nI nd), .ref x9, .ref y1, .ref y2, .int (nI rm), .ref y3, .ref y4, .ref y5, .ref y6, .ref y7, .int (nI u.2.2.2)])), (y5, .inl (cI, 6, .inl (fun z_ => nI (DM z_)))), (y6, .inl (cI, 6, .inl (fun z_ => nI (u.2.1 z_)))), (y7, .inl (cI, 120, .inl (fun z_ => nI (u.2.2.1 z_))))]) (fun u => rfl) (by decide) (fun r_1 u H locs hw hP hD hS => ?_)
  obtain ⟨rv_1, CM2_1, RO2_1, pls2_1⟩ := u
  have hP : va_P (dC, dI) vwCl [(m0, .inr (6, [.int (nI N), .ref x1, .int (nI K), .ref x2, .ref x3, .ref x4, .int (nI lo), .ref x5, .ref x6, .ref x7, .ref x8, .int (nI ns), .int (nI nd), .ref x9, .ref y1, .ref y2, .int (nI rm), .ref y3, .ref y4, .ref y5, .ref y6, .ref y7, .int (nI pls2_1)])), (y5, .inl (cI, 6, .inl (fun z_ => nI (DM z_)))), (y6, .inl (cI, 6, .inl (fun z_ => nI (CM2_1 z_)))), (y7, .inl (cI, 120, .inl (fun z_ => nI (RO2_1 z_))))] H := hP
  have hD : va_D A [(m0, .inr (6, [.int (nI N), .ref x1, .int (nI K), .ref x2, .ref x3, .ref x4, .int (nI lo), .ref x5, .ref x6, .ref x7, .ref x8, .int (nI ns), .int (nI nd), .ref x9, .ref y1, .ref y2, .int (nI rm), .ref y3, .ref y4, .ref y5, .ref y6, .ref y7, .int (nI pls2_1)])), (y5, .inl (cI, 6, .inl (fun z_ => nI (DM z_)))), (y6, .inl (cI, 6, .inl (fun z_ => nI (CM2_1 z_)))), (y7, .inl (cI, 120, .inl (fun z_ => nI (RO2_1 z_))))] := hD
  obtain ⟨er, p1_0, p1_1, p1_2⟩ := hw
  have p1_0 : rv_1 = sp_rg DM (fb_sm DM 6) (fb_sm DM 6) := p1_0
  have p1_1 : pls2_1 = fb_sm DM 6 := p1_1
  have p1_2 : ∀ q, q < pls2_1 → RO2_1 q = sp_kd DM (fb_sm DM 6) q := p1_2
  have er : r_1 = (nI rv_1) := er
  subst er
  have hln := sp_len_le bDM
  refine lv_istore_n (lv' := [(1, .int (nI rv_1)), (0, .ref m0)]) hx hb dX6_changes_4 rfl hl (by decide) rfl (fun ls hl => ?_)
  refine lv_iconst (v := nI 0) hx hb dX6_changes_5 (by decide) ?_
  refine lv_istore_n (lv' := [(2, .int (nI 0)), (1, .int (nI rv_1)), (0, .ref m0)]) hx hb dX6_changes_6 rfl hl (by decide) rfl (fun ls hl => ?_)
  refine lv_iconst (v := nI 1) hx hb dX6_changes_7 (by decide) ?_
  refine lv_istore_n (lv' := [(3, .int (nI 1)), (2, .int (nI 0)), (1, .int (nI rv_1)), (0, .ref m0)]) hx hb dX6_changes_8 rfl hl (by decide) rfl (fun ls hl => ?_)
  have L9 : ∀ (n9 : Nat) (j : Nat) (n1 : Nat), (121 - j) < n9 → (1 ≤ j ∧ (j ≤ pls2_1 ∨ j = 1)) → (n1 = sp_tn DM (fb_sm DM 6) j) → ∀ (H : Heap) (locs : List Loc), va_P (dC, dI) vwCl [(m0, .inr (6, [.int (nI N), .ref x1, .int (nI K), .ref x2, .ref x3, .ref x4, .int (nI lo), .ref x5, .ref x6, .ref x7, .ref x8, .int (nI ns), .int (nI nd), .ref x9, .ref y1, .ref y2, .int (nI rm), .ref y3, .ref y4, .ref y5, .ref y6, .ref y7, .int (nI pls2_1)])), (y5, .inl (cI, 6, .inl (fun z_ => nI (DM z_)))), (y6, .inl (cI, 6, .inl (fun z_ => nI (CM2_1 z_)))), (y7, .inl (cI, 120, .inl (fun z_ => nI (RO2_1 z_))))] H → va_D A [(m0, .inr (6, [.int (nI N), .ref x1, .int (nI K), .ref x2, .ref x3, .ref x4, .int (nI lo), .ref x5, .ref x6, .ref x7, .ref x8, .int (nI ns), .int (nI nd), .ref x9, .ref y1, .ref y2, .int (nI rm), .ref y3, .ref y4, .ref y5, .ref y6, .ref y7, .int (nI pls2_1)])), (y5, .inl (cI, 6, .inl (fun z_ => nI (DM z_)))), (y6, .inl (cI, 6, .inl (fun z_ => nI (CM2_1 z_)))), (y7, .inl (cI, 120, .inl (fun z_ => nI (RO2_1 z_))))] → va_S A s.heap H locs → ∀ (ls : Array Slot), lv_has ls 4 [(0, .ref m0), (1, .int (nI rv_1)), (2, .int (nI n1)), (3, .int (nI j))] → W p l e (zR 1 0 0 25) s m args below meth c H locs 0 0 Q (F0 m 9 ls []) := by
    intro n9
    induction n9 with
    | zero => intro j n1 hn; exact absurd hn (Nat.not_lt_zero _)
    | succ n9 ih =>
      intro j n1 hn i1 i2 H locs hP hD hS ls hl
      have ih9 := ih
      have hn9 := hn
      clear ih hn
      refine lv_iload_n hx hb dX6_changes_9 rfl (lv_at hl 3 rfl) ?_
      refine lv_aload_n hx hb dX6_changes_10 rfl (lv_at hl 0 rfl) ?_
      refine z_get (D := (dC, dI)) (ci := 6) (v := .int (nI pls2_1)) (C := RX6) (T := TX6) (N := 23) hx hb hts uX6 hown hK hP 0 rfl rfl 22 (by decide) w179 rfl rfl dX6_changes_11 ?_
      refine z_icmp_ge (tgt := 48) hx hb dX6_changes_14 (by decide) (zcn_le (a := pls2_1) (b := j) rfl rfl (by omega)) (fun c_14 => ?_) (fun c_14 => ?_)
      · skip
        refine lv_iload_n hx hb dX6_changes_48 rfl (lv_at hl 2 rfl) ?_
        have q_0 : n1 = sp_tn DM (fb_sm DM 6) (fb_sm DM 6) := by rw [i2]; (by_cases q : j = fb_sm DM 6); (rw [q]); (rw [show j = 1 by omega, show fb_sm DM 6 = 0 by omega]; rfl)
        exact hRET _ ls H locs ((nI n1)) (n1, CM2_1, RO2_1, pls2_1) dX6_changes_49 ⟨rfl, q_0⟩ hP hD hS
      · skip
        refine lv_iload_n hx hb dX6_changes_17 rfl (lv_at hl 2 rfl) ?_
        refine lv_aload_n hx hb dX6_changes_18 rfl (lv_at hl 0 rfl) ?_
        refine z_get (D := (dC, dI)) (ci := 6) (v := .ref y7) (C := RX6) (T := TX6) (N := 23) hx hb hts uX6 hown hK hP 0 rfl rfl 21 (by decide) w56 rfl rfl dX6_changes_19 ?_
        refine lv_iload_n hx hb dX6_changes_22 rfl (lv_at hl 3 rfl) ?_
        refine z_iald (v := (nI (RO2_1 j))) hx hb hK hP 3 0 rfl rfl j rfl (by omega) rfl dX6_changes_23 ?_
        refine lv_aload_n hx hb dX6_changes_24 rfl (lv_at hl 0 rfl) ?_
        refine z_get (D := (dC, dI)) (ci := 6) (v := .ref y7) (C := RX6) (T := TX6) (N := 23) hx hb hts uX6 hown hK hP 0 rfl rfl 21 (by decide) w56 rfl rfl dX6_changes_25 ?_
        refine lv_iload_n hx hb dX6_changes_28 rfl (lv_at hl 3 rfl) ?_
        refine lv_iconst (v := nI 1) hx hb dX6_changes_29 (by decide) ?_
        refine z_isub (v := (nI (j - 1))) hx hb dX6_changes_30 (pk_sub (by omega)) ?_
        refine z_iald (v := (nI (RO2_1 (j - 1)))) hx hb hK hP 3 0 rfl rfl (j - 1) rfl (by omega) rfl dX6_changes_31 ?_
        have e1 := p1_2 j (by omega)
        have e2 := p1_2 (j - 1) (by omega)
        have e3 := sp_kd_lt (DM := DM) rfl (show j < fb_sm DM 6 by omega)
        have e4 := sp_kd_lt (DM := DM) rfl (show j - 1 < fb_sm DM 6 by omega)
        refine z_icmp_eq (tgt := 39) hx hb dX6_changes_32 (by decide) (zcn_eq (a := RO2_1 j) (b := RO2_1 (j - 1)) rfl rfl (by omega)) (fun c_32 => ?_) (fun c_32 => ?_)
        · skip
          refine lv_iconst (v := nI 0) hx hb dX6_changes_39 (by decide) ?_
          refine z_iadd (v := (nI (n1 + 0))) hx hb dX6_changes_40 (nI_add _ _) ?_
          refine lv_istore_n (lv' := [(2, .int (nI (n1 + 0))), (0, .ref m0), (1, .int (nI rv_1)), (3, .int (nI j))]) hx hb dX6_changes_41 rfl hl (by decide) rfl (fun ls hl => ?_)
          refine lv_iinc (v := (nI (j + 1))) (lv' := [(3, .int (nI (j + 1))), (2, .int (nI (n1 + 0))), (0, .ref m0), (1, .int (nI rv_1))]) hx hb dX6_changes_42 hl (k := 3) rfl (z_incN j 1 (by decide)) (by decide) rfl (fun ls hl => ?_)
          refine lv_goto (tgt := 9) hx hb dX6_changes_45 (by decide) ?_
          have o_i1 : 1 ≤ (j + 1) ∧ ((j + 1) ≤ pls2_1 ∨ (j + 1) = 1) := by first | assumption | omega
          have o_i2 : (n1 + 0) = sp_tn DM (fb_sm DM 6) (j + 1) := by rw [sp_tn_s, ← i2]; (first | rw [if_pos (by omega)] | rw [if_neg (by omega)])
          have o_mu : (121 - (j + 1)) < n9 := by omega
          exact ih9 (j + 1) (n1 + 0) o_mu o_i1 o_i2 H locs hP hD hS ls (lv_sub hl [2, 3, 1, 0] rfl)
        · skip
          refine lv_iconst (v := nI 1) hx hb dX6_changes_35 (by decide) ?_
          refine lv_goto (tgt := 40) hx hb dX6_changes_36 (by decide) ?_
          refine z_iadd (v := (nI (n1 + 1))) hx hb dX6_changes_40 (nI_add _ _) ?_
          refine lv_istore_n (lv' := [(2, .int (nI (n1 + 1))), (0, .ref m0), (1, .int (nI rv_1)), (3, .int (nI j))]) hx hb dX6_changes_41 rfl hl (by decide) rfl (fun ls hl => ?_)
          refine lv_iinc (v := (nI (j + 1))) (lv' := [(3, .int (nI (j + 1))), (2, .int (nI (n1 + 1))), (0, .ref m0), (1, .int (nI rv_1))]) hx hb dX6_changes_42 hl (k := 3) rfl (z_incN j 1 (by decide)) (by decide) rfl (fun ls hl => ?_)
          refine lv_goto (tgt := 9) hx hb dX6_changes_45 (by decide) ?_
          have o_i1 : 1 ≤ (j + 1) ∧ ((j + 1) ≤ pls2_1 ∨ (j + 1) = 1) := by first | assumption | omega
          have o_i2 : (n1 + 1) = sp_tn DM (fb_sm DM 6) (j + 1) := by rw [sp_tn_s, ← i2]; (first | rw [if_pos (by omega)] | rw [if_neg (by omega)])
          have o_mu : (121 - (j + 1)) < n9 := by omega
          exact ih9 (j + 1) (n1 + 1) o_mu o_i1 o_i2 H locs hP hD hS ls (lv_sub hl [2, 3, 1, 0] rfl)
  have o_i1 : 1 ≤ 1 ∧ (1 ≤ pls2_1 ∨ 1 = 1) := by first | assumption | omega
  have o_i2 : 0 = sp_tn DM (fb_sm DM 6) 1 := by rfl
  exact L9 ((121 - 1) + 1) 1 0 (Nat.lt_succ_self _) o_i1 o_i2 H locs hP hD hS ls (lv_sub hl [3, 2, 1, 0] rfl)

set_option maxHeartbeats 4000000 in
set_option maxRecDepth 100000 in
theorem c_X6_total (l : Launch) (dC : Nat → ClassId) (dI : Nat → Nat → Nat) (cI cJ : ClassId) (sz : Nat) (m0 : Nat) (x1 : Nat) (x2 : Nat) (x3 : Nat) (x4 : Nat) (x5 : Nat) (x6 : Nat) (x7 : Nat) (x8 : Nat) (x9 : Nat) (y1 : Nat) (y2 : Nat) (y3 : Nat) (y4 : Nat) (y5 : Nat) (y6 : Nat) (y7 : Nat) (N : Nat) (K : Nat) (lo : Nat) (ns : Nat) (nd : Nat) (rm : Nat) (pls : Nat) (G : Nat → Nat) (C : Nat → Nat) (DM : Nat → Nat) (CM : Nat → Nat) (RO : Nat → Nat) (w : Int) (bN : N ≤ 8) (bK : K ≤ 16) (bC : ∀ a, C a ≤ 9) (bG : ∀ a, G a < 8) (bDM : ∀ k, DM k ≤ 20) (bw : -2147483648 ≤ w ∧ w < 2147483648) : Met l yX6_total wsX6_total (zR 2 0 0 45) (va_Pc [.ref m0, .int (iI w)] (zP (dC, dI) [(cI, .int), (cJ, .long)] [(m0, .inr (6, [.int (nI N), .ref x1, .int (nI K), .ref x2, .ref x3, .ref x4, .int (nI lo), .ref x5, .ref x6, .ref x7, .ref x8, .int (nI ns), .int (nI nd), .ref x9, .ref y1, .ref y2, .int (nI rm), .ref y3, .ref y4, .ref y5, .ref y6, .ref y7, .int (nI pls)])), (x3, .inl (cI, 16, .inl (fun z_ => nI (G z_)))), (x4, .inl (cI, 16, .inl (fun z_ => nI (C z_)))), (y5, .inl (cI, 6, .inl (fun z_ => nI (DM z_)))), (y6, .inl (cI, 6, .inl (fun z_ => nI (CM z_)))), (y7, .inl (cI, 120, .inl (fun z_ => nI (RO z_))))] sz nwA)) (va_Qi (fun (r : Int32) (u : (Int) × (Nat → Nat) × (Nat → Nat) × (Nat)) => r = (iI u.1) ∧ (u.1 = if w = 0 then (N : Int) else if w = 1 then (K : Int) else if w = 2 then (fb_sm C K : Int) else if w = 3 then (rm : Int) else if w = 4 then (fb_sm DM 6 : Int) else if w = 5 then (sp_cnt N K G C : Int) else -2)) (zB (dC, dI) (fun (u : (Int) × (Nat → Nat) × (Nat → Nat) × (Nat)) => [(m0, .inr (6, [.int (nI N), .ref x1, .int (nI K), .ref x2, .ref x3, .ref x4, .int (nI lo), .ref x5, .ref x6, .ref x7, .ref x8, .int (nI ns), .int (nI nd), .ref x9, .ref y1, .ref y2, .int (nI rm), .ref y3, .ref y4, .ref y5, .ref y6, .ref y7, .int (nI u.2.2.2)])), (x3, .inl (cI, 16, .inl (fun z_ => nI (G z_)))), (x4, .inl (cI, 16, .inl (fun z_ => nI (C z_)))), (y5, .inl (cI, 6, .inl (fun z_ => nI (DM z_)))), (y6, .inl (cI, 6, .inl (fun z_ => nI (u.2.1 z_)))), (y7, .inl (cI, 120, .inl (fun z_ => nI (u.2.2.1 z_))))]) (va_A [(m0, .inr (6, [.int (nI N), .ref x1, .int (nI K), .ref x2, .ref x3, .ref x4, .int (nI lo), .ref x5, .ref x6, .ref x7, .ref x8, .int (nI ns), .int (nI nd), .ref x9, .ref y1, .ref y2, .int (nI rm), .ref y3, .ref y4, .ref y5, .ref y6, .ref y7, .int (nI pls)])), (x3, .inl (cI, 16, .inl (fun z_ => nI (G z_)))), (x4, .inl (cI, 16, .inl (fun z_ => nI (C z_)))), (y5, .inl (cI, 6, .inl (fun z_ => nI (DM z_)))), (y6, .inl (cI, 6, .inl (fun z_ => nI (CM z_)))), (y7, .inl (cI, 120, .inl (fun z_ => nI (RO z_))))] sz)) (va_A [(m0, .inr (6, [.int (nI N), .ref x1, .int (nI K), .ref x2, .ref x3, .ref x4, .int (nI lo), .ref x5, .ref x6, .ref x7, .ref x8, .int (nI ns), .int (nI nd), .ref x9, .ref y1, .ref y2, .int (nI rm), .ref y3, .ref y4, .ref y5, .ref y6, .ref y7, .int (nI pls)])), (x3, .inl (cI, 16, .inl (fun z_ => nI (G z_)))), (x4, .inl (cI, 16, .inl (fun z_ => nI (C z_)))), (y5, .inl (cI, 6, .inl (fun z_ => nI (DM z_)))), (y6, .inl (cI, 6, .inl (fun z_ => nI (CM z_)))), (y7, .inl (cI, 120, .inl (fun z_ => nI (RO z_))))] sz)) 0 0 (va_A [(m0, .inr (6, [.int (nI N), .ref x1, .int (nI K), .ref x2, .ref x3, .ref x4, .int (nI lo), .ref x5, .ref x6, .ref x7, .ref x8, .int (nI ns), .int (nI nd), .ref x9, .ref y1, .ref y2, .int (nI rm), .ref y3, .ref y4, .ref y5, .ref y6, .ref y7, .int (nI pls)])), (x3, .inl (cI, 16, .inl (fun z_ => nI (G z_)))), (x4, .inl (cI, 16, .inl (fun z_ => nI (C z_)))), (y5, .inl (cI, 6, .inl (fun z_ => nI (DM z_)))), (y6, .inl (cI, 6, .inl (fun z_ => nI (CM z_)))), (y7, .inl (cI, 120, .inl (fun z_ => nI (RO z_))))] sz) := by
  refine z_met_i (cc := cX6_total) (maxL := 4) (by decide) rfl (Nat.le_of_ble_eq_true rfl) ?_
  intro p e s m args below meth c Q A ls hx hb hml hown hts hin hA hK hP hD hN hl hRET
  have hown : s.vm.findClass RX6 = some m.cls := hown
  obtain ⟨H, eH⟩ : ∃ H : Heap, H = s.heap := ⟨_, rfl⟩
  rw [← eH] at hP
  obtain ⟨locs, eL⟩ : ∃ z : List Loc, z = [] := ⟨_, rfl⟩
  rw [← eH, ← eL]
  have hS : va_S A s.heap H locs := by rw [eH, eL]; exact va_S.rf
  have hl : lv_has ls 4 [(0, .ref m0), (1, .int (iI w))] := hl
  have w67 := hts (.fieldLink RX6 67 "PullCardsModel" "arcs" "I") (by decide +kernel)
  have uX6 : ∀ w ∈ wsX60, w ∈ wsX6_total := by decide +kernel
  have w19 := hts (.fieldLink RX6 19 "PullCardsModel" "cards" "[I") (by decide +kernel)
  have w59 := hts (.fieldLink RX6 59 "PullCardsModel" "stations" "I") (by decide +kernel)
  have w151 := hts (.fieldLink RX6 151 "PullCardsModel" "room" "I") (by decide +kernel)
  have w179 := hts (.fieldLink RX6 179 "PullCardsModel" "places" "I") (by decide +kernel)
  refine lv_iconst (v := nI 0) hx hb dX6_total_0 (by decide) ?_
  refine lv_istore_n (lv' := [(2, .int (nI 0)), (0, .ref m0), (1, .int (iI w))]) hx hb dX6_total_1 rfl hl (by decide) rfl (fun ls hl => ?_)
  refine lv_iconst (v := nI 0) hx hb dX6_total_2 (by decide) ?_
  refine lv_istore_n (lv' := [(3, .int (nI 0)), (2, .int (nI 0)), (0, .ref m0), (1, .int (iI w))]) hx hb dX6_total_3 rfl hl (by decide) rfl (fun ls hl => ?_)
  have L4 : ∀ (n4 : Nat) (j : Nat) (n1 : Nat), (K - j) < n4 → (j ≤ K) → (n1 = fb_sm C j) → ∀ (H : Heap) (locs : List Loc), va_P (dC, dI) vwCl [(m0, .inr (6, [.int (nI N), .ref x1, .int (nI K), .ref x2, .ref x3, .ref x4, .int (nI lo), .ref x5, .ref x6, .ref x7, .ref x8, .int (nI ns), .int (nI nd), .ref x9, .ref y1, .ref y2, .int (nI rm), .ref y3, .ref y4, .ref y5, .ref y6, .ref y7, .int (nI pls)])), (x3, .inl (cI, 16, .inl (fun z_ => nI (G z_)))), (x4, .inl (cI, 16, .inl (fun z_ => nI (C z_)))), (y5, .inl (cI, 6, .inl (fun z_ => nI (DM z_)))), (y6, .inl (cI, 6, .inl (fun z_ => nI (CM z_)))), (y7, .inl (cI, 120, .inl (fun z_ => nI (RO z_))))] H → va_D A [(m0, .inr (6, [.int (nI N), .ref x1, .int (nI K), .ref x2, .ref x3, .ref x4, .int (nI lo), .ref x5, .ref x6, .ref x7, .ref x8, .int (nI ns), .int (nI nd), .ref x9, .ref y1, .ref y2, .int (nI rm), .ref y3, .ref y4, .ref y5, .ref y6, .ref y7, .int (nI pls)])), (x3, .inl (cI, 16, .inl (fun z_ => nI (G z_)))), (x4, .inl (cI, 16, .inl (fun z_ => nI (C z_)))), (y5, .inl (cI, 6, .inl (fun z_ => nI (DM z_)))), (y6, .inl (cI, 6, .inl (fun z_ => nI (CM z_)))), (y7, .inl (cI, 120, .inl (fun z_ => nI (RO z_))))] → va_S A s.heap H locs → ∀ (ls : Array Slot), lv_has ls 4 [(0, .ref m0), (1, .int (iI w)), (2, .int (nI n1)), (3, .int (nI j))] → W p l e (zR 2 0 0 45) s m args below meth c H locs 0 0 Q (F0 m 4 ls []) := by
    intro n4
    induction n4 with
    | zero => intro j n1 hn; exact absurd hn (Nat.not_lt_zero _)
    | succ n4 ih =>
      intro j n1 hn i1 i2 H locs hP hD hS ls hl
      have ih4 := ih
      have hn4 := hn
      clear ih hn
      refine lv_iload_n hx hb dX6_total_4 rfl (lv_at hl 3 rfl) ?_
      refine lv_aload_n hx hb dX6_total_5 rfl (lv_at hl 0 rfl) ?_
      refine z_get (D := (dC, dI)) (ci := 6) (v := .int (nI K)) (C := RX6) (T := TX6) (N := 23) hx hb hts uX6 hown hK hP 0 rfl rfl 2 (by decide) w67 rfl rfl dX6_total_6 ?_
      refine z_icmp_ge (tgt := 27) hx hb dX6_total_9 (by decide) (zcn_le (a := K) (b := j) rfl rfl (by omega)) (fun c_9 => ?_) (fun c_9 => ?_)
      · skip
        have hn1 : n1 = fb_sm C K := by rw [i2, show j = K from by omega]
        refine lv_aload_n hx hb dX6_total_27 rfl (lv_at hl 0 rfl) ?_
        refine z_callVi (As := []) (rest := []) (wr := [(x3, .inl (cI, 16, .inl (fun z_ => nI (G z_)))), (x4, .inl (cI, 16, .inl (fun z_ => nI (C z_))))]) ⟨hx, hb, hml, hown, hts⟩ (c_X6_lay l dC dI cI cJ H.size m0 x1 x2 x3 x4 x5 x6 x7 x8 x9 y1 y2 y3 y4 y5 y6 y7 N K lo ns nd rm pls DM CM RO (by first | assumption | omega)) (cwV 0 hts gX6_total_X6_lay rfl rfl rfl (by decide +kernel) ⟨Nat.le_of_ble_eq_true rfl, Nat.le_of_ble_eq_true rfl⟩) hA hK hP hD hS [0, 3, 4, 5] [1, 2] [2, 0, 1, 3, 4, 5] rfl rfl (by decide) (by decide) (by decide) nwA_ok hN (ci := 6) rfl rfl 0 rfl hl.1 (Nat.le_of_ble_eq_true rfl) ⟨Nat.le_refl _, Nat.le_refl _⟩ rfl rfl dX6_total_28 (fun (u : (Nat) × (Nat → Nat) × (Nat → Nat) × (Nat)) => [(m0, .inr (6, [.int (nI N), .ref x1, .int (nI K), .ref x2, .ref x3, .ref x4, .int (nI lo), .ref x5, .ref x6, .ref x7, .ref x8, .int (nI ns), .int (nI nd), .ref x9, .ref y1, .ref y2, .int (nI rm), .ref y3, .ref y4, .ref y5, .ref y6, .ref y7, .int (nI u.2.2.2)])), (x3, .inl (cI, 16, .inl (fun z_ => nI (G z_)))), (x4, .inl (cI, 16, .inl (fun z_ => nI (C z_)))), (y5, .inl (cI, 6, .inl (fun z_ => nI (DM z_)))), (y6, .inl (cI, 6, .inl (fun z_ => nI (u.2.1 z_)))), (y7, .inl (cI, 120, .inl (fun z_ => nI (u.2.2.1 z_))))]) (fun u => rfl) (by decide) (fun r_28 u H locs hw hP hD hS => ?_)
        obtain ⟨rv_28, CM2_28, RO2_28, pls2_28⟩ := u
        have hP : va_P (dC, dI) vwCl [(m0, .inr (6, [.int (nI N), .ref x1, .int (nI K), .ref x2, .ref x3, .ref x4, .int (nI lo), .ref x5, .ref x6, .ref x7, .ref x8, .int (nI ns), .int (nI nd), .ref x9, .ref y1, .ref y2, .int (nI rm), .ref y3, .ref y4, .ref y5, .ref y6, .ref y7, .int (nI pls2_28)])), (x3, .inl (cI, 16, .inl (fun z_ => nI (G z_)))), (x4, .inl (cI, 16, .inl (fun z_ => nI (C z_)))), (y5, .inl (cI, 6, .inl (fun z_ => nI (DM z_)))), (y6, .inl (cI, 6, .inl (fun z_ => nI (CM2_28 z_)))), (y7, .inl (cI, 120, .inl (fun z_ => nI (RO2_28 z_))))] H := hP
        have hD : va_D A [(m0, .inr (6, [.int (nI N), .ref x1, .int (nI K), .ref x2, .ref x3, .ref x4, .int (nI lo), .ref x5, .ref x6, .ref x7, .ref x8, .int (nI ns), .int (nI nd), .ref x9, .ref y1, .ref y2, .int (nI rm), .ref y3, .ref y4, .ref y5, .ref y6, .ref y7, .int (nI pls2_28)])), (x3, .inl (cI, 16, .inl (fun z_ => nI (G z_)))), (x4, .inl (cI, 16, .inl (fun z_ => nI (C z_)))), (y5, .inl (cI, 6, .inl (fun z_ => nI (DM z_)))), (y6, .inl (cI, 6, .inl (fun z_ => nI (CM2_28 z_)))), (y7, .inl (cI, 120, .inl (fun z_ => nI (RO2_28 z_))))] := hD
        obtain ⟨er, p28_0, p28_1, p28_2⟩ := hw
        have p28_0 : rv_28 = sp_rg DM (fb_sm DM 6) (fb_sm DM 6) := p28_0
        have p28_1 : pls2_28 = fb_sm DM 6 := p28_1
        have p28_2 : ∀ q, q < pls2_28 → RO2_28 q = sp_kd DM (fb_sm DM 6) q := p28_2
        have er : r_28 = (nI rv_28) := er
        subst er
        refine lv_istore_n (lv' := [(3, .int (nI rv_28)), (0, .ref m0), (1, .int (iI w)), (2, .int (nI n1))]) hx hb dX6_total_31 rfl hl (by decide) rfl (fun ls hl => ?_)
        refine lv_iload_n hx hb dX6_total_32 rfl (lv_at hl 2 rfl) ?_
        rcases (show (w < 0 ∨ 5 < w) ∨ w = 0 ∨ w = 1 ∨ w = 2 ∨ w = 3 ∨ w = 4 ∨ w = 5 from by omega) with c_33 | c_33 | c_33 | c_33 | c_33 | c_33 | c_33
        · skip
          refine lv_tableOut (tgt := 99) hx hb dX6_total_33 (by rw [iI_t (by omega)]; exact c_33) (by decide) ?_
          refine lv_bipush (v := iI (-2)) hx hb dX6_total_99 (by decide) ?_
          have q_0 : (-2 : Int) = if w = 0 then (N : Int) else if w = 1 then (K : Int) else if w = 2 then (fb_sm C K : Int) else if w = 3 then (rm : Int) else if w = 4 then (fb_sm DM 6 : Int) else if w = 5 then (sp_cnt N K G C : Int) else -2 := by (repeat (first | rw [if_pos (by omega)] | rw [if_neg (by omega)])); try omega
          exact hRET _ ls H locs ((iI (-2))) ((-2 : Int), CM2_28, RO2_28, pls2_28) dX6_total_101 ⟨rfl, q_0⟩ hP hD hS
        · skip
          refine lv_tableIn (tgt := 72) hx hb dX6_total_33 (by rw [iI_t (by omega)]; omega) (by rw [iI_t (by omega)]; omega) (by rw [iI_t (by omega), c_33]; rfl) (by decide) ?_
          refine lv_aload_n hx hb dX6_total_72 rfl (lv_at hl 1 rfl) ?_
          refine z_get (D := (dC, dI)) (ci := 6) (v := .int (nI N)) (C := RX6) (T := TX6) (N := 23) hx hb hts uX6 hown hK hP 0 rfl rfl 0 (by decide) w59 rfl rfl dX6_total_73 ?_
          refine z_c0 (v := iI ((N : Nat) : Int)) (iI_N _) ?_
          have q_0 : ((N : Nat) : Int) = if w = 0 then (N : Int) else if w = 1 then (K : Int) else if w = 2 then (fb_sm C K : Int) else if w = 3 then (rm : Int) else if w = 4 then (fb_sm DM 6 : Int) else if w = 5 then (sp_cnt N K G C : Int) else -2 := by (repeat (first | rw [if_pos (by omega)] | rw [if_neg (by omega)])); try omega
          exact hRET _ ls H locs ((iI ((N : Nat) : Int))) (((N : Nat) : Int), CM2_28, RO2_28, pls2_28) dX6_total_76 ⟨rfl, q_0⟩ hP hD hS
        · skip
          refine lv_tableIn (tgt := 77) hx hb dX6_total_33 (by rw [iI_t (by omega)]; omega) (by rw [iI_t (by omega)]; omega) (by rw [iI_t (by omega), c_33]; rfl) (by decide) ?_
          refine lv_aload_n hx hb dX6_total_77 rfl (lv_at hl 1 rfl) ?_
          refine z_get (D := (dC, dI)) (ci := 6) (v := .int (nI K)) (C := RX6) (T := TX6) (N := 23) hx hb hts uX6 hown hK hP 0 rfl rfl 2 (by decide) w67 rfl rfl dX6_total_78 ?_
          refine z_c0 (v := iI ((K : Nat) : Int)) (iI_N _) ?_
          have q_0 : ((K : Nat) : Int) = if w = 0 then (N : Int) else if w = 1 then (K : Int) else if w = 2 then (fb_sm C K : Int) else if w = 3 then (rm : Int) else if w = 4 then (fb_sm DM 6 : Int) else if w = 5 then (sp_cnt N K G C : Int) else -2 := by (repeat (first | rw [if_pos (by omega)] | rw [if_neg (by omega)])); try omega
          exact hRET _ ls H locs ((iI ((K : Nat) : Int))) (((K : Nat) : Int), CM2_28, RO2_28, pls2_28) dX6_total_81 ⟨rfl, q_0⟩ hP hD hS
        · skip
          refine lv_tableIn (tgt := 82) hx hb dX6_total_33 (by rw [iI_t (by omega)]; omega) (by rw [iI_t (by omega)]; omega) (by rw [iI_t (by omega), c_33]; rfl) (by decide) ?_
          refine lv_iload_n hx hb dX6_total_82 rfl (lv_at hl 3 rfl) ?_
          refine z_c0 (v := iI ((n1 : Nat) : Int)) (iI_N _) ?_
          have q_0 : ((n1 : Nat) : Int) = if w = 0 then (N : Int) else if w = 1 then (K : Int) else if w = 2 then (fb_sm C K : Int) else if w = 3 then (rm : Int) else if w = 4 then (fb_sm DM 6 : Int) else if w = 5 then (sp_cnt N K G C : Int) else -2 := by (repeat (first | rw [if_pos (by omega)] | rw [if_neg (by omega)])); try omega
          exact hRET _ ls H locs ((iI ((n1 : Nat) : Int))) (((n1 : Nat) : Int), CM2_28, RO2_28, pls2_28) dX6_total_83 ⟨rfl, q_0⟩ hP hD hS
        · skip
          refine lv_tableIn (tgt := 84) hx hb dX6_total_33 (by rw [iI_t (by omega)]; omega) (by rw [iI_t (by omega)]; omega) (by rw [iI_t (by omega), c_33]; rfl) (by decide) ?_
          refine lv_aload_n hx hb dX6_total_84 rfl (lv_at hl 1 rfl) ?_
          refine z_get (D := (dC, dI)) (ci := 6) (v := .int (nI rm)) (C := RX6) (T := TX6) (N := 23) hx hb hts uX6 hown hK hP 0 rfl rfl 16 (by decide) w151 rfl rfl dX6_total_85 ?_
          refine z_c0 (v := iI ((rm : Nat) : Int)) (iI_N _) ?_
          have q_0 : ((rm : Nat) : Int) = if w = 0 then (N : Int) else if w = 1 then (K : Int) else if w = 2 then (fb_sm C K : Int) else if w = 3 then (rm : Int) else if w = 4 then (fb_sm DM 6 : Int) else if w = 5 then (sp_cnt N K G C : Int) else -2 := by (repeat (first | rw [if_pos (by omega)] | rw [if_neg (by omega)])); try omega
          exact hRET _ ls H locs ((iI ((rm : Nat) : Int))) (((rm : Nat) : Int), CM2_28, RO2_28, pls2_28) dX6_total_88 ⟨rfl, q_0⟩ hP hD hS
        · skip
          refine lv_tableIn (tgt := 89) hx hb dX6_total_33 (by rw [iI_t (by omega)]; omega) (by rw [iI_t (by omega)]; omega) (by rw [iI_t (by omega), c_33]; rfl) (by decide) ?_
          refine lv_aload_n hx hb dX6_total_89 rfl (lv_at hl 1 rfl) ?_
          refine z_get (D := (dC, dI)) (ci := 6) (v := .int (nI pls2_28)) (C := RX6) (T := TX6) (N := 23) hx hb hts uX6 hown hK hP 0 rfl rfl 22 (by decide) w179 rfl rfl dX6_total_90 ?_
          refine z_c0 (v := iI ((pls2_28 : Nat) : Int)) (iI_N _) ?_
          have q_0 : ((pls2_28 : Nat) : Int) = if w = 0 then (N : Int) else if w = 1 then (K : Int) else if w = 2 then (fb_sm C K : Int) else if w = 3 then (rm : Int) else if w = 4 then (fb_sm DM 6 : Int) else if w = 5 then (sp_cnt N K G C : Int) else -2 := by (repeat (first | rw [if_pos (by omega)] | rw [if_neg (by omega)])); try omega
          exact hRET _ ls H locs ((iI ((pls2_28 : Nat) : Int))) (((pls2_28 : Nat) : Int), CM2_28, RO2_28, pls2_28) dX6_total_93 ⟨rfl, q_0⟩ hP hD hS
        · skip
          refine lv_tableIn (tgt := 94) hx hb dX6_total_33 (by rw [iI_t (by omega)]; omega) (by rw [iI_t (by omega)]; omega) (by rw [iI_t (by omega), c_33]; rfl) (by decide) ?_
          refine lv_aload_n hx hb dX6_total_94 rfl (lv_at hl 1 rfl) ?_
          refine z_callVi (As := []) (rest := []) (wr := [(y5, .inl (cI, 6, .inl (fun z_ => nI (DM z_)))), (y6, .inl (cI, 6, .inl (fun z_ => nI (CM2_28 z_)))), (y7, .inl (cI, 120, .inl (fun z_ => nI (RO2_28 z_))))]) ⟨hx, hb, hml, hown, hts⟩ (c_X6_readyMany l dC dI cI cJ H.size m0 x1 x2 x3 x4 x5 x6 x7 x8 x9 y1 y2 y3 y4 y5 y6 y7 N K lo ns nd rm pls2_28 G C (by first | assumption | omega) (by first | assumption | omega) (by first | assumption | omega) (by first | assumption | omega)) (cwV 0 hts gX6_total_X6_readyMany rfl rfl rfl (by decide +kernel) ⟨Nat.le_of_ble_eq_true rfl, Nat.le_of_ble_eq_true rfl⟩) hA hK hP hD hS [0, 1, 2] [3, 4, 5] [3, 4, 5, 0, 1, 2] rfl rfl (by decide) (by decide) (by decide) nwA_ok hN (ci := 6) rfl rfl 0 rfl hl.1 (Nat.le_of_ble_eq_true rfl) ⟨Nat.le_refl _, Nat.le_refl _⟩ rfl rfl dX6_total_95 (fun (u : (Nat)) => [(m0, .inr (6, [.int (nI N), .ref x1, .int (nI K), .ref x2, .ref x3, .ref x4, .int (nI lo), .ref x5, .ref x6, .ref x7, .ref x8, .int (nI ns), .int (nI nd), .ref x9, .ref y1, .ref y2, .int (nI rm), .ref y3, .ref y4, .ref y5, .ref y6, .ref y7, .int (nI pls2_28)])), (x3, .inl (cI, 16, .inl (fun z_ => nI (G z_)))), (x4, .inl (cI, 16, .inl (fun z_ => nI (C z_)))), (y5, .inl (cI, 6, .inl (fun z_ => nI (DM z_)))), (y6, .inl (cI, 6, .inl (fun z_ => nI (CM2_28 z_)))), (y7, .inl (cI, 120, .inl (fun z_ => nI (RO2_28 z_))))]) (fun u => rfl) (by decide) (fun r_95 u H locs hw hP hD hS => ?_)
          obtain ⟨rv_95, eu⟩ : ∃ z, z = u := ⟨_, rfl⟩
          subst eu
          have hP : va_P (dC, dI) vwCl [(m0, .inr (6, [.int (nI N), .ref x1, .int (nI K), .ref x2, .ref x3, .ref x4, .int (nI lo), .ref x5, .ref x6, .ref x7, .ref x8, .int (nI ns), .int (nI nd), .ref x9, .ref y1, .ref y2, .int (nI rm), .ref y3, .ref y4, .ref y5, .ref y6, .ref y7, .int (nI pls2_28)])), (x3, .inl (cI, 16, .inl (fun z_ => nI (G z_)))), (x4, .inl (cI, 16, .inl (fun z_ => nI (C z_)))), (y5, .inl (cI, 6, .inl (fun z_ => nI (DM z_)))), (y6, .inl (cI, 6, .inl (fun z_ => nI (CM2_28 z_)))), (y7, .inl (cI, 120, .inl (fun z_ => nI (RO2_28 z_))))] H := hP
          have hD : va_D A [(m0, .inr (6, [.int (nI N), .ref x1, .int (nI K), .ref x2, .ref x3, .ref x4, .int (nI lo), .ref x5, .ref x6, .ref x7, .ref x8, .int (nI ns), .int (nI nd), .ref x9, .ref y1, .ref y2, .int (nI rm), .ref y3, .ref y4, .ref y5, .ref y6, .ref y7, .int (nI pls2_28)])), (x3, .inl (cI, 16, .inl (fun z_ => nI (G z_)))), (x4, .inl (cI, 16, .inl (fun z_ => nI (C z_)))), (y5, .inl (cI, 6, .inl (fun z_ => nI (DM z_)))), (y6, .inl (cI, 6, .inl (fun z_ => nI (CM2_28 z_)))), (y7, .inl (cI, 120, .inl (fun z_ => nI (RO2_28 z_))))] := hD
          obtain ⟨er, p95_0⟩ := hw
          have p95_0 : rv_95 = sp_cnt N K G C := p95_0
          have er : r_95 = (nI rv_95) := er
          subst er
          subst p95_0
          refine z_c0 (v := iI (((sp_cnt N K G C) : Nat) : Int)) (iI_N _) ?_
          have q_0 : (((sp_cnt N K G C) : Nat) : Int) = if w = 0 then (N : Int) else if w = 1 then (K : Int) else if w = 2 then (fb_sm C K : Int) else if w = 3 then (rm : Int) else if w = 4 then (fb_sm DM 6 : Int) else if w = 5 then (sp_cnt N K G C : Int) else -2 := by (repeat (first | rw [if_pos (by omega)] | rw [if_neg (by omega)])); try omega
          exact hRET _ ls H locs ((iI (((sp_cnt N K G C) : Nat) : Int))) ((((sp_cnt N K G C) : Nat) : Int), CM2_28, RO2_28, pls2_28) dX6_total_98 ⟨rfl, q_0⟩ hP hD hS
      · skip
        refine lv_iload_n hx hb dX6_total_12 rfl (lv_at hl 2 rfl) ?_
        refine lv_aload_n hx hb dX6_total_13 rfl (lv_at hl 0 rfl) ?_
        refine z_get (D := (dC, dI)) (ci := 6) (v := .ref x4) (C := RX6) (T := TX6) (N := 23) hx hb hts uX6 hown hK hP 0 rfl rfl 5 (by decide) w19 rfl rfl dX6_total_14 ?_
        refine lv_iload_n hx hb dX6_total_17 rfl (lv_at hl 3 rfl) ?_
        refine z_iald (v := (nI (C j))) hx hb hK hP 2 0 rfl rfl j rfl (by omega) rfl dX6_total_18 ?_
        have f18_0 := bC j
        refine z_iadd (v := (nI (n1 + (C j)))) hx hb dX6_total_19 (nI_add _ _) ?_
        refine lv_istore_n (lv' := [(2, .int (nI (n1 + (C j)))), (0, .ref m0), (1, .int (iI w)), (3, .int (nI j))]) hx hb dX6_total_20 rfl hl (by decide) rfl (fun ls hl => ?_)
        refine lv_iinc (v := (nI (j + 1))) (lv' := [(3, .int (nI (j + 1))), (2, .int (nI (n1 + (C j)))), (0, .ref m0), (1, .int (iI w))]) hx hb dX6_total_21 hl (k := 3) rfl (z_incN j 1 (by decide)) (by decide) rfl (fun ls hl => ?_)
        refine lv_goto (tgt := 4) hx hb dX6_total_24 (by decide) ?_
        have o_i1 : (j + 1) ≤ K := by first | assumption | omega
        have o_i2 : (n1 + (C j)) = fb_sm C (j + 1) := by rw [fb_sm_succ, i2]
        have o_mu : (K - (j + 1)) < n4 := by omega
        exact ih4 (j + 1) (n1 + (C j)) o_mu o_i1 o_i2 H locs hP hD hS ls (lv_sub hl [2, 3, 1, 0] rfl)
  have o_i1 : 0 ≤ K := by first | assumption | omega
  have o_i2 : 0 = fb_sm C 0 := by rfl
  exact L4 ((K - 0) + 1) 0 0 (Nat.lt_succ_self _) o_i1 o_i2 H locs hP hD hS ls (lv_sub hl [2, 3, 1, 0] rfl)
