set_option maxHeartbeats 4000000 in
set_option maxRecDepth 100000 in
theorem c_X5_within (l : Launch) (dC : Nat → ClassId) (dI : Nat → Nat → Nat) (cI cJ : ClassId) (sz : Nat) (a : Int) (b : Int) (d : Int) (ba : -2147483648 ≤ a ∧ a < 2147483648) (bb : -2147483648 ≤ b ∧ b < 2147483648) (bd : -2147483648 ≤ d ∧ d < 2147483648) : Met l yX5_within wsX5_within (zR 0 0 0 0) (va_Pc [.int (iI a), .int (iI b), .int (iI d)] (zP (dC, dI) [(cI, .int), (cJ, .long)] [] sz nwA)) (va_Qi (fun (r : Int32) (u : (Nat)) => r = (nI u) ∧ ((u = 1 ∧ (b ≤ a ∧ a ≤ d)) ∨ (u = 0 ∧ ¬ (b ≤ a ∧ a ≤ d)))) (zB (dC, dI) (fun (u : (Nat)) => []) (va_A [] sz)) (va_A [] sz)) 0 0 (va_A [] sz) := by
  refine z_met_z (cc := cX5_within) (maxL := 3) (by decide) rfl (Nat.le_of_ble_eq_true rfl) ?_
  intro p e s m args below meth c Q A ls hx hb hml hown hts hin hA hK hP hD hN hl hRET
  have hown : s.vm.findClass RX5 = some m.cls := hown
  obtain ⟨H, eH⟩ : ∃ H : Heap, H = s.heap := ⟨_, rfl⟩
  rw [← eH] at hP
  obtain ⟨locs, eL⟩ : ∃ z : List Loc, z = [] := ⟨_, rfl⟩
  rw [← eH, ← eL]
  have hS : va_S A s.heap H locs := by rw [eH, eL]; exact va_S.rf
  have hl : lv_has ls 3 [(0, .int (iI a)), (1, .int (iI b)), (2, .int (iI d))] := hl
  refine lv_iload_n hx hb dX5_within_0 rfl (lv_at hl 0 rfl) ?_
  refine lv_iload_n hx hb dX5_within_1 rfl (lv_at hl 1 rfl) ?_
  refine z_icmp_lt (tgt := 14) hx hb dX5_within_2 (by decide) (zc_lt (a := a) (b := b) rfl rfl (by omega)) (fun c_2 => ?_) (fun c_2 => ?_)
  · skip
    refine lv_iconst (v := nI 0) hx hb dX5_within_14 (by decide) ?_
    have q_0 : (0 = 1 ∧ (b ≤ a ∧ a ≤ d)) ∨ (0 = 0 ∧ ¬ (b ≤ a ∧ a ≤ d)) := by omega
    exact hRET _ ls H locs ((nI 0)) (0) dX5_within_15 (by decide) ⟨rfl, q_0⟩ hP hD hS
  · skip
    refine lv_iload_n hx hb dX5_within_5 rfl (lv_at hl 0 rfl) ?_
    refine lv_iload_n hx hb dX5_within_6 rfl (lv_at hl 2 rfl) ?_
    refine z_icmp_gt (tgt := 14) hx hb dX5_within_7 (by decide) (zc_lt (a := d) (b := a) rfl rfl (by omega)) (fun c_7 => ?_) (fun c_7 => ?_)
    · skip
      refine lv_iconst (v := nI 0) hx hb dX5_within_14 (by decide) ?_
      have q_0 : (0 = 1 ∧ (b ≤ a ∧ a ≤ d)) ∨ (0 = 0 ∧ ¬ (b ≤ a ∧ a ≤ d)) := by omega
      exact hRET _ ls H locs ((nI 0)) (0) dX5_within_15 (by decide) ⟨rfl, q_0⟩ hP hD hS
    · skip
      refine lv_iconst (v := nI 1) hx hb dX5_within_10 (by decide) ?_
      refine lv_goto (tgt := 15) hx hb dX5_within_11 (by decide) ?_
      have q_0 : (1 = 1 ∧ (b ≤ a ∧ a ≤ d)) ∨ (1 = 0 ∧ ¬ (b ≤ a ∧ a ≤ d)) := by omega
      exact hRET _ ls H locs ((nI 1)) (1) dX5_within_15 (by decide) ⟨rfl, q_0⟩ hP hD hS

set_option maxHeartbeats 4000000 in
set_option maxRecDepth 100000 in
theorem c_X0_hasStation (l : Launch) (dC : Nat → ClassId) (dI : Nat → Nat → Nat) (cI cJ : ClassId) (sz : Nat) (h0 : Nat) (a1 : Nat) (a2 : Nat) (a3 : Nat) (a4 : Nat) (N : Nat) (K : Nat) (T : Nat → Nat) (F : Nat → Nat) (G : Nat → Nat) (C : Nat → Nat) (z : Int) (bN : N ≤ 8) (bK : K ≤ 16) (bz : -2147483648 ≤ z ∧ z < 2147483648) : Met l yX0_hasStation wsX0_hasStation (zR 1 0 0 22) (va_Pc [.ref h0, .int (iI z)] (zP (dC, dI) [(cI, .int), (cJ, .long)] [(h0, .inr (0, [.ref a1, .ref a2, .ref a3, .ref a4, .int (nI N), .int (nI K)])), (a1, .inl (cI, 8, .inl (fun z_ => nI (T z_)))), (a2, .inl (cI, 16, .inl (fun z_ => nI (F z_)))), (a3, .inl (cI, 16, .inl (fun z_ => nI (G z_)))), (a4, .inl (cI, 16, .inl (fun z_ => nI (C z_))))] sz nwA)) (va_Qi (fun (r : Int32) (u : (Nat)) => r = (nI u) ∧ ((u = 1 ∧ (0 ≤ z ∧ z < (N : Int))) ∨ (u = 0 ∧ ¬ (0 ≤ z ∧ z < (N : Int))))) (zB (dC, dI) (fun (u : (Nat)) => [(h0, .inr (0, [.ref a1, .ref a2, .ref a3, .ref a4, .int (nI N), .int (nI K)])), (a1, .inl (cI, 8, .inl (fun z_ => nI (T z_)))), (a2, .inl (cI, 16, .inl (fun z_ => nI (F z_)))), (a3, .inl (cI, 16, .inl (fun z_ => nI (G z_)))), (a4, .inl (cI, 16, .inl (fun z_ => nI (C z_))))]) (va_A [(h0, .inr (0, [.ref a1, .ref a2, .ref a3, .ref a4, .int (nI N), .int (nI K)])), (a1, .inl (cI, 8, .inl (fun z_ => nI (T z_)))), (a2, .inl (cI, 16, .inl (fun z_ => nI (F z_)))), (a3, .inl (cI, 16, .inl (fun z_ => nI (G z_)))), (a4, .inl (cI, 16, .inl (fun z_ => nI (C z_))))] sz)) (va_A [(h0, .inr (0, [.ref a1, .ref a2, .ref a3, .ref a4, .int (nI N), .int (nI K)])), (a1, .inl (cI, 8, .inl (fun z_ => nI (T z_)))), (a2, .inl (cI, 16, .inl (fun z_ => nI (F z_)))), (a3, .inl (cI, 16, .inl (fun z_ => nI (G z_)))), (a4, .inl (cI, 16, .inl (fun z_ => nI (C z_))))] sz)) 0 0 (va_A [(h0, .inr (0, [.ref a1, .ref a2, .ref a3, .ref a4, .int (nI N), .int (nI K)])), (a1, .inl (cI, 8, .inl (fun z_ => nI (T z_)))), (a2, .inl (cI, 16, .inl (fun z_ => nI (F z_)))), (a3, .inl (cI, 16, .inl (fun z_ => nI (G z_)))), (a4, .inl (cI, 16, .inl (fun z_ => nI (C z_))))] sz) := by
  refine z_met_z (cc := cX0_hasStation) (maxL := 2) (by decide) rfl (Nat.le_of_ble_eq_true rfl) ?_
  intro p e s m args below meth c Q A ls hx hb hml hown hts hin hA hK hP hD hN hl hRET
  have hown : s.vm.findClass RX0 = some m.cls := hown
  obtain ⟨H, eH⟩ : ∃ H : Heap, H = s.heap := ⟨_, rfl⟩
  rw [← eH] at hP
  obtain ⟨locs, eL⟩ : ∃ z : List Loc, z = [] := ⟨_, rfl⟩
  rw [← eH, ← eL]
  have hS : va_S A s.heap H locs := by rw [eH, eL]; exact va_S.rf
  have hl : lv_has ls 2 [(0, .ref h0), (1, .int (iI z))] := hl
  have w24 := hts (.fieldLink RX0 24 "PullCards$Line" "stations" "I") (by decide +kernel)
  have uX0 : ∀ w ∈ wsX00, w ∈ wsX0_hasStation := by decide +kernel
  refine lv_iload_n hx hb dX0_hasStation_0 rfl (lv_at hl 1 rfl) ?_
  refine lv_iconst (v := nI 0) hx hb dX0_hasStation_1 (by decide) ?_
  refine lv_aload_n hx hb dX0_hasStation_2 rfl (lv_at hl 0 rfl) ?_
  refine z_get (D := (dC, dI)) (ci := 0) (v := .int (nI N)) (C := RX0) (T := TX0) (N := 6) hx hb hts uX0 hown hK hP 0 rfl rfl 4 (by decide) w24 rfl rfl dX0_hasStation_3 ?_
  refine lv_iconst (v := nI 1) hx hb dX0_hasStation_6 (by decide) ?_
  refine z_isub (v := (iI (((N : Nat) : Int) - 1))) hx hb dX0_hasStation_7 (za_sub (iI_N _) (iI_N _)) ?_
  refine z_c1 (v := iI 0) (by decide) ?_
  refine z_callSNi (As := [.int (iI z), .int (iI 0), .int (iI (((N : Nat) : Int) - 1))]) (rest := []) (wr := [(h0, .inr (0, [.ref a1, .ref a2, .ref a3, .ref a4, .int (nI N), .int (nI K)])), (a1, .inl (cI, 8, .inl (fun z_ => nI (T z_)))), (a2, .inl (cI, 16, .inl (fun z_ => nI (F z_)))), (a3, .inl (cI, 16, .inl (fun z_ => nI (G z_)))), (a4, .inl (cI, 16, .inl (fun z_ => nI (C z_))))]) ⟨hx, hb, hml, hown, hts⟩ (c_X5_within l dC dI cI cJ H.size z (0 : Int) (((N : Nat) : Int) - 1) (by first | assumption | omega) (by first | assumption | omega) (by first | assumption | omega)) ⟨va_cnB 3 hts gX0_hasStation_X5_within_n28 rfl rfl rfl (hN _ (List.mem_of_getElem? (i := 3) rfl)) (hts (.initialized RX5) (by decide +kernel)) (by decide +kernel) ⟨Nat.le_of_ble_eq_true rfl, Nat.le_of_ble_eq_true rfl⟩, hts (.static yX5_within) (by decide +kernel), trivial⟩ hA hK hP hD hS [] [0, 1, 2, 3, 4] [0, 1, 2, 3, 4] rfl rfl (by decide) (by decide) (by decide) nwA_ok hN hl.1 (Nat.le_of_ble_eq_true rfl) ⟨Nat.le_refl _, Nat.le_refl _⟩ rfl rfl dX0_hasStation_8 (fun (u : (Nat)) => [(h0, .inr (0, [.ref a1, .ref a2, .ref a3, .ref a4, .int (nI N), .int (nI K)])), (a1, .inl (cI, 8, .inl (fun z_ => nI (T z_)))), (a2, .inl (cI, 16, .inl (fun z_ => nI (F z_)))), (a3, .inl (cI, 16, .inl (fun z_ => nI (G z_)))), (a4, .inl (cI, 16, .inl (fun z_ => nI (C z_))))]) (fun u => rfl) (by decide) (fun r_8 u H locs hw hP hD hS => ?_)
  obtain ⟨rv_8, eu⟩ : ∃ z, z = u := ⟨_, rfl⟩
  subst eu
  have hP : va_P (dC, dI) vwCl [(h0, .inr (0, [.ref a1, .ref a2, .ref a3, .ref a4, .int (nI N), .int (nI K)])), (a1, .inl (cI, 8, .inl (fun z_ => nI (T z_)))), (a2, .inl (cI, 16, .inl (fun z_ => nI (F z_)))), (a3, .inl (cI, 16, .inl (fun z_ => nI (G z_)))), (a4, .inl (cI, 16, .inl (fun z_ => nI (C z_))))] H := hP
  have hD : va_D A [(h0, .inr (0, [.ref a1, .ref a2, .ref a3, .ref a4, .int (nI N), .int (nI K)])), (a1, .inl (cI, 8, .inl (fun z_ => nI (T z_)))), (a2, .inl (cI, 16, .inl (fun z_ => nI (F z_)))), (a3, .inl (cI, 16, .inl (fun z_ => nI (G z_)))), (a4, .inl (cI, 16, .inl (fun z_ => nI (C z_))))] := hD
  obtain ⟨er, p8_0⟩ := hw
  have p8_0 : (rv_8 = 1 ∧ ((0 : Int) ≤ z ∧ z ≤ (((N : Nat) : Int) - 1))) ∨ (rv_8 = 0 ∧ ¬ ((0 : Int) ≤ z ∧ z ≤ (((N : Nat) : Int) - 1))) := p8_0
  have er : r_8 = (nI rv_8) := er
  subst er
  have q_0 : (rv_8 = 1 ∧ (0 ≤ z ∧ z < (N : Int))) ∨ (rv_8 = 0 ∧ ¬ (0 ≤ z ∧ z < (N : Int))) := by omega
  exact hRET _ ls H locs ((nI rv_8)) (rv_8) dX0_hasStation_11 (by exact z_nb (by omega)) ⟨rfl, q_0⟩ hP hD hS

set_option maxHeartbeats 4000000 in
set_option maxRecDepth 100000 in
theorem c_X0_hasArc (l : Launch) (dC : Nat → ClassId) (dI : Nat → Nat → Nat) (cI cJ : ClassId) (sz : Nat) (h0 : Nat) (a1 : Nat) (a2 : Nat) (a3 : Nat) (a4 : Nat) (N : Nat) (K : Nat) (T : Nat → Nat) (F : Nat → Nat) (G : Nat → Nat) (C : Nat → Nat) (z : Int) (bN : N ≤ 8) (bK : K ≤ 16) (bz : -2147483648 ≤ z ∧ z < 2147483648) : Met l yX0_hasArc wsX0_hasArc (zR 1 0 0 22) (va_Pc [.ref h0, .int (iI z)] (zP (dC, dI) [(cI, .int), (cJ, .long)] [(h0, .inr (0, [.ref a1, .ref a2, .ref a3, .ref a4, .int (nI N), .int (nI K)])), (a1, .inl (cI, 8, .inl (fun z_ => nI (T z_)))), (a2, .inl (cI, 16, .inl (fun z_ => nI (F z_)))), (a3, .inl (cI, 16, .inl (fun z_ => nI (G z_)))), (a4, .inl (cI, 16, .inl (fun z_ => nI (C z_))))] sz nwA)) (va_Qi (fun (r : Int32) (u : (Nat)) => r = (nI u) ∧ ((u = 1 ∧ (0 ≤ z ∧ z < (K : Int))) ∨ (u = 0 ∧ ¬ (0 ≤ z ∧ z < (K : Int))))) (zB (dC, dI) (fun (u : (Nat)) => [(h0, .inr (0, [.ref a1, .ref a2, .ref a3, .ref a4, .int (nI N), .int (nI K)])), (a1, .inl (cI, 8, .inl (fun z_ => nI (T z_)))), (a2, .inl (cI, 16, .inl (fun z_ => nI (F z_)))), (a3, .inl (cI, 16, .inl (fun z_ => nI (G z_)))), (a4, .inl (cI, 16, .inl (fun z_ => nI (C z_))))]) (va_A [(h0, .inr (0, [.ref a1, .ref a2, .ref a3, .ref a4, .int (nI N), .int (nI K)])), (a1, .inl (cI, 8, .inl (fun z_ => nI (T z_)))), (a2, .inl (cI, 16, .inl (fun z_ => nI (F z_)))), (a3, .inl (cI, 16, .inl (fun z_ => nI (G z_)))), (a4, .inl (cI, 16, .inl (fun z_ => nI (C z_))))] sz)) (va_A [(h0, .inr (0, [.ref a1, .ref a2, .ref a3, .ref a4, .int (nI N), .int (nI K)])), (a1, .inl (cI, 8, .inl (fun z_ => nI (T z_)))), (a2, .inl (cI, 16, .inl (fun z_ => nI (F z_)))), (a3, .inl (cI, 16, .inl (fun z_ => nI (G z_)))), (a4, .inl (cI, 16, .inl (fun z_ => nI (C z_))))] sz)) 0 0 (va_A [(h0, .inr (0, [.ref a1, .ref a2, .ref a3, .ref a4, .int (nI N), .int (nI K)])), (a1, .inl (cI, 8, .inl (fun z_ => nI (T z_)))), (a2, .inl (cI, 16, .inl (fun z_ => nI (F z_)))), (a3, .inl (cI, 16, .inl (fun z_ => nI (G z_)))), (a4, .inl (cI, 16, .inl (fun z_ => nI (C z_))))] sz) := by
  refine z_met_z (cc := cX0_hasArc) (maxL := 2) (by decide) rfl (Nat.le_of_ble_eq_true rfl) ?_
  intro p e s m args below meth c Q A ls hx hb hml hown hts hin hA hK hP hD hN hl hRET
  have hown : s.vm.findClass RX0 = some m.cls := hown
  obtain ⟨H, eH⟩ : ∃ H : Heap, H = s.heap := ⟨_, rfl⟩
  rw [← eH] at hP
  obtain ⟨locs, eL⟩ : ∃ z : List Loc, z = [] := ⟨_, rfl⟩
  rw [← eH, ← eL]
  have hS : va_S A s.heap H locs := by rw [eH, eL]; exact va_S.rf
  have hl : lv_has ls 2 [(0, .ref h0), (1, .int (iI z))] := hl
  have w32 := hts (.fieldLink RX0 32 "PullCards$Line" "arcs" "I") (by decide +kernel)
  have uX0 : ∀ w ∈ wsX00, w ∈ wsX0_hasArc := by decide +kernel
  refine lv_iload_n hx hb dX0_hasArc_0 rfl (lv_at hl 1 rfl) ?_
  refine lv_iconst (v := nI 0) hx hb dX0_hasArc_1 (by decide) ?_
  refine lv_aload_n hx hb dX0_hasArc_2 rfl (lv_at hl 0 rfl) ?_
  refine z_get (D := (dC, dI)) (ci := 0) (v := .int (nI K)) (C := RX0) (T := TX0) (N := 6) hx hb hts uX0 hown hK hP 0 rfl rfl 5 (by decide) w32 rfl rfl dX0_hasArc_3 ?_
  refine lv_iconst (v := nI 1) hx hb dX0_hasArc_6 (by decide) ?_
  refine z_isub (v := (iI (((K : Nat) : Int) - 1))) hx hb dX0_hasArc_7 (za_sub (iI_N _) (iI_N _)) ?_
  refine z_c1 (v := iI 0) (by decide) ?_
  refine z_callSNi (As := [.int (iI z), .int (iI 0), .int (iI (((K : Nat) : Int) - 1))]) (rest := []) (wr := [(h0, .inr (0, [.ref a1, .ref a2, .ref a3, .ref a4, .int (nI N), .int (nI K)])), (a1, .inl (cI, 8, .inl (fun z_ => nI (T z_)))), (a2, .inl (cI, 16, .inl (fun z_ => nI (F z_)))), (a3, .inl (cI, 16, .inl (fun z_ => nI (G z_)))), (a4, .inl (cI, 16, .inl (fun z_ => nI (C z_))))]) ⟨hx, hb, hml, hown, hts⟩ (c_X5_within l dC dI cI cJ H.size z (0 : Int) (((K : Nat) : Int) - 1) (by first | assumption | omega) (by first | assumption | omega) (by first | assumption | omega)) ⟨va_cnB 3 hts gX0_hasArc_X5_within_n28 rfl rfl rfl (hN _ (List.mem_of_getElem? (i := 3) rfl)) (hts (.initialized RX5) (by decide +kernel)) (by decide +kernel) ⟨Nat.le_of_ble_eq_true rfl, Nat.le_of_ble_eq_true rfl⟩, hts (.static yX5_within) (by decide +kernel), trivial⟩ hA hK hP hD hS [] [0, 1, 2, 3, 4] [0, 1, 2, 3, 4] rfl rfl (by decide) (by decide) (by decide) nwA_ok hN hl.1 (Nat.le_of_ble_eq_true rfl) ⟨Nat.le_refl _, Nat.le_refl _⟩ rfl rfl dX0_hasArc_8 (fun (u : (Nat)) => [(h0, .inr (0, [.ref a1, .ref a2, .ref a3, .ref a4, .int (nI N), .int (nI K)])), (a1, .inl (cI, 8, .inl (fun z_ => nI (T z_)))), (a2, .inl (cI, 16, .inl (fun z_ => nI (F z_)))), (a3, .inl (cI, 16, .inl (fun z_ => nI (G z_)))), (a4, .inl (cI, 16, .inl (fun z_ => nI (C z_))))]) (fun u => rfl) (by decide) (fun r_8 u H locs hw hP hD hS => ?_)
  obtain ⟨rv_8, eu⟩ : ∃ z, z = u := ⟨_, rfl⟩
  subst eu
  have hP : va_P (dC, dI) vwCl [(h0, .inr (0, [.ref a1, .ref a2, .ref a3, .ref a4, .int (nI N), .int (nI K)])), (a1, .inl (cI, 8, .inl (fun z_ => nI (T z_)))), (a2, .inl (cI, 16, .inl (fun z_ => nI (F z_)))), (a3, .inl (cI, 16, .inl (fun z_ => nI (G z_)))), (a4, .inl (cI, 16, .inl (fun z_ => nI (C z_))))] H := hP
  have hD : va_D A [(h0, .inr (0, [.ref a1, .ref a2, .ref a3, .ref a4, .int (nI N), .int (nI K)])), (a1, .inl (cI, 8, .inl (fun z_ => nI (T z_)))), (a2, .inl (cI, 16, .inl (fun z_ => nI (F z_)))), (a3, .inl (cI, 16, .inl (fun z_ => nI (G z_)))), (a4, .inl (cI, 16, .inl (fun z_ => nI (C z_))))] := hD
  obtain ⟨er, p8_0⟩ := hw
  have p8_0 : (rv_8 = 1 ∧ ((0 : Int) ≤ z ∧ z ≤ (((K : Nat) : Int) - 1))) ∨ (rv_8 = 0 ∧ ¬ ((0 : Int) ≤ z ∧ z ≤ (((K : Nat) : Int) - 1))) := p8_0
  have er : r_8 = (nI rv_8) := er
  subst er
  have q_0 : (rv_8 = 1 ∧ (0 ≤ z ∧ z < (K : Int))) ∨ (rv_8 = 0 ∧ ¬ (0 ≤ z ∧ z < (K : Int))) := by omega
  exact hRET _ ls H locs ((nI rv_8)) (rv_8) dX0_hasArc_11 (by exact z_nb (by omega)) ⟨rfl, q_0⟩ hP hD hS

set_option maxHeartbeats 4000000 in
set_option maxRecDepth 100000 in
theorem c_X0_addStation (l : Launch) (dC : Nat → ClassId) (dI : Nat → Nat → Nat) (cI cJ : ClassId) (sz : Nat) (h0 : Nat) (a1 : Nat) (a2 : Nat) (a3 : Nat) (a4 : Nat) (N : Nat) (K : Nat) (T : Nat → Nat) (F : Nat → Nat) (G : Nat → Nat) (C : Nat → Nat) (t : Nat) (bN : N < 8) : Met l yX0_addStation wsX0_addStation (zR 0 0 0 0) (va_Pc [.ref h0, .int (nI t)] (zP (dC, dI) [(cI, .int), (cJ, .long)] [(h0, .inr (0, [.ref a1, .ref a2, .ref a3, .ref a4, .int (nI N), .int (nI K)])), (a1, .inl (cI, 8, .inl (fun z_ => nI (T z_)))), (a2, .inl (cI, 16, .inl (fun z_ => nI (F z_)))), (a3, .inl (cI, 16, .inl (fun z_ => nI (G z_)))), (a4, .inl (cI, 16, .inl (fun z_ => nI (C z_))))] sz nwA)) (va_Qi (fun (r : Int32) (u : Unit) => r = (nI N)) (zB (dC, dI) (fun (u : Unit) => [(h0, .inr (0, [.ref a1, .ref a2, .ref a3, .ref a4, .int (nI (N + 1)), .int (nI K)])), (a1, .inl (cI, 8, .inl (fun z_ => nI ((up T N t) z_)))), (a2, .inl (cI, 16, .inl (fun z_ => nI (F z_)))), (a3, .inl (cI, 16, .inl (fun z_ => nI (G z_)))), (a4, .inl (cI, 16, .inl (fun z_ => nI (C z_))))]) (va_A [(h0, .inr (0, [.ref a1, .ref a2, .ref a3, .ref a4, .int (nI N), .int (nI K)])), (a1, .inl (cI, 8, .inl (fun z_ => nI (T z_)))), (a2, .inl (cI, 16, .inl (fun z_ => nI (F z_)))), (a3, .inl (cI, 16, .inl (fun z_ => nI (G z_)))), (a4, .inl (cI, 16, .inl (fun z_ => nI (C z_))))] sz)) (va_A [(h0, .inr (0, [.ref a1, .ref a2, .ref a3, .ref a4, .int (nI N), .int (nI K)])), (a1, .inl (cI, 8, .inl (fun z_ => nI (T z_)))), (a2, .inl (cI, 16, .inl (fun z_ => nI (F z_)))), (a3, .inl (cI, 16, .inl (fun z_ => nI (G z_)))), (a4, .inl (cI, 16, .inl (fun z_ => nI (C z_))))] sz)) 0 0 (va_A [(h0, .inr (0, [.ref a1, .ref a2, .ref a3, .ref a4, .int (nI N), .int (nI K)])), (a1, .inl (cI, 8, .inl (fun z_ => nI (T z_)))), (a2, .inl (cI, 16, .inl (fun z_ => nI (F z_)))), (a3, .inl (cI, 16, .inl (fun z_ => nI (G z_)))), (a4, .inl (cI, 16, .inl (fun z_ => nI (C z_))))] sz) := by
  refine z_met_i (cc := cX0_addStation) (maxL := 2) (by decide) rfl (Nat.le_of_ble_eq_true rfl) ?_
  intro p e s m args below meth c Q A ls hx hb hml hown hts hin hA hK hP hD hN hl hRET
  have hown : s.vm.findClass RX0 = some m.cls := hown
  obtain ⟨H, eH⟩ : ∃ H : Heap, H = s.heap := ⟨_, rfl⟩
  rw [← eH] at hP
  obtain ⟨locs, eL⟩ : ∃ z : List Loc, z = [] := ⟨_, rfl⟩
  rw [← eH, ← eL]
  have hS : va_S A s.heap H locs := by rw [eH, eL]; exact va_S.rf
  have hl : lv_has ls 2 [(0, .ref h0), (1, .int (nI t))] := hl
  have w9 := hts (.fieldLink RX0 9 "PullCards$Line" "times" "[I") (by decide +kernel)
  have uX0 : ∀ w ∈ wsX00, w ∈ wsX0_addStation := by decide +kernel
  have w24 := hts (.fieldLink RX0 24 "PullCards$Line" "stations" "I") (by decide +kernel)
  refine lv_aload_n hx hb dX0_addStation_0 rfl (lv_at hl 0 rfl) ?_
  refine z_get (D := (dC, dI)) (ci := 0) (v := .ref a1) (C := RX0) (T := TX0) (N := 6) hx hb hts uX0 hown hK hP 0 rfl rfl 0 (by decide) w9 rfl rfl dX0_addStation_1 ?_
  refine lv_aload_n hx hb dX0_addStation_4 rfl (lv_at hl 0 rfl) ?_
  refine z_get (D := (dC, dI)) (ci := 0) (v := .int (nI N)) (C := RX0) (T := TX0) (N := 6) hx hb hts uX0 hown hK hP 0 rfl rfl 4 (by decide) w24 rfl rfl dX0_addStation_5 ?_
  refine lv_iload_n hx hb dX0_addStation_8 rfl (lv_at hl 1 rfl) ?_
  refine z_iast hx hb hK hP hD hS 1 0 rfl rfl N rfl (by omega) (upd_N T N t) [(h0, .inr (0, [.ref a1, .ref a2, .ref a3, .ref a4, .int (nI N), .int (nI K)])), (a1, .inl (cI, 8, .inl (fun z_ => nI ((up T N t) z_)))), (a2, .inl (cI, 16, .inl (fun z_ => nI (F z_)))), (a3, .inl (cI, 16, .inl (fun z_ => nI (G z_)))), (a4, .inl (cI, 16, .inl (fun z_ => nI (C z_))))] rfl dX0_addStation_9 (fun H locs hP hD hS => ?_)
  refine lv_aload_n hx hb dX0_addStation_10 rfl (lv_at hl 0 rfl) ?_
  refine lv_dup hx hb dX0_addStation_11 rfl ?_
  refine z_get (D := (dC, dI)) (ci := 0) (v := .int (nI N)) (C := RX0) (T := TX0) (N := 6) hx hb hts uX0 hown hK hP 0 rfl rfl 4 (by decide) w24 rfl rfl dX0_addStation_12 ?_
  refine lv_dup_x1 hx hb dX0_addStation_15 rfl rfl ?_
  refine lv_iconst (v := nI 1) hx hb dX0_addStation_16 (by decide) ?_
  refine z_iadd (v := (nI (N + 1))) hx hb dX0_addStation_17 (nI_add _ _) ?_
  refine z_put (D := (dC, dI)) (ci := 0) (v := .int (nI (N + 1))) (C := RX0) (T := TX0) (N := 6) hx hb hts uX0 tyX0 tyX0_ok nmX0 hown hK hP hD hS 0 rfl rfl 4 (by decide) w24 rfl rfl rfl rfl (Nat.le_of_ble_eq_true rfl) [(h0, .inr (0, [.ref a1, .ref a2, .ref a3, .ref a4, .int (nI (N + 1)), .int (nI K)])), (a1, .inl (cI, 8, .inl (fun z_ => nI ((up T N t) z_)))), (a2, .inl (cI, 16, .inl (fun z_ => nI (F z_)))), (a3, .inl (cI, 16, .inl (fun z_ => nI (G z_)))), (a4, .inl (cI, 16, .inl (fun z_ => nI (C z_))))] rfl dX0_addStation_18 (fun H locs hP hD hS => ?_)
  exact hRET _ ls H locs ((nI N)) () dX0_addStation_21 rfl hP hD hS

set_option maxHeartbeats 4000000 in
set_option maxRecDepth 100000 in
theorem c_X0_addArc (l : Launch) (dC : Nat → ClassId) (dI : Nat → Nat → Nat) (cI cJ : ClassId) (sz : Nat) (h0 : Nat) (a1 : Nat) (a2 : Nat) (a3 : Nat) (a4 : Nat) (N : Nat) (K : Nat) (T : Nat → Nat) (F : Nat → Nat) (G : Nat → Nat) (C : Nat → Nat) (f : Nat) (g : Nat) (k : Nat) (bK : K < 16) : Met l yX0_addArc wsX0_addArc (zR 0 0 0 0) (va_Pc [.ref h0, .int (nI f), .int (nI g), .int (nI k)] (zP (dC, dI) [(cI, .int), (cJ, .long)] [(h0, .inr (0, [.ref a1, .ref a2, .ref a3, .ref a4, .int (nI N), .int (nI K)])), (a1, .inl (cI, 8, .inl (fun z_ => nI (T z_)))), (a2, .inl (cI, 16, .inl (fun z_ => nI (F z_)))), (a3, .inl (cI, 16, .inl (fun z_ => nI (G z_)))), (a4, .inl (cI, 16, .inl (fun z_ => nI (C z_))))] sz nwA)) (va_Qi (fun (r : Int32) (u : Unit) => r = (nI K)) (zB (dC, dI) (fun (u : Unit) => [(h0, .inr (0, [.ref a1, .ref a2, .ref a3, .ref a4, .int (nI N), .int (nI (K + 1))])), (a1, .inl (cI, 8, .inl (fun z_ => nI (T z_)))), (a2, .inl (cI, 16, .inl (fun z_ => nI ((up F K f) z_)))), (a3, .inl (cI, 16, .inl (fun z_ => nI ((up G K g) z_)))), (a4, .inl (cI, 16, .inl (fun z_ => nI ((up C K k) z_))))]) (va_A [(h0, .inr (0, [.ref a1, .ref a2, .ref a3, .ref a4, .int (nI N), .int (nI K)])), (a1, .inl (cI, 8, .inl (fun z_ => nI (T z_)))), (a2, .inl (cI, 16, .inl (fun z_ => nI (F z_)))), (a3, .inl (cI, 16, .inl (fun z_ => nI (G z_)))), (a4, .inl (cI, 16, .inl (fun z_ => nI (C z_))))] sz)) (va_A [(h0, .inr (0, [.ref a1, .ref a2, .ref a3, .ref a4, .int (nI N), .int (nI K)])), (a1, .inl (cI, 8, .inl (fun z_ => nI (T z_)))), (a2, .inl (cI, 16, .inl (fun z_ => nI (F z_)))), (a3, .inl (cI, 16, .inl (fun z_ => nI (G z_)))), (a4, .inl (cI, 16, .inl (fun z_ => nI (C z_))))] sz)) 0 0 (va_A [(h0, .inr (0, [.ref a1, .ref a2, .ref a3, .ref a4, .int (nI N), .int (nI K)])), (a1, .inl (cI, 8, .inl (fun z_ => nI (T z_)))), (a2, .inl (cI, 16, .inl (fun z_ => nI (F z_)))), (a3, .inl (cI, 16, .inl (fun z_ => nI (G z_)))), (a4, .inl (cI, 16, .inl (fun z_ => nI (C z_))))] sz) := by
  refine z_met_i (cc := cX0_addArc) (maxL := 4) (by decide) rfl (Nat.le_of_ble_eq_true rfl) ?_
  intro p e s m args below meth c Q A ls hx hb hml hown hts hin hA hK hP hD hN hl hRET
  have hown : s.vm.findClass RX0 = some m.cls := hown
  obtain ⟨H, eH⟩ : ∃ H : Heap, H = s.heap := ⟨_, rfl⟩
  rw [← eH] at hP
  obtain ⟨locs, eL⟩ : ∃ z : List Loc, z = [] := ⟨_, rfl⟩
  rw [← eH, ← eL]
  have hS : va_S A s.heap H locs := by rw [eH, eL]; exact va_S.rf
  have hl : lv_has ls 4 [(0, .ref h0), (1, .int (nI f)), (2, .int (nI g)), (3, .int (nI k))] := hl
  have w15 := hts (.fieldLink RX0 15 "PullCards$Line" "froms" "[I") (by decide +kernel)
  have uX0 : ∀ w ∈ wsX00, w ∈ wsX0_addArc := by decide +kernel
  have w32 := hts (.fieldLink RX0 32 "PullCards$Line" "arcs" "I") (by decide +kernel)
  have w18 := hts (.fieldLink RX0 18 "PullCards$Line" "tos" "[I") (by decide +kernel)
  have w21 := hts (.fieldLink RX0 21 "PullCards$Line" "cards" "[I") (by decide +kernel)
  refine lv_aload_n hx hb dX0_addArc_0 rfl (lv_at hl 0 rfl) ?_
  refine z_get (D := (dC, dI)) (ci := 0) (v := .ref a2) (C := RX0) (T := TX0) (N := 6) hx hb hts uX0 hown hK hP 0 rfl rfl 1 (by decide) w15 rfl rfl dX0_addArc_1 ?_
  refine lv_aload_n hx hb dX0_addArc_4 rfl (lv_at hl 0 rfl) ?_
  refine z_get (D := (dC, dI)) (ci := 0) (v := .int (nI K)) (C := RX0) (T := TX0) (N := 6) hx hb hts uX0 hown hK hP 0 rfl rfl 5 (by decide) w32 rfl rfl dX0_addArc_5 ?_
  refine lv_iload_n hx hb dX0_addArc_8 rfl (lv_at hl 1 rfl) ?_
  refine z_iast hx hb hK hP hD hS 2 0 rfl rfl K rfl (by omega) (upd_N F K f) [(h0, .inr (0, [.ref a1, .ref a2, .ref a3, .ref a4, .int (nI N), .int (nI K)])), (a1, .inl (cI, 8, .inl (fun z_ => nI (T z_)))), (a2, .inl (cI, 16, .inl (fun z_ => nI ((up F K f) z_)))), (a3, .inl (cI, 16, .inl (fun z_ => nI (G z_)))), (a4, .inl (cI, 16, .inl (fun z_ => nI (C z_))))] rfl dX0_addArc_9 (fun H locs hP hD hS => ?_)
  refine lv_aload_n hx hb dX0_addArc_10 rfl (lv_at hl 0 rfl) ?_
  refine z_get (D := (dC, dI)) (ci := 0) (v := .ref a3) (C := RX0) (T := TX0) (N := 6) hx hb hts uX0 hown hK hP 0 rfl rfl 2 (by decide) w18 rfl rfl dX0_addArc_11 ?_
  refine lv_aload_n hx hb dX0_addArc_14 rfl (lv_at hl 0 rfl) ?_
  refine z_get (D := (dC, dI)) (ci := 0) (v := .int (nI K)) (C := RX0) (T := TX0) (N := 6) hx hb hts uX0 hown hK hP 0 rfl rfl 5 (by decide) w32 rfl rfl dX0_addArc_15 ?_
  refine lv_iload_n hx hb dX0_addArc_18 rfl (lv_at hl 2 rfl) ?_
  refine z_iast hx hb hK hP hD hS 3 0 rfl rfl K rfl (by omega) (upd_N G K g) [(h0, .inr (0, [.ref a1, .ref a2, .ref a3, .ref a4, .int (nI N), .int (nI K)])), (a1, .inl (cI, 8, .inl (fun z_ => nI (T z_)))), (a2, .inl (cI, 16, .inl (fun z_ => nI ((up F K f) z_)))), (a3, .inl (cI, 16, .inl (fun z_ => nI ((up G K g) z_)))), (a4, .inl (cI, 16, .inl (fun z_ => nI (C z_))))] rfl dX0_addArc_19 (fun H locs hP hD hS => ?_)
  refine lv_aload_n hx hb dX0_addArc_20 rfl (lv_at hl 0 rfl) ?_
  refine z_get (D := (dC, dI)) (ci := 0) (v := .ref a4) (C := RX0) (T := TX0) (N := 6) hx hb hts uX0 hown hK hP 0 rfl rfl 3 (by decide) w21 rfl rfl dX0_addArc_21 ?_
  refine lv_aload_n hx hb dX0_addArc_24 rfl (lv_at hl 0 rfl) ?_
  refine z_get (D := (dC, dI)) (ci := 0) (v := .int (nI K)) (C := RX0) (T := TX0) (N := 6) hx hb hts uX0 hown hK hP 0 rfl rfl 5 (by decide) w32 rfl rfl dX0_addArc_25 ?_
  refine lv_iload_n hx hb dX0_addArc_28 rfl (lv_at hl 3 rfl) ?_
  refine z_iast hx hb hK hP hD hS 4 0 rfl rfl K rfl (by omega) (upd_N C K k) [(h0, .inr (0, [.ref a1, .ref a2, .ref a3, .ref a4, .int (nI N), .int (nI K)])), (a1, .inl (cI, 8, .inl (fun z_ => nI (T z_)))), (a2, .inl (cI, 16, .inl (fun z_ => nI ((up F K f) z_)))), (a3, .inl (cI, 16, .inl (fun z_ => nI ((up G K g) z_)))), (a4, .inl (cI, 16, .inl (fun z_ => nI ((up C K k) z_))))] rfl dX0_addArc_29 (fun H locs hP hD hS => ?_)
  refine lv_aload_n hx hb dX0_addArc_30 rfl (lv_at hl 0 rfl) ?_
  refine lv_dup hx hb dX0_addArc_31 rfl ?_
  refine z_get (D := (dC, dI)) (ci := 0) (v := .int (nI K)) (C := RX0) (T := TX0) (N := 6) hx hb hts uX0 hown hK hP 0 rfl rfl 5 (by decide) w32 rfl rfl dX0_addArc_32 ?_
  refine lv_dup_x1 hx hb dX0_addArc_35 rfl rfl ?_
  refine lv_iconst (v := nI 1) hx hb dX0_addArc_36 (by decide) ?_
  refine z_iadd (v := (nI (K + 1))) hx hb dX0_addArc_37 (nI_add _ _) ?_
  refine z_put (D := (dC, dI)) (ci := 0) (v := .int (nI (K + 1))) (C := RX0) (T := TX0) (N := 6) hx hb hts uX0 tyX0 tyX0_ok nmX0 hown hK hP hD hS 0 rfl rfl 5 (by decide) w32 rfl rfl rfl rfl (Nat.le_of_ble_eq_true rfl) [(h0, .inr (0, [.ref a1, .ref a2, .ref a3, .ref a4, .int (nI N), .int (nI (K + 1))])), (a1, .inl (cI, 8, .inl (fun z_ => nI (T z_)))), (a2, .inl (cI, 16, .inl (fun z_ => nI ((up F K f) z_)))), (a3, .inl (cI, 16, .inl (fun z_ => nI ((up G K g) z_)))), (a4, .inl (cI, 16, .inl (fun z_ => nI ((up C K k) z_))))] rfl dX0_addArc_38 (fun H locs hP hD hS => ?_)
  exact hRET _ ls H locs ((nI K)) () dX0_addArc_41 rfl hP hD hS

set_option maxHeartbeats 4000000 in
set_option maxRecDepth 100000 in
theorem c_X0_isReady (l : Launch) (dC : Nat → ClassId) (dI : Nat → Nat → Nat) (cI cJ : ClassId) (sz : Nat) (h0 : Nat) (a1 : Nat) (a2 : Nat) (a3 : Nat) (a4 : Nat) (N : Nat) (K : Nat) (T : Nat → Nat) (F : Nat → Nat) (G : Nat → Nat) (C : Nat → Nat) (v : Nat) (bK : K ≤ 16) (bC : ∀ a, C a ≤ 9) (bG : ∀ a, G a < 8) (bv : v < 8) : Met l yX0_isReady wsX0_isReady (zR 0 0 0 0) (va_Pc [.ref h0, .int (nI v)] (zP (dC, dI) [(cI, .int), (cJ, .long)] [(h0, .inr (0, [.ref a1, .ref a2, .ref a3, .ref a4, .int (nI N), .int (nI K)])), (a1, .inl (cI, 8, .inl (fun z_ => nI (T z_)))), (a2, .inl (cI, 16, .inl (fun z_ => nI (F z_)))), (a3, .inl (cI, 16, .inl (fun z_ => nI (G z_)))), (a4, .inl (cI, 16, .inl (fun z_ => nI (C z_))))] sz nwA)) (va_Qi (fun (r : Int32) (u : (Nat)) => r = (nI u) ∧ ((u = 1 ∧ sp_rdy K G C v = true) ∨ (u = 0 ∧ sp_rdy K G C v = false))) (zB (dC, dI) (fun (u : (Nat)) => [(h0, .inr (0, [.ref a1, .ref a2, .ref a3, .ref a4, .int (nI N), .int (nI K)])), (a1, .inl (cI, 8, .inl (fun z_ => nI (T z_)))), (a2, .inl (cI, 16, .inl (fun z_ => nI (F z_)))), (a3, .inl (cI, 16, .inl (fun z_ => nI (G z_)))), (a4, .inl (cI, 16, .inl (fun z_ => nI (C z_))))]) (va_A [(h0, .inr (0, [.ref a1, .ref a2, .ref a3, .ref a4, .int (nI N), .int (nI K)])), (a1, .inl (cI, 8, .inl (fun z_ => nI (T z_)))), (a2, .inl (cI, 16, .inl (fun z_ => nI (F z_)))), (a3, .inl (cI, 16, .inl (fun z_ => nI (G z_)))), (a4, .inl (cI, 16, .inl (fun z_ => nI (C z_))))] sz)) (va_A [(h0, .inr (0, [.ref a1, .ref a2, .ref a3, .ref a4, .int (nI N), .int (nI K)])), (a1, .inl (cI, 8, .inl (fun z_ => nI (T z_)))), (a2, .inl (cI, 16, .inl (fun z_ => nI (F z_)))), (a3, .inl (cI, 16, .inl (fun z_ => nI (G z_)))), (a4, .inl (cI, 16, .inl (fun z_ => nI (C z_))))] sz)) 0 0 (va_A [(h0, .inr (0, [.ref a1, .ref a2, .ref a3, .ref a4, .int (nI N), .int (nI K)])), (a1, .inl (cI, 8, .inl (fun z_ => nI (T z_)))), (a2, .inl (cI, 16, .inl (fun z_ => nI (F z_)))), (a3, .inl (cI, 16, .inl (fun z_ => nI (G z_)))), (a4, .inl (cI, 16, .inl (fun z_ => nI (C z_))))] sz) := by
  refine z_met_z (cc := cX0_isReady) (maxL := 3) (by decide) rfl (Nat.le_of_ble_eq_true rfl) ?_
  intro p e s m args below meth c Q A ls hx hb hml hown hts hin hA hK hP hD hN hl hRET
  have hown : s.vm.findClass RX0 = some m.cls := hown
  obtain ⟨H, eH⟩ : ∃ H : Heap, H = s.heap := ⟨_, rfl⟩
  rw [← eH] at hP
  obtain ⟨locs, eL⟩ : ∃ z : List Loc, z = [] := ⟨_, rfl⟩
  rw [← eH, ← eL]
  have hS : va_S A s.heap H locs := by rw [eH, eL]; exact va_S.rf
  have hl : lv_has ls 3 [(0, .ref h0), (1, .int (nI v))] := hl
  have w32 := hts (.fieldLink RX0 32 "PullCards$Line" "arcs" "I") (by decide +kernel)
  have uX0 : ∀ w ∈ wsX00, w ∈ wsX0_isReady := by decide +kernel
  have w18 := hts (.fieldLink RX0 18 "PullCards$Line" "tos" "[I") (by decide +kernel)
  have w21 := hts (.fieldLink RX0 21 "PullCards$Line" "cards" "[I") (by decide +kernel)
  refine lv_iconst (v := nI 0) hx hb dX0_isReady_0 (by decide) ?_
  refine lv_istore_n (lv' := [(2, .int (nI 0)), (0, .ref h0), (1, .int (nI v))]) hx hb dX0_isReady_1 rfl hl (by decide) rfl (fun ls hl => ?_)
  have L2 : ∀ (n : Nat) (j : Nat), (K - j) < n → (j ≤ K) → (∀ a, a < j → G a = v → ¬ C a = 0) → ∀ (H : Heap) (locs : List Loc), va_P (dC, dI) vwCl [(h0, .inr (0, [.ref a1, .ref a2, .ref a3, .ref a4, .int (nI N), .int (nI K)])), (a1, .inl (cI, 8, .inl (fun z_ => nI (T z_)))), (a2, .inl (cI, 16, .inl (fun z_ => nI (F z_)))), (a3, .inl (cI, 16, .inl (fun z_ => nI (G z_)))), (a4, .inl (cI, 16, .inl (fun z_ => nI (C z_))))] H → va_D A [(h0, .inr (0, [.ref a1, .ref a2, .ref a3, .ref a4, .int (nI N), .int (nI K)])), (a1, .inl (cI, 8, .inl (fun z_ => nI (T z_)))), (a2, .inl (cI, 16, .inl (fun z_ => nI (F z_)))), (a3, .inl (cI, 16, .inl (fun z_ => nI (G z_)))), (a4, .inl (cI, 16, .inl (fun z_ => nI (C z_))))] → va_S A s.heap H locs → ∀ (ls : Array Slot), lv_has ls 3 [(0, .ref h0), (1, .int (nI v)), (2, .int (nI j))] → W p l e (zR 0 0 0 0) s m args below meth c H locs 0 0 Q (F0 m 2 ls []) := by
    intro n
    induction n with
    | zero => intro j hn; exact absurd hn (Nat.not_lt_zero _)
    | succ n ih =>
      intro j hn i1 i2 H locs hP hD hS ls hl
      have ih2 := ih
      have hn2 := hn
      clear ih hn
      refine lv_iload_n hx hb dX0_isReady_2 rfl (lv_at hl 2 rfl) ?_
      refine lv_aload_n hx hb dX0_isReady_3 rfl (lv_at hl 0 rfl) ?_
      refine z_get (D := (dC, dI)) (ci := 0) (v := .int (nI K)) (C := RX0) (T := TX0) (N := 6) hx hb hts uX0 hown hK hP 0 rfl rfl 5 (by decide) w32 rfl rfl dX0_isReady_4 ?_
      refine z_icmp_ge (tgt := 37) hx hb dX0_isReady_7 (by decide) (zcn_le (a := K) (b := j) rfl rfl (by omega)) (fun c_7 => ?_) (fun c_7 => ?_)
      · skip
        refine lv_iconst (v := nI 1) hx hb dX0_isReady_37 (by decide) ?_
        have q_0 : (1 = 1 ∧ sp_rdy K G C v = true) ∨ (1 = 0 ∧ sp_rdy K G C v = false) := by exact Or.inl ⟨rfl, sp_rdy_t (fun a h => i2 a (by omega))⟩
        exact hRET _ ls H locs ((nI 1)) (1) dX0_isReady_38 (by decide) ⟨rfl, q_0⟩ hP hD hS
      · skip
        refine lv_aload_n hx hb dX0_isReady_10 rfl (lv_at hl 0 rfl) ?_
        refine z_get (D := (dC, dI)) (ci := 0) (v := .ref a3) (C := RX0) (T := TX0) (N := 6) hx hb hts uX0 hown hK hP 0 rfl rfl 2 (by decide) w18 rfl rfl dX0_isReady_11 ?_
        refine lv_iload_n hx hb dX0_isReady_14 rfl (lv_at hl 2 rfl) ?_
        refine z_iald (v := (nI (G j))) hx hb hK hP 3 0 rfl rfl j rfl (by omega) rfl dX0_isReady_15 ?_
        have f15_0 := bG j
        refine lv_iload_n hx hb dX0_isReady_16 rfl (lv_at hl 1 rfl) ?_
        refine z_icmp_ne (tgt := 31) hx hb dX0_isReady_17 (by decide) (zcn_eq (a := G j) (b := v) rfl rfl (by omega)) (fun c_17 => ?_) (fun c_17 => ?_)
        · skip
          refine lv_iinc (v := (nI (j + 1))) (lv' := [(2, .int (nI (j + 1))), (0, .ref h0), (1, .int (nI v))]) hx hb dX0_isReady_31 hl (k := 2) rfl (z_incN j 1 (by decide)) (by decide) rfl (fun ls hl => ?_)
          refine lv_goto (tgt := 2) hx hb dX0_isReady_34 (by decide) ?_
          have o_i1 : (j + 1) ≤ K := by first | assumption | omega
          have o_i2 : ∀ a, a < (j + 1) → G a = v → ¬ C a = 0 := by exact lt_s i2 (fun e => by omega)
          have o_mu : (K - (j + 1)) < n := by omega
          exact ih2 (j + 1) o_mu o_i1 o_i2 H locs hP hD hS ls (lv_sub hl [1, 2, 0] rfl)
        · skip
          refine lv_aload_n hx hb dX0_isReady_20 rfl (lv_at hl 0 rfl) ?_
          refine z_get (D := (dC, dI)) (ci := 0) (v := .ref a4) (C := RX0) (T := TX0) (N := 6) hx hb hts uX0 hown hK hP 0 rfl rfl 3 (by decide) w21 rfl rfl dX0_isReady_21 ?_
          refine lv_iload_n hx hb dX0_isReady_24 rfl (lv_at hl 2 rfl) ?_
          refine z_iald (v := (nI (C j))) hx hb hK hP 4 0 rfl rfl j rfl (by omega) rfl dX0_isReady_25 ?_
          have f25_0 := bC j
          refine z_if_ne (tgt := 31) hx hb dX0_isReady_26 (by decide) (zcn_eq (a := C j) (b := 0) rfl nI_00 (by omega)) (fun c_26 => ?_) (fun c_26 => ?_)
          · skip
            refine lv_iinc (v := (nI (j + 1))) (lv' := [(2, .int (nI (j + 1))), (0, .ref h0), (1, .int (nI v))]) hx hb dX0_isReady_31 hl (k := 2) rfl (z_incN j 1 (by decide)) (by decide) rfl (fun ls hl => ?_)
            refine lv_goto (tgt := 2) hx hb dX0_isReady_34 (by decide) ?_
            have o_i1 : (j + 1) ≤ K := by first | assumption | omega
            have o_i2 : ∀ a, a < (j + 1) → G a = v → ¬ C a = 0 := by exact lt_s i2 (fun e => by omega)
            have o_mu : (K - (j + 1)) < n := by omega
            exact ih2 (j + 1) o_mu o_i1 o_i2 H locs hP hD hS ls (lv_sub hl [1, 2, 0] rfl)
          · skip
            refine lv_iconst (v := nI 0) hx hb dX0_isReady_29 (by decide) ?_
            have q_0 : (0 = 1 ∧ sp_rdy K G C v = true) ∨ (0 = 0 ∧ sp_rdy K G C v = false) := by exact Or.inr ⟨rfl, sp_rdy_f j (by omega) c_17 c_26⟩
            exact hRET _ ls H locs ((nI 0)) (0) dX0_isReady_30 (by decide) ⟨rfl, q_0⟩ hP hD hS
  have o_i1 : 0 ≤ K := by first | assumption | omega
  have o_i2 : ∀ a, a < 0 → G a = v → ¬ C a = 0 := by intro a h; omega
  exact L2 ((K - 0) + 1) 0 (Nat.lt_succ_self _) o_i1 o_i2 H locs hP hD hS ls (lv_sub hl [1, 2, 0] rfl)

set_option maxHeartbeats 4000000 in
set_option maxRecDepth 100000 in
theorem c_X0_hasRoom (l : Launch) (dC : Nat → ClassId) (dI : Nat → Nat → Nat) (cI cJ : ClassId) (sz : Nat) (h0 : Nat) (a1 : Nat) (a2 : Nat) (a3 : Nat) (a4 : Nat) (N : Nat) (K : Nat) (T : Nat → Nat) (F : Nat → Nat) (G : Nat → Nat) (C : Nat → Nat) (v : Nat) (bK : K ≤ 16) (bC : ∀ a, C a ≤ 9) (bG : ∀ a, G a < 8) (bF : ∀ a, F a < 8) (bv : v < 8) : Met l yX0_hasRoom wsX0_hasRoom (zR 0 0 0 0) (va_Pc [.ref h0, .int (nI v)] (zP (dC, dI) [(cI, .int), (cJ, .long)] [(h0, .inr (0, [.ref a1, .ref a2, .ref a3, .ref a4, .int (nI N), .int (nI K)])), (a1, .inl (cI, 8, .inl (fun z_ => nI (T z_)))), (a2, .inl (cI, 16, .inl (fun z_ => nI (F z_)))), (a3, .inl (cI, 16, .inl (fun z_ => nI (G z_)))), (a4, .inl (cI, 16, .inl (fun z_ => nI (C z_))))] sz nwA)) (va_Qi (fun (r : Int32) (u : (Nat)) => r = (nI u) ∧ ((u = 1 ∧ sp_room K F G C v = true) ∨ (u = 0 ∧ sp_room K F G C v = false))) (zB (dC, dI) (fun (u : (Nat)) => [(h0, .inr (0, [.ref a1, .ref a2, .ref a3, .ref a4, .int (nI N), .int (nI K)])), (a1, .inl (cI, 8, .inl (fun z_ => nI (T z_)))), (a2, .inl (cI, 16, .inl (fun z_ => nI (F z_)))), (a3, .inl (cI, 16, .inl (fun z_ => nI (G z_)))), (a4, .inl (cI, 16, .inl (fun z_ => nI (C z_))))]) (va_A [(h0, .inr (0, [.ref a1, .ref a2, .ref a3, .ref a4, .int (nI N), .int (nI K)])), (a1, .inl (cI, 8, .inl (fun z_ => nI (T z_)))), (a2, .inl (cI, 16, .inl (fun z_ => nI (F z_)))), (a3, .inl (cI, 16, .inl (fun z_ => nI (G z_)))), (a4, .inl (cI, 16, .inl (fun z_ => nI (C z_))))] sz)) (va_A [(h0, .inr (0, [.ref a1, .ref a2, .ref a3, .ref a4, .int (nI N), .int (nI K)])), (a1, .inl (cI, 8, .inl (fun z_ => nI (T z_)))), (a2, .inl (cI, 16, .inl (fun z_ => nI (F z_)))), (a3, .inl (cI, 16, .inl (fun z_ => nI (G z_)))), (a4, .inl (cI, 16, .inl (fun z_ => nI (C z_))))] sz)) 0 0 (va_A [(h0, .inr (0, [.ref a1, .ref a2, .ref a3, .ref a4, .int (nI N), .int (nI K)])), (a1, .inl (cI, 8, .inl (fun z_ => nI (T z_)))), (a2, .inl (cI, 16, .inl (fun z_ => nI (F z_)))), (a3, .inl (cI, 16, .inl (fun z_ => nI (G z_)))), (a4, .inl (cI, 16, .inl (fun z_ => nI (C z_))))] sz) := by
  refine z_met_z (cc := cX0_hasRoom) (maxL := 4) (by decide) rfl (Nat.le_of_ble_eq_true rfl) ?_
  intro p e s m args below meth c Q A ls hx hb hml hown hts hin hA hK hP hD hN hl hRET
  have hown : s.vm.findClass RX0 = some m.cls := hown
  obtain ⟨H, eH⟩ : ∃ H : Heap, H = s.heap := ⟨_, rfl⟩
  rw [← eH] at hP
  obtain ⟨locs, eL⟩ : ∃ z : List Loc, z = [] := ⟨_, rfl⟩
  rw [← eH, ← eL]
  have hS : va_S A s.heap H locs := by rw [eH, eL]; exact va_S.rf
  have hl : lv_has ls 4 [(0, .ref h0), (1, .int (nI v))] := hl
  have w32 := hts (.fieldLink RX0 32 "PullCards$Line" "arcs" "I") (by decide +kernel)
  have uX0 : ∀ w ∈ wsX00, w ∈ wsX0_hasRoom := by decide +kernel
  have w15 := hts (.fieldLink RX0 15 "PullCards$Line" "froms" "[I") (by decide +kernel)
  have w18 := hts (.fieldLink RX0 18 "PullCards$Line" "tos" "[I") (by decide +kernel)
  have w21 := hts (.fieldLink RX0 21 "PullCards$Line" "cards" "[I") (by decide +kernel)
  refine lv_iconst (v := nI 0) hx hb dX0_hasRoom_0 (by decide) ?_
  refine lv_istore_n (lv' := [(2, .int (nI 0)), (0, .ref h0), (1, .int (nI v))]) hx hb dX0_hasRoom_1 rfl hl (by decide) rfl (fun ls hl => ?_)
  have L2 : ∀ (n : Nat) (j : Nat), (K - j) < n → (j ≤ K) → (∀ a, a < j → F a = v → ¬ G a = v → C a < 9) → ∀ (H : Heap) (locs : List Loc), va_P (dC, dI) vwCl [(h0, .inr (0, [.ref a1, .ref a2, .ref a3, .ref a4, .int (nI N), .int (nI K)])), (a1, .inl (cI, 8, .inl (fun z_ => nI (T z_)))), (a2, .inl (cI, 16, .inl (fun z_ => nI (F z_)))), (a3, .inl (cI, 16, .inl (fun z_ => nI (G z_)))), (a4, .inl (cI, 16, .inl (fun z_ => nI (C z_))))] H → va_D A [(h0, .inr (0, [.ref a1, .ref a2, .ref a3, .ref a4, .int (nI N), .int (nI K)])), (a1, .inl (cI, 8, .inl (fun z_ => nI (T z_)))), (a2, .inl (cI, 16, .inl (fun z_ => nI (F z_)))), (a3, .inl (cI, 16, .inl (fun z_ => nI (G z_)))), (a4, .inl (cI, 16, .inl (fun z_ => nI (C z_))))] → va_S A s.heap H locs → ∀ (ls : Array Slot), lv_has ls 4 [(0, .ref h0), (1, .int (nI v)), (2, .int (nI j))] → W p l e (zR 0 0 0 0) s m args below meth c H locs 0 0 Q (F0 m 2 ls []) := by
    intro n
    induction n with
    | zero => intro j hn; exact absurd hn (Nat.not_lt_zero _)
    | succ n ih =>
      intro j hn i1 i2 H locs hP hD hS ls hl
      have ih2 := ih
      have hn2 := hn
      clear ih hn
      refine lv_iload_n hx hb dX0_hasRoom_2 rfl (lv_at hl 2 rfl) ?_
      refine lv_aload_n hx hb dX0_hasRoom_3 rfl (lv_at hl 0 rfl) ?_
      refine z_get (D := (dC, dI)) (ci := 0) (v := .int (nI K)) (C := RX0) (T := TX0) (N := 6) hx hb hts uX0 hown hK hP 0 rfl rfl 5 (by decide) w32 rfl rfl dX0_hasRoom_4 ?_
      refine z_icmp_ge (tgt := 59) hx hb dX0_hasRoom_7 (by decide) (zcn_le (a := K) (b := j) rfl rfl (by omega)) (fun c_7 => ?_) (fun c_7 => ?_)
      · skip
        refine lv_iconst (v := nI 1) hx hb dX0_hasRoom_59 (by decide) ?_
        have q_0 : (1 = 1 ∧ sp_room K F G C v = true) ∨ (1 = 0 ∧ sp_room K F G C v = false) := by exact Or.inl ⟨rfl, sp_room_t (fun a h => i2 a (by omega))⟩
        exact hRET _ ls H locs ((nI 1)) (1) dX0_hasRoom_60 (by decide) ⟨rfl, q_0⟩ hP hD hS
      · skip
        refine lv_aload_n hx hb dX0_hasRoom_10 rfl (lv_at hl 0 rfl) ?_
        refine z_get (D := (dC, dI)) (ci := 0) (v := .ref a2) (C := RX0) (T := TX0) (N := 6) hx hb hts uX0 hown hK hP 0 rfl rfl 1 (by decide) w15 rfl rfl dX0_hasRoom_11 ?_
        refine lv_iload_n hx hb dX0_hasRoom_14 rfl (lv_at hl 2 rfl) ?_
        refine z_iald (v := (nI (F j))) hx hb hK hP 2 0 rfl rfl j rfl (by omega) rfl dX0_hasRoom_15 ?_
        have f15_0 := bF j
        refine lv_iload_n hx hb dX0_hasRoom_16 rfl (lv_at hl 1 rfl) ?_
        refine z_icmp_ne (tgt := 34) hx hb dX0_hasRoom_17 (by decide) (zcn_eq (a := F j) (b := v) rfl rfl (by omega)) (fun c_17 => ?_) (fun c_17 => ?_)
        · skip
          refine lv_iconst (v := nI 0) hx hb dX0_hasRoom_34 (by decide) ?_
          refine lv_istore_n (lv' := [(3, .int (nI 0)), (0, .ref h0), (1, .int (nI v)), (2, .int (nI j))]) hx hb dX0_hasRoom_35 rfl hl (by decide) rfl (fun ls hl => ?_)
          refine lv_iload_n hx hb dX0_hasRoom_36 rfl (lv_at hl 0 rfl) ?_
          refine lv_if_eq (tgt := 53) hx hb dX0_hasRoom_37 (by decide) (fun _ => ?_) (fun c_x => absurd c_x (by decide))
          refine lv_iinc (v := (nI (j + 1))) (lv' := [(2, .int (nI (j + 1))), (3, .int (nI 0)), (0, .ref h0), (1, .int (nI v))]) hx hb dX0_hasRoom_53 hl (k := 3) rfl (z_incN j 1 (by decide)) (by decide) rfl (fun ls hl => ?_)
          refine lv_goto (tgt := 2) hx hb dX0_hasRoom_56 (by decide) ?_
          have o_i1 : (j + 1) ≤ K := by first | assumption | omega
          have o_i2 : ∀ a, a < (j + 1) → F a = v → ¬ G a = v → C a < 9 := by exact lt_s i2 (fun e1 e2 => by omega)
          have o_mu : (K - (j + 1)) < n := by omega
          exact ih2 (j + 1) o_mu o_i1 o_i2 H locs hP hD hS ls (lv_sub hl [2, 3, 0] rfl)
        · skip
          refine lv_aload_n hx hb dX0_hasRoom_20 rfl (lv_at hl 0 rfl) ?_
          refine z_get (D := (dC, dI)) (ci := 0) (v := .ref a3) (C := RX0) (T := TX0) (N := 6) hx hb hts uX0 hown hK hP 0 rfl rfl 2 (by decide) w18 rfl rfl dX0_hasRoom_21 ?_
          refine lv_iload_n hx hb dX0_hasRoom_24 rfl (lv_at hl 2 rfl) ?_
          refine z_iald (v := (nI (G j))) hx hb hK hP 3 0 rfl rfl j rfl (by omega) rfl dX0_hasRoom_25 ?_
          have f25_0 := bG j
          refine lv_iload_n hx hb dX0_hasRoom_26 rfl (lv_at hl 1 rfl) ?_
          refine z_icmp_eq (tgt := 34) hx hb dX0_hasRoom_27 (by decide) (zcn_eq (a := G j) (b := v) rfl rfl (by omega)) (fun c_27 => ?_) (fun c_27 => ?_)
          · skip
            refine lv_iconst (v := nI 0) hx hb dX0_hasRoom_34 (by decide) ?_
            refine lv_istore_n (lv' := [(3, .int (nI 0)), (0, .ref h0), (1, .int (nI v)), (2, .int (nI j))]) hx hb dX0_hasRoom_35 rfl hl (by decide) rfl (fun ls hl => ?_)
            refine lv_iload_n hx hb dX0_hasRoom_36 rfl (lv_at hl 0 rfl) ?_
            refine lv_if_eq (tgt := 53) hx hb dX0_hasRoom_37 (by decide) (fun _ => ?_) (fun c_x => absurd c_x (by decide))
            refine lv_iinc (v := (nI (j + 1))) (lv' := [(2, .int (nI (j + 1))), (3, .int (nI 0)), (0, .ref h0), (1, .int (nI v))]) hx hb dX0_hasRoom_53 hl (k := 3) rfl (z_incN j 1 (by decide)) (by decide) rfl (fun ls hl => ?_)
            refine lv_goto (tgt := 2) hx hb dX0_hasRoom_56 (by decide) ?_
            have o_i1 : (j + 1) ≤ K := by first | assumption | omega
            have o_i2 : ∀ a, a < (j + 1) → F a = v → ¬ G a = v → C a < 9 := by exact lt_s i2 (fun e1 e2 => by omega)
            have o_mu : (K - (j + 1)) < n := by omega
            exact ih2 (j + 1) o_mu o_i1 o_i2 H locs hP hD hS ls (lv_sub hl [2, 3, 0] rfl)
          · skip
            refine lv_iconst (v := nI 1) hx hb dX0_hasRoom_30 (by decide) ?_
            refine lv_goto (tgt := 35) hx hb dX0_hasRoom_31 (by decide) ?_
            refine lv_istore_n (lv' := [(3, .int (nI 1)), (0, .ref h0), (1, .int (nI v)), (2, .int (nI j))]) hx hb dX0_hasRoom_35 rfl hl (by decide) rfl (fun ls hl => ?_)
            refine lv_iload_n hx hb dX0_hasRoom_36 rfl (lv_at hl 0 rfl) ?_
            refine lv_if_eq (tgt := 53) hx hb dX0_hasRoom_37 (by decide) (fun c_x => absurd c_x (by decide)) (fun _ => ?_)
            refine lv_aload_n hx hb dX0_hasRoom_40 rfl (lv_at hl 1 rfl) ?_
            refine z_get (D := (dC, dI)) (ci := 0) (v := .ref a4) (C := RX0) (T := TX0) (N := 6) hx hb hts uX0 hown hK hP 0 rfl rfl 3 (by decide) w21 rfl rfl dX0_hasRoom_41 ?_
            refine lv_iload_n hx hb dX0_hasRoom_44 rfl (lv_at hl 3 rfl) ?_
            refine z_iald (v := (nI (C j))) hx hb hK hP 4 0 rfl rfl j rfl (by omega) rfl dX0_hasRoom_45 ?_
            have f45_0 := bC j
            refine lv_bipush (v := nI 9) hx hb dX0_hasRoom_46 (by decide) ?_
            refine z_icmp_lt (tgt := 53) hx hb dX0_hasRoom_48 (by decide) (zcn_lt (a := C j) (b := 9) rfl rfl (by omega)) (fun c_48 => ?_) (fun c_48 => ?_)
            · skip
              refine lv_iinc (v := (nI (j + 1))) (lv' := [(2, .int (nI (j + 1))), (3, .int (nI 1)), (0, .ref h0), (1, .int (nI v))]) hx hb dX0_hasRoom_53 hl (k := 3) rfl (z_incN j 1 (by decide)) (by decide) rfl (fun ls hl => ?_)
              refine lv_goto (tgt := 2) hx hb dX0_hasRoom_56 (by decide) ?_
              have o_i1 : (j + 1) ≤ K := by first | assumption | omega
              have o_i2 : ∀ a, a < (j + 1) → F a = v → ¬ G a = v → C a < 9 := by exact lt_s i2 (fun e1 e2 => by omega)
              have o_mu : (K - (j + 1)) < n := by omega
              exact ih2 (j + 1) o_mu o_i1 o_i2 H locs hP hD hS ls (lv_sub hl [2, 3, 0] rfl)
            · skip
              refine lv_iconst (v := nI 0) hx hb dX0_hasRoom_51 (by decide) ?_
              have q_0 : (0 = 1 ∧ sp_room K F G C v = true) ∨ (0 = 0 ∧ sp_room K F G C v = false) := by exact Or.inr ⟨rfl, sp_room_f j (by omega) c_17 c_27 c_48⟩
              exact hRET _ ls H locs ((nI 0)) (0) dX0_hasRoom_52 (by decide) ⟨rfl, q_0⟩ hP hD hS
  have o_i1 : 0 ≤ K := by first | assumption | omega
  have o_i2 : ∀ a, a < 0 → F a = v → ¬ G a = v → C a < 9 := by intro a h; omega
  exact L2 ((K - 0) + 1) 0 (Nat.lt_succ_self _) o_i1 o_i2 H locs hP hD hS ls (lv_sub hl [1, 2, 0] rfl)

set_option maxHeartbeats 4000000 in
set_option maxRecDepth 100000 in
theorem c_X0_moveCards (l : Launch) (dC : Nat → ClassId) (dI : Nat → Nat → Nat) (cI cJ : ClassId) (sz : Nat) (h0 : Nat) (a1 : Nat) (a2 : Nat) (a3 : Nat) (a4 : Nat) (N : Nat) (K : Nat) (T : Nat → Nat) (F : Nat → Nat) (G : Nat → Nat) (C : Nat → Nat) (v : Nat) (bK : K ≤ 16) (bC : ∀ a, C a ≤ 9) (bG : ∀ a, G a < 8) (bF : ∀ a, F a < 8) (bv : v < 8) (hr : sp_rdy K G C v = true) : Met l yX0_moveCards wsX0_moveCards (zR 0 0 0 0) (va_Pc [.ref h0, .int (nI v)] (zP (dC, dI) [(cI, .int), (cJ, .long)] [(h0, .inr (0, [.ref a1, .ref a2, .ref a3, .ref a4, .int (nI N), .int (nI K)])), (a1, .inl (cI, 8, .inl (fun z_ => nI (T z_)))), (a2, .inl (cI, 16, .inl (fun z_ => nI (F z_)))), (a3, .inl (cI, 16, .inl (fun z_ => nI (G z_)))), (a4, .inl (cI, 16, .inl (fun z_ => nI (C z_))))] sz nwA)) (va_Qv (fun (u : (Nat → Nat)) => (u = sp_mv K F G C v)) (zB (dC, dI) (fun (u : (Nat → Nat)) => [(h0, .inr (0, [.ref a1, .ref a2, .ref a3, .ref a4, .int (nI N), .int (nI K)])), (a1, .inl (cI, 8, .inl (fun z_ => nI (T z_)))), (a2, .inl (cI, 16, .inl (fun z_ => nI (F z_)))), (a3, .inl (cI, 16, .inl (fun z_ => nI (G z_)))), (a4, .inl (cI, 16, .inl (fun z_ => nI (u z_))))]) (va_A [(h0, .inr (0, [.ref a1, .ref a2, .ref a3, .ref a4, .int (nI N), .int (nI K)])), (a1, .inl (cI, 8, .inl (fun z_ => nI (T z_)))), (a2, .inl (cI, 16, .inl (fun z_ => nI (F z_)))), (a3, .inl (cI, 16, .inl (fun z_ => nI (G z_)))), (a4, .inl (cI, 16, .inl (fun z_ => nI (C z_))))] sz)) (va_A [(h0, .inr (0, [.ref a1, .ref a2, .ref a3, .ref a4, .int (nI N), .int (nI K)])), (a1, .inl (cI, 8, .inl (fun z_ => nI (T z_)))), (a2, .inl (cI, 16, .inl (fun z_ => nI (F z_)))), (a3, .inl (cI, 16, .inl (fun z_ => nI (G z_)))), (a4, .inl (cI, 16, .inl (fun z_ => nI (C z_))))] sz)) 0 0 (va_A [(h0, .inr (0, [.ref a1, .ref a2, .ref a3, .ref a4, .int (nI N), .int (nI K)])), (a1, .inl (cI, 8, .inl (fun z_ => nI (T z_)))), (a2, .inl (cI, 16, .inl (fun z_ => nI (F z_)))), (a3, .inl (cI, 16, .inl (fun z_ => nI (G z_)))), (a4, .inl (cI, 16, .inl (fun z_ => nI (C z_))))] sz) := by
  refine z_met_v (cc := cX0_moveCards) (maxL := 3) (by decide) rfl (Nat.le_of_ble_eq_true rfl) ?_
  intro p e s m args below meth c Q A ls hx hb hml hown hts hin hA hK hP hD hN hl hRET
  have hown : s.vm.findClass RX0 = some m.cls := hown
  obtain ⟨H, eH⟩ : ∃ H : Heap, H = s.heap := ⟨_, rfl⟩
  rw [← eH] at hP
  obtain ⟨locs, eL⟩ : ∃ z : List Loc, z = [] := ⟨_, rfl⟩
  rw [← eH, ← eL]
  have hS : va_S A s.heap H locs := by rw [eH, eL]; exact va_S.rf
  have hl : lv_has ls 3 [(0, .ref h0), (1, .int (nI v))] := hl
  have w32 := hts (.fieldLink RX0 32 "PullCards$Line" "arcs" "I") (by decide +kernel)
  have uX0 : ∀ w ∈ wsX00, w ∈ wsX0_moveCards := by decide +kernel
  have w18 := hts (.fieldLink RX0 18 "PullCards$Line" "tos" "[I") (by decide +kernel)
  have w21 := hts (.fieldLink RX0 21 "PullCards$Line" "cards" "[I") (by decide +kernel)
  have w15 := hts (.fieldLink RX0 15 "PullCards$Line" "froms" "[I") (by decide +kernel)
  refine lv_iconst (v := nI 0) hx hb dX0_moveCards_0 (by decide) ?_
  refine lv_istore_n (lv' := [(2, .int (nI 0)), (0, .ref h0), (1, .int (nI v))]) hx hb dX0_moveCards_1 rfl hl (by decide) rfl (fun ls hl => ?_)
  have L2 : ∀ (n : Nat) (j : Nat) (C1 : Nat → Nat), (K - j) < n → (j ≤ K) → (C1 = sp_mv j F G C v) → ∀ (H : Heap) (locs : List Loc), va_P (dC, dI) vwCl [(h0, .inr (0, [.ref a1, .ref a2, .ref a3, .ref a4, .int (nI N), .int (nI K)])), (a1, .inl (cI, 8, .inl (fun z_ => nI (T z_)))), (a2, .inl (cI, 16, .inl (fun z_ => nI (F z_)))), (a3, .inl (cI, 16, .inl (fun z_ => nI (G z_)))), (a4, .inl (cI, 16, .inl (fun z_ => nI (C1 z_))))] H → va_D A [(h0, .inr (0, [.ref a1, .ref a2, .ref a3, .ref a4, .int (nI N), .int (nI K)])), (a1, .inl (cI, 8, .inl (fun z_ => nI (T z_)))), (a2, .inl (cI, 16, .inl (fun z_ => nI (F z_)))), (a3, .inl (cI, 16, .inl (fun z_ => nI (G z_)))), (a4, .inl (cI, 16, .inl (fun z_ => nI (C1 z_))))] → va_S A s.heap H locs → ∀ (ls : Array Slot), lv_has ls 3 [(0, .ref h0), (1, .int (nI v)), (2, .int (nI j))] → W p l e (zR 0 0 0 0) s m args below meth c H locs 0 0 Q (F0 m 2 ls []) := by
    intro n
    induction n with
    | zero => intro j C1 hn; exact absurd hn (Nat.not_lt_zero _)
    | succ n ih =>
      intro j C1 hn i1 i2 H locs hP hD hS ls hl
      have ih2 := ih
      have hn2 := hn
      clear ih hn
      refine lv_iload_n hx hb dX0_moveCards_2 rfl (lv_at hl 2 rfl) ?_
      refine lv_aload_n hx hb dX0_moveCards_3 rfl (lv_at hl 0 rfl) ?_
      refine z_get (D := (dC, dI)) (ci := 0) (v := .int (nI K)) (C := RX0) (T := TX0) (N := 6) hx hb hts uX0 hown hK hP 0 rfl rfl 5 (by decide) w32 rfl rfl dX0_moveCards_4 ?_
      refine z_icmp_ge (tgt := 56) hx hb dX0_moveCards_7 (by decide) (zcn_le (a := K) (b := j) rfl rfl (by omega)) (fun c_7 => ?_) (fun c_7 => ?_)
      · skip
        have q_0 : C1 = sp_mv K F G C v := by rw [i2, show j = K from by omega]
        exact hRET _ ls H locs (C1) dX0_moveCards_56 q_0 hP hD hS
      · skip
        refine lv_aload_n hx hb dX0_moveCards_10 rfl (lv_at hl 0 rfl) ?_
        refine z_get (D := (dC, dI)) (ci := 0) (v := .ref a3) (C := RX0) (T := TX0) (N := 6) hx hb hts uX0 hown hK hP 0 rfl rfl 2 (by decide) w18 rfl rfl dX0_moveCards_11 ?_
        refine lv_iload_n hx hb dX0_moveCards_14 rfl (lv_at hl 2 rfl) ?_
        refine z_iald (v := (nI (G j))) hx hb hK hP 3 0 rfl rfl j rfl (by omega) rfl dX0_moveCards_15 ?_
        have f15_0 := bG j
        refine lv_iload_n hx hb dX0_moveCards_16 rfl (lv_at hl 1 rfl) ?_
        refine z_icmp_ne (tgt := 30) hx hb dX0_moveCards_17 (by decide) (zcn_eq (a := G j) (b := v) rfl rfl (by omega)) (fun c_17 => ?_) (fun c_17 => ?_)
        · skip
          refine lv_aload_n hx hb dX0_moveCards_30 rfl (lv_at hl 0 rfl) ?_
          refine z_get (D := (dC, dI)) (ci := 0) (v := .ref a2) (C := RX0) (T := TX0) (N := 6) hx hb hts uX0 hown hK hP 0 rfl rfl 1 (by decide) w15 rfl rfl dX0_moveCards_31 ?_
          refine lv_iload_n hx hb dX0_moveCards_34 rfl (lv_at hl 2 rfl) ?_
          refine z_iald (v := (nI (F j))) hx hb hK hP 2 0 rfl rfl j rfl (by omega) rfl dX0_moveCards_35 ?_
          have f35_0 := bF j
          refine lv_iload_n hx hb dX0_moveCards_36 rfl (lv_at hl 1 rfl) ?_
          refine z_icmp_ne (tgt := 50) hx hb dX0_moveCards_37 (by decide) (zcn_eq (a := F j) (b := v) rfl rfl (by omega)) (fun c_37 => ?_) (fun c_37 => ?_)
          · skip
            refine lv_iinc (v := (nI (j + 1))) (lv' := [(2, .int (nI (j + 1))), (0, .ref h0), (1, .int (nI v))]) hx hb dX0_moveCards_50 hl (k := 2) rfl (z_incN j 1 (by decide)) (by decide) rfl (fun ls hl => ?_)
            refine lv_goto (tgt := 2) hx hb dX0_moveCards_53 (by decide) ?_
            have o_i1 : (j + 1) ≤ K := by first | assumption | omega
            have o_i2 : C1 = sp_mv (j + 1) F G C v := by exact sp_mv_c i2 (fun a ha => by simp [up_e, ha]) (by have hq : C1 j = C j := (by rw [i2, sp_mv_at]); have hz := sp_rdy_i hr j (by omega); simp [up_e, hq, sp_mv_at, *]; try omega)
            have o_mu : (K - (j + 1)) < n := by omega
            exact ih2 (j + 1) C1 o_mu o_i1 o_i2 H locs hP hD hS ls (lv_sub hl [1, 2, 0] rfl)
          · skip
            refine lv_aload_n hx hb dX0_moveCards_40 rfl (lv_at hl 0 rfl) ?_
            refine z_get (D := (dC, dI)) (ci := 0) (v := .ref a4) (C := RX0) (T := TX0) (N := 6) hx hb hts uX0 hown hK hP 0 rfl rfl 3 (by decide) w21 rfl rfl dX0_moveCards_41 ?_
            refine lv_iload_n hx hb dX0_moveCards_44 rfl (lv_at hl 2 rfl) ?_
            refine lv_dup2_11 hx hb dX0_moveCards_45 rfl rfl ?_
            refine z_iald (v := (nI (C1 j))) hx hb hK hP 4 0 rfl rfl j rfl (by omega) rfl dX0_moveCards_46 ?_
            refine lv_iconst (v := nI 1) hx hb dX0_moveCards_47 (by decide) ?_
            refine z_iadd (v := (nI ((C1 j) + 1))) hx hb dX0_moveCards_48 (nI_add _ _) ?_
            refine z_iast hx hb hK hP hD hS 4 0 rfl rfl j rfl (by omega) (upd_N C1 j ((C1 j) + 1)) [(h0, .inr (0, [.ref a1, .ref a2, .ref a3, .ref a4, .int (nI N), .int (nI K)])), (a1, .inl (cI, 8, .inl (fun z_ => nI (T z_)))), (a2, .inl (cI, 16, .inl (fun z_ => nI (F z_)))), (a3, .inl (cI, 16, .inl (fun z_ => nI (G z_)))), (a4, .inl (cI, 16, .inl (fun z_ => nI ((up C1 j ((C1 j) + 1)) z_))))] rfl dX0_moveCards_49 (fun H locs hP hD hS => ?_)
            refine lv_iinc (v := (nI (j + 1))) (lv' := [(2, .int (nI (j + 1))), (0, .ref h0), (1, .int (nI v))]) hx hb dX0_moveCards_50 hl (k := 2) rfl (z_incN j 1 (by decide)) (by decide) rfl (fun ls hl => ?_)
            refine lv_goto (tgt := 2) hx hb dX0_moveCards_53 (by decide) ?_
            have o_i1 : (j + 1) ≤ K := by first | assumption | omega
            have o_i2 : (up C1 j ((C1 j) + 1)) = sp_mv (j + 1) F G C v := by exact sp_mv_c i2 (fun a ha => by simp [up_e, ha]) (by have hq : C1 j = C j := (by rw [i2, sp_mv_at]); have hz := sp_rdy_i hr j (by omega); simp [up_e, hq, sp_mv_at, *]; try omega)
            have o_mu : (K - (j + 1)) < n := by omega
            exact ih2 (j + 1) (up C1 j ((C1 j) + 1)) o_mu o_i1 o_i2 H locs hP hD hS ls (lv_sub hl [1, 2, 0] rfl)
        · skip
          refine lv_aload_n hx hb dX0_moveCards_20 rfl (lv_at hl 0 rfl) ?_
          refine z_get (D := (dC, dI)) (ci := 0) (v := .ref a4) (C := RX0) (T := TX0) (N := 6) hx hb hts uX0 hown hK hP 0 rfl rfl 3 (by decide) w21 rfl rfl dX0_moveCards_21 ?_
          refine lv_iload_n hx hb dX0_moveCards_24 rfl (lv_at hl 2 rfl) ?_
          refine lv_dup2_11 hx hb dX0_moveCards_25 rfl rfl ?_
          refine z_iald (v := (nI (C1 j))) hx hb hK hP 4 0 rfl rfl j rfl (by omega) rfl dX0_moveCards_26 ?_
          refine lv_iconst (v := nI 1) hx hb dX0_moveCards_27 (by decide) ?_
          refine z_isub (v := (nI ((C1 j) - 1))) hx hb dX0_moveCards_28 (pk_sub (by have := sp_rdy_i hr j (by omega) c_17; rw [i2, sp_mv_at]; omega)) ?_
          refine z_iast hx hb hK hP hD hS 4 0 rfl rfl j rfl (by omega) (upd_N C1 j ((C1 j) - 1)) [(h0, .inr (0, [.ref a1, .ref a2, .ref a3, .ref a4, .int (nI N), .int (nI K)])), (a1, .inl (cI, 8, .inl (fun z_ => nI (T z_)))), (a2, .inl (cI, 16, .inl (fun z_ => nI (F z_)))), (a3, .inl (cI, 16, .inl (fun z_ => nI (G z_)))), (a4, .inl (cI, 16, .inl (fun z_ => nI ((up C1 j ((C1 j) - 1)) z_))))] rfl dX0_moveCards_29 (fun H locs hP hD hS => ?_)
          refine lv_aload_n hx hb dX0_moveCards_30 rfl (lv_at hl 0 rfl) ?_
          refine z_get (D := (dC, dI)) (ci := 0) (v := .ref a2) (C := RX0) (T := TX0) (N := 6) hx hb hts uX0 hown hK hP 0 rfl rfl 1 (by decide) w15 rfl rfl dX0_moveCards_31 ?_
          refine lv_iload_n hx hb dX0_moveCards_34 rfl (lv_at hl 2 rfl) ?_
          refine z_iald (v := (nI (F j))) hx hb hK hP 2 0 rfl rfl j rfl (by omega) rfl dX0_moveCards_35 ?_
          have f35_0 := bF j
          refine lv_iload_n hx hb dX0_moveCards_36 rfl (lv_at hl 1 rfl) ?_
          refine z_icmp_ne (tgt := 50) hx hb dX0_moveCards_37 (by decide) (zcn_eq (a := F j) (b := v) rfl rfl (by omega)) (fun c_37 => ?_) (fun c_37 => ?_)
          · skip
            refine lv_iinc (v := (nI (j + 1))) (lv' := [(2, .int (nI (j + 1))), (0, .ref h0), (1, .int (nI v))]) hx hb dX0_moveCards_50 hl (k := 2) rfl (z_incN j 1 (by decide)) (by decide) rfl (fun ls hl => ?_)
            refine lv_goto (tgt := 2) hx hb dX0_moveCards_53 (by decide) ?_
            have o_i1 : (j + 1) ≤ K := by first | assumption | omega
            have o_i2 : (up C1 j ((C1 j) - 1)) = sp_mv (j + 1) F G C v := by exact sp_mv_c i2 (fun a ha => by simp [up_e, ha]) (by have hq : C1 j = C j := (by rw [i2, sp_mv_at]); have hz := sp_rdy_i hr j (by omega); simp [up_e, hq, sp_mv_at, *]; try omega)
            have o_mu : (K - (j + 1)) < n := by omega
            exact ih2 (j + 1) (up C1 j ((C1 j) - 1)) o_mu o_i1 o_i2 H locs hP hD hS ls (lv_sub hl [1, 2, 0] rfl)
          · skip
            refine lv_aload_n hx hb dX0_moveCards_40 rfl (lv_at hl 0 rfl) ?_
            refine z_get (D := (dC, dI)) (ci := 0) (v := .ref a4) (C := RX0) (T := TX0) (N := 6) hx hb hts uX0 hown hK hP 0 rfl rfl 3 (by decide) w21 rfl rfl dX0_moveCards_41 ?_
            refine lv_iload_n hx hb dX0_moveCards_44 rfl (lv_at hl 2 rfl) ?_
            refine lv_dup2_11 hx hb dX0_moveCards_45 rfl rfl ?_
            refine z_iald (v := (nI ((up C1 j ((C1 j) - 1)) j))) hx hb hK hP 4 0 rfl rfl j rfl (by omega) rfl dX0_moveCards_46 ?_
            refine lv_iconst (v := nI 1) hx hb dX0_moveCards_47 (by decide) ?_
            refine z_iadd (v := (nI (((up C1 j ((C1 j) - 1)) j) + 1))) hx hb dX0_moveCards_48 (nI_add _ _) ?_
            refine z_iast hx hb hK hP hD hS 4 0 rfl rfl j rfl (by omega) (upd_N (up C1 j ((C1 j) - 1)) j (((up C1 j ((C1 j) - 1)) j) + 1)) [(h0, .inr (0, [.ref a1, .ref a2, .ref a3, .ref a4, .int (nI N), .int (nI K)])), (a1, .inl (cI, 8, .inl (fun z_ => nI (T z_)))), (a2, .inl (cI, 16, .inl (fun z_ => nI (F z_)))), (a3, .inl (cI, 16, .inl (fun z_ => nI (G z_)))), (a4, .inl (cI, 16, .inl (fun z_ => nI ((up (up C1 j ((C1 j) - 1)) j (((up C1 j ((C1 j) - 1)) j) + 1)) z_))))] rfl dX0_moveCards_49 (fun H locs hP hD hS => ?_)
            refine lv_iinc (v := (nI (j + 1))) (lv' := [(2, .int (nI (j + 1))), (0, .ref h0), (1, .int (nI v))]) hx hb dX0_moveCards_50 hl (k := 2) rfl (z_incN j 1 (by decide)) (by decide) rfl (fun ls hl => ?_)
            refine lv_goto (tgt := 2) hx hb dX0_moveCards_53 (by decide) ?_
            have o_i1 : (j + 1) ≤ K := by first | assumption | omega
            have o_i2 : (up (up C1 j ((C1 j) - 1)) j (((up C1 j ((C1 j) - 1)) j) + 1)) = sp_mv (j + 1) F G C v := by exact sp_mv_c i2 (fun a ha => by simp [up_e, ha]) (by have hq : C1 j = C j := (by rw [i2, sp_mv_at]); have hz := sp_rdy_i hr j (by omega); simp [up_e, hq, sp_mv_at, *]; try omega)
            have o_mu : (K - (j + 1)) < n := by omega
            exact ih2 (j + 1) (up (up C1 j ((C1 j) - 1)) j (((up C1 j ((C1 j) - 1)) j) + 1)) o_mu o_i1 o_i2 H locs hP hD hS ls (lv_sub hl [1, 2, 0] rfl)
  have o_i1 : 0 ≤ K := by first | assumption | omega
  have o_i2 : C = sp_mv 0 F G C v := by exact sp_mv_0 F G C v
  exact L2 ((K - 0) + 1) 0 C (Nat.lt_succ_self _) o_i1 o_i2 H locs hP hD hS ls (lv_sub hl [1, 2, 0] rfl)

set_option maxHeartbeats 4000000 in
set_option maxRecDepth 100000 in
theorem c_X0_countReady (l : Launch) (dC : Nat → ClassId) (dI : Nat → Nat → Nat) (cI cJ : ClassId) (sz : Nat) (h0 : Nat) (a1 : Nat) (a2 : Nat) (a3 : Nat) (a4 : Nat) (N : Nat) (K : Nat) (T : Nat → Nat) (F : Nat → Nat) (G : Nat → Nat) (C : Nat → Nat) (bN : N ≤ 8) (bK : K ≤ 16) (bC : ∀ a, C a ≤ 9) (bG : ∀ a, G a < 8) : Met l yX0_countReady wsX0_countReady (zR 1 0 0 22) (va_Pc [.ref h0] (zP (dC, dI) [(cI, .int), (cJ, .long)] [(h0, .inr (0, [.ref a1, .ref a2, .ref a3, .ref a4, .int (nI N), .int (nI K)])), (a1, .inl (cI, 8, .inl (fun z_ => nI (T z_)))), (a2, .inl (cI, 16, .inl (fun z_ => nI (F z_)))), (a3, .inl (cI, 16, .inl (fun z_ => nI (G z_)))), (a4, .inl (cI, 16, .inl (fun z_ => nI (C z_))))] sz nwA)) (va_Qi (fun (r : Int32) (u : (Nat)) => r = (nI u) ∧ (u = sp_cnt N K G C)) (zB (dC, dI) (fun (u : (Nat)) => [(h0, .inr (0, [.ref a1, .ref a2, .ref a3, .ref a4, .int (nI N), .int (nI K)])), (a1, .inl (cI, 8, .inl (fun z_ => nI (T z_)))), (a2, .inl (cI, 16, .inl (fun z_ => nI (F z_)))), (a3, .inl (cI, 16, .inl (fun z_ => nI (G z_)))), (a4, .inl (cI, 16, .inl (fun z_ => nI (C z_))))]) (va_A [(h0, .inr (0, [.ref a1, .ref a2, .ref a3, .ref a4, .int (nI N), .int (nI K)])), (a1, .inl (cI, 8, .inl (fun z_ => nI (T z_)))), (a2, .inl (cI, 16, .inl (fun z_ => nI (F z_)))), (a3, .inl (cI, 16, .inl (fun z_ => nI (G z_)))), (a4, .inl (cI, 16, .inl (fun z_ => nI (C z_))))] sz)) (va_A [(h0, .inr (0, [.ref a1, .ref a2, .ref a3, .ref a4, .int (nI N), .int (nI K)])), (a1, .inl (cI, 8, .inl (fun z_ => nI (T z_)))), (a2, .inl (cI, 16, .inl (fun z_ => nI (F z_)))), (a3, .inl (cI, 16, .inl (fun z_ => nI (G z_)))), (a4, .inl (cI, 16, .inl (fun z_ => nI (C z_))))] sz)) 0 0 (va_A [(h0, .inr (0, [.ref a1, .ref a2, .ref a3, .ref a4, .int (nI N), .int (nI K)])), (a1, .inl (cI, 8, .inl (fun z_ => nI (T z_)))), (a2, .inl (cI, 16, .inl (fun z_ => nI (F z_)))), (a3, .inl (cI, 16, .inl (fun z_ => nI (G z_)))), (a4, .inl (cI, 16, .inl (fun z_ => nI (C z_))))] sz) := by
  refine z_met_i (cc := cX0_countReady) (maxL := 3) (by decide) rfl (Nat.le_of_ble_eq_true rfl) ?_
  intro p e s m args below meth c Q A ls hx hb hml hown hts hin hA hK hP hD hN hl hRET
  have hown : s.vm.findClass RX0 = some m.cls := hown
  obtain ⟨H, eH⟩ : ∃ H : Heap, H = s.heap := ⟨_, rfl⟩
  rw [← eH] at hP
  obtain ⟨locs, eL⟩ : ∃ z : List Loc, z = [] := ⟨_, rfl⟩
  rw [← eH, ← eL]
  have hS : va_S A s.heap H locs := by rw [eH, eL]; exact va_S.rf
  have hl : lv_has ls 3 [(0, .ref h0)] := hl
  have w24 := hts (.fieldLink RX0 24 "PullCards$Line" "stations" "I") (by decide +kernel)
  have uX0 : ∀ w ∈ wsX00, w ∈ wsX0_countReady := by decide +kernel
  refine lv_iconst (v := nI 0) hx hb dX0_countReady_0 (by decide) ?_
  refine lv_istore_n (lv' := [(1, .int (nI 0)), (0, .ref h0)]) hx hb dX0_countReady_1 rfl hl (by decide) rfl (fun ls hl => ?_)
  refine lv_iconst (v := nI 0) hx hb dX0_countReady_2 (by decide) ?_
  refine lv_istore_n (lv' := [(2, .int (nI 0)), (1, .int (nI 0)), (0, .ref h0)]) hx hb dX0_countReady_3 rfl hl (by decide) rfl (fun ls hl => ?_)
  have L4 : ∀ (n : Nat) (j : Nat) (n1 : Nat), (N - j) < n → (j ≤ N) → (n1 = fb_ct (fun v => sp_rdy K G C v) j) → (n1 ≤ j) → ∀ (H : Heap) (locs : List Loc), va_P (dC, dI) vwCl [(h0, .inr (0, [.ref a1, .ref a2, .ref a3, .ref a4, .int (nI N), .int (nI K)])), (a1, .inl (cI, 8, .inl (fun z_ => nI (T z_)))), (a2, .inl (cI, 16, .inl (fun z_ => nI (F z_)))), (a3, .inl (cI, 16, .inl (fun z_ => nI (G z_)))), (a4, .inl (cI, 16, .inl (fun z_ => nI (C z_))))] H → va_D A [(h0, .inr (0, [.ref a1, .ref a2, .ref a3, .ref a4, .int (nI N), .int (nI K)])), (a1, .inl (cI, 8, .inl (fun z_ => nI (T z_)))), (a2, .inl (cI, 16, .inl (fun z_ => nI (F z_)))), (a3, .inl (cI, 16, .inl (fun z_ => nI (G z_)))), (a4, .inl (cI, 16, .inl (fun z_ => nI (C z_))))] → va_S A s.heap H locs → ∀ (ls : Array Slot), lv_has ls 3 [(0, .ref h0), (1, .int (nI n1)), (2, .int (nI j))] → W p l e (zR 1 0 0 22) s m args below meth c H locs 0 0 Q (F0 m 4 ls []) := by
    intro n
    induction n with
    | zero => intro j n1 hn; exact absurd hn (Nat.not_lt_zero _)
    | succ n ih =>
      intro j n1 hn i1 i2 i3 H locs hP hD hS ls hl
      have ih4 := ih
      have hn4 := hn
      clear ih hn
      refine lv_iload_n hx hb dX0_countReady_4 rfl (lv_at hl 2 rfl) ?_
      refine lv_aload_n hx hb dX0_countReady_5 rfl (lv_at hl 0 rfl) ?_
      refine z_get (D := (dC, dI)) (ci := 0) (v := .int (nI N)) (C := RX0) (T := TX0) (N := 6) hx hb hts uX0 hown hK hP 0 rfl rfl 4 (by decide) w24 rfl rfl dX0_countReady_6 ?_
      refine z_icmp_ge (tgt := 29) hx hb dX0_countReady_9 (by decide) (zcn_le (a := N) (b := j) rfl rfl (by omega)) (fun c_9 => ?_) (fun c_9 => ?_)
      · skip
        refine lv_iload_n hx hb dX0_countReady_29 rfl (lv_at hl 1 rfl) ?_
        have q_0 : n1 = sp_cnt N K G C := by rw [i2, show j = N from by omega]; rfl
        exact hRET _ ls H locs ((nI n1)) (n1) dX0_countReady_30 ⟨rfl, q_0⟩ hP hD hS
      · skip
        refine lv_aload_n hx hb dX0_countReady_12 rfl (lv_at hl 0 rfl) ?_
        refine lv_iload_n hx hb dX0_countReady_13 rfl (lv_at hl 2 rfl) ?_
        refine z_callVi (As := [.int (nI j)]) (rest := []) (wr := []) ⟨hx, hb, hml, hown, hts⟩ (c_X0_isReady l dC dI cI cJ H.size h0 a1 a2 a3 a4 N K T F G C j (by first | assumption | omega) (by first | assumption | omega) (by first | assumption | omega) (by first | assumption | omega)) (cwV 1 hts gX0_countReady_X0_isReady rfl rfl rfl (by decide +kernel) ⟨Nat.le_of_ble_eq_true rfl, Nat.le_of_ble_eq_true rfl⟩) hA hK hP hD hS [0, 1, 2, 3, 4] [] [0, 1, 2, 3, 4] rfl rfl (by decide) (by decide) (by decide) nwA_ok hN (ci := 0) rfl rfl 0 rfl hl.1 (Nat.le_of_ble_eq_true rfl) ⟨Nat.le_refl _, Nat.le_refl _⟩ rfl rfl dX0_countReady_14 (fun (u : (Nat)) => [(h0, .inr (0, [.ref a1, .ref a2, .ref a3, .ref a4, .int (nI N), .int (nI K)])), (a1, .inl (cI, 8, .inl (fun z_ => nI (T z_)))), (a2, .inl (cI, 16, .inl (fun z_ => nI (F z_)))), (a3, .inl (cI, 16, .inl (fun z_ => nI (G z_)))), (a4, .inl (cI, 16, .inl (fun z_ => nI (C z_))))]) (fun u => rfl) (by decide) (fun r_14 u H locs hw hP hD hS => ?_)
        obtain ⟨rv_14, eu⟩ : ∃ z, z = u := ⟨_, rfl⟩
        subst eu
        have hP : va_P (dC, dI) vwCl [(h0, .inr (0, [.ref a1, .ref a2, .ref a3, .ref a4, .int (nI N), .int (nI K)])), (a1, .inl (cI, 8, .inl (fun z_ => nI (T z_)))), (a2, .inl (cI, 16, .inl (fun z_ => nI (F z_)))), (a3, .inl (cI, 16, .inl (fun z_ => nI (G z_)))), (a4, .inl (cI, 16, .inl (fun z_ => nI (C z_))))] H := hP
        have hD : va_D A [(h0, .inr (0, [.ref a1, .ref a2, .ref a3, .ref a4, .int (nI N), .int (nI K)])), (a1, .inl (cI, 8, .inl (fun z_ => nI (T z_)))), (a2, .inl (cI, 16, .inl (fun z_ => nI (F z_)))), (a3, .inl (cI, 16, .inl (fun z_ => nI (G z_)))), (a4, .inl (cI, 16, .inl (fun z_ => nI (C z_))))] := hD
        obtain ⟨er, p14_0⟩ := hw
        have p14_0 : (rv_14 = 1 ∧ sp_rdy K G C j = true) ∨ (rv_14 = 0 ∧ sp_rdy K G C j = false) := p14_0
        have er : r_14 = (nI rv_14) := er
        subst er
        rcases p14_0 with ⟨h14, c_14⟩ | ⟨h14, c_14⟩
        · skip
          subst h14
          refine lv_if_eq (tgt := 23) hx hb dX0_countReady_17 (by decide) (fun c_x => absurd c_x (by decide)) (fun _ => ?_)
          refine lv_iinc (v := (nI (n1 + 1))) (lv' := [(1, .int (nI (n1 + 1))), (0, .ref h0), (2, .int (nI j))]) hx hb dX0_countReady_20 hl (k := 1) rfl (z_incN n1 1 (by decide)) (by decide) rfl (fun ls hl => ?_)
          refine lv_iinc (v := (nI (j + 1))) (lv' := [(2, .int (nI (j + 1))), (1, .int (nI (n1 + 1))), (0, .ref h0)]) hx hb dX0_countReady_23 hl (k := 2) rfl (z_incN j 1 (by decide)) (by decide) rfl (fun ls hl => ?_)
          refine lv_goto (tgt := 4) hx hb dX0_countReady_26 (by decide) ?_
          have o_i1 : (j + 1) ≤ N := by first | assumption | omega
          have o_i2 : (n1 + 1) = fb_ct (fun v => sp_rdy K G C v) (j + 1) := by rw [fb_ct_succ, i2]; simp [c_14]
          have o_i3 : (n1 + 1) ≤ (j + 1) := by first | assumption | omega
          have o_mu : (N - (j + 1)) < n := by omega
          exact ih4 (j + 1) (n1 + 1) o_mu o_i1 o_i2 o_i3 H locs hP hD hS ls (lv_sub hl [2, 1, 0] rfl)
        · skip
          subst h14
          refine lv_if_eq (tgt := 23) hx hb dX0_countReady_17 (by decide) (fun _ => ?_) (fun c_x => absurd c_x (by decide))
          refine lv_iinc (v := (nI (j + 1))) (lv' := [(2, .int (nI (j + 1))), (0, .ref h0), (1, .int (nI n1))]) hx hb dX0_countReady_23 hl (k := 2) rfl (z_incN j 1 (by decide)) (by decide) rfl (fun ls hl => ?_)
          refine lv_goto (tgt := 4) hx hb dX0_countReady_26 (by decide) ?_
          have o_i1 : (j + 1) ≤ N := by first | assumption | omega
          have o_i2 : n1 = fb_ct (fun v => sp_rdy K G C v) (j + 1) := by rw [fb_ct_succ, i2]; simp [c_14]
          have o_i3 : n1 ≤ (j + 1) := by first | assumption | omega
          have o_mu : (N - (j + 1)) < n := by omega
          exact ih4 (j + 1) n1 o_mu o_i1 o_i2 o_i3 H locs hP hD hS ls (lv_sub hl [1, 2, 0] rfl)
  have o_i1 : 0 ≤ N := by first | assumption | omega
  have o_i2 : 0 = fb_ct (fun v => sp_rdy K G C v) 0 := by rfl
  have o_i3 : 0 ≤ 0 := by first | assumption | omega
  exact L4 ((N - 0) + 1) 0 0 (Nat.lt_succ_self _) o_i1 o_i2 o_i3 H locs hP hD hS ls (lv_sub hl [2, 1, 0] rfl)

set_option maxHeartbeats 4000000 in
set_option maxRecDepth 100000 in
theorem c_X0_countCards (l : Launch) (dC : Nat → ClassId) (dI : Nat → Nat → Nat) (cI cJ : ClassId) (sz : Nat) (h0 : Nat) (a1 : Nat) (a2 : Nat) (a3 : Nat) (a4 : Nat) (N : Nat) (K : Nat) (T : Nat → Nat) (F : Nat → Nat) (G : Nat → Nat) (C : Nat → Nat) (bK : K ≤ 16) (bC : ∀ a, C a ≤ 9) : Met l yX0_countCards wsX0_countCards (zR 0 0 0 0) (va_Pc [.ref h0] (zP (dC, dI) [(cI, .int), (cJ, .long)] [(h0, .inr (0, [.ref a1, .ref a2, .ref a3, .ref a4, .int (nI N), .int (nI K)])), (a1, .inl (cI, 8, .inl (fun z_ => nI (T z_)))), (a2, .inl (cI, 16, .inl (fun z_ => nI (F z_)))), (a3, .inl (cI, 16, .inl (fun z_ => nI (G z_)))), (a4, .inl (cI, 16, .inl (fun z_ => nI (C z_))))] sz nwA)) (va_Qi (fun (r : Int32) (u : (Nat)) => r = (nI u) ∧ (u = fb_sm C K)) (zB (dC, dI) (fun (u : (Nat)) => [(h0, .inr (0, [.ref a1, .ref a2, .ref a3, .ref a4, .int (nI N), .int (nI K)])), (a1, .inl (cI, 8, .inl (fun z_ => nI (T z_)))), (a2, .inl (cI, 16, .inl (fun z_ => nI (F z_)))), (a3, .inl (cI, 16, .inl (fun z_ => nI (G z_)))), (a4, .inl (cI, 16, .inl (fun z_ => nI (C z_))))]) (va_A [(h0, .inr (0, [.ref a1, .ref a2, .ref a3, .ref a4, .int (nI N), .int (nI K)])), (a1, .inl (cI, 8, .inl (fun z_ => nI (T z_)))), (a2, .inl (cI, 16, .inl (fun z_ => nI (F z_)))), (a3, .inl (cI, 16, .inl (fun z_ => nI (G z_)))), (a4, .inl (cI, 16, .inl (fun z_ => nI (C z_))))] sz)) (va_A [(h0, .inr (0, [.ref a1, .ref a2, .ref a3, .ref a4, .int (nI N), .int (nI K)])), (a1, .inl (cI, 8, .inl (fun z_ => nI (T z_)))), (a2, .inl (cI, 16, .inl (fun z_ => nI (F z_)))), (a3, .inl (cI, 16, .inl (fun z_ => nI (G z_)))), (a4, .inl (cI, 16, .inl (fun z_ => nI (C z_))))] sz)) 0 0 (va_A [(h0, .inr (0, [.ref a1, .ref a2, .ref a3, .ref a4, .int (nI N), .int (nI K)])), (a1, .inl (cI, 8, .inl (fun z_ => nI (T z_)))), (a2, .inl (cI, 16, .inl (fun z_ => nI (F z_)))), (a3, .inl (cI, 16, .inl (fun z_ => nI (G z_)))), (a4, .inl (cI, 16, .inl (fun z_ => nI (C z_))))] sz) := by
  refine z_met_i (cc := cX0_countCards) (maxL := 3) (by decide) rfl (Nat.le_of_ble_eq_true rfl) ?_
  intro p e s m args below meth c Q A ls hx hb hml hown hts hin hA hK hP hD hN hl hRET
  have hown : s.vm.findClass RX0 = some m.cls := hown
  obtain ⟨H, eH⟩ : ∃ H : Heap, H = s.heap := ⟨_, rfl⟩
  rw [← eH] at hP
  obtain ⟨locs, eL⟩ : ∃ z : List Loc, z = [] := ⟨_, rfl⟩
  rw [← eH, ← eL]
  have hS : va_S A s.heap H locs := by rw [eH, eL]; exact va_S.rf
  have hl : lv_has ls 3 [(0, .ref h0)] := hl
  have w32 := hts (.fieldLink RX0 32 "PullCards$Line" "arcs" "I") (by decide +kernel)
  have uX0 : ∀ w ∈ wsX00, w ∈ wsX0_countCards := by decide +kernel
  have w21 := hts (.fieldLink RX0 21 "PullCards$Line" "cards" "[I") (by decide +kernel)
  refine lv_iconst (v := nI 0) hx hb dX0_countCards_0 (by decide) ?_
  refine lv_istore_n (lv' := [(1, .int (nI 0)), (0, .ref h0)]) hx hb dX0_countCards_1 rfl hl (by decide) rfl (fun ls hl => ?_)
  refine lv_iconst (v := nI 0) hx hb dX0_countCards_2 (by decide) ?_
  refine lv_istore_n (lv' := [(2, .int (nI 0)), (1, .int (nI 0)), (0, .ref h0)]) hx hb dX0_countCards_3 rfl hl (by decide) rfl (fun ls hl => ?_)
  have L4 : ∀ (n : Nat) (j : Nat) (n1 : Nat), (K - j) < n → (j ≤ K) → (n1 = fb_sm C j) → ∀ (H : Heap) (locs : List Loc), va_P (dC, dI) vwCl [(h0, .inr (0, [.ref a1, .ref a2, .ref a3, .ref a4, .int (nI N), .int (nI K)])), (a1, .inl (cI, 8, .inl (fun z_ => nI (T z_)))), (a2, .inl (cI, 16, .inl (fun z_ => nI (F z_)))), (a3, .inl (cI, 16, .inl (fun z_ => nI (G z_)))), (a4, .inl (cI, 16, .inl (fun z_ => nI (C z_))))] H → va_D A [(h0, .inr (0, [.ref a1, .ref a2, .ref a3, .ref a4, .int (nI N), .int (nI K)])), (a1, .inl (cI, 8, .inl (fun z_ => nI (T z_)))), (a2, .inl (cI, 16, .inl (fun z_ => nI (F z_)))), (a3, .inl (cI, 16, .inl (fun z_ => nI (G z_)))), (a4, .inl (cI, 16, .inl (fun z_ => nI (C z_))))] → va_S A s.heap H locs → ∀ (ls : Array Slot), lv_has ls 3 [(0, .ref h0), (1, .int (nI n1)), (2, .int (nI j))] → W p l e (zR 0 0 0 0) s m args below meth c H locs 0 0 Q (F0 m 4 ls []) := by
    intro n
    induction n with
    | zero => intro j n1 hn; exact absurd hn (Nat.not_lt_zero _)
    | succ n ih =>
      intro j n1 hn i1 i2 H locs hP hD hS ls hl
      have ih4 := ih
      have hn4 := hn
      clear ih hn
      refine lv_iload_n hx hb dX0_countCards_4 rfl (lv_at hl 2 rfl) ?_
      refine lv_aload_n hx hb dX0_countCards_5 rfl (lv_at hl 0 rfl) ?_
      refine z_get (D := (dC, dI)) (ci := 0) (v := .int (nI K)) (C := RX0) (T := TX0) (N := 6) hx hb hts uX0 hown hK hP 0 rfl rfl 5 (by decide) w32 rfl rfl dX0_countCards_6 ?_
      refine z_icmp_ge (tgt := 27) hx hb dX0_countCards_9 (by decide) (zcn_le (a := K) (b := j) rfl rfl (by omega)) (fun c_9 => ?_) (fun c_9 => ?_)
      · skip
        refine lv_iload_n hx hb dX0_countCards_27 rfl (lv_at hl 1 rfl) ?_
        have q_0 : n1 = fb_sm C K := by rw [i2, show j = K from by omega]
        exact hRET _ ls H locs ((nI n1)) (n1) dX0_countCards_28 ⟨rfl, q_0⟩ hP hD hS
      · skip
        refine lv_iload_n hx hb dX0_countCards_12 rfl (lv_at hl 1 rfl) ?_
        refine lv_aload_n hx hb dX0_countCards_13 rfl (lv_at hl 0 rfl) ?_
        refine z_get (D := (dC, dI)) (ci := 0) (v := .ref a4) (C := RX0) (T := TX0) (N := 6) hx hb hts uX0 hown hK hP 0 rfl rfl 3 (by decide) w21 rfl rfl dX0_countCards_14 ?_
        refine lv_iload_n hx hb dX0_countCards_17 rfl (lv_at hl 2 rfl) ?_
        refine z_iald (v := (nI (C j))) hx hb hK hP 4 0 rfl rfl j rfl (by omega) rfl dX0_countCards_18 ?_
        have f18_0 := bC j
        refine z_iadd (v := (nI (n1 + (C j)))) hx hb dX0_countCards_19 (nI_add _ _) ?_
        refine lv_istore_n (lv' := [(1, .int (nI (n1 + (C j)))), (0, .ref h0), (2, .int (nI j))]) hx hb dX0_countCards_20 rfl hl (by decide) rfl (fun ls hl => ?_)
        refine lv_iinc (v := (nI (j + 1))) (lv' := [(2, .int (nI (j + 1))), (1, .int (nI (n1 + (C j)))), (0, .ref h0)]) hx hb dX0_countCards_21 hl (k := 2) rfl (z_incN j 1 (by decide)) (by decide) rfl (fun ls hl => ?_)
        refine lv_goto (tgt := 4) hx hb dX0_countCards_24 (by decide) ?_
        have o_i1 : (j + 1) ≤ K := by first | assumption | omega
        have o_i2 : (n1 + (C j)) = fb_sm C (j + 1) := by rw [fb_sm_succ, i2]
        have o_mu : (K - (j + 1)) < n := by omega
        exact ih4 (j + 1) (n1 + (C j)) o_mu o_i1 o_i2 H locs hP hD hS ls (lv_sub hl [2, 1, 0] rfl)
  have o_i1 : 0 ≤ K := by first | assumption | omega
  have o_i2 : 0 = fb_sm C 0 := by rfl
  exact L4 ((K - 0) + 1) 0 0 (Nat.lt_succ_self _) o_i1 o_i2 H locs hP hD hS ls (lv_sub hl [2, 1, 0] rfl)
