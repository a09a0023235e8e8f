set_option maxHeartbeats 4000000 in
set_option maxRecDepth 100000 in
theorem c_X1_has (l : Launch) (dC : Nat → ClassId) (dI : Nat → Nat → Nat) (cI cJ : ClassId) (sz : Nat) (p0 : Nat) (p1 : Nat) (p2 : Nat) (p3 : Nat) (p4 : Nat) (h0 : Nat) (mn : Nat) (ns : Nat) (z : Int) (bmn : mn ≤ 636) (bz : -2147483648 ≤ z ∧ z < 2147483648) : Met l yX1_has wsX1_has (zR 1 0 0 22) (va_Pc [.ref p0, .int (iI z)] (zP (dC, dI) [(cI, .int), (cJ, .long)] [(p0, .inr (1, [.ref h0, .ref p1, .ref p2, .ref p3, .int (nI mn), .ref p4, .int (nI ns)]))] sz nwA)) (va_Qi (fun (r : Int32) (u : (Nat)) => r = (nI u) ∧ ((u = 1 ∧ (0 ≤ z ∧ z < (mn : Int))) ∨ (u = 0 ∧ ¬ (0 ≤ z ∧ z < (mn : Int))))) (zB (dC, dI) (fun (u : (Nat)) => [(p0, .inr (1, [.ref h0, .ref p1, .ref p2, .ref p3, .int (nI mn), .ref p4, .int (nI ns)]))]) (va_A [(p0, .inr (1, [.ref h0, .ref p1, .ref p2, .ref p3, .int (nI mn), .ref p4, .int (nI ns)]))] sz)) (va_A [(p0, .inr (1, [.ref h0, .ref p1, .ref p2, .ref p3, .int (nI mn), .ref p4, .int (nI ns)]))] sz)) 0 0 (va_A [(p0, .inr (1, [.ref h0, .ref p1, .ref p2, .ref p3, .int (nI mn), .ref p4, .int (nI ns)]))] sz) := by
  refine z_met_z (cc := cX1_has) (maxL := 2) (by decide) rfl (Nat.le_of_ble_eq_true rfl) ?_
  intro p e s m args below meth c Q A ls hx hb hml hown hts hin hA hK hP hD hN hl hRET
  have hown : s.vm.findClass RX1 = some m.cls := hown
  obtain ⟨H, eH⟩ : ∃ H : Heap, H = s.heap := ⟨_, rfl⟩
  rw [← eH] at hP
  obtain ⟨locs, eL⟩ : ∃ z : List Loc, z = [] := ⟨_, rfl⟩
  rw [← eH, ← eL]
  have hS : va_S A s.heap H locs := by rw [eH, eL]; exact va_S.rf
  have hl : lv_has ls 2 [(0, .ref p0), (1, .int (iI z))] := hl
  have w28 := hts (.fieldLink RX1 28 "PullCards$Loops" "many" "I") (by decide +kernel)
  have uX1 : ∀ w ∈ wsX10, w ∈ wsX1_has := by decide +kernel
  refine lv_iload_n hx hb dX1_has_0 rfl (lv_at hl 1 rfl) ?_
  refine lv_iconst (v := nI 0) hx hb dX1_has_1 (by decide) ?_
  refine lv_aload_n hx hb dX1_has_2 rfl (lv_at hl 0 rfl) ?_
  refine z_get (D := (dC, dI)) (ci := 1) (v := .int (nI mn)) (C := RX1) (T := TX1) (N := 7) hx hb hts uX1 hown hK hP 0 rfl rfl 4 (by decide) w28 rfl rfl dX1_has_3 ?_
  refine lv_iconst (v := nI 1) hx hb dX1_has_6 (by decide) ?_
  refine z_isub (v := (iI (((mn : Nat) : Int) - 1))) hx hb dX1_has_7 (za_sub (iI_N _) (iI_N _)) ?_
  refine z_c1 (v := iI 0) (by decide) ?_
  refine z_callSNi (As := [.int (iI z), .int (iI 0), .int (iI (((mn : Nat) : Int) - 1))]) (rest := []) (wr := [(p0, .inr (1, [.ref h0, .ref p1, .ref p2, .ref p3, .int (nI mn), .ref p4, .int (nI ns)]))]) ⟨hx, hb, hml, hown, hts⟩ (c_X5_within l dC dI cI cJ H.size z (0 : Int) (((mn : Nat) : Int) - 1) (by first | assumption | omega) (by first | assumption | omega) (by first | assumption | omega)) ⟨va_cnB 3 hts gX1_has_X5_within_n32 rfl rfl rfl (hN _ (List.mem_of_getElem? (i := 4) rfl)) (hts (.initialized RX5) (by decide +kernel)) (by decide +kernel) ⟨Nat.le_of_ble_eq_true rfl, Nat.le_of_ble_eq_true rfl⟩, hts (.static yX5_within) (by decide +kernel), trivial⟩ hA hK hP hD hS [] [0] [0] rfl rfl (by decide) (by decide) (by decide) nwA_ok hN hl.1 (Nat.le_of_ble_eq_true rfl) ⟨Nat.le_refl _, Nat.le_refl _⟩ rfl rfl dX1_has_8 (fun (u : (Nat)) => [(p0, .inr (1, [.ref h0, .ref p1, .ref p2, .ref p3, .int (nI mn), .ref p4, .int (nI ns)]))]) (fun u => rfl) (by decide) (fun r_8 u H locs hw hP hD hS => ?_)
  obtain ⟨rv_8, eu⟩ : ∃ z, z = u := ⟨_, rfl⟩
  subst eu
  have hP : va_P (dC, dI) vwCl [(p0, .inr (1, [.ref h0, .ref p1, .ref p2, .ref p3, .int (nI mn), .ref p4, .int (nI ns)]))] H := hP
  have hD : va_D A [(p0, .inr (1, [.ref h0, .ref p1, .ref p2, .ref p3, .int (nI mn), .ref p4, .int (nI ns)]))] := hD
  obtain ⟨er, p8_0⟩ := hw
  have p8_0 : (rv_8 = 1 ∧ ((0 : Int) ≤ z ∧ z ≤ (((mn : Nat) : Int) - 1))) ∨ (rv_8 = 0 ∧ ¬ ((0 : Int) ≤ z ∧ z ≤ (((mn : Nat) : Int) - 1))) := p8_0
  have er : r_8 = (nI rv_8) := er
  subst er
  have q_0 : (rv_8 = 1 ∧ (0 ≤ z ∧ z < (mn : Int))) ∨ (rv_8 = 0 ∧ ¬ (0 ≤ z ∧ z < (mn : Int))) := by omega
  exact hRET _ ls H locs ((nI rv_8)) (rv_8) dX1_has_11 (by exact z_nb (by omega)) ⟨rfl, q_0⟩ hP hD hS

set_option maxHeartbeats 4000000 in
set_option maxRecDepth 100000 in
theorem c_X1_keepPath (l : Launch) (dC : Nat → ClassId) (dI : Nat → Nat → Nat) (cI cJ : ClassId) (sz : Nat) (p0 : Nat) (p1 : Nat) (p2 : Nat) (p3 : Nat) (p4 : Nat) (h0 : Nat) (RW : Nat → Nat) (LE : Nat → Nat) (PA : Nat → Nat) (NC : Nat → Nat) (mn : Nat) (ns : Nat) (len : Nat) (bmn : mn < 636) (bl : len ≤ 8) (bRW : ∀ i, RW i < 16) (bPA : ∀ i, PA i < 16) : Met l yX1_keepPath wsX1_keepPath (zR 0 0 0 0) (va_Pc [.ref p0, .int (nI len)] (zP (dC, dI) [(cI, .int), (cJ, .long)] [(p0, .inr (1, [.ref h0, .ref p1, .ref p2, .ref p3, .int (nI mn), .ref p4, .int (nI ns)])), (p1, .inl (cI, 5088, .inl (fun z_ => nI (RW z_)))), (p2, .inl (cI, 636, .inl (fun z_ => nI (LE z_)))), (p3, .inl (cI, 8, .inl (fun z_ => nI (PA z_)))), (p4, .inl (cI, 16, .inl (fun z_ => nI (NC z_))))] sz nwA)) (va_Qv (fun (u : (Nat → Nat)) => (∀ i, i < len → u (mn * 8 + i) = PA i) ∧ (∀ q, q < mn * 8 → u q = RW q) ∧ (∀ i, u i < 16)) (zB (dC, dI) (fun (u : (Nat → Nat)) => [(p0, .inr (1, [.ref h0, .ref p1, .ref p2, .ref p3, .int (nI (mn + 1)), .ref p4, .int (nI ns)])), (p1, .inl (cI, 5088, .inl (fun z_ => nI (u z_)))), (p2, .inl (cI, 636, .inl (fun z_ => nI ((up LE mn len) z_)))), (p3, .inl (cI, 8, .inl (fun z_ => nI (PA z_)))), (p4, .inl (cI, 16, .inl (fun z_ => nI (NC z_))))]) (va_A [(p0, .inr (1, [.ref h0, .ref p1, .ref p2, .ref p3, .int (nI mn), .ref p4, .int (nI ns)])), (p1, .inl (cI, 5088, .inl (fun z_ => nI (RW z_)))), (p2, .inl (cI, 636, .inl (fun z_ => nI (LE z_)))), (p3, .inl (cI, 8, .inl (fun z_ => nI (PA z_)))), (p4, .inl (cI, 16, .inl (fun z_ => nI (NC z_))))] sz)) (va_A [(p0, .inr (1, [.ref h0, .ref p1, .ref p2, .ref p3, .int (nI mn), .ref p4, .int (nI ns)])), (p1, .inl (cI, 5088, .inl (fun z_ => nI (RW z_)))), (p2, .inl (cI, 636, .inl (fun z_ => nI (LE z_)))), (p3, .inl (cI, 8, .inl (fun z_ => nI (PA z_)))), (p4, .inl (cI, 16, .inl (fun z_ => nI (NC z_))))] sz)) 0 0 (va_A [(p0, .inr (1, [.ref h0, .ref p1, .ref p2, .ref p3, .int (nI mn), .ref p4, .int (nI ns)])), (p1, .inl (cI, 5088, .inl (fun z_ => nI (RW z_)))), (p2, .inl (cI, 636, .inl (fun z_ => nI (LE z_)))), (p3, .inl (cI, 8, .inl (fun z_ => nI (PA z_)))), (p4, .inl (cI, 16, .inl (fun z_ => nI (NC z_))))] sz) := by
  refine z_met_v (cc := cX1_keepPath) (maxL := 3) (by decide) rfl (Nat.le_of_ble_eq_true rfl) ?_
  intro p e s m args below meth c Q A ls hx hb hml hown hts hin hA hK hP hD hN hl hRET
  have hown : s.vm.findClass RX1 = some m.cls := hown
  obtain ⟨H, eH⟩ : ∃ H : Heap, H = s.heap := ⟨_, rfl⟩
  rw [← eH] at hP
  obtain ⟨locs, eL⟩ : ∃ z : List Loc, z = [] := ⟨_, rfl⟩
  rw [← eH, ← eL]
  have hS : va_S A s.heap H locs := by rw [eH, eL]; exact va_S.rf
  have hl : lv_has ls 3 [(0, .ref p0), (1, .int (nI len))] := hl
  have w28 := hts (.fieldLink RX1 28 "PullCards$Loops" "many" "I") (by decide +kernel)
  have uX1 : ∀ w ∈ wsX10, w ∈ wsX1_keepPath := by decide +kernel
  have w11 := hts (.fieldLink RX1 11 "PullCards$Loops" "rows" "[I") (by decide +kernel)
  have w18 := hts (.fieldLink RX1 18 "PullCards$Loops" "path" "[I") (by decide +kernel)
  have w15 := hts (.fieldLink RX1 15 "PullCards$Loops" "lengths" "[I") (by decide +kernel)
  refine lv_aload_n hx hb dX1_keepPath_0 rfl (lv_at hl 0 rfl) ?_
  refine z_get (D := (dC, dI)) (ci := 1) (v := .int (nI mn)) (C := RX1) (T := TX1) (N := 7) hx hb hts uX1 hown hK hP 0 rfl rfl 4 (by decide) w28 rfl rfl dX1_keepPath_1 ?_
  refine lv_sipush (v := nI 636) hx hb dX1_keepPath_4 (by decide) ?_
  refine z_icmp_lt (tgt := 11) hx hb dX1_keepPath_7 (by decide) (zcn_lt (a := mn) (b := 636) rfl rfl (by omega)) (fun c_7 => ?_) (fun c_7 => ?_)
  · skip
    refine lv_iconst (v := nI 0) hx hb dX1_keepPath_11 (by decide) ?_
    refine lv_istore_n (lv' := [(2, .int (nI 0)), (0, .ref p0), (1, .int (nI len))]) hx hb dX1_keepPath_12 rfl hl (by decide) rfl (fun ls hl => ?_)
    have L13 : ∀ (n : Nat) (j : Nat) (RW1 : Nat → Nat), (len - j) < n → (j ≤ len) → (∀ i, i < j → RW1 (mn * 8 + i) = PA i) → (∀ q, q < mn * 8 → RW1 q = RW q) → (∀ i, RW1 i < 16) → ∀ (H : Heap) (locs : List Loc), va_P (dC, dI) vwCl [(p0, .inr (1, [.ref h0, .ref p1, .ref p2, .ref p3, .int (nI mn), .ref p4, .int (nI ns)])), (p1, .inl (cI, 5088, .inl (fun z_ => nI (RW1 z_)))), (p2, .inl (cI, 636, .inl (fun z_ => nI (LE z_)))), (p3, .inl (cI, 8, .inl (fun z_ => nI (PA z_)))), (p4, .inl (cI, 16, .inl (fun z_ => nI (NC z_))))] H → va_D A [(p0, .inr (1, [.ref h0, .ref p1, .ref p2, .ref p3, .int (nI mn), .ref p4, .int (nI ns)])), (p1, .inl (cI, 5088, .inl (fun z_ => nI (RW1 z_)))), (p2, .inl (cI, 636, .inl (fun z_ => nI (LE z_)))), (p3, .inl (cI, 8, .inl (fun z_ => nI (PA z_)))), (p4, .inl (cI, 16, .inl (fun z_ => nI (NC z_))))] → va_S A s.heap H locs → ∀ (ls : Array Slot), lv_has ls 3 [(0, .ref p0), (1, .int (nI len)), (2, .int (nI j))] → W p l e (zR 0 0 0 0) s m args below meth c H locs 0 0 Q (F0 m 13 ls []) := by
      intro n
      induction n with
      | zero => intro j RW1 hn; exact absurd hn (Nat.not_lt_zero _)
      | succ n ih =>
        intro j RW1 hn i1 i2 i3 i4 H locs hP hD hS ls hl
        have ih13 := ih
        have hn13 := hn
        clear ih hn
        refine lv_iload_n hx hb dX1_keepPath_13 rfl (lv_at hl 2 rfl) ?_
        refine lv_iload_n hx hb dX1_keepPath_14 rfl (lv_at hl 1 rfl) ?_
        refine z_icmp_ge (tgt := 44) hx hb dX1_keepPath_15 (by decide) (zcn_le (a := len) (b := j) rfl rfl (by omega)) (fun c_15 => ?_) (fun c_15 => ?_)
        · skip
          refine lv_aload_n hx hb dX1_keepPath_44 rfl (lv_at hl 0 rfl) ?_
          refine z_get (D := (dC, dI)) (ci := 1) (v := .ref p2) (C := RX1) (T := TX1) (N := 7) hx hb hts uX1 hown hK hP 0 rfl rfl 2 (by decide) w15 rfl rfl dX1_keepPath_45 ?_
          refine lv_aload_n hx hb dX1_keepPath_48 rfl (lv_at hl 0 rfl) ?_
          refine z_get (D := (dC, dI)) (ci := 1) (v := .int (nI mn)) (C := RX1) (T := TX1) (N := 7) hx hb hts uX1 hown hK hP 0 rfl rfl 4 (by decide) w28 rfl rfl dX1_keepPath_49 ?_
          refine lv_iload_n hx hb dX1_keepPath_52 rfl (lv_at hl 1 rfl) ?_
          refine z_iast hx hb hK hP hD hS 2 0 rfl rfl mn rfl (by omega) (upd_N LE mn len) [(p0, .inr (1, [.ref h0, .ref p1, .ref p2, .ref p3, .int (nI mn), .ref p4, .int (nI ns)])), (p1, .inl (cI, 5088, .inl (fun z_ => nI (RW1 z_)))), (p2, .inl (cI, 636, .inl (fun z_ => nI ((up LE mn len) z_)))), (p3, .inl (cI, 8, .inl (fun z_ => nI (PA z_)))), (p4, .inl (cI, 16, .inl (fun z_ => nI (NC z_))))] rfl dX1_keepPath_53 (fun H locs hP hD hS => ?_)
          refine lv_aload_n hx hb dX1_keepPath_54 rfl (lv_at hl 0 rfl) ?_
          refine lv_dup hx hb dX1_keepPath_55 rfl ?_
          refine z_get (D := (dC, dI)) (ci := 1) (v := .int (nI mn)) (C := RX1) (T := TX1) (N := 7) hx hb hts uX1 hown hK hP 0 rfl rfl 4 (by decide) w28 rfl rfl dX1_keepPath_56 ?_
          refine lv_iconst (v := nI 1) hx hb dX1_keepPath_59 (by decide) ?_
          refine z_iadd (v := (nI (mn + 1))) hx hb dX1_keepPath_60 (nI_add _ _) ?_
          refine z_put (D := (dC, dI)) (ci := 1) (v := .int (nI (mn + 1))) (C := RX1) (T := TX1) (N := 7) hx hb hts uX1 tyX1 tyX1_ok nmX1 hown hK hP hD hS 0 rfl rfl 4 (by decide) w28 rfl rfl rfl rfl (Nat.le_of_ble_eq_true rfl) [(p0, .inr (1, [.ref h0, .ref p1, .ref p2, .ref p3, .int (nI (mn + 1)), .ref p4, .int (nI ns)])), (p1, .inl (cI, 5088, .inl (fun z_ => nI (RW1 z_)))), (p2, .inl (cI, 636, .inl (fun z_ => nI ((up LE mn len) z_)))), (p3, .inl (cI, 8, .inl (fun z_ => nI (PA z_)))), (p4, .inl (cI, 16, .inl (fun z_ => nI (NC z_))))] rfl dX1_keepPath_61 (fun H locs hP hD hS => ?_)
          have q_0 : ∀ i, i < len → RW1 (mn * 8 + i) = PA i := by intro i hi; exact i2 i (by omega)
          have q_1 : ∀ q, q < mn * 8 → RW1 q = RW q := by exact i3
          have q_2 : ∀ i, RW1 i < 16 := by exact i4
          exact hRET _ ls H locs (RW1) dX1_keepPath_64 ⟨q_0, q_1, q_2⟩ hP hD hS
        · skip
          refine lv_aload_n hx hb dX1_keepPath_18 rfl (lv_at hl 0 rfl) ?_
          refine z_get (D := (dC, dI)) (ci := 1) (v := .ref p1) (C := RX1) (T := TX1) (N := 7) hx hb hts uX1 hown hK hP 0 rfl rfl 1 (by decide) w11 rfl rfl dX1_keepPath_19 ?_
          refine lv_aload_n hx hb dX1_keepPath_22 rfl (lv_at hl 0 rfl) ?_
          refine z_get (D := (dC, dI)) (ci := 1) (v := .int (nI mn)) (C := RX1) (T := TX1) (N := 7) hx hb hts uX1 hown hK hP 0 rfl rfl 4 (by decide) w28 rfl rfl dX1_keepPath_23 ?_
          refine lv_bipush (v := nI 8) hx hb dX1_keepPath_26 (by decide) ?_
          refine z_imul (v := (nI (mn * 8))) hx hb dX1_keepPath_28 (pk_mul _ _) ?_
          refine lv_iload_n hx hb dX1_keepPath_29 rfl (lv_at hl 2 rfl) ?_
          refine z_iadd (v := (nI ((mn * 8) + j))) hx hb dX1_keepPath_30 (nI_add _ _) ?_
          refine lv_aload_n hx hb dX1_keepPath_31 rfl (lv_at hl 0 rfl) ?_
          refine z_get (D := (dC, dI)) (ci := 1) (v := .ref p3) (C := RX1) (T := TX1) (N := 7) hx hb hts uX1 hown hK hP 0 rfl rfl 3 (by decide) w18 rfl rfl dX1_keepPath_32 ?_
          refine lv_iload_n hx hb dX1_keepPath_35 rfl (lv_at hl 2 rfl) ?_
          refine z_iald (v := (nI (PA j))) hx hb hK hP 3 0 rfl rfl j rfl (by omega) rfl dX1_keepPath_36 ?_
          have f36_0 := bPA j
          refine z_iast hx hb hK hP hD hS 1 0 rfl rfl ((mn * 8) + j) rfl (by omega) (upd_N RW1 ((mn * 8) + j) (PA j)) [(p0, .inr (1, [.ref h0, .ref p1, .ref p2, .ref p3, .int (nI mn), .ref p4, .int (nI ns)])), (p1, .inl (cI, 5088, .inl (fun z_ => nI ((up RW1 ((mn * 8) + j) (PA j)) z_)))), (p2, .inl (cI, 636, .inl (fun z_ => nI (LE z_)))), (p3, .inl (cI, 8, .inl (fun z_ => nI (PA z_)))), (p4, .inl (cI, 16, .inl (fun z_ => nI (NC z_))))] rfl dX1_keepPath_37 (fun H locs hP hD hS => ?_)
          refine lv_iinc (v := (nI (j + 1))) (lv' := [(2, .int (nI (j + 1))), (0, .ref p0), (1, .int (nI len))]) hx hb dX1_keepPath_38 hl (k := 2) rfl (z_incN j 1 (by decide)) (by decide) rfl (fun ls hl => ?_)
          refine lv_goto (tgt := 13) hx hb dX1_keepPath_41 (by decide) ?_
          have o_i1 : (j + 1) ≤ len := by first | assumption | omega
          have o_i2 : ∀ i, i < (j + 1) → (up RW1 ((mn * 8) + j) (PA j)) (mn * 8 + i) = PA i := by exact lt_s (fun i hi => by rw [up_n _ _ (by omega)]; exact i2 i hi) (by rw [up_s])
          have o_i3 : ∀ q, q < mn * 8 → (up RW1 ((mn * 8) + j) (PA j)) q = RW q := by intro i hi; rw [up_n _ _ (by omega)]; exact i3 i hi
          have o_i4 : ∀ i, (up RW1 ((mn * 8) + j) (PA j)) i < 16 := by intro i; rw [up_e]; split; exact bPA j; exact i4 i
          have o_mu : (len - (j + 1)) < n := by omega
          exact ih13 (j + 1) (up RW1 ((mn * 8) + j) (PA j)) o_mu o_i1 o_i2 o_i3 o_i4 H locs hP hD hS ls (lv_sub hl [1, 2, 0] rfl)
    have o_i1 : 0 ≤ len := by first | assumption | omega
    have o_i2 : ∀ i, i < 0 → RW (mn * 8 + i) = PA i := by intro i h; omega
    have o_i3 : ∀ q, q < mn * 8 → RW q = RW q := by intro i h; rfl
    have o_i4 : ∀ i, RW i < 16 := by exact bRW
    exact L13 ((len - 0) + 1) 0 RW (Nat.lt_succ_self _) o_i1 o_i2 o_i3 o_i4 H locs hP hD hS ls (lv_sub hl [1, 2, 0] rfl)
  · skip
    exact absurd bmn c_7
set_option maxHeartbeats 4000000 in
set_option maxRecDepth 100000 in
theorem c_X1_extend_0 (l : Launch) (dC : Nat → ClassId) (dI : Nat → Nat → Nat) (cI cJ : ClassId) (sz : Nat) (p0 : Nat) (p1 : Nat) (p2 : Nat) (p3 : Nat) (p4 : Nat) (h0 : Nat) (RW : Nat → Nat) (LE : Nat → Nat) (PA : Nat → Nat) (NC : Nat → Nat) (mn : Nat) (ns : Nat) (a1 : Nat) (a2 : Nat) (a3 : Nat) (a4 : Nat) (N : Nat) (K : Nat) (T : Nat → Nat) (F : Nat → Nat) (G : Nat → Nat) (C : Nat → Nat) (st : Nat) (ps : Nat) (LS : List (List Nat)) (rp : List Nat) (bK : K ≤ 16) (bF : ∀ a, F a < 8) (bG : ∀ a, G a < 8) (bRW : ∀ i, RW i < 16) (bLE : ∀ i, LE i ≤ 8) (bPA : ∀ i, PA i < 16) (bst : st < 8) (hf : rp.length + 0 = 8) (hh : sp_hold LS mn RW LE) (hpa : sp_pth rp PA) (hbt : sp_bits G rp ps) (hbd : LS.length + (sp_lv K F G st 0 rp).length ≤ 636) (hat : sp_at G st rp < 8) : Met l yX1_extend wsX1_extend (zR (0 + 1) 0 0 (27 * (0 + 1))) (va_Pc [.ref p0, .int (nI st), .int (nI (sp_at G st rp)), .int (nI ps), .int (nI rp.length)] (zP (dC, dI) [(cI, .int), (cJ, .long)] [(p0, .inr (1, [.ref h0, .ref p1, .ref p2, .ref p3, .int (nI mn), .ref p4, .int (nI ns)])), (p1, .inl (cI, 5088, .inl (fun z_ => nI (RW z_)))), (p2, .inl (cI, 636, .inl (fun z_ => nI (LE z_)))), (p3, .inl (cI, 8, .inl (fun z_ => nI (PA z_)))), (p4, .inl (cI, 16, .inl (fun z_ => nI (NC z_)))), (h0, .inr (0, [.ref a1, .ref a2, .ref a3, .ref a4, .int (nI N), .int (nI K)])), (a1, .inl (cI, 8, .inl (fun z_ => nI (T z_)))), (a2, .inl (cI, 16, .inl (fun z_ => nI (F z_)))), (a3, .inl (cI, 16, .inl (fun z_ => nI (G z_)))), (a4, .inl (cI, 16, .inl (fun z_ => nI (C z_))))] sz nwA)) (va_Qv (fun (u : (Nat → Nat) × (Nat → Nat) × (Nat → Nat) × (Nat)) => (sp_hold (LS ++ sp_lv K F G st 0 rp) u.2.2.2 u.1 u.2.1) ∧ (∀ i, u.1 i < 16) ∧ (∀ i, u.2.1 i ≤ 8) ∧ (∀ i, u.2.2.1 i < 16) ∧ (∀ i, i < rp.length → u.2.2.1 i = PA i)) (zB (dC, dI) (fun (u : (Nat → Nat) × (Nat → Nat) × (Nat → Nat) × (Nat)) => [(p0, .inr (1, [.ref h0, .ref p1, .ref p2, .ref p3, .int (nI u.2.2.2), .ref p4, .int (nI ns)])), (p1, .inl (cI, 5088, .inl (fun z_ => nI (u.1 z_)))), (p2, .inl (cI, 636, .inl (fun z_ => nI (u.2.1 z_)))), (p3, .inl (cI, 8, .inl (fun z_ => nI (u.2.2.1 z_)))), (p4, .inl (cI, 16, .inl (fun z_ => nI (NC z_)))), (h0, .inr (0, [.ref a1, .ref a2, .ref a3, .ref a4, .int (nI N), .int (nI K)])), (a1, .inl (cI, 8, .inl (fun z_ => nI (T z_)))), (a2, .inl (cI, 16, .inl (fun z_ => nI (F z_)))), (a3, .inl (cI, 16, .inl (fun z_ => nI (G z_)))), (a4, .inl (cI, 16, .inl (fun z_ => nI (C z_))))]) (va_A [(p0, .inr (1, [.ref h0, .ref p1, .ref p2, .ref p3, .int (nI mn), .ref p4, .int (nI ns)])), (p1, .inl (cI, 5088, .inl (fun z_ => nI (RW z_)))), (p2, .inl (cI, 636, .inl (fun z_ => nI (LE z_)))), (p3, .inl (cI, 8, .inl (fun z_ => nI (PA z_)))), (p4, .inl (cI, 16, .inl (fun z_ => nI (NC z_)))), (h0, .inr (0, [.ref a1, .ref a2, .ref a3, .ref a4, .int (nI N), .int (nI K)])), (a1, .inl (cI, 8, .inl (fun z_ => nI (T z_)))), (a2, .inl (cI, 16, .inl (fun z_ => nI (F z_)))), (a3, .inl (cI, 16, .inl (fun z_ => nI (G z_)))), (a4, .inl (cI, 16, .inl (fun z_ => nI (C z_))))] sz)) (va_A [(p0, .inr (1, [.ref h0, .ref p1, .ref p2, .ref p3, .int (nI mn), .ref p4, .int (nI ns)])), (p1, .inl (cI, 5088, .inl (fun z_ => nI (RW z_)))), (p2, .inl (cI, 636, .inl (fun z_ => nI (LE z_)))), (p3, .inl (cI, 8, .inl (fun z_ => nI (PA z_)))), (p4, .inl (cI, 16, .inl (fun z_ => nI (NC z_)))), (h0, .inr (0, [.ref a1, .ref a2, .ref a3, .ref a4, .int (nI N), .int (nI K)])), (a1, .inl (cI, 8, .inl (fun z_ => nI (T z_)))), (a2, .inl (cI, 16, .inl (fun z_ => nI (F z_)))), (a3, .inl (cI, 16, .inl (fun z_ => nI (G z_)))), (a4, .inl (cI, 16, .inl (fun z_ => nI (C z_))))] sz)) 0 0 (va_A [(p0, .inr (1, [.ref h0, .ref p1, .ref p2, .ref p3, .int (nI mn), .ref p4, .int (nI ns)])), (p1, .inl (cI, 5088, .inl (fun z_ => nI (RW z_)))), (p2, .inl (cI, 636, .inl (fun z_ => nI (LE z_)))), (p3, .inl (cI, 8, .inl (fun z_ => nI (PA z_)))), (p4, .inl (cI, 16, .inl (fun z_ => nI (NC z_)))), (h0, .inr (0, [.ref a1, .ref a2, .ref a3, .ref a4, .int (nI N), .int (nI K)])), (a1, .inl (cI, 8, .inl (fun z_ => nI (T z_)))), (a2, .inl (cI, 16, .inl (fun z_ => nI (F z_)))), (a3, .inl (cI, 16, .inl (fun z_ => nI (G z_)))), (a4, .inl (cI, 16, .inl (fun z_ => nI (C z_))))] sz) := by
  refine z_met_v (cc := cX1_extend) (maxL := 8) (by decide) rfl (Nat.le_of_ble_eq_true rfl) ?_
  intro p e s m args below meth c Q A ls hx hb hml hown hts hin hA hK hP hD hN hl hRET
  have hown : s.vm.findClass RX1 = some m.cls := hown
  obtain ⟨H, eH⟩ : ∃ H : Heap, H = s.heap := ⟨_, rfl⟩
  rw [← eH] at hP
  obtain ⟨locs, eL⟩ : ∃ z : List Loc, z = [] := ⟨_, rfl⟩
  rw [← eH, ← eL]
  have hS : va_S A s.heap H locs := by rw [eH, eL]; exact va_S.rf
  have hl : lv_has ls 8 [(0, .ref p0), (1, .int (nI st)), (2, .int (nI (sp_at G st rp))), (3, .int (nI ps)), (4, .int (nI rp.length))] := hl
  have w24 := hts (.fieldLink RX1 24 "PullCards$Loops" "line" "LPullCards$Line;") (by decide +kernel)
  have uX1 : ∀ w ∈ wsX10, w ∈ wsX1_extend := by decide +kernel
  have w45 := hts (.fieldLink RX1 45 "PullCards$Line" "arcs" "I") (by decide +kernel)
  have uX0 : ∀ w ∈ wsX00, w ∈ wsX1_extend := by decide +kernel
  have w48 := hts (.fieldLink RX1 48 "PullCards$Line" "froms" "[I") (by decide +kernel)
  have w51 := hts (.fieldLink RX1 51 "PullCards$Line" "tos" "[I") (by decide +kernel)
  have w18 := hts (.fieldLink RX1 18 "PullCards$Loops" "path" "[I") (by decide +kernel)
  refine lv_iload hx hb dX1_extend_0 (lv_at hl 4 rfl) ?_
  refine lv_bipush (v := nI 8) hx hb dX1_extend_2 (by decide) ?_
  refine z_icmp_lt (tgt := 8) hx hb dX1_extend_4 (by decide) (zcn_lt (a := rp.length) (b := 8) rfl rfl (by omega)) (fun c_4 => ?_) (fun c_4 => ?_)
  · skip
    exact absurd c_4 (by omega)
  · skip
    have q_0 : sp_hold (LS ++ sp_lv K F G st 0 rp) mn RW LE := by rw [sp_lv_0, List.append_nil]; exact hh
    have q_1 : ∀ i, RW i < 16 := by first | assumption | omega
    have q_2 : ∀ i, LE i ≤ 8 := by first | assumption | omega
    have q_3 : ∀ i, PA i < 16 := by first | assumption | omega
    have q_4 : ∀ i, i < rp.length → PA i = PA i := by intro i hi; rfl
    exact hRET _ ls H locs (RW, LE, PA, mn) dX1_extend_7 ⟨q_0, q_1, q_2, q_3, q_4⟩ hP hD hS
set_option maxHeartbeats 4000000 in
set_option maxRecDepth 100000 in
theorem c_X1_extend_s (l : Launch) (dC : Nat → ClassId) (dI : Nat → Nat → Nat) (cI cJ : ClassId) (sz : Nat) (p0 : Nat) (p1 : Nat) (p2 : Nat) (p3 : Nat) (p4 : Nat) (h0 : Nat) (RW : Nat → Nat) (LE : Nat → Nat) (PA : Nat → Nat) (NC : Nat → Nat) (mn : Nat) (ns : Nat) (a1 : Nat) (a2 : Nat) (a3 : Nat) (a4 : Nat) (N : Nat) (K : Nat) (T : Nat → Nat) (F : Nat → Nat) (G : Nat → Nat) (C : Nat → Nat) (st : Nat) (ps : Nat) (f : Nat) (LS : List (List Nat)) (rp : List Nat) (bK : K ≤ 16) (bF : ∀ a, F a < 8) (bG : ∀ a, G a < 8) (bRW : ∀ i, RW i < 16) (bLE : ∀ i, LE i ≤ 8) (bPA : ∀ i, PA i < 16) (bst : st < 8) (hf : rp.length + (f + 1) = 8) (hh : sp_hold LS mn RW LE) (hpa : sp_pth rp PA) (hbt : sp_bits G rp ps) (hbd : LS.length + (sp_lv K F G st (f + 1) rp).length ≤ 636) (hat : sp_at G st rp < 8) (ih : ∀ (l : Launch) (dC : Nat → ClassId) (dI : Nat → Nat → Nat) (cI cJ : ClassId) (sz : Nat) (p0 : Nat) (p1 : Nat) (p2 : Nat) (p3 : Nat) (p4 : Nat) (h0 : Nat) (RW : Nat → Nat) (LE : Nat → Nat) (PA : Nat → Nat) (NC : Nat → Nat) (mn : Nat) (ns : Nat) (a1 : Nat) (a2 : Nat) (a3 : Nat) (a4 : Nat) (N : Nat) (K : Nat) (T : Nat → Nat) (F : Nat → Nat) (G : Nat → Nat) (C : Nat → Nat) (st : Nat) (ps : Nat) (LS : List (List Nat)) (rp : List Nat) (bK : K ≤ 16) (bF : ∀ a, F a < 8) (bG : ∀ a, G a < 8) (bRW : ∀ i, RW i < 16) (bLE : ∀ i, LE i ≤ 8) (bPA : ∀ i, PA i < 16) (bst : st < 8) (hf : rp.length + f = 8) (hh : sp_hold LS mn RW LE) (hpa : sp_pth rp PA) (hbt : sp_bits G rp ps) (hbd : LS.length + (sp_lv K F G st f rp).length ≤ 636) (hat : sp_at G st rp < 8), Met l yX1_extend wsX1_extend (zR (f + 1) 0 0 (27 * (f + 1))) (va_Pc [.ref p0, .int (nI st), .int (nI (sp_at G st rp)), .int (nI ps), .int (nI rp.length)] (zP (dC, dI) [(cI, .int), (cJ, .long)] [(p0, .inr (1, [.ref h0, .ref p1, .ref p2, .ref p3, .int (nI mn), .ref p4, .int (nI ns)])), (p1, .inl (cI, 5088, .inl (fun z_ => nI (RW z_)))), (p2, .inl (cI, 636, .inl (fun z_ => nI (LE z_)))), (p3, .inl (cI, 8, .inl (fun z_ => nI (PA z_)))), (p4, .inl (cI, 16, .inl (fun z_ => nI (NC z_)))), (h0, .inr (0, [.ref a1, .ref a2, .ref a3, .ref a4, .int (nI N), .int (nI K)])), (a1, .inl (cI, 8, .inl (fun z_ => nI (T z_)))), (a2, .inl (cI, 16, .inl (fun z_ => nI (F z_)))), (a3, .inl (cI, 16, .inl (fun z_ => nI (G z_)))), (a4, .inl (cI, 16, .inl (fun z_ => nI (C z_))))] sz nwA)) (va_Qv (fun (u : (Nat → Nat) × (Nat → Nat) × (Nat → Nat) × (Nat)) => (sp_hold (LS ++ sp_lv K F G st f rp) u.2.2.2 u.1 u.2.1) ∧ (∀ i, u.1 i < 16) ∧ (∀ i, u.2.1 i ≤ 8) ∧ (∀ i, u.2.2.1 i < 16) ∧ (∀ i, i < rp.length → u.2.2.1 i = PA i)) (zB (dC, dI) (fun (u : (Nat → Nat) × (Nat → Nat) × (Nat → Nat) × (Nat)) => [(p0, .inr (1, [.ref h0, .ref p1, .ref p2, .ref p3, .int (nI u.2.2.2), .ref p4, .int (nI ns)])), (p1, .inl (cI, 5088, .inl (fun z_ => nI (u.1 z_)))), (p2, .inl (cI, 636, .inl (fun z_ => nI (u.2.1 z_)))), (p3, .inl (cI, 8, .inl (fun z_ => nI (u.2.2.1 z_)))), (p4, .inl (cI, 16, .inl (fun z_ => nI (NC z_)))), (h0, .inr (0, [.ref a1, .ref a2, .ref a3, .ref a4, .int (nI N), .int (nI K)])), (a1, .inl (cI, 8, .inl (fun z_ => nI (T z_)))), (a2, .inl (cI, 16, .inl (fun z_ => nI (F z_)))), (a3, .inl (cI, 16, .inl (fun z_ => nI (G z_)))), (a4, .inl (cI, 16, .inl (fun z_ => nI (C z_))))]) (va_A [(p0, .inr (1, [.ref h0, .ref p1, .ref p2, .ref p3, .int (nI mn), .ref p4, .int (nI ns)])), (p1, .inl (cI, 5088, .inl (fun z_ => nI (RW z_)))), (p2, .inl (cI, 636, .inl (fun z_ => nI (LE z_)))), (p3, .inl (cI, 8, .inl (fun z_ => nI (PA z_)))), (p4, .inl (cI, 16, .inl (fun z_ => nI (NC z_)))), (h0, .inr (0, [.ref a1, .ref a2, .ref a3, .ref a4, .int (nI N), .int (nI K)])), (a1, .inl (cI, 8, .inl (fun z_ => nI (T z_)))), (a2, .inl (cI, 16, .inl (fun z_ => nI (F z_)))), (a3, .inl (cI, 16, .inl (fun z_ => nI (G z_)))), (a4, .inl (cI, 16, .inl (fun z_ => nI (C z_))))] sz)) (va_A [(p0, .inr (1, [.ref h0, .ref p1, .ref p2, .ref p3, .int (nI mn), .ref p4, .int (nI ns)])), (p1, .inl (cI, 5088, .inl (fun z_ => nI (RW z_)))), (p2, .inl (cI, 636, .inl (fun z_ => nI (LE z_)))), (p3, .inl (cI, 8, .inl (fun z_ => nI (PA z_)))), (p4, .inl (cI, 16, .inl (fun z_ => nI (NC z_)))), (h0, .inr (0, [.ref a1, .ref a2, .ref a3, .ref a4, .int (nI N), .int (nI K)])), (a1, .inl (cI, 8, .inl (fun z_ => nI (T z_)))), (a2, .inl (cI, 16, .inl (fun z_ => nI (F z_)))), (a3, .inl (cI, 16, .inl (fun z_ => nI (G z_)))), (a4, .inl (cI, 16, .inl (fun z_ => nI (C z_))))] sz)) 0 0 (va_A [(p0, .inr (1, [.ref h0, .ref p1, .ref p2, .ref p3, .int (nI mn), .ref p4, .int (nI ns)])), (p1, .inl (cI, 5088, .inl (fun z_ => nI (RW z_)))), (p2, .inl (cI, 636, .inl (fun z_ => nI (LE z_)))), (p3, .inl (cI, 8, .inl (fun z_ => nI (PA z_)))), (p4, .inl (cI, 16, .inl (fun z_ => nI (NC z_)))), (h0, .inr (0, [.ref a1, .ref a2, .ref a3, .ref a4, .int (nI N), .int (nI K)])), (a1, .inl (cI, 8, .inl (fun z_ => nI (T z_)))), (a2, .inl (cI, 16, .inl (fun z_ => nI (F z_)))), (a3, .inl (cI, 16, .inl (fun z_ => nI (G z_)))), (a4, .inl (cI, 16, .inl (fun z_ => nI (C z_))))] sz)) : Met l yX1_extend wsX1_extend (zR (f + 1 + 1) 0 0 (27 * (f + 1 + 1))) (va_Pc [.ref p0, .int (nI st), .int (nI (sp_at G st rp)), .int (nI ps), .int (nI rp.length)] (zP (dC, dI) [(cI, .int), (cJ, .long)] [(p0, .inr (1, [.ref h0, .ref p1, .ref p2, .ref p3, .int (nI mn), .ref p4, .int (nI ns)])), (p1, .inl (cI, 5088, .inl (fun z_ => nI (RW z_)))), (p2, .inl (cI, 636, .inl (fun z_ => nI (LE z_)))), (p3, .inl (cI, 8, .inl (fun z_ => nI (PA z_)))), (p4, .inl (cI, 16, .inl (fun z_ => nI (NC z_)))), (h0, .inr (0, [.ref a1, .ref a2, .ref a3, .ref a4, .int (nI N), .int (nI K)])), (a1, .inl (cI, 8, .inl (fun z_ => nI (T z_)))), (a2, .inl (cI, 16, .inl (fun z_ => nI (F z_)))), (a3, .inl (cI, 16, .inl (fun z_ => nI (G z_)))), (a4, .inl (cI, 16, .inl (fun z_ => nI (C z_))))] sz nwA)) (va_Qv (fun (u : (Nat → Nat) × (Nat → Nat) × (Nat → Nat) × (Nat)) => (sp_hold (LS ++ sp_lv K F G st (f + 1) rp) u.2.2.2 u.1 u.2.1) ∧ (∀ i, u.1 i < 16) ∧ (∀ i, u.2.1 i ≤ 8) ∧ (∀ i, u.2.2.1 i < 16) ∧ (∀ i, i < rp.length → u.2.2.1 i = PA i)) (zB (dC, dI) (fun (u : (Nat → Nat) × (Nat → Nat) × (Nat → Nat) × (Nat)) => [(p0, .inr (1, [.ref h0, .ref p1, .ref p2, .ref p3, .int (nI u.2.2.2), .ref p4, .int (nI ns)])), (p1, .inl (cI, 5088, .inl (fun z_ => nI (u.1 z_)))), (p2, .inl (cI, 636, .inl (fun z_ => nI (u.2.1 z_)))), (p3, .inl (cI, 8, .inl (fun z_ => nI (u.2.2.1 z_)))), (p4, .inl (cI, 16, .inl (fun z_ => nI (NC z_)))), (h0, .inr (0, [.ref a1, .ref a2, .ref a3, .ref a4, .int (nI N), .int (nI K)])), (a1, .inl (cI, 8, .inl (fun z_ => nI (T z_)))), (a2, .inl (cI, 16, .inl (fun z_ => nI (F z_)))), (a3, .inl (cI, 16, .inl (fun z_ => nI (G z_)))), (a4, .inl (cI, 16, .inl (fun z_ => nI (C z_))))]) (va_A [(p0, .inr (1, [.ref h0, .ref p1, .ref p2, .ref p3, .int (nI mn), .ref p4, .int (nI ns)])), (p1, .inl (cI, 5088, .inl (fun z_ => nI (RW z_)))), (p2, .inl (cI, 636, .inl (fun z_ => nI (LE z_)))), (p3, .inl (cI, 8, .inl (fun z_ => nI (PA z_)))), (p4, .inl (cI, 16, .inl (fun z_ => nI (NC z_)))), (h0, .inr (0, [.ref a1, .ref a2, .ref a3, .ref a4, .int (nI N), .int (nI K)])), (a1, .inl (cI, 8, .inl (fun z_ => nI (T z_)))), (a2, .inl (cI, 16, .inl (fun z_ => nI (F z_)))), (a3, .inl (cI, 16, .inl (fun z_ => nI (G z_)))), (a4, .inl (cI, 16, .inl (fun z_ => nI (C z_))))] sz)) (va_A [(p0, .inr (1, [.ref h0, .ref p1, .ref p2, .ref p3, .int (nI mn), .ref p4, .int (nI ns)])), (p1, .inl (cI, 5088, .inl (fun z_ => nI (RW z_)))), (p2, .inl (cI, 636, .inl (fun z_ => nI (LE z_)))), (p3, .inl (cI, 8, .inl (fun z_ => nI (PA z_)))), (p4, .inl (cI, 16, .inl (fun z_ => nI (NC z_)))), (h0, .inr (0, [.ref a1, .ref a2, .ref a3, .ref a4, .int (nI N), .int (nI K)])), (a1, .inl (cI, 8, .inl (fun z_ => nI (T z_)))), (a2, .inl (cI, 16, .inl (fun z_ => nI (F z_)))), (a3, .inl (cI, 16, .inl (fun z_ => nI (G z_)))), (a4, .inl (cI, 16, .inl (fun z_ => nI (C z_))))] sz)) 0 0 (va_A [(p0, .inr (1, [.ref h0, .ref p1, .ref p2, .ref p3, .int (nI mn), .ref p4, .int (nI ns)])), (p1, .inl (cI, 5088, .inl (fun z_ => nI (RW z_)))), (p2, .inl (cI, 636, .inl (fun z_ => nI (LE z_)))), (p3, .inl (cI, 8, .inl (fun z_ => nI (PA z_)))), (p4, .inl (cI, 16, .inl (fun z_ => nI (NC z_)))), (h0, .inr (0, [.ref a1, .ref a2, .ref a3, .ref a4, .int (nI N), .int (nI K)])), (a1, .inl (cI, 8, .inl (fun z_ => nI (T z_)))), (a2, .inl (cI, 16, .inl (fun z_ => nI (F z_)))), (a3, .inl (cI, 16, .inl (fun z_ => nI (G z_)))), (a4, .inl (cI, 16, .inl (fun z_ => nI (C z_))))] sz) := by
  refine z_met_v (cc := cX1_extend) (maxL := 8) (by decide) rfl (Nat.le_of_ble_eq_true rfl) ?_
  intro p e s m args below meth c Q A ls hx hb hml hown hts hin hA hK hP hD hN hl hRET
  have hown : s.vm.findClass RX1 = some m.cls := hown
  obtain ⟨H, eH⟩ : ∃ H : Heap, H = s.heap := ⟨_, rfl⟩
  rw [← eH] at hP
  obtain ⟨locs, eL⟩ : ∃ z : List Loc, z = [] := ⟨_, rfl⟩
  rw [← eH, ← eL]
  have hS : va_S A s.heap H locs := by rw [eH, eL]; exact va_S.rf
  have hl : lv_has ls 8 [(0, .ref p0), (1, .int (nI st)), (2, .int (nI (sp_at G st rp))), (3, .int (nI ps)), (4, .int (nI rp.length))] := hl
  have w24 := hts (.fieldLink RX1 24 "PullCards$Loops" "line" "LPullCards$Line;") (by decide +kernel)
  have uX1 : ∀ w ∈ wsX10, w ∈ wsX1_extend := by decide +kernel
  have w45 := hts (.fieldLink RX1 45 "PullCards$Line" "arcs" "I") (by decide +kernel)
  have uX0 : ∀ w ∈ wsX00, w ∈ wsX1_extend := by decide +kernel
  have w48 := hts (.fieldLink RX1 48 "PullCards$Line" "froms" "[I") (by decide +kernel)
  have w51 := hts (.fieldLink RX1 51 "PullCards$Line" "tos" "[I") (by decide +kernel)
  have w18 := hts (.fieldLink RX1 18 "PullCards$Loops" "path" "[I") (by decide +kernel)
  have hps := hbt.1
  refine lv_iload hx hb dX1_extend_0 (lv_at hl 4 rfl) ?_
  refine lv_bipush (v := nI 8) hx hb dX1_extend_2 (by decide) ?_
  refine z_icmp_lt (tgt := 8) hx hb dX1_extend_4 (by decide) (zcn_lt (a := rp.length) (b := 8) rfl rfl (by omega)) (fun c_4 => ?_) (fun c_4 => ?_)
  · skip
    refine lv_aload_n hx hb dX1_extend_8 rfl (lv_at hl 0 rfl) ?_
    refine z_get (D := (dC, dI)) (ci := 1) (v := .ref h0) (C := RX1) (T := TX1) (N := 7) hx hb hts uX1 hown hK hP 0 rfl rfl 0 (by decide) w24 rfl rfl dX1_extend_9 ?_
    refine lv_astore (lv' := [(5, .ref h0), (0, .ref p0), (1, .int (nI st)), (2, .int (nI (sp_at G st rp))), (3, .int (nI ps)), (4, .int (nI rp.length))]) hx hb dX1_extend_12 hl (by decide) rfl (fun ls hl => ?_)
    refine lv_iconst (v := nI 0) hx hb dX1_extend_14 (by decide) ?_
    refine lv_istore (lv' := [(6, .int (nI 0)), (5, .ref h0), (0, .ref p0), (1, .int (nI st)), (2, .int (nI (sp_at G st rp))), (3, .int (nI ps)), (4, .int (nI rp.length))]) hx hb dX1_extend_15 hl (by decide) rfl (fun ls hl => ?_)
    have L17 : ∀ (n : Nat) (j : Nat) (RW1 : Nat → Nat) (LE1 : Nat → Nat) (PA1 : Nat → Nat) (mn1 : Nat), (K - j) < n → (j ≤ K) → (sp_hold (LS ++ sp_lj j K F G st (f + 1) rp) mn1 RW1 LE1) → (∀ i, RW1 i < 16) → (∀ i, LE1 i ≤ 8) → (∀ i, PA1 i < 16) → (∀ i, i < rp.length → PA1 i = PA i) → ∀ (H : Heap) (locs : List Loc), va_P (dC, dI) vwCl [(p0, .inr (1, [.ref h0, .ref p1, .ref p2, .ref p3, .int (nI mn1), .ref p4, .int (nI ns)])), (p1, .inl (cI, 5088, .inl (fun z_ => nI (RW1 z_)))), (p2, .inl (cI, 636, .inl (fun z_ => nI (LE1 z_)))), (p3, .inl (cI, 8, .inl (fun z_ => nI (PA1 z_)))), (p4, .inl (cI, 16, .inl (fun z_ => nI (NC z_)))), (h0, .inr (0, [.ref a1, .ref a2, .ref a3, .ref a4, .int (nI N), .int (nI K)])), (a1, .inl (cI, 8, .inl (fun z_ => nI (T z_)))), (a2, .inl (cI, 16, .inl (fun z_ => nI (F z_)))), (a3, .inl (cI, 16, .inl (fun z_ => nI (G z_)))), (a4, .inl (cI, 16, .inl (fun z_ => nI (C z_))))] H → va_D A [(p0, .inr (1, [.ref h0, .ref p1, .ref p2, .ref p3, .int (nI mn1), .ref p4, .int (nI ns)])), (p1, .inl (cI, 5088, .inl (fun z_ => nI (RW1 z_)))), (p2, .inl (cI, 636, .inl (fun z_ => nI (LE1 z_)))), (p3, .inl (cI, 8, .inl (fun z_ => nI (PA1 z_)))), (p4, .inl (cI, 16, .inl (fun z_ => nI (NC z_)))), (h0, .inr (0, [.ref a1, .ref a2, .ref a3, .ref a4, .int (nI N), .int (nI K)])), (a1, .inl (cI, 8, .inl (fun z_ => nI (T z_)))), (a2, .inl (cI, 16, .inl (fun z_ => nI (F z_)))), (a3, .inl (cI, 16, .inl (fun z_ => nI (G z_)))), (a4, .inl (cI, 16, .inl (fun z_ => nI (C z_))))] → va_S A s.heap H locs → ∀ (ls : Array Slot), lv_has ls 8 [(0, .ref p0), (1, .int (nI st)), (2, .int (nI (sp_at G st rp))), (3, .int (nI ps)), (4, .int (nI rp.length)), (5, .ref h0), (6, .int (nI j))] → W p l e (zR (f + 1 + 1) 0 0 (27 * (f + 1 + 1))) s m args below meth c H locs 0 0 Q (F0 m 17 ls []) := by
      intro n
      induction n with
      | zero => intro j RW1 LE1 PA1 mn1 hn; exact absurd hn (Nat.not_lt_zero _)
      | succ n ih =>
        intro j RW1 LE1 PA1 mn1 hn i1 i2 i3 i4 i5 i6 H locs hP hD hS ls hl
        have ih17 := ih
        have hn17 := hn
        clear ih hn
        have hlen := sp_lj_le i1 F G st (f + 1) rp
        have hmn := i2.1
        rw [List.length_append] at hmn
        refine lv_iload hx hb dX1_extend_17 (lv_at hl 6 rfl) ?_
        refine lv_aload hx hb dX1_extend_19 (lv_at hl 5 rfl) ?_
        refine z_get (D := (dC, dI)) (ci := 0) (v := .int (nI K)) (C := RX0) (T := TX0) (N := 6) hx hb hts uX0 hown hK hP 5 rfl rfl 5 (by decide) w45 rfl rfl dX1_extend_21 ?_
        refine z_icmp_ge (tgt := 116) hx hb dX1_extend_24 (by decide) (zcn_le (a := K) (b := j) rfl rfl (by omega)) (fun c_24 => ?_) (fun c_24 => ?_)
        · skip
          have q_0 : sp_hold (LS ++ sp_lv K F G st (f + 1) rp) mn1 RW1 LE1 := by rw [← sp_lj_K]; rw [show j = K from by omega] at i2; exact i2
          have q_1 : ∀ i, RW1 i < 16 := by first | assumption | omega
          have q_2 : ∀ i, LE1 i ≤ 8 := by first | assumption | omega
          have q_3 : ∀ i, PA1 i < 16 := by first | assumption | omega
          have q_4 : ∀ i, i < rp.length → PA1 i = PA i := by first | assumption | omega
          exact hRET _ ls H locs (RW1, LE1, PA1, mn1) dX1_extend_116 ⟨q_0, q_1, q_2, q_3, q_4⟩ hP hD hS
        · skip
          refine lv_aload hx hb dX1_extend_27 (lv_at hl 5 rfl) ?_
          refine z_get (D := (dC, dI)) (ci := 0) (v := .ref a2) (C := RX0) (T := TX0) (N := 6) hx hb hts uX0 hown hK hP 5 rfl rfl 1 (by decide) w48 rfl rfl dX1_extend_29 ?_
          refine lv_iload hx hb dX1_extend_32 (lv_at hl 6 rfl) ?_
          refine z_iald (v := (nI (F j))) hx hb hK hP 7 0 rfl rfl j rfl (by omega) rfl dX1_extend_34 ?_
          have f34_0 := bF j
          refine lv_iload_n hx hb dX1_extend_35 rfl (lv_at hl 2 rfl) ?_
          refine z_icmp_eq (tgt := 42) hx hb dX1_extend_36 (by decide) (zcn_eq (a := F j) (b := sp_at G st rp) rfl rfl (by omega)) (fun c_36 => ?_) (fun c_36 => ?_)
          · skip
            have hlen2 := sp_lj_le (show j + 1 ≤ K by omega) F G st (f + 1) rp
            rw [sp_lj_s, List.length_append] at hlen2
            refine lv_aload hx hb dX1_extend_42 (lv_at hl 5 rfl) ?_
            refine z_get (D := (dC, dI)) (ci := 0) (v := .ref a3) (C := RX0) (T := TX0) (N := 6) hx hb hts uX0 hown hK hP 5 rfl rfl 2 (by decide) w51 rfl rfl dX1_extend_44 ?_
            refine lv_iload hx hb dX1_extend_47 (lv_at hl 6 rfl) ?_
            refine z_iald (v := (nI (G j))) hx hb hK hP 8 0 rfl rfl j rfl (by omega) rfl dX1_extend_49 ?_
            have f49_0 := bG j
            refine lv_istore (lv' := [(7, .int (nI (G j))), (0, .ref p0), (1, .int (nI st)), (2, .int (nI (sp_at G st rp))), (3, .int (nI ps)), (4, .int (nI rp.length)), (5, .ref h0), (6, .int (nI j))]) hx hb dX1_extend_50 hl (by decide) rfl (fun ls hl => ?_)
            refine lv_aload_n hx hb dX1_extend_52 rfl (lv_at hl 1 rfl) ?_
            refine z_get (D := (dC, dI)) (ci := 1) (v := .ref p3) (C := RX1) (T := TX1) (N := 7) hx hb hts uX1 hown hK hP 0 rfl rfl 3 (by decide) w18 rfl rfl dX1_extend_53 ?_
            refine lv_iload hx hb dX1_extend_56 (lv_at hl 5 rfl) ?_
            refine lv_iload hx hb dX1_extend_58 (lv_at hl 7 rfl) ?_
            refine z_iast hx hb hK hP hD hS 3 0 rfl rfl rp.length rfl (by omega) (upd_N PA1 rp.length j) [(p0, .inr (1, [.ref h0, .ref p1, .ref p2, .ref p3, .int (nI mn1), .ref p4, .int (nI ns)])), (p1, .inl (cI, 5088, .inl (fun z_ => nI (RW1 z_)))), (p2, .inl (cI, 636, .inl (fun z_ => nI (LE1 z_)))), (p3, .inl (cI, 8, .inl (fun z_ => nI ((up PA1 rp.length j) z_)))), (p4, .inl (cI, 16, .inl (fun z_ => nI (NC z_)))), (h0, .inr (0, [.ref a1, .ref a2, .ref a3, .ref a4, .int (nI N), .int (nI K)])), (a1, .inl (cI, 8, .inl (fun z_ => nI (T z_)))), (a2, .inl (cI, 16, .inl (fun z_ => nI (F z_)))), (a3, .inl (cI, 16, .inl (fun z_ => nI (G z_)))), (a4, .inl (cI, 16, .inl (fun z_ => nI (C z_))))] rfl dX1_extend_60 (fun H locs hP hD hS => ?_)
            refine lv_iload hx hb dX1_extend_61 (lv_at hl 0 rfl) ?_
            refine lv_iload_n hx hb dX1_extend_63 rfl (lv_at hl 2 rfl) ?_
            refine z_icmp_ne (tgt := 78) hx hb dX1_extend_64 (by decide) (zcn_eq (a := G j) (b := st) rfl rfl (by omega)) (fun c_64 => ?_) (fun c_64 => ?_)
            · skip
              refine lv_iload hx hb dX1_extend_78 (lv_at hl 0 rfl) ?_
              refine lv_iload_n hx hb dX1_extend_80 rfl (lv_at hl 2 rfl) ?_
              refine z_icmp_le (tgt := 110) hx hb dX1_extend_81 (by decide) (zcn_le (a := G j) (b := st) rfl rfl (by omega)) (fun c_81 => ?_) (fun c_81 => ?_)
              · skip
                refine lv_iinc (v := (nI (j + 1))) (lv' := [(6, .int (nI (j + 1))), (7, .int (nI (G j))), (0, .ref p0), (1, .int (nI st)), (2, .int (nI (sp_at G st rp))), (3, .int (nI ps)), (4, .int (nI rp.length)), (5, .ref h0)]) hx hb dX1_extend_110 hl (k := 7) rfl (z_incN j 1 (by decide)) (by decide) rfl (fun ls hl => ?_)
                refine lv_goto (tgt := 17) hx hb dX1_extend_113 (by decide) ?_
                have o_i1 : (j + 1) ≤ K := by first | assumption | omega
                have o_i2 : sp_hold (LS ++ sp_lj (j + 1) K F G st (f + 1) rp) mn1 RW1 LE1 := by rw [sp_lj_s, show sp_br K F G st (f + 1) rp j = [] from by rw [sp_br_s, if_neg (not_not_intro c_36), if_neg c_64, if_neg (fun h => absurd h.1 (by omega))], List.append_nil]; exact i2
                have o_i3 : ∀ i, RW1 i < 16 := by first | assumption | omega
                have o_i4 : ∀ i, LE1 i ≤ 8 := by first | assumption | omega
                have o_i5 : ∀ i, (up PA1 rp.length j) i < 16 := by first | assumption | (intro i; rw [up_e]; split; omega; exact i5 i)
                have o_i6 : ∀ i, i < rp.length → (up PA1 rp.length j) i = PA i := by first | exact i6 | (intro i hi; rw [up_n _ _ (by omega)]; exact i6 i hi) | (intro i hi; rw [p107_4 i (by simp; omega), up_n _ _ (by omega)]; exact i6 i hi)
                have o_mu : (K - (j + 1)) < n := by omega
                exact ih17 (j + 1) RW1 LE1 (up PA1 rp.length j) mn1 o_mu o_i1 o_i2 o_i3 o_i4 o_i5 o_i6 H locs hP hD hS ls (lv_sub hl [2, 3, 4, 5, 6, 7, 0] rfl)
              · skip
                have hbit := hbt.2 (G j) (by omega)
                refine lv_iload_n hx hb dX1_extend_84 rfl (lv_at hl 4 rfl) ?_
                refine lv_iload hx hb dX1_extend_85 (lv_at hl 0 rfl) ?_
                refine z_ishr (v := nI (ps / 2 ^ (G j))) hx hb dX1_extend_87 (zs_shr rfl rfl (by omega) (by omega)) ?_
                refine lv_iconst (v := nI 1) hx hb dX1_extend_88 (by decide) ?_
                refine z_iand (v := nI ((ps / 2 ^ (G j)) &&& 1)) hx hb dX1_extend_89 (zs_and rfl rfl) ?_
                have hq1 : (((ps / 2 ^ (G j)) &&& 1)) ≤ 1 := Nat.and_le_right
                refine z_if_ne (tgt := 110) hx hb dX1_extend_90 (by decide) (zcn_eq (a := (ps / 2 ^ (G j)) &&& 1) (b := 0) rfl nI_00 (by omega)) (fun c_90 => ?_) (fun c_90 => ?_)
                · skip
                  refine lv_iinc (v := (nI (j + 1))) (lv' := [(6, .int (nI (j + 1))), (7, .int (nI (G j))), (0, .ref p0), (1, .int (nI st)), (2, .int (nI (sp_at G st rp))), (3, .int (nI ps)), (4, .int (nI rp.length)), (5, .ref h0)]) hx hb dX1_extend_110 hl (k := 7) rfl (z_incN j 1 (by decide)) (by decide) rfl (fun ls hl => ?_)
                  refine lv_goto (tgt := 17) hx hb dX1_extend_113 (by decide) ?_
                  have o_i1 : (j + 1) ≤ K := by first | assumption | omega
                  have o_i2 : sp_hold (LS ++ sp_lj (j + 1) K F G st (f + 1) rp) mn1 RW1 LE1 := by rw [sp_lj_s, show sp_br K F G st (f + 1) rp j = [] from by rw [sp_br_s, if_neg (not_not_intro c_36), if_neg c_64, if_neg (fun h => c_90 (hbit.mpr h.2))], List.append_nil]; exact i2
                  have o_i3 : ∀ i, RW1 i < 16 := by first | assumption | omega
                  have o_i4 : ∀ i, LE1 i ≤ 8 := by first | assumption | omega
                  have o_i5 : ∀ i, (up PA1 rp.length j) i < 16 := by first | assumption | (intro i; rw [up_e]; split; omega; exact i5 i)
                  have o_i6 : ∀ i, i < rp.length → (up PA1 rp.length j) i = PA i := by first | exact i6 | (intro i hi; rw [up_n _ _ (by omega)]; exact i6 i hi) | (intro i hi; rw [p107_4 i (by simp; omega), up_n _ _ (by omega)]; exact i6 i hi)
                  have o_mu : (K - (j + 1)) < n := by omega
                  exact ih17 (j + 1) RW1 LE1 (up PA1 rp.length j) mn1 o_mu o_i1 o_i2 o_i3 o_i4 o_i5 o_i6 H locs hP hD hS ls (lv_sub hl [2, 3, 4, 5, 6, 7, 0] rfl)
                · skip
                  have eb : sp_br K F G st (f + 1) rp j = sp_lv K F G st f (j :: rp) := by rw [sp_br_s, if_neg (not_not_intro c_36), if_neg c_64, if_pos ⟨by omega, hbit.mp c_90⟩]; rfl
                  rw [eb] at hlen2
                  have hb2 := sp_bits_push hbt (show G j < 8 by omega)
                  have hp2 : 2 ^ G j ≤ 128 := Nat.le_trans (Nat.pow_le_pow_right (by omega) (show G j ≤ 7 by omega)) (by decide)
                  refine lv_aload_n hx hb dX1_extend_93 rfl (lv_at hl 1 rfl) ?_
                  refine lv_iload_n hx hb dX1_extend_94 rfl (lv_at hl 2 rfl) ?_
                  refine lv_iload hx hb dX1_extend_95 (lv_at hl 0 rfl) ?_
                  refine lv_iload_n hx hb dX1_extend_97 rfl (lv_at hl 4 rfl) ?_
                  refine lv_iconst (v := nI 1) hx hb dX1_extend_98 (by decide) ?_
                  refine lv_iload hx hb dX1_extend_99 (lv_at hl 0 rfl) ?_
                  refine z_ishl (v := nI (1 * 2 ^ (G j))) hx hb dX1_extend_101 (zs_shl rfl rfl (by omega) (by omega)) ?_
                  refine z_ior (v := nI (ps ||| (1 * 2 ^ (G j)))) hx hb dX1_extend_102 (zs_or rfl rfl) ?_
                  refine lv_iload hx hb dX1_extend_103 (lv_at hl 5 rfl) ?_
                  refine lv_iconst (v := nI 1) hx hb dX1_extend_105 (by decide) ?_
                  refine z_iadd (v := (nI (rp.length + 1))) hx hb dX1_extend_106 (nI_add _ _) ?_
                  refine z_callSv (As := [.ref p0, .int (nI st), .int (nI (G j)), .int (nI (ps ||| (1 * 2 ^ (G j)))), .int (nI (rp.length + 1))]) (rest := []) (wr := []) ⟨hx, hb, hml, hown, hts⟩ (ih l dC dI cI cJ H.size p0 p1 p2 p3 p4 h0 RW1 LE1 (up PA1 rp.length j) NC mn1 ns a1 a2 a3 a4 N K T F G C st (ps ||| (1 * 2 ^ (G j))) (LS ++ sp_lj j K F G st (f + 1) rp) (j :: rp) (by first | assumption | omega) (by first | assumption | omega) (by first | assumption | omega) (by first | assumption | omega) (by first | assumption | omega) (by intro i; rw [up_e]; split; omega; exact i5 i) (by first | assumption | omega) (by show rp.length + 1 + f = 8; omega) (by first | assumption | omega) (by exact sp_pth_push (sp_pth_keep hpa i6)) (by first | assumption | omega) (by rw [List.length_append]; omega) (by exact bG j)) (va_cwS 5 hts gX1_extend_X1_extend rfl rfl rfl (by decide +kernel) ⟨(by dsimp only [zR]; omega), (by dsimp only [zR]; omega)⟩) hA hK hP hD hS [0, 1, 2, 3, 4, 5, 6, 7, 8, 9] [] [0, 1, 2, 3, 4, 5, 6, 7, 8, 9] rfl rfl (by decide) (by decide) (by decide) nwA_ok hN hl.1 (Nat.le_of_ble_eq_true rfl) ⟨Nat.le_refl _, Nat.le_refl _⟩ rfl rfl dX1_extend_107 (fun (u : (Nat → Nat) × (Nat → Nat) × (Nat → Nat) × (Nat)) => [(p0, .inr (1, [.ref h0, .ref p1, .ref p2, .ref p3, .int (nI u.2.2.2), .ref p4, .int (nI ns)])), (p1, .inl (cI, 5088, .inl (fun z_ => nI (u.1 z_)))), (p2, .inl (cI, 636, .inl (fun z_ => nI (u.2.1 z_)))), (p3, .inl (cI, 8, .inl (fun z_ => nI (u.2.2.1 z_)))), (p4, .inl (cI, 16, .inl (fun z_ => nI (NC z_)))), (h0, .inr (0, [.ref a1, .ref a2, .ref a3, .ref a4, .int (nI N), .int (nI K)])), (a1, .inl (cI, 8, .inl (fun z_ => nI (T z_)))), (a2, .inl (cI, 16, .inl (fun z_ => nI (F z_)))), (a3, .inl (cI, 16, .inl (fun z_ => nI (G z_)))), (a4, .inl (cI, 16, .inl (fun z_ => nI (C z_))))]) (fun u => rfl) (by decide) (fun u H locs hw hP hD hS => ?_)
                  obtain ⟨RW2_107, LE2_107, PA2_107, mn2_107⟩ := u
                  have hP : va_P (dC, dI) vwCl [(p0, .inr (1, [.ref h0, .ref p1, .ref p2, .ref p3, .int (nI mn2_107), .ref p4, .int (nI ns)])), (p1, .inl (cI, 5088, .inl (fun z_ => nI (RW2_107 z_)))), (p2, .inl (cI, 636, .inl (fun z_ => nI (LE2_107 z_)))), (p3, .inl (cI, 8, .inl (fun z_ => nI (PA2_107 z_)))), (p4, .inl (cI, 16, .inl (fun z_ => nI (NC z_)))), (h0, .inr (0, [.ref a1, .ref a2, .ref a3, .ref a4, .int (nI N), .int (nI K)])), (a1, .inl (cI, 8, .inl (fun z_ => nI (T z_)))), (a2, .inl (cI, 16, .inl (fun z_ => nI (F z_)))), (a3, .inl (cI, 16, .inl (fun z_ => nI (G z_)))), (a4, .inl (cI, 16, .inl (fun z_ => nI (C z_))))] H := hP
                  have hD : va_D A [(p0, .inr (1, [.ref h0, .ref p1, .ref p2, .ref p3, .int (nI mn2_107), .ref p4, .int (nI ns)])), (p1, .inl (cI, 5088, .inl (fun z_ => nI (RW2_107 z_)))), (p2, .inl (cI, 636, .inl (fun z_ => nI (LE2_107 z_)))), (p3, .inl (cI, 8, .inl (fun z_ => nI (PA2_107 z_)))), (p4, .inl (cI, 16, .inl (fun z_ => nI (NC z_)))), (h0, .inr (0, [.ref a1, .ref a2, .ref a3, .ref a4, .int (nI N), .int (nI K)])), (a1, .inl (cI, 8, .inl (fun z_ => nI (T z_)))), (a2, .inl (cI, 16, .inl (fun z_ => nI (F z_)))), (a3, .inl (cI, 16, .inl (fun z_ => nI (G z_)))), (a4, .inl (cI, 16, .inl (fun z_ => nI (C z_))))] := hD
                  obtain ⟨p107_0, p107_1, p107_2, p107_3, p107_4⟩ := hw
                  have p107_0 : sp_hold ((LS ++ sp_lj j K F G st (f + 1) rp) ++ sp_lv K F G st f (j :: rp)) mn2_107 RW2_107 LE2_107 := p107_0
                  have p107_1 : ∀ i, RW2_107 i < 16 := p107_1
                  have p107_2 : ∀ i, LE2_107 i ≤ 8 := p107_2
                  have p107_3 : ∀ i, PA2_107 i < 16 := p107_3
                  have p107_4 : ∀ i, i < (j :: rp).length → PA2_107 i = (up PA1 rp.length j) i := p107_4
                  refine lv_iinc (v := (nI (j + 1))) (lv' := [(6, .int (nI (j + 1))), (7, .int (nI (G j))), (0, .ref p0), (1, .int (nI st)), (2, .int (nI (sp_at G st rp))), (3, .int (nI ps)), (4, .int (nI rp.length)), (5, .ref h0)]) hx hb dX1_extend_110 hl (k := 7) rfl (z_incN j 1 (by decide)) (by decide) rfl (fun ls hl => ?_)
                  refine lv_goto (tgt := 17) hx hb dX1_extend_113 (by decide) ?_
                  have o_i1 : (j + 1) ≤ K := by first | assumption | omega
                  have o_i2 : sp_hold (LS ++ sp_lj (j + 1) K F G st (f + 1) rp) mn2_107 RW2_107 LE2_107 := by rw [sp_lj_s, eb, ← List.append_assoc]; exact p107_0
                  have o_i3 : ∀ i, RW2_107 i < 16 := by first | assumption | omega
                  have o_i4 : ∀ i, LE2_107 i ≤ 8 := by first | assumption | omega
                  have o_i5 : ∀ i, PA2_107 i < 16 := by first | assumption | (intro i; rw [up_e]; split; omega; exact i5 i)
                  have o_i6 : ∀ i, i < rp.length → PA2_107 i = PA i := by first | exact i6 | (intro i hi; rw [up_n _ _ (by omega)]; exact i6 i hi) | (intro i hi; rw [p107_4 i (by simp; omega), up_n _ _ (by omega)]; exact i6 i hi)
                  have o_mu : (K - (j + 1)) < n := by omega
                  exact ih17 (j + 1) RW2_107 LE2_107 PA2_107 mn2_107 o_mu o_i1 o_i2 o_i3 o_i4 o_i5 o_i6 H locs hP hD hS ls (lv_sub hl [2, 3, 4, 5, 6, 7, 0] rfl)
            · skip
              have eb : sp_br K F G st (f + 1) rp j = [(j :: rp).reverse] := by rw [sp_br_s, if_neg (not_not_intro c_36), if_pos c_64]
              rw [eb, List.length_singleton] at hlen2
              refine lv_aload_n hx hb dX1_extend_67 rfl (lv_at hl 1 rfl) ?_
              refine lv_iload hx hb dX1_extend_68 (lv_at hl 5 rfl) ?_
              refine lv_iconst (v := nI 1) hx hb dX1_extend_70 (by decide) ?_
              refine z_iadd (v := (nI (rp.length + 1))) hx hb dX1_extend_71 (nI_add _ _) ?_
              refine z_callVv (As := [.int (nI (rp.length + 1))]) (rest := []) (wr := [(h0, .inr (0, [.ref a1, .ref a2, .ref a3, .ref a4, .int (nI N), .int (nI K)])), (a1, .inl (cI, 8, .inl (fun z_ => nI (T z_)))), (a2, .inl (cI, 16, .inl (fun z_ => nI (F z_)))), (a3, .inl (cI, 16, .inl (fun z_ => nI (G z_)))), (a4, .inl (cI, 16, .inl (fun z_ => nI (C z_))))]) ⟨hx, hb, hml, hown, hts⟩ (c_X1_keepPath l dC dI cI cJ H.size p0 p1 p2 p3 p4 h0 RW1 LE1 (up PA1 rp.length j) NC mn1 ns (rp.length + 1) (by first | assumption | omega) (by first | assumption | omega) (by first | assumption | omega) (by intro i; rw [up_e]; split; omega; exact i5 i)) (cwV 1 hts gX1_extend_X1_keepPath rfl rfl rfl (by decide +kernel) ⟨(by dsimp only [zR]; omega), (by dsimp only [zR]; omega)⟩) hA hK hP hD hS [0, 1, 2, 3, 4] [5, 6, 7, 8, 9] [5, 6, 7, 8, 9, 0, 1, 2, 3, 4] rfl rfl (by decide) (by decide) (by decide) nwA_ok hN (ci := 1) rfl rfl 0 rfl hl.1 (Nat.le_of_ble_eq_true rfl) ⟨Nat.le_refl _, Nat.le_refl _⟩ rfl rfl dX1_extend_72 (fun (u : (Nat → Nat)) => [(p0, .inr (1, [.ref h0, .ref p1, .ref p2, .ref p3, .int (nI (mn1 + 1)), .ref p4, .int (nI ns)])), (p1, .inl (cI, 5088, .inl (fun z_ => nI (u z_)))), (p2, .inl (cI, 636, .inl (fun z_ => nI ((up LE1 mn1 (rp.length + 1)) z_)))), (p3, .inl (cI, 8, .inl (fun z_ => nI ((up PA1 rp.length j) z_)))), (p4, .inl (cI, 16, .inl (fun z_ => nI (NC z_)))), (h0, .inr (0, [.ref a1, .ref a2, .ref a3, .ref a4, .int (nI N), .int (nI K)])), (a1, .inl (cI, 8, .inl (fun z_ => nI (T z_)))), (a2, .inl (cI, 16, .inl (fun z_ => nI (F z_)))), (a3, .inl (cI, 16, .inl (fun z_ => nI (G z_)))), (a4, .inl (cI, 16, .inl (fun z_ => nI (C z_))))]) (fun u => rfl) (by decide) (fun u H locs hw hP hD hS => ?_)
              obtain ⟨RW2_72, eu⟩ : ∃ z, z = u := ⟨_, rfl⟩
              subst eu
              have hP : va_P (dC, dI) vwCl [(p0, .inr (1, [.ref h0, .ref p1, .ref p2, .ref p3, .int (nI (mn1 + 1)), .ref p4, .int (nI ns)])), (p1, .inl (cI, 5088, .inl (fun z_ => nI (RW2_72 z_)))), (p2, .inl (cI, 636, .inl (fun z_ => nI ((up LE1 mn1 (rp.length + 1)) z_)))), (p3, .inl (cI, 8, .inl (fun z_ => nI ((up PA1 rp.length j) z_)))), (p4, .inl (cI, 16, .inl (fun z_ => nI (NC z_)))), (h0, .inr (0, [.ref a1, .ref a2, .ref a3, .ref a4, .int (nI N), .int (nI K)])), (a1, .inl (cI, 8, .inl (fun z_ => nI (T z_)))), (a2, .inl (cI, 16, .inl (fun z_ => nI (F z_)))), (a3, .inl (cI, 16, .inl (fun z_ => nI (G z_)))), (a4, .inl (cI, 16, .inl (fun z_ => nI (C z_))))] H := hP
              have hD : va_D A [(p0, .inr (1, [.ref h0, .ref p1, .ref p2, .ref p3, .int (nI (mn1 + 1)), .ref p4, .int (nI ns)])), (p1, .inl (cI, 5088, .inl (fun z_ => nI (RW2_72 z_)))), (p2, .inl (cI, 636, .inl (fun z_ => nI ((up LE1 mn1 (rp.length + 1)) z_)))), (p3, .inl (cI, 8, .inl (fun z_ => nI ((up PA1 rp.length j) z_)))), (p4, .inl (cI, 16, .inl (fun z_ => nI (NC z_)))), (h0, .inr (0, [.ref a1, .ref a2, .ref a3, .ref a4, .int (nI N), .int (nI K)])), (a1, .inl (cI, 8, .inl (fun z_ => nI (T z_)))), (a2, .inl (cI, 16, .inl (fun z_ => nI (F z_)))), (a3, .inl (cI, 16, .inl (fun z_ => nI (G z_)))), (a4, .inl (cI, 16, .inl (fun z_ => nI (C z_))))] := hD
              obtain ⟨p72_0, p72_1, p72_2⟩ := hw
              have p72_0 : ∀ i, i < (rp.length + 1) → RW2_72 (mn1 * 8 + i) = (up PA1 rp.length j) i := p72_0
              have p72_1 : ∀ q, q < mn1 * 8 → RW2_72 q = RW1 q := p72_1
              have p72_2 : ∀ i, RW2_72 i < 16 := p72_2
              refine lv_goto (tgt := 110) hx hb dX1_extend_75 (by decide) ?_
              refine lv_iinc (v := (nI (j + 1))) (lv' := [(6, .int (nI (j + 1))), (7, .int (nI (G j))), (0, .ref p0), (1, .int (nI st)), (2, .int (nI (sp_at G st rp))), (3, .int (nI ps)), (4, .int (nI rp.length)), (5, .ref h0)]) hx hb dX1_extend_110 hl (k := 7) rfl (z_incN j 1 (by decide)) (by decide) rfl (fun ls hl => ?_)
              refine lv_goto (tgt := 17) hx hb dX1_extend_113 (by decide) ?_
              have o_i1 : (j + 1) ≤ K := by first | assumption | omega
              have o_i2 : sp_hold (LS ++ sp_lj (j + 1) K F G st (f + 1) rp) (mn1 + 1) RW2_72 (up LE1 mn1 (rp.length + 1)) := by rw [sp_lj_s, eb, ← List.append_assoc]; exact sp_hold_add i2 (by rw [up_s]; simp) (fun i hi => by rw [p72_0 i (by simpa using hi)]; exact sp_pth_push (sp_pth_keep hpa i6) i (by simpa using hi)) (fun q hq => up_n _ _ hq) p72_1 i4
              have o_i3 : ∀ i, RW2_72 i < 16 := by first | assumption | omega
              have o_i4 : ∀ i, (up LE1 mn1 (rp.length + 1)) i ≤ 8 := by intro i; rw [up_e]; split; omega; exact i4 i
              have o_i5 : ∀ i, (up PA1 rp.length j) i < 16 := by first | assumption | (intro i; rw [up_e]; split; omega; exact i5 i)
              have o_i6 : ∀ i, i < rp.length → (up PA1 rp.length j) i = PA i := by first | exact i6 | (intro i hi; rw [up_n _ _ (by omega)]; exact i6 i hi) | (intro i hi; rw [p107_4 i (by simp; omega), up_n _ _ (by omega)]; exact i6 i hi)
              have o_mu : (K - (j + 1)) < n := by omega
              exact ih17 (j + 1) RW2_72 (up LE1 mn1 (rp.length + 1)) (up PA1 rp.length j) (mn1 + 1) o_mu o_i1 o_i2 o_i3 o_i4 o_i5 o_i6 H locs hP hD hS ls (lv_sub hl [2, 3, 4, 5, 6, 7, 0] rfl)
          · skip
            refine lv_goto (tgt := 110) hx hb dX1_extend_39 (by decide) ?_
            refine lv_iinc (v := (nI (j + 1))) (lv' := [(6, .int (nI (j + 1))), (0, .ref p0), (1, .int (nI st)), (2, .int (nI (sp_at G st rp))), (3, .int (nI ps)), (4, .int (nI rp.length)), (5, .ref h0)]) hx hb dX1_extend_110 hl (k := 6) rfl (z_incN j 1 (by decide)) (by decide) rfl (fun ls hl => ?_)
            refine lv_goto (tgt := 17) hx hb dX1_extend_113 (by decide) ?_
            have o_i1 : (j + 1) ≤ K := by first | assumption | omega
            have o_i2 : sp_hold (LS ++ sp_lj (j + 1) K F G st (f + 1) rp) mn1 RW1 LE1 := by rw [sp_lj_s, show sp_br K F G st (f + 1) rp j = [] from by rw [sp_br_s, if_pos c_36], List.append_nil]; exact i2
            have o_i3 : ∀ i, RW1 i < 16 := by first | assumption | omega
            have o_i4 : ∀ i, LE1 i ≤ 8 := by first | assumption | omega
            have o_i5 : ∀ i, PA1 i < 16 := by first | assumption | (intro i; rw [up_e]; split; omega; exact i5 i)
            have o_i6 : ∀ i, i < rp.length → PA1 i = PA i := by first | exact i6 | (intro i hi; rw [up_n _ _ (by omega)]; exact i6 i hi) | (intro i hi; rw [p107_4 i (by simp; omega), up_n _ _ (by omega)]; exact i6 i hi)
            have o_mu : (K - (j + 1)) < n := by omega
            exact ih17 (j + 1) RW1 LE1 PA1 mn1 o_mu o_i1 o_i2 o_i3 o_i4 o_i5 o_i6 H locs hP hD hS ls (lv_sub hl [1, 2, 3, 4, 5, 6, 0] rfl)
    have o_i1 : 0 ≤ K := by first | assumption | omega
    have o_i2 : sp_hold (LS ++ sp_lj 0 K F G st (f + 1) rp) mn RW LE := by rw [sp_lj_0, List.append_nil]; exact hh
    have o_i3 : ∀ i, RW i < 16 := by first | assumption | omega
    have o_i4 : ∀ i, LE i ≤ 8 := by first | assumption | omega
    have o_i5 : ∀ i, PA i < 16 := by first | assumption | (intro i; rw [up_e]; split; omega; exact i5 i)
    have o_i6 : ∀ i, i < rp.length → PA i = PA i := by intro i hi; rfl
    exact L17 ((K - 0) + 1) 0 RW LE PA mn (Nat.lt_succ_self _) o_i1 o_i2 o_i3 o_i4 o_i5 o_i6 H locs hP hD hS ls (lv_sub hl [2, 3, 4, 5, 6, 1, 0] rfl)
  · skip
    exact absurd (show rp.length < 8 by omega) c_4
theorem c_X1_extend_all : ∀ (f : Nat), ∀ (l : Launch) (dC : Nat → ClassId) (dI : Nat → Nat → Nat) (cI cJ : ClassId) (sz : Nat) (p0 : Nat) (p1 : Nat) (p2 : Nat) (p3 : Nat) (p4 : Nat) (h0 : Nat) (RW : Nat → Nat) (LE : Nat → Nat) (PA : Nat → Nat) (NC : Nat → Nat) (mn : Nat) (ns : Nat) (a1 : Nat) (a2 : Nat) (a3 : Nat) (a4 : Nat) (N : Nat) (K : Nat) (T : Nat → Nat) (F : Nat → Nat) (G : Nat → Nat) (C : Nat → Nat) (st : Nat) (ps : Nat) (LS : List (List Nat)) (rp : List Nat) (bK : K ≤ 16) (bF : ∀ a, F a < 8) (bG : ∀ a, G a < 8) (bRW : ∀ i, RW i < 16) (bLE : ∀ i, LE i ≤ 8) (bPA : ∀ i, PA i < 16) (bst : st < 8) (hf : rp.length + f = 8) (hh : sp_hold LS mn RW LE) (hpa : sp_pth rp PA) (hbt : sp_bits G rp ps) (hbd : LS.length + (sp_lv K F G st f rp).length ≤ 636) (hat : sp_at G st rp < 8), Met l yX1_extend wsX1_extend (zR (f + 1) 0 0 (27 * (f + 1))) (va_Pc [.ref p0, .int (nI st), .int (nI (sp_at G st rp)), .int (nI ps), .int (nI rp.length)] (zP (dC, dI) [(cI, .int), (cJ, .long)] [(p0, .inr (1, [.ref h0, .ref p1, .ref p2, .ref p3, .int (nI mn), .ref p4, .int (nI ns)])), (p1, .inl (cI, 5088, .inl (fun z_ => nI (RW z_)))), (p2, .inl (cI, 636, .inl (fun z_ => nI (LE z_)))), (p3, .inl (cI, 8, .inl (fun z_ => nI (PA z_)))), (p4, .inl (cI, 16, .inl (fun z_ => nI (NC z_)))), (h0, .inr (0, [.ref a1, .ref a2, .ref a3, .ref a4, .int (nI N), .int (nI K)])), (a1, .inl (cI, 8, .inl (fun z_ => nI (T z_)))), (a2, .inl (cI, 16, .inl (fun z_ => nI (F z_)))), (a3, .inl (cI, 16, .inl (fun z_ => nI (G z_)))), (a4, .inl (cI, 16, .inl (fun z_ => nI (C z_))))] sz nwA)) (va_Qv (fun (u : (Nat → Nat) × (Nat → Nat) × (Nat → Nat) × (Nat)) => (sp_hold (LS ++ sp_lv K F G st f rp) u.2.2.2 u.1 u.2.1) ∧ (∀ i, u.1 i < 16) ∧ (∀ i, u.2.1 i ≤ 8) ∧ (∀ i, u.2.2.1 i < 16) ∧ (∀ i, i < rp.length → u.2.2.1 i = PA i)) (zB (dC, dI) (fun (u : (Nat → Nat) × (Nat → Nat) × (Nat → Nat) × (Nat)) => [(p0, .inr (1, [.ref h0, .ref p1, .ref p2, .ref p3, .int (nI u.2.2.2), .ref p4, .int (nI ns)])), (p1, .inl (cI, 5088, .inl (fun z_ => nI (u.1 z_)))), (p2, .inl (cI, 636, .inl (fun z_ => nI (u.2.1 z_)))), (p3, .inl (cI, 8, .inl (fun z_ => nI (u.2.2.1 z_)))), (p4, .inl (cI, 16, .inl (fun z_ => nI (NC z_)))), (h0, .inr (0, [.ref a1, .ref a2, .ref a3, .ref a4, .int (nI N), .int (nI K)])), (a1, .inl (cI, 8, .inl (fun z_ => nI (T z_)))), (a2, .inl (cI, 16, .inl (fun z_ => nI (F z_)))), (a3, .inl (cI, 16, .inl (fun z_ => nI (G z_)))), (a4, .inl (cI, 16, .inl (fun z_ => nI (C z_))))]) (va_A [(p0, .inr (1, [.ref h0, .ref p1, .ref p2, .ref p3, .int (nI mn), .ref p4, .int (nI ns)])), (p1, .inl (cI, 5088, .inl (fun z_ => nI (RW z_)))), (p2, .inl (cI, 636, .inl (fun z_ => nI (LE z_)))), (p3, .inl (cI, 8, .inl (fun z_ => nI (PA z_)))), (p4, .inl (cI, 16, .inl (fun z_ => nI (NC z_)))), (h0, .inr (0, [.ref a1, .ref a2, .ref a3, .ref a4, .int (nI N), .int (nI K)])), (a1, .inl (cI, 8, .inl (fun z_ => nI (T z_)))), (a2, .inl (cI, 16, .inl (fun z_ => nI (F z_)))), (a3, .inl (cI, 16, .inl (fun z_ => nI (G z_)))), (a4, .inl (cI, 16, .inl (fun z_ => nI (C z_))))] sz)) (va_A [(p0, .inr (1, [.ref h0, .ref p1, .ref p2, .ref p3, .int (nI mn), .ref p4, .int (nI ns)])), (p1, .inl (cI, 5088, .inl (fun z_ => nI (RW z_)))), (p2, .inl (cI, 636, .inl (fun z_ => nI (LE z_)))), (p3, .inl (cI, 8, .inl (fun z_ => nI (PA z_)))), (p4, .inl (cI, 16, .inl (fun z_ => nI (NC z_)))), (h0, .inr (0, [.ref a1, .ref a2, .ref a3, .ref a4, .int (nI N), .int (nI K)])), (a1, .inl (cI, 8, .inl (fun z_ => nI (T z_)))), (a2, .inl (cI, 16, .inl (fun z_ => nI (F z_)))), (a3, .inl (cI, 16, .inl (fun z_ => nI (G z_)))), (a4, .inl (cI, 16, .inl (fun z_ => nI (C z_))))] sz)) 0 0 (va_A [(p0, .inr (1, [.ref h0, .ref p1, .ref p2, .ref p3, .int (nI mn), .ref p4, .int (nI ns)])), (p1, .inl (cI, 5088, .inl (fun z_ => nI (RW z_)))), (p2, .inl (cI, 636, .inl (fun z_ => nI (LE z_)))), (p3, .inl (cI, 8, .inl (fun z_ => nI (PA z_)))), (p4, .inl (cI, 16, .inl (fun z_ => nI (NC z_)))), (h0, .inr (0, [.ref a1, .ref a2, .ref a3, .ref a4, .int (nI N), .int (nI K)])), (a1, .inl (cI, 8, .inl (fun z_ => nI (T z_)))), (a2, .inl (cI, 16, .inl (fun z_ => nI (F z_)))), (a3, .inl (cI, 16, .inl (fun z_ => nI (G z_)))), (a4, .inl (cI, 16, .inl (fun z_ => nI (C z_))))] sz)
  | 0 => fun l dC dI cI cJ sz p0 p1 p2 p3 p4 h0 RW LE PA NC mn ns a1 a2 a3 a4 N K T F G C st ps LS rp bK bF bG bRW bLE bPA bst hf hh hpa hbt hbd hat => c_X1_extend_0 l dC dI cI cJ sz p0 p1 p2 p3 p4 h0 RW LE PA NC mn ns a1 a2 a3 a4 N K T F G C st ps LS rp bK bF bG bRW bLE bPA bst hf hh hpa hbt hbd hat
  | f + 1 => fun l dC dI cI cJ sz p0 p1 p2 p3 p4 h0 RW LE PA NC mn ns a1 a2 a3 a4 N K T F G C st ps LS rp bK bF bG bRW bLE bPA bst hf hh hpa hbt hbd hat => c_X1_extend_s l dC dI cI cJ sz p0 p1 p2 p3 p4 h0 RW LE PA NC mn ns a1 a2 a3 a4 N K T F G C st ps f LS rp bK bF bG bRW bLE bPA bst hf hh hpa hbt hbd hat (c_X1_extend_all f)
theorem c_X1_extend (l : Launch) (dC : Nat → ClassId) (dI : Nat → Nat → Nat) (cI cJ : ClassId) (sz : Nat) (p0 : Nat) (p1 : Nat) (p2 : Nat) (p3 : Nat) (p4 : Nat) (h0 : Nat) (RW : Nat → Nat) (LE : Nat → Nat) (PA : Nat → Nat) (NC : Nat → Nat) (mn : Nat) (ns : Nat) (a1 : Nat) (a2 : Nat) (a3 : Nat) (a4 : Nat) (N : Nat) (K : Nat) (T : Nat → Nat) (F : Nat → Nat) (G : Nat → Nat) (C : Nat → Nat) (st : Nat) (ps : Nat) (f : Nat) (LS : List (List Nat)) (rp : List Nat) (bK : K ≤ 16) (bF : ∀ a, F a < 8) (bG : ∀ a, G a < 8) (bRW : ∀ i, RW i < 16) (bLE : ∀ i, LE i ≤ 8) (bPA : ∀ i, PA i < 16) (bst : st < 8) (hf : rp.length + f = 8) (hh : sp_hold LS mn RW LE) (hpa : sp_pth rp PA) (hbt : sp_bits G rp ps) (hbd : LS.length + (sp_lv K F G st f rp).length ≤ 636) (hat : sp_at G st rp < 8) : Met l yX1_extend wsX1_extend (zR (f + 1) 0 0 (27 * (f + 1))) (va_Pc [.ref p0, .int (nI st), .int (nI (sp_at G st rp)), .int (nI ps), .int (nI rp.length)] (zP (dC, dI) [(cI, .int), (cJ, .long)] [(p0, .inr (1, [.ref h0, .ref p1, .ref p2, .ref p3, .int (nI mn), .ref p4, .int (nI ns)])), (p1, .inl (cI, 5088, .inl (fun z_ => nI (RW z_)))), (p2, .inl (cI, 636, .inl (fun z_ => nI (LE z_)))), (p3, .inl (cI, 8, .inl (fun z_ => nI (PA z_)))), (p4, .inl (cI, 16, .inl (fun z_ => nI (NC z_)))), (h0, .inr (0, [.ref a1, .ref a2, .ref a3, .ref a4, .int (nI N), .int (nI K)])), (a1, .inl (cI, 8, .inl (fun z_ => nI (T z_)))), (a2, .inl (cI, 16, .inl (fun z_ => nI (F z_)))), (a3, .inl (cI, 16, .inl (fun z_ => nI (G z_)))), (a4, .inl (cI, 16, .inl (fun z_ => nI (C z_))))] sz nwA)) (va_Qv (fun (u : (Nat → Nat) × (Nat → Nat) × (Nat → Nat) × (Nat)) => (sp_hold (LS ++ sp_lv K F G st f rp) u.2.2.2 u.1 u.2.1) ∧ (∀ i, u.1 i < 16) ∧ (∀ i, u.2.1 i ≤ 8) ∧ (∀ i, u.2.2.1 i < 16) ∧ (∀ i, i < rp.length → u.2.2.1 i = PA i)) (zB (dC, dI) (fun (u : (Nat → Nat) × (Nat → Nat) × (Nat → Nat) × (Nat)) => [(p0, .inr (1, [.ref h0, .ref p1, .ref p2, .ref p3, .int (nI u.2.2.2), .ref p4, .int (nI ns)])), (p1, .inl (cI, 5088, .inl (fun z_ => nI (u.1 z_)))), (p2, .inl (cI, 636, .inl (fun z_ => nI (u.2.1 z_)))), (p3, .inl (cI, 8, .inl (fun z_ => nI (u.2.2.1 z_)))), (p4, .inl (cI, 16, .inl (fun z_ => nI (NC z_)))), (h0, .inr (0, [.ref a1, .ref a2, .ref a3, .ref a4, .int (nI N), .int (nI K)])), (a1, .inl (cI, 8, .inl (fun z_ => nI (T z_)))), (a2, .inl (cI, 16, .inl (fun z_ => nI (F z_)))), (a3, .inl (cI, 16, .inl (fun z_ => nI (G z_)))), (a4, .inl (cI, 16, .inl (fun z_ => nI (C z_))))]) (va_A [(p0, .inr (1, [.ref h0, .ref p1, .ref p2, .ref p3, .int (nI mn), .ref p4, .int (nI ns)])), (p1, .inl (cI, 5088, .inl (fun z_ => nI (RW z_)))), (p2, .inl (cI, 636, .inl (fun z_ => nI (LE z_)))), (p3, .inl (cI, 8, .inl (fun z_ => nI (PA z_)))), (p4, .inl (cI, 16, .inl (fun z_ => nI (NC z_)))), (h0, .inr (0, [.ref a1, .ref a2, .ref a3, .ref a4, .int (nI N), .int (nI K)])), (a1, .inl (cI, 8, .inl (fun z_ => nI (T z_)))), (a2, .inl (cI, 16, .inl (fun z_ => nI (F z_)))), (a3, .inl (cI, 16, .inl (fun z_ => nI (G z_)))), (a4, .inl (cI, 16, .inl (fun z_ => nI (C z_))))] sz)) (va_A [(p0, .inr (1, [.ref h0, .ref p1, .ref p2, .ref p3, .int (nI mn), .ref p4, .int (nI ns)])), (p1, .inl (cI, 5088, .inl (fun z_ => nI (RW z_)))), (p2, .inl (cI, 636, .inl (fun z_ => nI (LE z_)))), (p3, .inl (cI, 8, .inl (fun z_ => nI (PA z_)))), (p4, .inl (cI, 16, .inl (fun z_ => nI (NC z_)))), (h0, .inr (0, [.ref a1, .ref a2, .ref a3, .ref a4, .int (nI N), .int (nI K)])), (a1, .inl (cI, 8, .inl (fun z_ => nI (T z_)))), (a2, .inl (cI, 16, .inl (fun z_ => nI (F z_)))), (a3, .inl (cI, 16, .inl (fun z_ => nI (G z_)))), (a4, .inl (cI, 16, .inl (fun z_ => nI (C z_))))] sz)) 0 0 (va_A [(p0, .inr (1, [.ref h0, .ref p1, .ref p2, .ref p3, .int (nI mn), .ref p4, .int (nI ns)])), (p1, .inl (cI, 5088, .inl (fun z_ => nI (RW z_)))), (p2, .inl (cI, 636, .inl (fun z_ => nI (LE z_)))), (p3, .inl (cI, 8, .inl (fun z_ => nI (PA z_)))), (p4, .inl (cI, 16, .inl (fun z_ => nI (NC z_)))), (h0, .inr (0, [.ref a1, .ref a2, .ref a3, .ref a4, .int (nI N), .int (nI K)])), (a1, .inl (cI, 8, .inl (fun z_ => nI (T z_)))), (a2, .inl (cI, 16, .inl (fun z_ => nI (F z_)))), (a3, .inl (cI, 16, .inl (fun z_ => nI (G z_)))), (a4, .inl (cI, 16, .inl (fun z_ => nI (C z_))))] sz) := c_X1_extend_all f l dC dI cI cJ sz p0 p1 p2 p3 p4 h0 RW LE PA NC mn ns a1 a2 a3 a4 N K T F G C st ps LS rp bK bF bG bRW bLE bPA bst hf hh hpa hbt hbd hat
set_option maxHeartbeats 4000000 in
set_option maxRecDepth 100000 in
theorem c_X1_find (l : Launch) (dC : Nat → ClassId) (dI : Nat → Nat → Nat) (cI cJ : ClassId) (sz : Nat) (p0 : Nat) (p1 : Nat) (p2 : Nat) (p3 : Nat) (p4 : Nat) (h0 : Nat) (RW : Nat → Nat) (LE : Nat → Nat) (PA : Nat → Nat) (NC : Nat → Nat) (mn : Nat) (ns : Nat) (a1 : Nat) (a2 : Nat) (a3 : Nat) (a4 : Nat) (N : Nat) (K : Nat) (T : Nat → Nat) (F : Nat → Nat) (G : Nat → Nat) (C : Nat → Nat) (bN : N ≤ 8) (bK : K ≤ 16) (bF : ∀ a, F a < 8) (bG : ∀ a, G a < 8) (bRW : ∀ i, RW i < 16) (bLE : ∀ i, LE i ≤ 8) (bPA : ∀ i, PA i < 16) (hbd : (sp_all N K F G).length ≤ 636) : Met l yX1_find wsX1_find (zR 10 0 0 270) (va_Pc [.ref p0] (zP (dC, dI) [(cI, .int), (cJ, .long)] [(p0, .inr (1, [.ref h0, .ref p1, .ref p2, .ref p3, .int (nI mn), .ref p4, .int (nI ns)])), (p1, .inl (cI, 5088, .inl (fun z_ => nI (RW z_)))), (p2, .inl (cI, 636, .inl (fun z_ => nI (LE z_)))), (p3, .inl (cI, 8, .inl (fun z_ => nI (PA z_)))), (p4, .inl (cI, 16, .inl (fun z_ => nI (NC z_)))), (h0, .inr (0, [.ref a1, .ref a2, .ref a3, .ref a4, .int (nI N), .int (nI K)])), (a1, .inl (cI, 8, .inl (fun z_ => nI (T z_)))), (a2, .inl (cI, 16, .inl (fun z_ => nI (F z_)))), (a3, .inl (cI, 16, .inl (fun z_ => nI (G z_)))), (a4, .inl (cI, 16, .inl (fun z_ => nI (C z_))))] sz nwA)) (va_Qv (fun (u : (Nat → Nat) × (Nat → Nat) × (Nat → Nat) × (Nat)) => (sp_hold (sp_all N K F G) u.2.2.2 u.1 u.2.1) ∧ (∀ i, u.1 i < 16) ∧ (∀ i, u.2.1 i ≤ 8) ∧ (∀ i, u.2.2.1 i < 16)) (zB (dC, dI) (fun (u : (Nat → Nat) × (Nat → Nat) × (Nat → Nat) × (Nat)) => [(p0, .inr (1, [.ref h0, .ref p1, .ref p2, .ref p3, .int (nI u.2.2.2), .ref p4, .int (nI ns)])), (p1, .inl (cI, 5088, .inl (fun z_ => nI (u.1 z_)))), (p2, .inl (cI, 636, .inl (fun z_ => nI (u.2.1 z_)))), (p3, .inl (cI, 8, .inl (fun z_ => nI (u.2.2.1 z_)))), (p4, .inl (cI, 16, .inl (fun z_ => nI (NC z_)))), (h0, .inr (0, [.ref a1, .ref a2, .ref a3, .ref a4, .int (nI N), .int (nI K)])), (a1, .inl (cI, 8, .inl (fun z_ => nI (T z_)))), (a2, .inl (cI, 16, .inl (fun z_ => nI (F z_)))), (a3, .inl (cI, 16, .inl (fun z_ => nI (G z_)))), (a4, .inl (cI, 16, .inl (fun z_ => nI (C z_))))]) (va_A [(p0, .inr (1, [.ref h0, .ref p1, .ref p2, .ref p3, .int (nI mn), .ref p4, .int (nI ns)])), (p1, .inl (cI, 5088, .inl (fun z_ => nI (RW z_)))), (p2, .inl (cI, 636, .inl (fun z_ => nI (LE z_)))), (p3, .inl (cI, 8, .inl (fun z_ => nI (PA z_)))), (p4, .inl (cI, 16, .inl (fun z_ => nI (NC z_)))), (h0, .inr (0, [.ref a1, .ref a2, .ref a3, .ref a4, .int (nI N), .int (nI K)])), (a1, .inl (cI, 8, .inl (fun z_ => nI (T z_)))), (a2, .inl (cI, 16, .inl (fun z_ => nI (F z_)))), (a3, .inl (cI, 16, .inl (fun z_ => nI (G z_)))), (a4, .inl (cI, 16, .inl (fun z_ => nI (C z_))))] sz)) (va_A [(p0, .inr (1, [.ref h0, .ref p1, .ref p2, .ref p3, .int (nI mn), .ref p4, .int (nI ns)])), (p1, .inl (cI, 5088, .inl (fun z_ => nI (RW z_)))), (p2, .inl (cI, 636, .inl (fun z_ => nI (LE z_)))), (p3, .inl (cI, 8, .inl (fun z_ => nI (PA z_)))), (p4, .inl (cI, 16, .inl (fun z_ => nI (NC z_)))), (h0, .inr (0, [.ref a1, .ref a2, .ref a3, .ref a4, .int (nI N), .int (nI K)])), (a1, .inl (cI, 8, .inl (fun z_ => nI (T z_)))), (a2, .inl (cI, 16, .inl (fun z_ => nI (F z_)))), (a3, .inl (cI, 16, .inl (fun z_ => nI (G z_)))), (a4, .inl (cI, 16, .inl (fun z_ => nI (C z_))))] sz)) 0 0 (va_A [(p0, .inr (1, [.ref h0, .ref p1, .ref p2, .ref p3, .int (nI mn), .ref p4, .int (nI ns)])), (p1, .inl (cI, 5088, .inl (fun z_ => nI (RW z_)))), (p2, .inl (cI, 636, .inl (fun z_ => nI (LE z_)))), (p3, .inl (cI, 8, .inl (fun z_ => nI (PA z_)))), (p4, .inl (cI, 16, .inl (fun z_ => nI (NC z_)))), (h0, .inr (0, [.ref a1, .ref a2, .ref a3, .ref a4, .int (nI N), .int (nI K)])), (a1, .inl (cI, 8, .inl (fun z_ => nI (T z_)))), (a2, .inl (cI, 16, .inl (fun z_ => nI (F z_)))), (a3, .inl (cI, 16, .inl (fun z_ => nI (G z_)))), (a4, .inl (cI, 16, .inl (fun z_ => nI (C z_))))] sz) := by
  refine z_met_v (cc := cX1_find) (maxL := 2) (by decide) rfl (Nat.le_of_ble_eq_true rfl) ?_
  intro p e s m args below meth c Q A ls hx hb hml hown hts hin hA hK hP hD hN hl hRET
  have hown : s.vm.findClass RX1 = some m.cls := hown
  obtain ⟨H, eH⟩ : ∃ H : Heap, H = s.heap := ⟨_, rfl⟩
  rw [← eH] at hP
  obtain ⟨locs, eL⟩ : ∃ z : List Loc, z = [] := ⟨_, rfl⟩
  rw [← eH, ← eL]
  have hS : va_S A s.heap H locs := by rw [eH, eL]; exact va_S.rf
  have hl : lv_has ls 2 [(0, .ref p0)] := hl
  have w28 := hts (.fieldLink RX1 28 "PullCards$Loops" "many" "I") (by decide +kernel)
  have uX1 : ∀ w ∈ wsX10, w ∈ wsX1_find := by decide +kernel
  have w24 := hts (.fieldLink RX1 24 "PullCards$Loops" "line" "LPullCards$Line;") (by decide +kernel)
  have w36 := hts (.fieldLink RX1 36 "PullCards$Line" "stations" "I") (by decide +kernel)
  have uX0 : ∀ w ∈ wsX00, w ∈ wsX1_find := by decide +kernel
  refine lv_aload_n hx hb dX1_find_0 rfl (lv_at hl 0 rfl) ?_
  refine lv_iconst (v := nI 0) hx hb dX1_find_1 (by decide) ?_
  refine z_put (D := (dC, dI)) (ci := 1) (v := .int (nI 0)) (C := RX1) (T := TX1) (N := 7) hx hb hts uX1 tyX1 tyX1_ok nmX1 hown hK hP hD hS 0 rfl rfl 4 (by decide) w28 rfl rfl rfl rfl (Nat.le_of_ble_eq_true rfl) [(p0, .inr (1, [.ref h0, .ref p1, .ref p2, .ref p3, .int (nI 0), .ref p4, .int (nI ns)])), (p1, .inl (cI, 5088, .inl (fun z_ => nI (RW z_)))), (p2, .inl (cI, 636, .inl (fun z_ => nI (LE z_)))), (p3, .inl (cI, 8, .inl (fun z_ => nI (PA z_)))), (p4, .inl (cI, 16, .inl (fun z_ => nI (NC z_)))), (h0, .inr (0, [.ref a1, .ref a2, .ref a3, .ref a4, .int (nI N), .int (nI K)])), (a1, .inl (cI, 8, .inl (fun z_ => nI (T z_)))), (a2, .inl (cI, 16, .inl (fun z_ => nI (F z_)))), (a3, .inl (cI, 16, .inl (fun z_ => nI (G z_)))), (a4, .inl (cI, 16, .inl (fun z_ => nI (C z_))))] rfl dX1_find_2 (fun H locs hP hD hS => ?_)
  refine lv_iconst (v := nI 0) hx hb dX1_find_5 (by decide) ?_
  refine lv_istore_n (lv' := [(1, .int (nI 0)), (0, .ref p0)]) hx hb dX1_find_6 rfl hl (by decide) rfl (fun ls hl => ?_)
  have L7 : ∀ (n : Nat) (j : Nat) (RW1 : Nat → Nat) (LE1 : Nat → Nat) (PA1 : Nat → Nat) (mn1 : Nat), (N - j) < n → (j ≤ N) → (sp_hold (sp_all j K F G) mn1 RW1 LE1) → (∀ i, RW1 i < 16) → (∀ i, LE1 i ≤ 8) → (∀ i, PA1 i < 16) → ∀ (H : Heap) (locs : List Loc), va_P (dC, dI) vwCl [(p0, .inr (1, [.ref h0, .ref p1, .ref p2, .ref p3, .int (nI mn1), .ref p4, .int (nI ns)])), (p1, .inl (cI, 5088, .inl (fun z_ => nI (RW1 z_)))), (p2, .inl (cI, 636, .inl (fun z_ => nI (LE1 z_)))), (p3, .inl (cI, 8, .inl (fun z_ => nI (PA1 z_)))), (p4, .inl (cI, 16, .inl (fun z_ => nI (NC z_)))), (h0, .inr (0, [.ref a1, .ref a2, .ref a3, .ref a4, .int (nI N), .int (nI K)])), (a1, .inl (cI, 8, .inl (fun z_ => nI (T z_)))), (a2, .inl (cI, 16, .inl (fun z_ => nI (F z_)))), (a3, .inl (cI, 16, .inl (fun z_ => nI (G z_)))), (a4, .inl (cI, 16, .inl (fun z_ => nI (C z_))))] H → va_D A [(p0, .inr (1, [.ref h0, .ref p1, .ref p2, .ref p3, .int (nI mn1), .ref p4, .int (nI ns)])), (p1, .inl (cI, 5088, .inl (fun z_ => nI (RW1 z_)))), (p2, .inl (cI, 636, .inl (fun z_ => nI (LE1 z_)))), (p3, .inl (cI, 8, .inl (fun z_ => nI (PA1 z_)))), (p4, .inl (cI, 16, .inl (fun z_ => nI (NC z_)))), (h0, .inr (0, [.ref a1, .ref a2, .ref a3, .ref a4, .int (nI N), .int (nI K)])), (a1, .inl (cI, 8, .inl (fun z_ => nI (T z_)))), (a2, .inl (cI, 16, .inl (fun z_ => nI (F z_)))), (a3, .inl (cI, 16, .inl (fun z_ => nI (G z_)))), (a4, .inl (cI, 16, .inl (fun z_ => nI (C z_))))] → va_S A s.heap H locs → ∀ (ls : Array Slot), lv_has ls 2 [(0, .ref p0), (1, .int (nI j))] → W p l e (zR 10 0 0 270) s m args below meth c H locs 0 0 Q (F0 m 7 ls []) := by
    intro n
    induction n with
    | zero => intro j RW1 LE1 PA1 mn1 hn; exact absurd hn (Nat.not_lt_zero _)
    | succ n ih =>
      intro j RW1 LE1 PA1 mn1 hn i1 i2 i3 i4 i5 H locs hP hD hS ls hl
      have ih7 := ih
      have hn7 := hn
      clear ih hn
      refine lv_iload_n hx hb dX1_find_7 rfl (lv_at hl 1 rfl) ?_
      refine lv_aload_n hx hb dX1_find_8 rfl (lv_at hl 0 rfl) ?_
      refine z_get (D := (dC, dI)) (ci := 1) (v := .ref h0) (C := RX1) (T := TX1) (N := 7) hx hb hts uX1 hown hK hP 0 rfl rfl 0 (by decide) w24 rfl rfl dX1_find_9 ?_
      refine z_get (D := (dC, dI)) (ci := 0) (v := .int (nI N)) (C := RX0) (T := TX0) (N := 6) hx hb hts uX0 hown hK hP 5 rfl rfl 4 (by decide) w36 rfl rfl dX1_find_12 ?_
      refine z_icmp_ge (tgt := 32) hx hb dX1_find_15 (by decide) (zcn_le (a := N) (b := j) rfl rfl (by omega)) (fun c_15 => ?_) (fun c_15 => ?_)
      · skip
        have q_0 : sp_hold (sp_all N K F G) mn1 RW1 LE1 := by rw [show N = j from by omega]; exact i2
        have q_1 : ∀ i, RW1 i < 16 := by first | assumption | omega
        have q_2 : ∀ i, LE1 i ≤ 8 := by first | assumption | omega
        have q_3 : ∀ i, PA1 i < 16 := by first | assumption | omega
        exact hRET _ ls H locs (RW1, LE1, PA1, mn1) dX1_find_32 ⟨q_0, q_1, q_2, q_3⟩ hP hD hS
      · skip
        have hl2 := sp_all_le (show j + 1 ≤ N by omega) K F G
        rw [sp_all_s, List.length_append] at hl2
        refine lv_aload_n hx hb dX1_find_18 rfl (lv_at hl 0 rfl) ?_
        refine lv_iload_n hx hb dX1_find_19 rfl (lv_at hl 1 rfl) ?_
        refine lv_iload_n hx hb dX1_find_20 rfl (lv_at hl 1 rfl) ?_
        refine lv_iconst (v := nI 0) hx hb dX1_find_21 (by decide) ?_
        refine lv_iconst (v := nI 0) hx hb dX1_find_22 (by decide) ?_
        refine z_callSv (As := [.ref p0, .int (nI j), .int (nI j), .int (nI 0), .int (nI 0)]) (rest := []) (wr := []) ⟨hx, hb, hml, hown, hts⟩ (c_X1_extend l dC dI cI cJ H.size p0 p1 p2 p3 p4 h0 RW1 LE1 PA1 NC mn1 ns a1 a2 a3 a4 N K T F G C j 0 8 (sp_all j K F G) ([] : List Nat) (by first | assumption | omega) (by first | assumption | omega) (by first | assumption | omega) (by first | assumption | omega) (by first | assumption | omega) (by first | assumption | omega) (by first | assumption | omega) (by rfl) (by first | assumption | omega) (by intro i hi; exact absurd hi (Nat.not_lt_zero _)) (by exact sp_bits_0 G) (by first | assumption | omega) (by show j < 8; omega)) (va_cwS 5 hts gX1_find_X1_extend rfl rfl rfl (by decide +kernel) ⟨Nat.le_of_ble_eq_true rfl, Nat.le_of_ble_eq_true rfl⟩) hA hK hP hD hS [0, 1, 2, 3, 4, 5, 6, 7, 8, 9] [] [0, 1, 2, 3, 4, 5, 6, 7, 8, 9] rfl rfl (by decide) (by decide) (by decide) nwA_ok hN hl.1 (Nat.le_of_ble_eq_true rfl) ⟨Nat.le_refl _, Nat.le_refl _⟩ rfl rfl dX1_find_23 (fun (u : (Nat → Nat) × (Nat → Nat) × (Nat → Nat) × (Nat)) => [(p0, .inr (1, [.ref h0, .ref p1, .ref p2, .ref p3, .int (nI u.2.2.2), .ref p4, .int (nI ns)])), (p1, .inl (cI, 5088, .inl (fun z_ => nI (u.1 z_)))), (p2, .inl (cI, 636, .inl (fun z_ => nI (u.2.1 z_)))), (p3, .inl (cI, 8, .inl (fun z_ => nI (u.2.2.1 z_)))), (p4, .inl (cI, 16, .inl (fun z_ => nI (NC z_)))), (h0, .inr (0, [.ref a1, .ref a2, .ref a3, .ref a4, .int (nI N), .int (nI K)])), (a1, .inl (cI, 8, .inl (fun z_ => nI (T z_)))), (a2, .inl (cI, 16, .inl (fun z_ => nI (F z_)))), (a3, .inl (cI, 16, .inl (fun z_ => nI (G z_)))), (a4, .inl (cI, 16, .inl (fun z_ => nI (C z_))))]) (fun u => rfl) (by decide) (fun u H locs hw hP hD hS => ?_)
        obtain ⟨RW2_23, LE2_23, PA2_23, mn2_23⟩ := u
        have hP : va_P (dC, dI) vwCl [(p0, .inr (1, [.ref h0, .ref p1, .ref p2, .ref p3, .int (nI mn2_23), .ref p4, .int (nI ns)])), (p1, .inl (cI, 5088, .inl (fun z_ => nI (RW2_23 z_)))), (p2, .inl (cI, 636, .inl (fun z_ => nI (LE2_23 z_)))), (p3, .inl (cI, 8, .inl (fun z_ => nI (PA2_23 z_)))), (p4, .inl (cI, 16, .inl (fun z_ => nI (NC z_)))), (h0, .inr (0, [.ref a1, .ref a2, .ref a3, .ref a4, .int (nI N), .int (nI K)])), (a1, .inl (cI, 8, .inl (fun z_ => nI (T z_)))), (a2, .inl (cI, 16, .inl (fun z_ => nI (F z_)))), (a3, .inl (cI, 16, .inl (fun z_ => nI (G z_)))), (a4, .inl (cI, 16, .inl (fun z_ => nI (C z_))))] H := hP
        have hD : va_D A [(p0, .inr (1, [.ref h0, .ref p1, .ref p2, .ref p3, .int (nI mn2_23), .ref p4, .int (nI ns)])), (p1, .inl (cI, 5088, .inl (fun z_ => nI (RW2_23 z_)))), (p2, .inl (cI, 636, .inl (fun z_ => nI (LE2_23 z_)))), (p3, .inl (cI, 8, .inl (fun z_ => nI (PA2_23 z_)))), (p4, .inl (cI, 16, .inl (fun z_ => nI (NC z_)))), (h0, .inr (0, [.ref a1, .ref a2, .ref a3, .ref a4, .int (nI N), .int (nI K)])), (a1, .inl (cI, 8, .inl (fun z_ => nI (T z_)))), (a2, .inl (cI, 16, .inl (fun z_ => nI (F z_)))), (a3, .inl (cI, 16, .inl (fun z_ => nI (G z_)))), (a4, .inl (cI, 16, .inl (fun z_ => nI (C z_))))] := hD
        obtain ⟨p23_0, p23_1, p23_2, p23_3, p23_4⟩ := hw
        have p23_0 : sp_hold ((sp_all j K F G) ++ sp_lv K F G j 8 ([] : List Nat)) mn2_23 RW2_23 LE2_23 := p23_0
        have p23_1 : ∀ i, RW2_23 i < 16 := p23_1
        have p23_2 : ∀ i, LE2_23 i ≤ 8 := p23_2
        have p23_3 : ∀ i, PA2_23 i < 16 := p23_3
        have p23_4 : ∀ i, i < ([] : List Nat).length → PA2_23 i = PA1 i := p23_4
        refine lv_iinc (v := (nI (j + 1))) (lv' := [(1, .int (nI (j + 1))), (0, .ref p0)]) hx hb dX1_find_26 hl (k := 1) rfl (z_incN j 1 (by decide)) (by decide) rfl (fun ls hl => ?_)
        refine lv_goto (tgt := 7) hx hb dX1_find_29 (by decide) ?_
        have o_i1 : (j + 1) ≤ N := by first | assumption | omega
        have o_i2 : sp_hold (sp_all (j + 1) K F G) mn2_23 RW2_23 LE2_23 := by rw [sp_all_s]; exact p23_0
        have o_i3 : ∀ i, RW2_23 i < 16 := by first | assumption | omega
        have o_i4 : ∀ i, LE2_23 i ≤ 8 := by first | assumption | omega
        have o_i5 : ∀ i, PA2_23 i < 16 := by first | assumption | omega
        have o_mu : (N - (j + 1)) < n := by omega
        exact ih7 (j + 1) RW2_23 LE2_23 PA2_23 mn2_23 o_mu o_i1 o_i2 o_i3 o_i4 o_i5 H locs hP hD hS ls (lv_sub hl [1, 0] rfl)
  have o_i1 : 0 ≤ N := by first | assumption | omega
  have o_i2 : sp_hold (sp_all 0 K F G) 0 RW LE := by exact sp_hold_0 RW LE
  have o_i3 : ∀ i, RW i < 16 := by first | assumption | omega
  have o_i4 : ∀ i, LE i ≤ 8 := by first | assumption | omega
  have o_i5 : ∀ i, PA i < 16 := by first | assumption | omega
  exact L7 ((N - 0) + 1) 0 RW LE PA 0 (Nat.lt_succ_self _) o_i1 o_i2 o_i3 o_i4 o_i5 H locs hP hD hS ls (lv_sub hl [1, 0] rfl)

set_option maxHeartbeats 4000000 in
set_option maxRecDepth 100000 in
theorem c_X1_arcOf (l : Launch) (dC : Nat → ClassId) (dI : Nat → Nat → Nat) (cI cJ : ClassId) (sz : Nat) (p0 : Nat) (p1 : Nat) (p2 : Nat) (p3 : Nat) (p4 : Nat) (h0 : Nat) (RW : Nat → Nat) (LE : Nat → Nat) (PA : Nat → Nat) (NC : Nat → Nat) (mn : Nat) (ns : Nat) (lo : Nat) (i : Int) (bmn : mn ≤ 636) (bl : lo < mn) (bi : -2147483648 ≤ i ∧ i < 2147483648) (bRW : ∀ i, RW i < 16) (bLE : ∀ i, LE i ≤ 8) : Met l yX1_arcOf wsX1_arcOf (zR 1 0 0 22) (va_Pc [.ref p0, .int (nI lo), .int (iI i)] (zP (dC, dI) [(cI, .int), (cJ, .long)] [(p0, .inr (1, [.ref h0, .ref p1, .ref p2, .ref p3, .int (nI mn), .ref p4, .int (nI ns)])), (p1, .inl (cI, 5088, .inl (fun z_ => nI (RW z_)))), (p2, .inl (cI, 636, .inl (fun z_ => nI (LE z_)))), (p3, .inl (cI, 8, .inl (fun z_ => nI (PA z_)))), (p4, .inl (cI, 16, .inl (fun z_ => nI (NC z_))))] sz nwA)) (va_Qi (fun (r : Int32) (u : (Int)) => r = (iI u) ∧ (u = if 0 ≤ i ∧ i < (LE lo : Int) then (RW (lo * 8 + i.toNat) : Int) else -9)) (zB (dC, dI) (fun (u : (Int)) => [(p0, .inr (1, [.ref h0, .ref p1, .ref p2, .ref p3, .int (nI mn), .ref p4, .int (nI ns)])), (p1, .inl (cI, 5088, .inl (fun z_ => nI (RW z_)))), (p2, .inl (cI, 636, .inl (fun z_ => nI (LE z_)))), (p3, .inl (cI, 8, .inl (fun z_ => nI (PA z_)))), (p4, .inl (cI, 16, .inl (fun z_ => nI (NC z_))))]) (va_A [(p0, .inr (1, [.ref h0, .ref p1, .ref p2, .ref p3, .int (nI mn), .ref p4, .int (nI ns)])), (p1, .inl (cI, 5088, .inl (fun z_ => nI (RW z_)))), (p2, .inl (cI, 636, .inl (fun z_ => nI (LE z_)))), (p3, .inl (cI, 8, .inl (fun z_ => nI (PA z_)))), (p4, .inl (cI, 16, .inl (fun z_ => nI (NC z_))))] sz)) (va_A [(p0, .inr (1, [.ref h0, .ref p1, .ref p2, .ref p3, .int (nI mn), .ref p4, .int (nI ns)])), (p1, .inl (cI, 5088, .inl (fun z_ => nI (RW z_)))), (p2, .inl (cI, 636, .inl (fun z_ => nI (LE z_)))), (p3, .inl (cI, 8, .inl (fun z_ => nI (PA z_)))), (p4, .inl (cI, 16, .inl (fun z_ => nI (NC z_))))] sz)) 0 0 (va_A [(p0, .inr (1, [.ref h0, .ref p1, .ref p2, .ref p3, .int (nI mn), .ref p4, .int (nI ns)])), (p1, .inl (cI, 5088, .inl (fun z_ => nI (RW z_)))), (p2, .inl (cI, 636, .inl (fun z_ => nI (LE z_)))), (p3, .inl (cI, 8, .inl (fun z_ => nI (PA z_)))), (p4, .inl (cI, 16, .inl (fun z_ => nI (NC z_))))] sz) := by
  refine z_met_i (cc := cX1_arcOf) (maxL := 3) (by decide) rfl (Nat.le_of_ble_eq_true rfl) ?_
  intro p e s m args below meth c Q A ls hx hb hml hown hts hin hA hK hP hD hN hl hRET
  have hown : s.vm.findClass RX1 = some m.cls := hown
  obtain ⟨H, eH⟩ : ∃ H : Heap, H = s.heap := ⟨_, rfl⟩
  rw [← eH] at hP
  obtain ⟨locs, eL⟩ : ∃ z : List Loc, z = [] := ⟨_, rfl⟩
  rw [← eH, ← eL]
  have hS : va_S A s.heap H locs := by rw [eH, eL]; exact va_S.rf
  have hl : lv_has ls 3 [(0, .ref p0), (1, .int (nI lo)), (2, .int (iI i))] := hl
  have w15 := hts (.fieldLink RX1 15 "PullCards$Loops" "lengths" "[I") (by decide +kernel)
  have uX1 : ∀ w ∈ wsX10, w ∈ wsX1_arcOf := by decide +kernel
  have w11 := hts (.fieldLink RX1 11 "PullCards$Loops" "rows" "[I") (by decide +kernel)
  refine lv_iload_n hx hb dX1_arcOf_0 rfl (lv_at hl 2 rfl) ?_
  refine lv_iconst (v := nI 0) hx hb dX1_arcOf_1 (by decide) ?_
  refine lv_aload_n hx hb dX1_arcOf_2 rfl (lv_at hl 0 rfl) ?_
  refine z_get (D := (dC, dI)) (ci := 1) (v := .ref p2) (C := RX1) (T := TX1) (N := 7) hx hb hts uX1 hown hK hP 0 rfl rfl 2 (by decide) w15 rfl rfl dX1_arcOf_3 ?_
  refine lv_iload_n hx hb dX1_arcOf_6 rfl (lv_at hl 1 rfl) ?_
  refine z_iald (v := (nI (LE lo))) hx hb hK hP 2 0 rfl rfl lo rfl (by omega) rfl dX1_arcOf_7 ?_
  have f7_0 := bLE lo
  refine lv_iconst (v := nI 1) hx hb dX1_arcOf_8 (by decide) ?_
  refine z_isub (v := (iI (((LE lo : Nat) : Int) - 1))) hx hb dX1_arcOf_9 (za_sub (iI_N _) (iI_N _)) ?_
  refine z_c1 (v := iI 0) (by decide) ?_
  refine z_callSNi (As := [.int (iI i), .int (iI 0), .int (iI (((LE lo : Nat) : Int) - 1))]) (rest := []) (wr := [(p0, .inr (1, [.ref h0, .ref p1, .ref p2, .ref p3, .int (nI mn), .ref p4, .int (nI ns)])), (p1, .inl (cI, 5088, .inl (fun z_ => nI (RW z_)))), (p2, .inl (cI, 636, .inl (fun z_ => nI (LE z_)))), (p3, .inl (cI, 8, .inl (fun z_ => nI (PA z_)))), (p4, .inl (cI, 16, .inl (fun z_ => nI (NC z_))))]) ⟨hx, hb, hml, hown, hts⟩ (c_X5_within l dC dI cI cJ H.size i (0 : Int) (((LE lo : Nat) : Int) - 1) (by first | assumption | omega) (by first | assumption | omega) (by first | assumption | omega)) ⟨va_cnB 3 hts gX1_arcOf_X5_within_n32 rfl rfl rfl (hN _ (List.mem_of_getElem? (i := 4) rfl)) (hts (.initialized RX5) (by decide +kernel)) (by decide +kernel) ⟨Nat.le_of_ble_eq_true rfl, Nat.le_of_ble_eq_true rfl⟩, hts (.static yX5_within) (by decide +kernel), trivial⟩ hA hK hP hD hS [] [0, 1, 2, 3, 4] [0, 1, 2, 3, 4] rfl rfl (by decide) (by decide) (by decide) nwA_ok hN hl.1 (Nat.le_of_ble_eq_true rfl) ⟨Nat.le_refl _, Nat.le_refl _⟩ rfl rfl dX1_arcOf_10 (fun (u : (Nat)) => [(p0, .inr (1, [.ref h0, .ref p1, .ref p2, .ref p3, .int (nI mn), .ref p4, .int (nI ns)])), (p1, .inl (cI, 5088, .inl (fun z_ => nI (RW z_)))), (p2, .inl (cI, 636, .inl (fun z_ => nI (LE z_)))), (p3, .inl (cI, 8, .inl (fun z_ => nI (PA z_)))), (p4, .inl (cI, 16, .inl (fun z_ => nI (NC z_))))]) (fun u => rfl) (by decide) (fun r_10 u H locs hw hP hD hS => ?_)
  obtain ⟨rv_10, eu⟩ : ∃ z, z = u := ⟨_, rfl⟩
  subst eu
  have hP : va_P (dC, dI) vwCl [(p0, .inr (1, [.ref h0, .ref p1, .ref p2, .ref p3, .int (nI mn), .ref p4, .int (nI ns)])), (p1, .inl (cI, 5088, .inl (fun z_ => nI (RW z_)))), (p2, .inl (cI, 636, .inl (fun z_ => nI (LE z_)))), (p3, .inl (cI, 8, .inl (fun z_ => nI (PA z_)))), (p4, .inl (cI, 16, .inl (fun z_ => nI (NC z_))))] H := hP
  have hD : va_D A [(p0, .inr (1, [.ref h0, .ref p1, .ref p2, .ref p3, .int (nI mn), .ref p4, .int (nI ns)])), (p1, .inl (cI, 5088, .inl (fun z_ => nI (RW z_)))), (p2, .inl (cI, 636, .inl (fun z_ => nI (LE z_)))), (p3, .inl (cI, 8, .inl (fun z_ => nI (PA z_)))), (p4, .inl (cI, 16, .inl (fun z_ => nI (NC z_))))] := hD
  obtain ⟨er, p10_0⟩ := hw
  have p10_0 : (rv_10 = 1 ∧ ((0 : Int) ≤ i ∧ i ≤ (((LE lo : Nat) : Int) - 1))) ∨ (rv_10 = 0 ∧ ¬ ((0 : Int) ≤ i ∧ i ≤ (((LE lo : Nat) : Int) - 1))) := p10_0
  have er : r_10 = (nI rv_10) := er
  subst er
  rcases p10_0 with ⟨h10, c_10⟩ | ⟨h10, c_10⟩
  · skip
    subst h10
    have bb := bLE lo
    refine lv_if_eq (tgt := 30) hx hb dX1_arcOf_13 (by decide) (fun c_x => absurd c_x (by decide)) (fun _ => ?_)
    refine lv_aload_n hx hb dX1_arcOf_16 rfl (lv_at hl 0 rfl) ?_
    refine z_get (D := (dC, dI)) (ci := 1) (v := .ref p1) (C := RX1) (T := TX1) (N := 7) hx hb hts uX1 hown hK hP 0 rfl rfl 1 (by decide) w11 rfl rfl dX1_arcOf_17 ?_
    refine lv_iload_n hx hb dX1_arcOf_20 rfl (lv_at hl 1 rfl) ?_
    refine lv_bipush (v := nI 8) hx hb dX1_arcOf_21 (by decide) ?_
    refine z_imul (v := (nI (lo * 8))) hx hb dX1_arcOf_23 (pk_mul _ _) ?_
    refine lv_iload_n hx hb dX1_arcOf_24 rfl (lv_at hl 2 rfl) ?_
    refine z_c0 (v := nI i.toNat) (z_ZtoN (by first | assumption | omega)) ?_
    refine z_iadd (v := (nI ((lo * 8) + i.toNat))) hx hb dX1_arcOf_25 (nI_add _ _) ?_
    refine z_iald (v := (nI (RW ((lo * 8) + i.toNat)))) hx hb hK hP 1 0 rfl rfl ((lo * 8) + i.toNat) rfl (by omega) rfl dX1_arcOf_26 ?_
    have f26_0 := bRW ((lo * 8) + i.toNat)
    refine lv_goto (tgt := 32) hx hb dX1_arcOf_27 (by decide) ?_
    refine z_c0 (v := iI ((RW ((lo * 8) + i.toNat) : Nat) : Int)) (iI_N _) ?_
    have q_0 : ((RW ((lo * 8) + i.toNat) : Nat) : Int) = if 0 ≤ i ∧ i < (LE lo : Int) then (RW (lo * 8 + i.toNat) : Int) else -9 := by first | rw [if_pos (by omega)] | rw [if_neg (by omega)]
    exact hRET _ ls H locs ((iI ((RW ((lo * 8) + i.toNat) : Nat) : Int))) (((RW ((lo * 8) + i.toNat) : Nat) : Int)) dX1_arcOf_32 ⟨rfl, q_0⟩ hP hD hS
  · skip
    subst h10
    refine lv_if_eq (tgt := 30) hx hb dX1_arcOf_13 (by decide) (fun _ => ?_) (fun c_x => absurd c_x (by decide))
    refine lv_bipush (v := iI (-9)) hx hb dX1_arcOf_30 (by decide) ?_
    have q_0 : (-9 : Int) = if 0 ≤ i ∧ i < (LE lo : Int) then (RW (lo * 8 + i.toNat) : Int) else -9 := by first | rw [if_pos (by omega)] | rw [if_neg (by omega)]
    exact hRET _ ls H locs ((iI (-9))) ((-9 : Int)) dX1_arcOf_32 ⟨rfl, q_0⟩ hP hD hS

set_option maxHeartbeats 4000000 in
set_option maxRecDepth 100000 in
theorem c_X1_timeOf (l : Launch) (dC : Nat → ClassId) (dI : Nat → Nat → Nat) (cI cJ : ClassId) (sz : Nat) (p0 : Nat) (p1 : Nat) (p2 : Nat) (p3 : Nat) (p4 : Nat) (h0 : Nat) (RW : Nat → Nat) (LE : Nat → Nat) (PA : Nat → Nat) (NC : Nat → Nat) (mn : Nat) (ns : Nat) (a1 : Nat) (a2 : Nat) (a3 : Nat) (a4 : Nat) (N : Nat) (K : Nat) (T : Nat → Nat) (F : Nat → Nat) (G : Nat → Nat) (C : Nat → Nat) (lo : Nat) (bl : lo < 636) (bRW : ∀ i, RW i < 16) (bLE : ∀ i, LE i ≤ 8) (bF : ∀ a, F a < 8) (bT : ∀ i, T i ≤ 20) : Met l yX1_timeOf wsX1_timeOf (zR 0 0 0 0) (va_Pc [.ref p0, .int (nI lo)] (zP (dC, dI) [(cI, .int), (cJ, .long)] [(p0, .inr (1, [.ref h0, .ref p1, .ref p2, .ref p3, .int (nI mn), .ref p4, .int (nI ns)])), (p1, .inl (cI, 5088, .inl (fun z_ => nI (RW z_)))), (p2, .inl (cI, 636, .inl (fun z_ => nI (LE z_)))), (p3, .inl (cI, 8, .inl (fun z_ => nI (PA z_)))), (p4, .inl (cI, 16, .inl (fun z_ => nI (NC z_)))), (h0, .inr (0, [.ref a1, .ref a2, .ref a3, .ref a4, .int (nI N), .int (nI K)])), (a1, .inl (cI, 8, .inl (fun z_ => nI (T z_)))), (a2, .inl (cI, 16, .inl (fun z_ => nI (F z_)))), (a3, .inl (cI, 16, .inl (fun z_ => nI (G z_)))), (a4, .inl (cI, 16, .inl (fun z_ => nI (C z_))))] sz nwA)) (va_Qi (fun (r : Int32) (u : (Nat)) => r = (nI u) ∧ (u = sp_tm T F RW LE lo) ∧ (u ≤ 160)) (zB (dC, dI) (fun (u : (Nat)) => [(p0, .inr (1, [.ref h0, .ref p1, .ref p2, .ref p3, .int (nI mn), .ref p4, .int (nI ns)])), (p1, .inl (cI, 5088, .inl (fun z_ => nI (RW z_)))), (p2, .inl (cI, 636, .inl (fun z_ => nI (LE z_)))), (p3, .inl (cI, 8, .inl (fun z_ => nI (PA z_)))), (p4, .inl (cI, 16, .inl (fun z_ => nI (NC z_)))), (h0, .inr (0, [.ref a1, .ref a2, .ref a3, .ref a4, .int (nI N), .int (nI K)])), (a1, .inl (cI, 8, .inl (fun z_ => nI (T z_)))), (a2, .inl (cI, 16, .inl (fun z_ => nI (F z_)))), (a3, .inl (cI, 16, .inl (fun z_ => nI (G z_)))), (a4, .inl (cI, 16, .inl (fun z_ => nI (C z_))))]) (va_A [(p0, .inr (1, [.ref h0, .ref p1, .ref p2, .ref p3, .int (nI mn), .ref p4, .int (nI ns)])), (p1, .inl (cI, 5088, .inl (fun z_ => nI (RW z_)))), (p2, .inl (cI, 636, .inl (fun z_ => nI (LE z_)))), (p3, .inl (cI, 8, .inl (fun z_ => nI (PA z_)))), (p4, .inl (cI, 16, .inl (fun z_ => nI (NC z_)))), (h0, .inr (0, [.ref a1, .ref a2, .ref a3, .ref a4, .int (nI N), .int (nI K)])), (a1, .inl (cI, 8, .inl (fun z_ => nI (T z_)))), (a2, .inl (cI, 16, .inl (fun z_ => nI (F z_)))), (a3, .inl (cI, 16, .inl (fun z_ => nI (G z_)))), (a4, .inl (cI, 16, .inl (fun z_ => nI (C z_))))] sz)) (va_A [(p0, .inr (1, [.ref h0, .ref p1, .ref p2, .ref p3, .int (nI mn), .ref p4, .int (nI ns)])), (p1, .inl (cI, 5088, .inl (fun z_ => nI (RW z_)))), (p2, .inl (cI, 636, .inl (fun z_ => nI (LE z_)))), (p3, .inl (cI, 8, .inl (fun z_ => nI (PA z_)))), (p4, .inl (cI, 16, .inl (fun z_ => nI (NC z_)))), (h0, .inr (0, [.ref a1, .ref a2, .ref a3, .ref a4, .int (nI N), .int (nI K)])), (a1, .inl (cI, 8, .inl (fun z_ => nI (T z_)))), (a2, .inl (cI, 16, .inl (fun z_ => nI (F z_)))), (a3, .inl (cI, 16, .inl (fun z_ => nI (G z_)))), (a4, .inl (cI, 16, .inl (fun z_ => nI (C z_))))] sz)) 0 0 (va_A [(p0, .inr (1, [.ref h0, .ref p1, .ref p2, .ref p3, .int (nI mn), .ref p4, .int (nI ns)])), (p1, .inl (cI, 5088, .inl (fun z_ => nI (RW z_)))), (p2, .inl (cI, 636, .inl (fun z_ => nI (LE z_)))), (p3, .inl (cI, 8, .inl (fun z_ => nI (PA z_)))), (p4, .inl (cI, 16, .inl (fun z_ => nI (NC z_)))), (h0, .inr (0, [.ref a1, .ref a2, .ref a3, .ref a4, .int (nI N), .int (nI K)])), (a1, .inl (cI, 8, .inl (fun z_ => nI (T z_)))), (a2, .inl (cI, 16, .inl (fun z_ => nI (F z_)))), (a3, .inl (cI, 16, .inl (fun z_ => nI (G z_)))), (a4, .inl (cI, 16, .inl (fun z_ => nI (C z_))))] sz) := by
  refine z_met_i (cc := cX1_timeOf) (maxL := 4) (by decide) rfl (Nat.le_of_ble_eq_true rfl) ?_
  intro p e s m args below meth c Q A ls hx hb hml hown hts hin hA hK hP hD hN hl hRET
  have hown : s.vm.findClass RX1 = some m.cls := hown
  obtain ⟨H, eH⟩ : ∃ H : Heap, H = s.heap := ⟨_, rfl⟩
  rw [← eH] at hP
  obtain ⟨locs, eL⟩ : ∃ z : List Loc, z = [] := ⟨_, rfl⟩
  rw [← eH, ← eL]
  have hS : va_S A s.heap H locs := by rw [eH, eL]; exact va_S.rf
  have hl : lv_has ls 4 [(0, .ref p0), (1, .int (nI lo))] := hl
  have w15 := hts (.fieldLink RX1 15 "PullCards$Loops" "lengths" "[I") (by decide +kernel)
  have uX1 : ∀ w ∈ wsX10, w ∈ wsX1_timeOf := by decide +kernel
  have w24 := hts (.fieldLink RX1 24 "PullCards$Loops" "line" "LPullCards$Line;") (by decide +kernel)
  have w58 := hts (.fieldLink RX1 58 "PullCards$Line" "times" "[I") (by decide +kernel)
  have uX0 : ∀ w ∈ wsX00, w ∈ wsX1_timeOf := by decide +kernel
  have w48 := hts (.fieldLink RX1 48 "PullCards$Line" "froms" "[I") (by decide +kernel)
  have w11 := hts (.fieldLink RX1 11 "PullCards$Loops" "rows" "[I") (by decide +kernel)
  refine lv_iconst (v := nI 0) hx hb dX1_timeOf_0 (by decide) ?_
  refine lv_istore_n (lv' := [(2, .int (nI 0)), (0, .ref p0), (1, .int (nI lo))]) hx hb dX1_timeOf_1 rfl hl (by decide) rfl (fun ls hl => ?_)
  refine lv_iconst (v := nI 0) hx hb dX1_timeOf_2 (by decide) ?_
  refine lv_istore_n (lv' := [(3, .int (nI 0)), (2, .int (nI 0)), (0, .ref p0), (1, .int (nI lo))]) hx hb dX1_timeOf_3 rfl hl (by decide) rfl (fun ls hl => ?_)
  have L4 : ∀ (n : Nat) (j : Nat) (g : Nat), (LE lo - j) < n → (j ≤ LE lo) → (g = fb_sm (fun i => T (F (RW (lo * 8 + i)))) j) → (g ≤ j * 20) → ∀ (H : Heap) (locs : List Loc), va_P (dC, dI) vwCl [(p0, .inr (1, [.ref h0, .ref p1, .ref p2, .ref p3, .int (nI mn), .ref p4, .int (nI ns)])), (p1, .inl (cI, 5088, .inl (fun z_ => nI (RW z_)))), (p2, .inl (cI, 636, .inl (fun z_ => nI (LE z_)))), (p3, .inl (cI, 8, .inl (fun z_ => nI (PA z_)))), (p4, .inl (cI, 16, .inl (fun z_ => nI (NC z_)))), (h0, .inr (0, [.ref a1, .ref a2, .ref a3, .ref a4, .int (nI N), .int (nI K)])), (a1, .inl (cI, 8, .inl (fun z_ => nI (T z_)))), (a2, .inl (cI, 16, .inl (fun z_ => nI (F z_)))), (a3, .inl (cI, 16, .inl (fun z_ => nI (G z_)))), (a4, .inl (cI, 16, .inl (fun z_ => nI (C z_))))] H → va_D A [(p0, .inr (1, [.ref h0, .ref p1, .ref p2, .ref p3, .int (nI mn), .ref p4, .int (nI ns)])), (p1, .inl (cI, 5088, .inl (fun z_ => nI (RW z_)))), (p2, .inl (cI, 636, .inl (fun z_ => nI (LE z_)))), (p3, .inl (cI, 8, .inl (fun z_ => nI (PA z_)))), (p4, .inl (cI, 16, .inl (fun z_ => nI (NC z_)))), (h0, .inr (0, [.ref a1, .ref a2, .ref a3, .ref a4, .int (nI N), .int (nI K)])), (a1, .inl (cI, 8, .inl (fun z_ => nI (T z_)))), (a2, .inl (cI, 16, .inl (fun z_ => nI (F z_)))), (a3, .inl (cI, 16, .inl (fun z_ => nI (G z_)))), (a4, .inl (cI, 16, .inl (fun z_ => nI (C z_))))] → va_S A s.heap H locs → ∀ (ls : Array Slot), lv_has ls 4 [(0, .ref p0), (1, .int (nI lo)), (2, .int (nI g)), (3, .int (nI j))] → W p l e (zR 0 0 0 0) s m args below meth c H locs 0 0 Q (F0 m 4 ls []) := by
    intro n
    induction n with
    | zero => intro j g hn; exact absurd hn (Nat.not_lt_zero _)
    | succ n ih =>
      intro j g hn i1 i2 i3 H locs hP hD hS ls hl
      have ih4 := ih
      have hn4 := hn
      clear ih hn
      have bb := bLE lo
      refine lv_iload_n hx hb dX1_timeOf_4 rfl (lv_at hl 3 rfl) ?_
      refine lv_aload_n hx hb dX1_timeOf_5 rfl (lv_at hl 0 rfl) ?_
      refine z_get (D := (dC, dI)) (ci := 1) (v := .ref p2) (C := RX1) (T := TX1) (N := 7) hx hb hts uX1 hown hK hP 0 rfl rfl 2 (by decide) w15 rfl rfl dX1_timeOf_6 ?_
      refine lv_iload_n hx hb dX1_timeOf_9 rfl (lv_at hl 1 rfl) ?_
      refine z_iald (v := (nI (LE lo))) hx hb hK hP 2 0 rfl rfl lo rfl (by omega) rfl dX1_timeOf_10 ?_
      have f10_0 := bLE lo
      refine z_icmp_ge (tgt := 50) hx hb dX1_timeOf_11 (by decide) (zcn_le (a := LE lo) (b := j) rfl rfl (by omega)) (fun c_11 => ?_) (fun c_11 => ?_)
      · skip
        refine lv_iload_n hx hb dX1_timeOf_50 rfl (lv_at hl 2 rfl) ?_
        have q_0 : g = sp_tm T F RW LE lo := by rw [i2, show j = LE lo from by omega]; rfl
        have q_1 : g ≤ 160 := by first | assumption | omega
        exact hRET _ ls H locs ((nI g)) (g) dX1_timeOf_51 ⟨rfl, q_0, q_1⟩ hP hD hS
      · skip
        refine lv_iload_n hx hb dX1_timeOf_14 rfl (lv_at hl 2 rfl) ?_
        refine lv_aload_n hx hb dX1_timeOf_15 rfl (lv_at hl 0 rfl) ?_
        refine z_get (D := (dC, dI)) (ci := 1) (v := .ref h0) (C := RX1) (T := TX1) (N := 7) hx hb hts uX1 hown hK hP 0 rfl rfl 0 (by decide) w24 rfl rfl dX1_timeOf_16 ?_
        refine z_get (D := (dC, dI)) (ci := 0) (v := .ref a1) (C := RX0) (T := TX0) (N := 6) hx hb hts uX0 hown hK hP 5 rfl rfl 0 (by decide) w58 rfl rfl dX1_timeOf_19 ?_
        refine lv_aload_n hx hb dX1_timeOf_22 rfl (lv_at hl 0 rfl) ?_
        refine z_get (D := (dC, dI)) (ci := 1) (v := .ref h0) (C := RX1) (T := TX1) (N := 7) hx hb hts uX1 hown hK hP 0 rfl rfl 0 (by decide) w24 rfl rfl dX1_timeOf_23 ?_
        refine z_get (D := (dC, dI)) (ci := 0) (v := .ref a2) (C := RX0) (T := TX0) (N := 6) hx hb hts uX0 hown hK hP 5 rfl rfl 1 (by decide) w48 rfl rfl dX1_timeOf_26 ?_
        refine lv_aload_n hx hb dX1_timeOf_29 rfl (lv_at hl 0 rfl) ?_
        refine z_get (D := (dC, dI)) (ci := 1) (v := .ref p1) (C := RX1) (T := TX1) (N := 7) hx hb hts uX1 hown hK hP 0 rfl rfl 1 (by decide) w11 rfl rfl dX1_timeOf_30 ?_
        refine lv_iload_n hx hb dX1_timeOf_33 rfl (lv_at hl 1 rfl) ?_
        refine lv_bipush (v := nI 8) hx hb dX1_timeOf_34 (by decide) ?_
        refine z_imul (v := (nI (lo * 8))) hx hb dX1_timeOf_36 (pk_mul _ _) ?_
        refine lv_iload_n hx hb dX1_timeOf_37 rfl (lv_at hl 3 rfl) ?_
        refine z_iadd (v := (nI ((lo * 8) + j))) hx hb dX1_timeOf_38 (nI_add _ _) ?_
        refine z_iald (v := (nI (RW ((lo * 8) + j)))) hx hb hK hP 1 0 rfl rfl ((lo * 8) + j) rfl (by omega) rfl dX1_timeOf_39 ?_
        have f39_0 := bRW ((lo * 8) + j)
        refine z_iald (v := (nI (F (RW ((lo * 8) + j))))) hx hb hK hP 7 0 rfl rfl (RW ((lo * 8) + j)) rfl (by omega) rfl dX1_timeOf_40 ?_
        have f40_0 := bF (RW ((lo * 8) + j))
        refine z_iald (v := (nI (T (F (RW ((lo * 8) + j)))))) hx hb hK hP 6 0 rfl rfl (F (RW ((lo * 8) + j))) rfl (by omega) rfl dX1_timeOf_41 ?_
        have f41_0 := bT (F (RW ((lo * 8) + j)))
        refine z_iadd (v := (nI (g + (T (F (RW ((lo * 8) + j))))))) hx hb dX1_timeOf_42 (nI_add _ _) ?_
        refine lv_istore_n (lv' := [(2, .int (nI (g + (T (F (RW ((lo * 8) + j))))))), (0, .ref p0), (1, .int (nI lo)), (3, .int (nI j))]) hx hb dX1_timeOf_43 rfl hl (by decide) rfl (fun ls hl => ?_)
        refine lv_iinc (v := (nI (j + 1))) (lv' := [(3, .int (nI (j + 1))), (2, .int (nI (g + (T (F (RW ((lo * 8) + j))))))), (0, .ref p0), (1, .int (nI lo))]) hx hb dX1_timeOf_44 hl (k := 3) rfl (z_incN j 1 (by decide)) (by decide) rfl (fun ls hl => ?_)
        refine lv_goto (tgt := 4) hx hb dX1_timeOf_47 (by decide) ?_
        have o_i1 : (j + 1) ≤ LE lo := by first | assumption | omega
        have o_i2 : (g + (T (F (RW ((lo * 8) + j))))) = fb_sm (fun i => T (F (RW (lo * 8 + i)))) (j + 1) := by rw [fb_sm_succ, i2]
        have o_i3 : (g + (T (F (RW ((lo * 8) + j))))) ≤ (j + 1) * 20 := by first | assumption | omega
        have o_mu : (LE lo - (j + 1)) < n := by omega
        exact ih4 (j + 1) (g + (T (F (RW ((lo * 8) + j))))) o_mu o_i1 o_i2 o_i3 H locs hP hD hS ls (lv_sub hl [2, 3, 1, 0] rfl)
  have o_i1 : 0 ≤ LE lo := by first | assumption | omega
  have o_i2 : 0 = fb_sm (fun i => T (F (RW (lo * 8 + i)))) 0 := by rfl
  have o_i3 : 0 ≤ 0 * 20 := by first | assumption | omega
  exact L4 ((LE lo - 0) + 1) 0 0 (Nat.lt_succ_self _) o_i1 o_i2 o_i3 H locs hP hD hS ls (lv_sub hl [2, 3, 1, 0] rfl)

set_option maxHeartbeats 4000000 in
set_option maxRecDepth 100000 in
theorem c_X1_cardsOf (l : Launch) (dC : Nat → ClassId) (dI : Nat → Nat → Nat) (cI cJ : ClassId) (sz : Nat) (p0 : Nat) (p1 : Nat) (p2 : Nat) (p3 : Nat) (p4 : Nat) (h0 : Nat) (RW : Nat → Nat) (LE : Nat → Nat) (mn : Nat) (ns : Nat) (ba : Nat) (C : Nat → Nat) (lo : Nat) (bl : lo < 636) (bRW : ∀ i, RW i < 16) (bLE : ∀ i, LE i ≤ 8) (bC : ∀ a, C a ≤ 9) : Met l yX1_cardsOf wsX1_cardsOf (zR 0 0 0 0) (va_Pc [.ref p0, .int (nI lo), .ref ba] (zP (dC, dI) [(cI, .int), (cJ, .long)] [(p0, .inr (1, [.ref h0, .ref p1, .ref p2, .ref p3, .int (nI mn), .ref p4, .int (nI ns)])), (p1, .inl (cI, 5088, .inl (fun z_ => nI (RW z_)))), (p2, .inl (cI, 636, .inl (fun z_ => nI (LE z_)))), (ba, .inl (cI, 16, .inl (fun z_ => nI (C z_))))] sz nwA)) (va_Qi (fun (r : Int32) (u : (Nat)) => r = (nI u) ∧ (u = sp_cd C RW LE lo) ∧ (u ≤ 72)) (zB (dC, dI) (fun (u : (Nat)) => [(p0, .inr (1, [.ref h0, .ref p1, .ref p2, .ref p3, .int (nI mn), .ref p4, .int (nI ns)])), (p1, .inl (cI, 5088, .inl (fun z_ => nI (RW z_)))), (p2, .inl (cI, 636, .inl (fun z_ => nI (LE z_)))), (ba, .inl (cI, 16, .inl (fun z_ => nI (C z_))))]) (va_A [(p0, .inr (1, [.ref h0, .ref p1, .ref p2, .ref p3, .int (nI mn), .ref p4, .int (nI ns)])), (p1, .inl (cI, 5088, .inl (fun z_ => nI (RW z_)))), (p2, .inl (cI, 636, .inl (fun z_ => nI (LE z_)))), (ba, .inl (cI, 16, .inl (fun z_ => nI (C z_))))] sz)) (va_A [(p0, .inr (1, [.ref h0, .ref p1, .ref p2, .ref p3, .int (nI mn), .ref p4, .int (nI ns)])), (p1, .inl (cI, 5088, .inl (fun z_ => nI (RW z_)))), (p2, .inl (cI, 636, .inl (fun z_ => nI (LE z_)))), (ba, .inl (cI, 16, .inl (fun z_ => nI (C z_))))] sz)) 0 0 (va_A [(p0, .inr (1, [.ref h0, .ref p1, .ref p2, .ref p3, .int (nI mn), .ref p4, .int (nI ns)])), (p1, .inl (cI, 5088, .inl (fun z_ => nI (RW z_)))), (p2, .inl (cI, 636, .inl (fun z_ => nI (LE z_)))), (ba, .inl (cI, 16, .inl (fun z_ => nI (C z_))))] sz) := by
  refine z_met_i (cc := cX1_cardsOf) (maxL := 5) (by decide) rfl (Nat.le_of_ble_eq_true rfl) ?_
  intro p e s m args below meth c Q A ls hx hb hml hown hts hin hA hK hP hD hN hl hRET
  have hown : s.vm.findClass RX1 = some m.cls := hown
  obtain ⟨H, eH⟩ : ∃ H : Heap, H = s.heap := ⟨_, rfl⟩
  rw [← eH] at hP
  obtain ⟨locs, eL⟩ : ∃ z : List Loc, z = [] := ⟨_, rfl⟩
  rw [← eH, ← eL]
  have hS : va_S A s.heap H locs := by rw [eH, eL]; exact va_S.rf
  have hl : lv_has ls 5 [(0, .ref p0), (1, .int (nI lo)), (2, .ref ba)] := hl
  have w15 := hts (.fieldLink RX1 15 "PullCards$Loops" "lengths" "[I") (by decide +kernel)
  have uX1 : ∀ w ∈ wsX10, w ∈ wsX1_cardsOf := by decide +kernel
  have w11 := hts (.fieldLink RX1 11 "PullCards$Loops" "rows" "[I") (by decide +kernel)
  refine lv_iconst (v := nI 0) hx hb dX1_cardsOf_0 (by decide) ?_
  refine lv_istore_n (lv' := [(3, .int (nI 0)), (0, .ref p0), (1, .int (nI lo)), (2, .ref ba)]) hx hb dX1_cardsOf_1 rfl hl (by decide) rfl (fun ls hl => ?_)
  refine lv_iconst (v := nI 0) hx hb dX1_cardsOf_2 (by decide) ?_
  refine lv_istore (lv' := [(4, .int (nI 0)), (3, .int (nI 0)), (0, .ref p0), (1, .int (nI lo)), (2, .ref ba)]) hx hb dX1_cardsOf_3 hl (by decide) rfl (fun ls hl => ?_)
  have L5 : ∀ (n : Nat) (j : Nat) (g : Nat), (LE lo - j) < n → (j ≤ LE lo) → (g = fb_sm (fun i => C (RW (lo * 8 + i))) j) → (g ≤ j * 9) → ∀ (H : Heap) (locs : List Loc), va_P (dC, dI) vwCl [(p0, .inr (1, [.ref h0, .ref p1, .ref p2, .ref p3, .int (nI mn), .ref p4, .int (nI ns)])), (p1, .inl (cI, 5088, .inl (fun z_ => nI (RW z_)))), (p2, .inl (cI, 636, .inl (fun z_ => nI (LE z_)))), (ba, .inl (cI, 16, .inl (fun z_ => nI (C z_))))] H → va_D A [(p0, .inr (1, [.ref h0, .ref p1, .ref p2, .ref p3, .int (nI mn), .ref p4, .int (nI ns)])), (p1, .inl (cI, 5088, .inl (fun z_ => nI (RW z_)))), (p2, .inl (cI, 636, .inl (fun z_ => nI (LE z_)))), (ba, .inl (cI, 16, .inl (fun z_ => nI (C z_))))] → va_S A s.heap H locs → ∀ (ls : Array Slot), lv_has ls 5 [(0, .ref p0), (1, .int (nI lo)), (2, .ref ba), (3, .int (nI g)), (4, .int (nI j))] → W p l e (zR 0 0 0 0) s m args below meth c H locs 0 0 Q (F0 m 5 ls []) := by
    intro n
    induction n with
    | zero => intro j g hn; exact absurd hn (Nat.not_lt_zero _)
    | succ n ih =>
      intro j g hn i1 i2 i3 H locs hP hD hS ls hl
      have ih5 := ih
      have hn5 := hn
      clear ih hn
      have bb := bLE lo
      refine lv_iload hx hb dX1_cardsOf_5 (lv_at hl 4 rfl) ?_
      refine lv_aload_n hx hb dX1_cardsOf_7 rfl (lv_at hl 0 rfl) ?_
      refine z_get (D := (dC, dI)) (ci := 1) (v := .ref p2) (C := RX1) (T := TX1) (N := 7) hx hb hts uX1 hown hK hP 0 rfl rfl 2 (by decide) w15 rfl rfl dX1_cardsOf_8 ?_
      refine lv_iload_n hx hb dX1_cardsOf_11 rfl (lv_at hl 1 rfl) ?_
      refine z_iald (v := (nI (LE lo))) hx hb hK hP 2 0 rfl rfl lo rfl (by omega) rfl dX1_cardsOf_12 ?_
      have f12_0 := bLE lo
      refine z_icmp_ge (tgt := 39) hx hb dX1_cardsOf_13 (by decide) (zcn_le (a := LE lo) (b := j) rfl rfl (by omega)) (fun c_13 => ?_) (fun c_13 => ?_)
      · skip
        refine lv_iload_n hx hb dX1_cardsOf_39 rfl (lv_at hl 3 rfl) ?_
        have q_0 : g = sp_cd C RW LE lo := by rw [i2, show j = LE lo from by omega]; rfl
        have q_1 : g ≤ 72 := by first | assumption | omega
        exact hRET _ ls H locs ((nI g)) (g) dX1_cardsOf_40 ⟨rfl, q_0, q_1⟩ hP hD hS
      · skip
        refine lv_iload_n hx hb dX1_cardsOf_16 rfl (lv_at hl 3 rfl) ?_
        refine lv_aload_n hx hb dX1_cardsOf_17 rfl (lv_at hl 2 rfl) ?_
        refine lv_aload_n hx hb dX1_cardsOf_18 rfl (lv_at hl 0 rfl) ?_
        refine z_get (D := (dC, dI)) (ci := 1) (v := .ref p1) (C := RX1) (T := TX1) (N := 7) hx hb hts uX1 hown hK hP 0 rfl rfl 1 (by decide) w11 rfl rfl dX1_cardsOf_19 ?_
        refine lv_iload_n hx hb dX1_cardsOf_22 rfl (lv_at hl 1 rfl) ?_
        refine lv_bipush (v := nI 8) hx hb dX1_cardsOf_23 (by decide) ?_
        refine z_imul (v := (nI (lo * 8))) hx hb dX1_cardsOf_25 (pk_mul _ _) ?_
        refine lv_iload hx hb dX1_cardsOf_26 (lv_at hl 4 rfl) ?_
        refine z_iadd (v := (nI ((lo * 8) + j))) hx hb dX1_cardsOf_28 (nI_add _ _) ?_
        refine z_iald (v := (nI (RW ((lo * 8) + j)))) hx hb hK hP 1 0 rfl rfl ((lo * 8) + j) rfl (by omega) rfl dX1_cardsOf_29 ?_
        have f29_0 := bRW ((lo * 8) + j)
        refine z_iald (v := (nI (C (RW ((lo * 8) + j))))) hx hb hK hP 3 0 rfl rfl (RW ((lo * 8) + j)) rfl (by omega) rfl dX1_cardsOf_30 ?_
        have f30_0 := bC (RW ((lo * 8) + j))
        refine z_iadd (v := (nI (g + (C (RW ((lo * 8) + j)))))) hx hb dX1_cardsOf_31 (nI_add _ _) ?_
        refine lv_istore_n (lv' := [(3, .int (nI (g + (C (RW ((lo * 8) + j)))))), (0, .ref p0), (1, .int (nI lo)), (2, .ref ba), (4, .int (nI j))]) hx hb dX1_cardsOf_32 rfl hl (by decide) rfl (fun ls hl => ?_)
        refine lv_iinc (v := (nI (j + 1))) (lv' := [(4, .int (nI (j + 1))), (3, .int (nI (g + (C (RW ((lo * 8) + j)))))), (0, .ref p0), (1, .int (nI lo)), (2, .ref ba)]) hx hb dX1_cardsOf_33 hl (k := 4) rfl (z_incN j 1 (by decide)) (by decide) rfl (fun ls hl => ?_)
        refine lv_goto (tgt := 5) hx hb dX1_cardsOf_36 (by decide) ?_
        have o_i1 : (j + 1) ≤ LE lo := by first | assumption | omega
        have o_i2 : (g + (C (RW ((lo * 8) + j)))) = fb_sm (fun i => C (RW (lo * 8 + i))) (j + 1) := by rw [fb_sm_succ, i2]
        have o_i3 : (g + (C (RW ((lo * 8) + j)))) ≤ (j + 1) * 9 := by first | assumption | omega
        have o_mu : (LE lo - (j + 1)) < n := by omega
        exact ih5 (j + 1) (g + (C (RW ((lo * 8) + j)))) o_mu o_i1 o_i2 o_i3 H locs hP hD hS ls (lv_sub hl [2, 3, 4, 1, 0] rfl)
  have o_i1 : 0 ≤ LE lo := by first | assumption | omega
  have o_i2 : 0 = fb_sm (fun i => C (RW (lo * 8 + i))) 0 := by rfl
  have o_i3 : 0 ≤ 0 * 9 := by first | assumption | omega
  exact L5 ((LE lo - 0) + 1) 0 0 (Nat.lt_succ_self _) o_i1 o_i2 o_i3 H locs hP hD hS ls (lv_sub hl [2, 3, 4, 1, 0] rfl)

set_option maxHeartbeats 4000000 in
set_option maxRecDepth 100000 in
theorem c_X1_passes (l : Launch) (dC : Nat → ClassId) (dI : Nat → Nat → Nat) (cI cJ : ClassId) (sz : Nat) (p0 : Nat) (p1 : Nat) (p2 : Nat) (p3 : Nat) (p4 : Nat) (h0 : Nat) (RW : Nat → Nat) (LE : Nat → Nat) (mn : Nat) (ns : Nat) (lo : Nat) (ar : Nat) (bl : lo < 636) (bRW : ∀ i, RW i < 16) (bLE : ∀ i, LE i ≤ 8) (ba : ar < 16) : Met l yX1_passes wsX1_passes (zR 0 0 0 0) (va_Pc [.ref p0, .int (nI lo), .int (nI ar)] (zP (dC, dI) [(cI, .int), (cJ, .long)] [(p0, .inr (1, [.ref h0, .ref p1, .ref p2, .ref p3, .int (nI mn), .ref p4, .int (nI ns)])), (p1, .inl (cI, 5088, .inl (fun z_ => nI (RW z_)))), (p2, .inl (cI, 636, .inl (fun z_ => nI (LE z_))))] sz nwA)) (va_Qi (fun (r : Int32) (u : (Nat)) => r = (nI u) ∧ ((u = 1 ∧ sp_ps RW LE lo ar = true) ∨ (u = 0 ∧ sp_ps RW LE lo ar = false))) (zB (dC, dI) (fun (u : (Nat)) => [(p0, .inr (1, [.ref h0, .ref p1, .ref p2, .ref p3, .int (nI mn), .ref p4, .int (nI ns)])), (p1, .inl (cI, 5088, .inl (fun z_ => nI (RW z_)))), (p2, .inl (cI, 636, .inl (fun z_ => nI (LE z_))))]) (va_A [(p0, .inr (1, [.ref h0, .ref p1, .ref p2, .ref p3, .int (nI mn), .ref p4, .int (nI ns)])), (p1, .inl (cI, 5088, .inl (fun z_ => nI (RW z_)))), (p2, .inl (cI, 636, .inl (fun z_ => nI (LE z_))))] sz)) (va_A [(p0, .inr (1, [.ref h0, .ref p1, .ref p2, .ref p3, .int (nI mn), .ref p4, .int (nI ns)])), (p1, .inl (cI, 5088, .inl (fun z_ => nI (RW z_)))), (p2, .inl (cI, 636, .inl (fun z_ => nI (LE z_))))] sz)) 0 0 (va_A [(p0, .inr (1, [.ref h0, .ref p1, .ref p2, .ref p3, .int (nI mn), .ref p4, .int (nI ns)])), (p1, .inl (cI, 5088, .inl (fun z_ => nI (RW z_)))), (p2, .inl (cI, 636, .inl (fun z_ => nI (LE z_))))] sz) := by
  refine z_met_z (cc := cX1_passes) (maxL := 4) (by decide) rfl (Nat.le_of_ble_eq_true rfl) ?_
  intro p e s m args below meth c Q A ls hx hb hml hown hts hin hA hK hP hD hN hl hRET
  have hown : s.vm.findClass RX1 = some m.cls := hown
  obtain ⟨H, eH⟩ : ∃ H : Heap, H = s.heap := ⟨_, rfl⟩
  rw [← eH] at hP
  obtain ⟨locs, eL⟩ : ∃ z : List Loc, z = [] := ⟨_, rfl⟩
  rw [← eH, ← eL]
  have hS : va_S A s.heap H locs := by rw [eH, eL]; exact va_S.rf
  have hl : lv_has ls 4 [(0, .ref p0), (1, .int (nI lo)), (2, .int (nI ar))] := hl
  have w15 := hts (.fieldLink RX1 15 "PullCards$Loops" "lengths" "[I") (by decide +kernel)
  have uX1 : ∀ w ∈ wsX10, w ∈ wsX1_passes := by decide +kernel
  have w11 := hts (.fieldLink RX1 11 "PullCards$Loops" "rows" "[I") (by decide +kernel)
  refine lv_iconst (v := nI 0) hx hb dX1_passes_0 (by decide) ?_
  refine lv_istore_n (lv' := [(3, .int (nI 0)), (0, .ref p0), (1, .int (nI lo)), (2, .int (nI ar))]) hx hb dX1_passes_1 rfl hl (by decide) rfl (fun ls hl => ?_)
  have L2 : ∀ (n : Nat) (j : Nat), (LE lo - j) < n → (j ≤ LE lo) → (∀ i, i < j → ¬ RW (lo * 8 + i) = ar) → ∀ (H : Heap) (locs : List Loc), va_P (dC, dI) vwCl [(p0, .inr (1, [.ref h0, .ref p1, .ref p2, .ref p3, .int (nI mn), .ref p4, .int (nI ns)])), (p1, .inl (cI, 5088, .inl (fun z_ => nI (RW z_)))), (p2, .inl (cI, 636, .inl (fun z_ => nI (LE z_))))] H → va_D A [(p0, .inr (1, [.ref h0, .ref p1, .ref p2, .ref p3, .int (nI mn), .ref p4, .int (nI ns)])), (p1, .inl (cI, 5088, .inl (fun z_ => nI (RW z_)))), (p2, .inl (cI, 636, .inl (fun z_ => nI (LE z_))))] → va_S A s.heap H locs → ∀ (ls : Array Slot), lv_has ls 4 [(0, .ref p0), (1, .int (nI lo)), (2, .int (nI ar)), (3, .int (nI j))] → W p l e (zR 0 0 0 0) s m args below meth c H locs 0 0 Q (F0 m 2 ls []) := by
    intro n
    induction n with
    | zero => intro j hn; exact absurd hn (Nat.not_lt_zero _)
    | succ n ih =>
      intro j hn i1 i2 H locs hP hD hS ls hl
      have ih2 := ih
      have hn2 := hn
      clear ih hn
      have bb := bLE lo
      refine lv_iload_n hx hb dX1_passes_2 rfl (lv_at hl 3 rfl) ?_
      refine lv_aload_n hx hb dX1_passes_3 rfl (lv_at hl 0 rfl) ?_
      refine z_get (D := (dC, dI)) (ci := 1) (v := .ref p2) (C := RX1) (T := TX1) (N := 7) hx hb hts uX1 hown hK hP 0 rfl rfl 2 (by decide) w15 rfl rfl dX1_passes_4 ?_
      refine lv_iload_n hx hb dX1_passes_7 rfl (lv_at hl 1 rfl) ?_
      refine z_iald (v := (nI (LE lo))) hx hb hK hP 2 0 rfl rfl lo rfl (by omega) rfl dX1_passes_8 ?_
      have f8_0 := bLE lo
      refine z_icmp_ge (tgt := 35) hx hb dX1_passes_9 (by decide) (zcn_le (a := LE lo) (b := j) rfl rfl (by omega)) (fun c_9 => ?_) (fun c_9 => ?_)
      · skip
        refine lv_iconst (v := nI 0) hx hb dX1_passes_35 (by decide) ?_
        have q_0 : (0 = 1 ∧ sp_ps RW LE lo ar = true) ∨ (0 = 0 ∧ sp_ps RW LE lo ar = false) := by exact Or.inr ⟨rfl, sp_ps_f (fun i h => i2 i (by omega))⟩
        exact hRET _ ls H locs ((nI 0)) (0) dX1_passes_36 (by decide) ⟨rfl, q_0⟩ hP hD hS
      · skip
        refine lv_aload_n hx hb dX1_passes_12 rfl (lv_at hl 0 rfl) ?_
        refine z_get (D := (dC, dI)) (ci := 1) (v := .ref p1) (C := RX1) (T := TX1) (N := 7) hx hb hts uX1 hown hK hP 0 rfl rfl 1 (by decide) w11 rfl rfl dX1_passes_13 ?_
        refine lv_iload_n hx hb dX1_passes_16 rfl (lv_at hl 1 rfl) ?_
        refine lv_bipush (v := nI 8) hx hb dX1_passes_17 (by decide) ?_
        refine z_imul (v := (nI (lo * 8))) hx hb dX1_passes_19 (pk_mul _ _) ?_
        refine lv_iload_n hx hb dX1_passes_20 rfl (lv_at hl 3 rfl) ?_
        refine z_iadd (v := (nI ((lo * 8) + j))) hx hb dX1_passes_21 (nI_add _ _) ?_
        refine z_iald (v := (nI (RW ((lo * 8) + j)))) hx hb hK hP 1 0 rfl rfl ((lo * 8) + j) rfl (by omega) rfl dX1_passes_22 ?_
        have f22_0 := bRW ((lo * 8) + j)
        refine lv_iload_n hx hb dX1_passes_23 rfl (lv_at hl 2 rfl) ?_
        refine z_icmp_ne (tgt := 29) hx hb dX1_passes_24 (by decide) (zcn_eq (a := RW ((lo * 8) + j)) (b := ar) rfl rfl (by omega)) (fun c_24 => ?_) (fun c_24 => ?_)
        · skip
          refine lv_iinc (v := (nI (j + 1))) (lv' := [(3, .int (nI (j + 1))), (0, .ref p0), (1, .int (nI lo)), (2, .int (nI ar))]) hx hb dX1_passes_29 hl (k := 3) rfl (z_incN j 1 (by decide)) (by decide) rfl (fun ls hl => ?_)
          refine lv_goto (tgt := 2) hx hb dX1_passes_32 (by decide) ?_
          have o_i1 : (j + 1) ≤ LE lo := by first | assumption | omega
          have o_i2 : ∀ i, i < (j + 1) → ¬ RW (lo * 8 + i) = ar := by exact lt_s i2 c_24
          have o_mu : (LE lo - (j + 1)) < n := by omega
          exact ih2 (j + 1) o_mu o_i1 o_i2 H locs hP hD hS ls (lv_sub hl [1, 2, 3, 0] rfl)
        · skip
          refine lv_iconst (v := nI 1) hx hb dX1_passes_27 (by decide) ?_
          have q_0 : (1 = 1 ∧ sp_ps RW LE lo ar = true) ∨ (1 = 0 ∧ sp_ps RW LE lo ar = false) := by exact Or.inl ⟨rfl, sp_ps_t j (by omega) c_24⟩
          exact hRET _ ls H locs ((nI 1)) (1) dX1_passes_28 (by decide) ⟨rfl, q_0⟩ hP hD hS
  have o_i1 : 0 ≤ LE lo := by first | assumption | omega
  have o_i2 : ∀ i, i < 0 → ¬ RW (lo * 8 + i) = ar := by intro i h; omega
  exact L2 ((LE lo - 0) + 1) 0 (Nat.lt_succ_self _) o_i1 o_i2 H locs hP hD hS ls (lv_sub hl [1, 2, 3, 0] rfl)

set_option maxHeartbeats 4000000 in
set_option maxRecDepth 100000 in
theorem c_X1_findSlowest (l : Launch) (dC : Nat → ClassId) (dI : Nat → Nat → Nat) (cI cJ : ClassId) (sz : Nat) (p0 : Nat) (p1 : Nat) (p2 : Nat) (p3 : Nat) (p4 : Nat) (h0 : Nat) (RW : Nat → Nat) (LE : Nat → Nat) (PA : Nat → Nat) (NC : Nat → Nat) (mn : Nat) (ns : Nat) (a1 : Nat) (a2 : Nat) (a3 : Nat) (a4 : Nat) (N : Nat) (K : Nat) (T : Nat → Nat) (F : Nat → Nat) (G : Nat → Nat) (C : Nat → Nat) (bmn : mn ≤ 636) (bRW : ∀ i, RW i < 16) (bLE : ∀ i, LE i ≤ 8) (bF : ∀ a, F a < 8) (bT : ∀ i, T i ≤ 20) (bC : ∀ a, C a ≤ 9) : Met l yX1_findSlowest wsX1_findSlowest (zR 1 0 0 24) (va_Pc [.ref p0] (zP (dC, dI) [(cI, .int), (cJ, .long)] [(p0, .inr (1, [.ref h0, .ref p1, .ref p2, .ref p3, .int (nI mn), .ref p4, .int (nI ns)])), (p1, .inl (cI, 5088, .inl (fun z_ => nI (RW z_)))), (p2, .inl (cI, 636, .inl (fun z_ => nI (LE z_)))), (p3, .inl (cI, 8, .inl (fun z_ => nI (PA z_)))), (p4, .inl (cI, 16, .inl (fun z_ => nI (NC z_)))), (h0, .inr (0, [.ref a1, .ref a2, .ref a3, .ref a4, .int (nI N), .int (nI K)])), (a1, .inl (cI, 8, .inl (fun z_ => nI (T z_)))), (a2, .inl (cI, 16, .inl (fun z_ => nI (F z_)))), (a3, .inl (cI, 16, .inl (fun z_ => nI (G z_)))), (a4, .inl (cI, 16, .inl (fun z_ => nI (C z_))))] sz nwA)) (va_Qi (fun (r : Int32) (u : (Int)) => r = (iI u) ∧ (u = (sp_sl (sp_tm T F RW LE) (sp_cd C RW LE) mn).1)) (zB (dC, dI) (fun (u : (Int)) => [(p0, .inr (1, [.ref h0, .ref p1, .ref p2, .ref p3, .int (nI mn), .ref p4, .int (nI ns)])), (p1, .inl (cI, 5088, .inl (fun z_ => nI (RW z_)))), (p2, .inl (cI, 636, .inl (fun z_ => nI (LE z_)))), (p3, .inl (cI, 8, .inl (fun z_ => nI (PA z_)))), (p4, .inl (cI, 16, .inl (fun z_ => nI (NC z_)))), (h0, .inr (0, [.ref a1, .ref a2, .ref a3, .ref a4, .int (nI N), .int (nI K)])), (a1, .inl (cI, 8, .inl (fun z_ => nI (T z_)))), (a2, .inl (cI, 16, .inl (fun z_ => nI (F z_)))), (a3, .inl (cI, 16, .inl (fun z_ => nI (G z_)))), (a4, .inl (cI, 16, .inl (fun z_ => nI (C z_))))]) (va_A [(p0, .inr (1, [.ref h0, .ref p1, .ref p2, .ref p3, .int (nI mn), .ref p4, .int (nI ns)])), (p1, .inl (cI, 5088, .inl (fun z_ => nI (RW z_)))), (p2, .inl (cI, 636, .inl (fun z_ => nI (LE z_)))), (p3, .inl (cI, 8, .inl (fun z_ => nI (PA z_)))), (p4, .inl (cI, 16, .inl (fun z_ => nI (NC z_)))), (h0, .inr (0, [.ref a1, .ref a2, .ref a3, .ref a4, .int (nI N), .int (nI K)])), (a1, .inl (cI, 8, .inl (fun z_ => nI (T z_)))), (a2, .inl (cI, 16, .inl (fun z_ => nI (F z_)))), (a3, .inl (cI, 16, .inl (fun z_ => nI (G z_)))), (a4, .inl (cI, 16, .inl (fun z_ => nI (C z_))))] sz)) (va_A [(p0, .inr (1, [.ref h0, .ref p1, .ref p2, .ref p3, .int (nI mn), .ref p4, .int (nI ns)])), (p1, .inl (cI, 5088, .inl (fun z_ => nI (RW z_)))), (p2, .inl (cI, 636, .inl (fun z_ => nI (LE z_)))), (p3, .inl (cI, 8, .inl (fun z_ => nI (PA z_)))), (p4, .inl (cI, 16, .inl (fun z_ => nI (NC z_)))), (h0, .inr (0, [.ref a1, .ref a2, .ref a3, .ref a4, .int (nI N), .int (nI K)])), (a1, .inl (cI, 8, .inl (fun z_ => nI (T z_)))), (a2, .inl (cI, 16, .inl (fun z_ => nI (F z_)))), (a3, .inl (cI, 16, .inl (fun z_ => nI (G z_)))), (a4, .inl (cI, 16, .inl (fun z_ => nI (C z_))))] sz)) 0 0 (va_A [(p0, .inr (1, [.ref h0, .ref p1, .ref p2, .ref p3, .int (nI mn), .ref p4, .int (nI ns)])), (p1, .inl (cI, 5088, .inl (fun z_ => nI (RW z_)))), (p2, .inl (cI, 636, .inl (fun z_ => nI (LE z_)))), (p3, .inl (cI, 8, .inl (fun z_ => nI (PA z_)))), (p4, .inl (cI, 16, .inl (fun z_ => nI (NC z_)))), (h0, .inr (0, [.ref a1, .ref a2, .ref a3, .ref a4, .int (nI N), .int (nI K)])), (a1, .inl (cI, 8, .inl (fun z_ => nI (T z_)))), (a2, .inl (cI, 16, .inl (fun z_ => nI (F z_)))), (a3, .inl (cI, 16, .inl (fun z_ => nI (G z_)))), (a4, .inl (cI, 16, .inl (fun z_ => nI (C z_))))] sz) := by
  refine z_met_i (cc := cX1_findSlowest) (maxL := 7) (by decide) rfl (Nat.le_of_ble_eq_true rfl) ?_
  intro p e s m args below meth c Q A ls hx hb hml hown hts hin hA hK hP hD hN hl hRET
  have hown : s.vm.findClass RX1 = some m.cls := hown
  obtain ⟨H, eH⟩ : ∃ H : Heap, H = s.heap := ⟨_, rfl⟩
  rw [← eH] at hP
  obtain ⟨locs, eL⟩ : ∃ z : List Loc, z = [] := ⟨_, rfl⟩
  rw [← eH, ← eL]
  have hS : va_S A s.heap H locs := by rw [eH, eL]; exact va_S.rf
  have hl : lv_has ls 7 [(0, .ref p0)] := hl
  have w28 := hts (.fieldLink RX1 28 "PullCards$Loops" "many" "I") (by decide +kernel)
  have uX1 : ∀ w ∈ wsX10, w ∈ wsX1_findSlowest := by decide +kernel
  have w24 := hts (.fieldLink RX1 24 "PullCards$Loops" "line" "LPullCards$Line;") (by decide +kernel)
  have w65 := hts (.fieldLink RX1 65 "PullCards$Line" "cards" "[I") (by decide +kernel)
  have uX0 : ∀ w ∈ wsX00, w ∈ wsX1_findSlowest := by decide +kernel
  refine lv_bipush (v := iI (-9)) hx hb dX1_findSlowest_0 (by decide) ?_
  refine lv_istore_n (lv' := [(1, .int (iI (-9))), (0, .ref p0)]) hx hb dX1_findSlowest_2 rfl hl (by decide) rfl (fun ls hl => ?_)
  refine lv_iconst (v := nI 0) hx hb dX1_findSlowest_3 (by decide) ?_
  refine lv_istore_n (lv' := [(2, .int (nI 0)), (1, .int (iI (-9))), (0, .ref p0)]) hx hb dX1_findSlowest_4 rfl hl (by decide) rfl (fun ls hl => ?_)
  refine lv_iconst (v := nI 1) hx hb dX1_findSlowest_5 (by decide) ?_
  refine lv_istore_n (lv' := [(3, .int (nI 1)), (2, .int (nI 0)), (1, .int (iI (-9))), (0, .ref p0)]) hx hb dX1_findSlowest_6 rfl hl (by decide) rfl (fun ls hl => ?_)
  refine lv_iconst (v := nI 0) hx hb dX1_findSlowest_7 (by decide) ?_
  refine lv_istore (lv' := [(4, .int (nI 0)), (3, .int (nI 1)), (2, .int (nI 0)), (1, .int (iI (-9))), (0, .ref p0)]) hx hb dX1_findSlowest_8 hl (by decide) rfl (fun ls hl => ?_)
  have L10 : ∀ (n : Nat) (j : Nat) (b : Int) (t : Nat) (k : Nat), (mn - j) < n → (j ≤ mn) → (b = (sp_sl (sp_tm T F RW LE) (sp_cd C RW LE) j).1) → (t = (sp_sl (sp_tm T F RW LE) (sp_cd C RW LE) j).2.1) → (k = (sp_sl (sp_tm T F RW LE) (sp_cd C RW LE) j).2.2) → (t ≤ 160) → (k ≤ 72) → ∀ (H : Heap) (locs : List Loc), va_P (dC, dI) vwCl [(p0, .inr (1, [.ref h0, .ref p1, .ref p2, .ref p3, .int (nI mn), .ref p4, .int (nI ns)])), (p1, .inl (cI, 5088, .inl (fun z_ => nI (RW z_)))), (p2, .inl (cI, 636, .inl (fun z_ => nI (LE z_)))), (p3, .inl (cI, 8, .inl (fun z_ => nI (PA z_)))), (p4, .inl (cI, 16, .inl (fun z_ => nI (NC z_)))), (h0, .inr (0, [.ref a1, .ref a2, .ref a3, .ref a4, .int (nI N), .int (nI K)])), (a1, .inl (cI, 8, .inl (fun z_ => nI (T z_)))), (a2, .inl (cI, 16, .inl (fun z_ => nI (F z_)))), (a3, .inl (cI, 16, .inl (fun z_ => nI (G z_)))), (a4, .inl (cI, 16, .inl (fun z_ => nI (C z_))))] H → va_D A [(p0, .inr (1, [.ref h0, .ref p1, .ref p2, .ref p3, .int (nI mn), .ref p4, .int (nI ns)])), (p1, .inl (cI, 5088, .inl (fun z_ => nI (RW z_)))), (p2, .inl (cI, 636, .inl (fun z_ => nI (LE z_)))), (p3, .inl (cI, 8, .inl (fun z_ => nI (PA z_)))), (p4, .inl (cI, 16, .inl (fun z_ => nI (NC z_)))), (h0, .inr (0, [.ref a1, .ref a2, .ref a3, .ref a4, .int (nI N), .int (nI K)])), (a1, .inl (cI, 8, .inl (fun z_ => nI (T z_)))), (a2, .inl (cI, 16, .inl (fun z_ => nI (F z_)))), (a3, .inl (cI, 16, .inl (fun z_ => nI (G z_)))), (a4, .inl (cI, 16, .inl (fun z_ => nI (C z_))))] → va_S A s.heap H locs → ∀ (ls : Array Slot), lv_has ls 7 [(0, .ref p0), (1, .int (iI b)), (2, .int (nI t)), (3, .int (nI k)), (4, .int (nI j))] → W p l e (zR 1 0 0 24) s m args below meth c H locs 0 0 Q (F0 m 10 ls []) := by
    intro n
    induction n with
    | zero => intro j b t k hn; exact absurd hn (Nat.not_lt_zero _)
    | succ n ih =>
      intro j b t k hn i1 i2 i3 i4 i5 i6 H locs hP hD hS ls hl
      have ih10 := ih
      have hn10 := hn
      clear ih hn
      refine lv_iload hx hb dX1_findSlowest_10 (lv_at hl 4 rfl) ?_
      refine lv_aload_n hx hb dX1_findSlowest_12 rfl (lv_at hl 0 rfl) ?_
      refine z_get (D := (dC, dI)) (ci := 1) (v := .int (nI mn)) (C := RX1) (T := TX1) (N := 7) hx hb hts uX1 hown hK hP 0 rfl rfl 4 (by decide) w28 rfl rfl dX1_findSlowest_13 ?_
      refine z_icmp_ge (tgt := 68) hx hb dX1_findSlowest_16 (by decide) (zcn_le (a := mn) (b := j) rfl rfl (by omega)) (fun c_16 => ?_) (fun c_16 => ?_)
      · skip
        refine lv_iload_n hx hb dX1_findSlowest_68 rfl (lv_at hl 1 rfl) ?_
        have q_0 : b = (sp_sl (sp_tm T F RW LE) (sp_cd C RW LE) mn).1 := by rw [i2, show j = mn from by omega]
        exact hRET _ ls H locs ((iI b)) (b) dX1_findSlowest_69 ⟨rfl, q_0⟩ hP hD hS
      · skip
        refine lv_aload_n hx hb dX1_findSlowest_19 rfl (lv_at hl 0 rfl) ?_
        refine lv_iload hx hb dX1_findSlowest_20 (lv_at hl 4 rfl) ?_
        refine z_callVi (As := [.int (nI j)]) (rest := []) (wr := []) ⟨hx, hb, hml, hown, hts⟩ (c_X1_timeOf l dC dI cI cJ H.size p0 p1 p2 p3 p4 h0 RW LE PA NC mn ns a1 a2 a3 a4 N K T F G C j (by first | assumption | omega) (by first | assumption | omega) (by first | assumption | omega) (by first | assumption | omega) (by first | assumption | omega)) (cwV 1 hts gX1_findSlowest_X1_timeOf rfl rfl rfl (by decide +kernel) ⟨Nat.le_of_ble_eq_true rfl, Nat.le_of_ble_eq_true rfl⟩) hA hK hP hD hS [0, 1, 2, 3, 4, 5, 6, 7, 8, 9] [] [0, 1, 2, 3, 4, 5, 6, 7, 8, 9] rfl rfl (by decide) (by decide) (by decide) nwA_ok hN (ci := 1) rfl rfl 0 rfl hl.1 (Nat.le_of_ble_eq_true rfl) ⟨Nat.le_refl _, Nat.le_refl _⟩ rfl rfl dX1_findSlowest_22 (fun (u : (Nat)) => [(p0, .inr (1, [.ref h0, .ref p1, .ref p2, .ref p3, .int (nI mn), .ref p4, .int (nI ns)])), (p1, .inl (cI, 5088, .inl (fun z_ => nI (RW z_)))), (p2, .inl (cI, 636, .inl (fun z_ => nI (LE z_)))), (p3, .inl (cI, 8, .inl (fun z_ => nI (PA z_)))), (p4, .inl (cI, 16, .inl (fun z_ => nI (NC z_)))), (h0, .inr (0, [.ref a1, .ref a2, .ref a3, .ref a4, .int (nI N), .int (nI K)])), (a1, .inl (cI, 8, .inl (fun z_ => nI (T z_)))), (a2, .inl (cI, 16, .inl (fun z_ => nI (F z_)))), (a3, .inl (cI, 16, .inl (fun z_ => nI (G z_)))), (a4, .inl (cI, 16, .inl (fun z_ => nI (C z_))))]) (fun u => rfl) (by decide) (fun r_22 u H locs hw hP hD hS => ?_)
        obtain ⟨rv_22, eu⟩ : ∃ z, z = u := ⟨_, rfl⟩
        subst eu
        have hP : va_P (dC, dI) vwCl [(p0, .inr (1, [.ref h0, .ref p1, .ref p2, .ref p3, .int (nI mn), .ref p4, .int (nI ns)])), (p1, .inl (cI, 5088, .inl (fun z_ => nI (RW z_)))), (p2, .inl (cI, 636, .inl (fun z_ => nI (LE z_)))), (p3, .inl (cI, 8, .inl (fun z_ => nI (PA z_)))), (p4, .inl (cI, 16, .inl (fun z_ => nI (NC z_)))), (h0, .inr (0, [.ref a1, .ref a2, .ref a3, .ref a4, .int (nI N), .int (nI K)])), (a1, .inl (cI, 8, .inl (fun z_ => nI (T z_)))), (a2, .inl (cI, 16, .inl (fun z_ => nI (F z_)))), (a3, .inl (cI, 16, .inl (fun z_ => nI (G z_)))), (a4, .inl (cI, 16, .inl (fun z_ => nI (C z_))))] H := hP
        have hD : va_D A [(p0, .inr (1, [.ref h0, .ref p1, .ref p2, .ref p3, .int (nI mn), .ref p4, .int (nI ns)])), (p1, .inl (cI, 5088, .inl (fun z_ => nI (RW z_)))), (p2, .inl (cI, 636, .inl (fun z_ => nI (LE z_)))), (p3, .inl (cI, 8, .inl (fun z_ => nI (PA z_)))), (p4, .inl (cI, 16, .inl (fun z_ => nI (NC z_)))), (h0, .inr (0, [.ref a1, .ref a2, .ref a3, .ref a4, .int (nI N), .int (nI K)])), (a1, .inl (cI, 8, .inl (fun z_ => nI (T z_)))), (a2, .inl (cI, 16, .inl (fun z_ => nI (F z_)))), (a3, .inl (cI, 16, .inl (fun z_ => nI (G z_)))), (a4, .inl (cI, 16, .inl (fun z_ => nI (C z_))))] := hD
        obtain ⟨er, p22_0, p22_1⟩ := hw
        have p22_0 : rv_22 = sp_tm T F RW LE j := p22_0
        have p22_1 : rv_22 ≤ 160 := p22_1
        have er : r_22 = (nI rv_22) := er
        subst er
        refine lv_istore (lv' := [(5, .int (nI rv_22)), (0, .ref p0), (1, .int (iI b)), (2, .int (nI t)), (3, .int (nI k)), (4, .int (nI j))]) hx hb dX1_findSlowest_25 hl (by decide) rfl (fun ls hl => ?_)
        refine lv_aload_n hx hb dX1_findSlowest_27 rfl (lv_at hl 1 rfl) ?_
        refine lv_iload hx hb dX1_findSlowest_28 (lv_at hl 5 rfl) ?_
        refine lv_aload_n hx hb dX1_findSlowest_30 rfl (lv_at hl 1 rfl) ?_
        refine z_get (D := (dC, dI)) (ci := 1) (v := .ref h0) (C := RX1) (T := TX1) (N := 7) hx hb hts uX1 hown hK hP 0 rfl rfl 0 (by decide) w24 rfl rfl dX1_findSlowest_31 ?_
        refine z_get (D := (dC, dI)) (ci := 0) (v := .ref a4) (C := RX0) (T := TX0) (N := 6) hx hb hts uX0 hown hK hP 5 rfl rfl 3 (by decide) w65 rfl rfl dX1_findSlowest_34 ?_
        refine z_callVi (As := [.int (nI j), .ref a4]) (rest := []) (wr := [(p3, .inl (cI, 8, .inl (fun z_ => nI (PA z_)))), (p4, .inl (cI, 16, .inl (fun z_ => nI (NC z_)))), (h0, .inr (0, [.ref a1, .ref a2, .ref a3, .ref a4, .int (nI N), .int (nI K)])), (a1, .inl (cI, 8, .inl (fun z_ => nI (T z_)))), (a2, .inl (cI, 16, .inl (fun z_ => nI (F z_)))), (a3, .inl (cI, 16, .inl (fun z_ => nI (G z_))))]) ⟨hx, hb, hml, hown, hts⟩ (c_X1_cardsOf l dC dI cI cJ H.size p0 p1 p2 p3 p4 h0 RW LE mn ns a4 C j (by first | assumption | omega) (by first | assumption | omega) (by first | assumption | omega) (by first | assumption | omega)) (cwV 2 hts gX1_findSlowest_X1_cardsOf rfl rfl rfl (by decide +kernel) ⟨Nat.le_of_ble_eq_true rfl, Nat.le_of_ble_eq_true rfl⟩) hA hK hP hD hS [0, 1, 2, 9] [3, 4, 5, 6, 7, 8] [6, 7, 8, 0, 1, 2, 3, 4, 5, 9] rfl rfl (by decide) (by decide) (by decide) nwA_ok hN (ci := 1) rfl rfl 0 rfl hl.1 (Nat.le_of_ble_eq_true rfl) ⟨Nat.le_refl _, Nat.le_refl _⟩ rfl rfl dX1_findSlowest_37 (fun (u : (Nat)) => [(p0, .inr (1, [.ref h0, .ref p1, .ref p2, .ref p3, .int (nI mn), .ref p4, .int (nI ns)])), (p1, .inl (cI, 5088, .inl (fun z_ => nI (RW z_)))), (p2, .inl (cI, 636, .inl (fun z_ => nI (LE z_)))), (p3, .inl (cI, 8, .inl (fun z_ => nI (PA z_)))), (p4, .inl (cI, 16, .inl (fun z_ => nI (NC z_)))), (h0, .inr (0, [.ref a1, .ref a2, .ref a3, .ref a4, .int (nI N), .int (nI K)])), (a1, .inl (cI, 8, .inl (fun z_ => nI (T z_)))), (a2, .inl (cI, 16, .inl (fun z_ => nI (F z_)))), (a3, .inl (cI, 16, .inl (fun z_ => nI (G z_)))), (a4, .inl (cI, 16, .inl (fun z_ => nI (C z_))))]) (fun u => rfl) (by decide) (fun r_37 u H locs hw hP hD hS => ?_)
        obtain ⟨rv_37, eu⟩ : ∃ z, z = u := ⟨_, rfl⟩
        subst eu
        have hP : va_P (dC, dI) vwCl [(p0, .inr (1, [.ref h0, .ref p1, .ref p2, .ref p3, .int (nI mn), .ref p4, .int (nI ns)])), (p1, .inl (cI, 5088, .inl (fun z_ => nI (RW z_)))), (p2, .inl (cI, 636, .inl (fun z_ => nI (LE z_)))), (p3, .inl (cI, 8, .inl (fun z_ => nI (PA z_)))), (p4, .inl (cI, 16, .inl (fun z_ => nI (NC z_)))), (h0, .inr (0, [.ref a1, .ref a2, .ref a3, .ref a4, .int (nI N), .int (nI K)])), (a1, .inl (cI, 8, .inl (fun z_ => nI (T z_)))), (a2, .inl (cI, 16, .inl (fun z_ => nI (F z_)))), (a3, .inl (cI, 16, .inl (fun z_ => nI (G z_)))), (a4, .inl (cI, 16, .inl (fun z_ => nI (C z_))))] H := hP
        have hD : va_D A [(p0, .inr (1, [.ref h0, .ref p1, .ref p2, .ref p3, .int (nI mn), .ref p4, .int (nI ns)])), (p1, .inl (cI, 5088, .inl (fun z_ => nI (RW z_)))), (p2, .inl (cI, 636, .inl (fun z_ => nI (LE z_)))), (p3, .inl (cI, 8, .inl (fun z_ => nI (PA z_)))), (p4, .inl (cI, 16, .inl (fun z_ => nI (NC z_)))), (h0, .inr (0, [.ref a1, .ref a2, .ref a3, .ref a4, .int (nI N), .int (nI K)])), (a1, .inl (cI, 8, .inl (fun z_ => nI (T z_)))), (a2, .inl (cI, 16, .inl (fun z_ => nI (F z_)))), (a3, .inl (cI, 16, .inl (fun z_ => nI (G z_)))), (a4, .inl (cI, 16, .inl (fun z_ => nI (C z_))))] := hD
        obtain ⟨er, p37_0, p37_1⟩ := hw
        have p37_0 : rv_37 = sp_cd C RW LE j := p37_0
        have p37_1 : rv_37 ≤ 72 := p37_1
        have er : r_37 = (nI rv_37) := er
        subst er
        refine lv_istore (lv' := [(6, .int (nI rv_37)), (5, .int (nI rv_22)), (0, .ref p0), (1, .int (iI b)), (2, .int (nI t)), (3, .int (nI k)), (4, .int (nI j))]) hx hb dX1_findSlowest_40 hl (by decide) rfl (fun ls hl => ?_)
        refine lv_iload hx hb dX1_findSlowest_42 (lv_at hl 1 rfl) ?_
        refine lv_iload_n hx hb dX1_findSlowest_44 rfl (lv_at hl 5 rfl) ?_
        refine z_imul (v := (nI (rv_22 * k))) hx hb dX1_findSlowest_45 (pk_mul _ _) ?_
        refine lv_iload_n hx hb dX1_findSlowest_46 rfl (lv_at hl 4 rfl) ?_
        refine lv_iload hx hb dX1_findSlowest_47 (lv_at hl 0 rfl) ?_
        refine z_imul (v := (nI (t * rv_37))) hx hb dX1_findSlowest_49 (pk_mul _ _) ?_
        have m1 := Nat.mul_le_mul p22_1 i6
        have m2 := Nat.mul_le_mul i5 p37_1
        refine z_icmp_le (tgt := 62) hx hb dX1_findSlowest_50 (by decide) (zcn_le (a := rv_22 * k) (b := t * rv_37) rfl rfl (by omega)) (fun c_50 => ?_) (fun c_50 => ?_)
        · skip
          have es := sp_sl_n (tm := sp_tm T F RW LE) (cd := sp_cd C RW LE) (l := j) (by rw [← i3, ← i4, ← p22_0, ← p37_0]; exact c_50)
          refine lv_iinc (v := (nI (j + 1))) (lv' := [(4, .int (nI (j + 1))), (6, .int (nI rv_37)), (5, .int (nI rv_22)), (0, .ref p0), (1, .int (iI b)), (2, .int (nI t)), (3, .int (nI k))]) hx hb dX1_findSlowest_62 hl (k := 6) rfl (z_incN j 1 (by decide)) (by decide) rfl (fun ls hl => ?_)
          refine lv_goto (tgt := 10) hx hb dX1_findSlowest_65 (by decide) ?_
          have o_i1 : (j + 1) ≤ mn := by first | assumption | omega
          have o_i2 : b = (sp_sl (sp_tm T F RW LE) (sp_cd C RW LE) (j + 1)).1 := by first | (rw [es]; exact i2) | rw [es]
          have o_i3 : t = (sp_sl (sp_tm T F RW LE) (sp_cd C RW LE) (j + 1)).2.1 := by first | (rw [es]; exact i3) | (rw [es]; exact p22_0)
          have o_i4 : k = (sp_sl (sp_tm T F RW LE) (sp_cd C RW LE) (j + 1)).2.2 := by first | (rw [es]; exact i4) | (rw [es]; exact p37_0)
          have o_i5 : t ≤ 160 := by first | assumption | omega
          have o_i6 : k ≤ 72 := by first | assumption | omega
          have o_mu : (mn - (j + 1)) < n := by omega
          exact ih10 (j + 1) b t k o_mu o_i1 o_i2 o_i3 o_i4 o_i5 o_i6 H locs hP hD hS ls (lv_sub hl [3, 4, 5, 6, 0] rfl)
        · skip
          have es := sp_sl_y (tm := sp_tm T F RW LE) (cd := sp_cd C RW LE) (l := j) (by rw [← i3, ← i4, ← p22_0, ← p37_0]; omega)
          refine lv_iload hx hb dX1_findSlowest_53 (lv_at hl 6 rfl) ?_
          refine z_c0 (v := iI ((j : Nat) : Int)) (iI_N _) ?_
          refine lv_istore_n (lv' := [(1, .int (iI ((j : Nat) : Int))), (6, .int (nI rv_37)), (5, .int (nI rv_22)), (0, .ref p0), (2, .int (nI t)), (3, .int (nI k)), (4, .int (nI j))]) hx hb dX1_findSlowest_55 rfl hl (by decide) rfl (fun ls hl => ?_)
          refine lv_iload hx hb dX1_findSlowest_56 (lv_at hl 2 rfl) ?_
          refine lv_istore_n (lv' := [(2, .int (nI rv_22)), (1, .int (iI ((j : Nat) : Int))), (6, .int (nI rv_37)), (5, .int (nI rv_22)), (0, .ref p0), (3, .int (nI k)), (4, .int (nI j))]) hx hb dX1_findSlowest_58 rfl hl (by decide) rfl (fun ls hl => ?_)
          refine lv_iload hx hb dX1_findSlowest_59 (lv_at hl 2 rfl) ?_
          refine lv_istore_n (lv' := [(3, .int (nI rv_37)), (2, .int (nI rv_22)), (1, .int (iI ((j : Nat) : Int))), (6, .int (nI rv_37)), (5, .int (nI rv_22)), (0, .ref p0), (4, .int (nI j))]) hx hb dX1_findSlowest_61 rfl hl (by decide) rfl (fun ls hl => ?_)
          refine lv_iinc (v := (nI (j + 1))) (lv' := [(4, .int (nI (j + 1))), (3, .int (nI rv_37)), (2, .int (nI rv_22)), (1, .int (iI ((j : Nat) : Int))), (6, .int (nI rv_37)), (5, .int (nI rv_22)), (0, .ref p0)]) hx hb dX1_findSlowest_62 hl (k := 6) rfl (z_incN j 1 (by decide)) (by decide) rfl (fun ls hl => ?_)
          refine lv_goto (tgt := 10) hx hb dX1_findSlowest_65 (by decide) ?_
          have o_i1 : (j + 1) ≤ mn := by first | assumption | omega
          have o_i2 : ((j : Nat) : Int) = (sp_sl (sp_tm T F RW LE) (sp_cd C RW LE) (j + 1)).1 := by first | (rw [es]; exact i2) | rw [es]
          have o_i3 : rv_22 = (sp_sl (sp_tm T F RW LE) (sp_cd C RW LE) (j + 1)).2.1 := by first | (rw [es]; exact i3) | (rw [es]; exact p22_0)
          have o_i4 : rv_37 = (sp_sl (sp_tm T F RW LE) (sp_cd C RW LE) (j + 1)).2.2 := by first | (rw [es]; exact i4) | (rw [es]; exact p37_0)
          have o_i5 : rv_22 ≤ 160 := by first | assumption | omega
          have o_i6 : rv_37 ≤ 72 := by first | assumption | omega
          have o_mu : (mn - (j + 1)) < n := by omega
          exact ih10 (j + 1) ((j : Nat) : Int) rv_22 rv_37 o_mu o_i1 o_i2 o_i3 o_i4 o_i5 o_i6 H locs hP hD hS ls (lv_sub hl [6, 3, 2, 1, 0] rfl)
  have o_i1 : 0 ≤ mn := by first | assumption | omega
  have o_i2 : (-9 : Int) = (sp_sl (sp_tm T F RW LE) (sp_cd C RW LE) 0).1 := by rfl
  have o_i3 : 0 = (sp_sl (sp_tm T F RW LE) (sp_cd C RW LE) 0).2.1 := by rfl
  have o_i4 : 1 = (sp_sl (sp_tm T F RW LE) (sp_cd C RW LE) 0).2.2 := by rfl
  have o_i5 : 0 ≤ 160 := by first | assumption | omega
  have o_i6 : 1 ≤ 72 := by first | assumption | omega
  exact L10 ((mn - 0) + 1) 0 (-9 : Int) 0 1 (Nat.lt_succ_self _) o_i1 o_i2 o_i3 o_i4 o_i5 o_i6 H locs hP hD hS ls (lv_sub hl [4, 3, 2, 1, 0] rfl)

set_option maxHeartbeats 4000000 in
set_option maxRecDepth 100000 in
theorem c_X1_forgetNote (l : Launch) (dC : Nat → ClassId) (dI : Nat → Nat → Nat) (cI cJ : ClassId) (sz : Nat) (p0 : Nat) (p1 : Nat) (p2 : Nat) (p3 : Nat) (p4 : Nat) (h0 : Nat) (mn : Nat) (ns : Nat)  : Met l yX1_forgetNote wsX1_forgetNote (zR 0 0 0 0) (va_Pc [.ref p0] (zP (dC, dI) [(cI, .int), (cJ, .long)] [(p0, .inr (1, [.ref h0, .ref p1, .ref p2, .ref p3, .int (nI mn), .ref p4, .int (nI ns)]))] sz nwA)) (va_Qv (fun (u : Unit) => True) (zB (dC, dI) (fun (u : Unit) => [(p0, .inr (1, [.ref h0, .ref p1, .ref p2, .ref p3, .int (nI mn), .ref p4, .int (nI 0)]))]) (va_A [(p0, .inr (1, [.ref h0, .ref p1, .ref p2, .ref p3, .int (nI mn), .ref p4, .int (nI ns)]))] sz)) (va_A [(p0, .inr (1, [.ref h0, .ref p1, .ref p2, .ref p3, .int (nI mn), .ref p4, .int (nI ns)]))] sz)) 0 0 (va_A [(p0, .inr (1, [.ref h0, .ref p1, .ref p2, .ref p3, .int (nI mn), .ref p4, .int (nI ns)]))] sz) := by
  refine z_met_v (cc := cX1_forgetNote) (maxL := 1) (by decide) rfl (Nat.le_of_ble_eq_true rfl) ?_
  intro p e s m args below meth c Q A ls hx hb hml hown hts hin hA hK hP hD hN hl hRET
  have hown : s.vm.findClass RX1 = some m.cls := hown
  obtain ⟨H, eH⟩ : ∃ H : Heap, H = s.heap := ⟨_, rfl⟩
  rw [← eH] at hP
  obtain ⟨locs, eL⟩ : ∃ z : List Loc, z = [] := ⟨_, rfl⟩
  rw [← eH, ← eL]
  have hS : va_S A s.heap H locs := by rw [eH, eL]; exact va_S.rf
  have hl : lv_has ls 1 [(0, .ref p0)] := hl
  have w72 := hts (.fieldLink RX1 72 "PullCards$Loops" "noteStands" "Z") (by decide +kernel)
  have uX1 : ∀ w ∈ wsX10, w ∈ wsX1_forgetNote := by decide +kernel
  refine lv_aload_n hx hb dX1_forgetNote_0 rfl (lv_at hl 0 rfl) ?_
  refine lv_iconst (v := nI 0) hx hb dX1_forgetNote_1 (by decide) ?_
  refine z_put (D := (dC, dI)) (ci := 1) (v := .int (nI 0)) (C := RX1) (T := TX1) (N := 7) hx hb hts uX1 tyX1 tyX1_ok nmX1 hown hK hP hD hS 0 rfl rfl 6 (by decide) w72 rfl rfl (by decide) (by decide) (Nat.le_of_ble_eq_true rfl) [(p0, .inr (1, [.ref h0, .ref p1, .ref p2, .ref p3, .int (nI mn), .ref p4, .int (nI 0)]))] rfl dX1_forgetNote_2 (fun H locs hP hD hS => ?_)
  exact hRET _ ls H locs () dX1_forgetNote_5 trivial hP hD hS

set_option maxHeartbeats 4000000 in
set_option maxRecDepth 100000 in
theorem c_X1_takeNote (l : Launch) (dC : Nat → ClassId) (dI : Nat → Nat → Nat) (cI cJ : ClassId) (sz : Nat) (p0 : Nat) (p1 : Nat) (p2 : Nat) (p3 : Nat) (p4 : Nat) (h0 : Nat) (RW : Nat → Nat) (LE : Nat → Nat) (PA : Nat → Nat) (NC : Nat → Nat) (mn : Nat) (ns : Nat) (a1 : Nat) (a2 : Nat) (a3 : Nat) (a4 : Nat) (N : Nat) (K : Nat) (T : Nat → Nat) (F : Nat → Nat) (G : Nat → Nat) (C : Nat → Nat)  : Met l yX1_takeNote wsX1_takeNote (zR 1 0 0 60) (va_Pc [.ref p0] (zP (dC, dI) [(cI, .int), (cJ, .long)] [(p0, .inr (1, [.ref h0, .ref p1, .ref p2, .ref p3, .int (nI mn), .ref p4, .int (nI ns)])), (p1, .inl (cI, 5088, .inl (fun z_ => nI (RW z_)))), (p2, .inl (cI, 636, .inl (fun z_ => nI (LE z_)))), (p3, .inl (cI, 8, .inl (fun z_ => nI (PA z_)))), (p4, .inl (cI, 16, .inl (fun z_ => nI (NC z_)))), (h0, .inr (0, [.ref a1, .ref a2, .ref a3, .ref a4, .int (nI N), .int (nI K)])), (a1, .inl (cI, 8, .inl (fun z_ => nI (T z_)))), (a2, .inl (cI, 16, .inl (fun z_ => nI (F z_)))), (a3, .inl (cI, 16, .inl (fun z_ => nI (G z_)))), (a4, .inl (cI, 16, .inl (fun z_ => nI (C z_))))] sz nwA)) (va_Qv (fun (u : Unit) => True) (zB (dC, dI) (fun (u : Unit) => [(p0, .inr (1, [.ref h0, .ref p1, .ref p2, .ref p3, .int (nI mn), .ref p4, .int (nI 1)])), (p1, .inl (cI, 5088, .inl (fun z_ => nI (RW z_)))), (p2, .inl (cI, 636, .inl (fun z_ => nI (LE z_)))), (p3, .inl (cI, 8, .inl (fun z_ => nI (PA z_)))), (p4, .inl (cI, 16, .inl (fun z_ => nI ((sp_cpy 16 C NC) z_)))), (h0, .inr (0, [.ref a1, .ref a2, .ref a3, .ref a4, .int (nI N), .int (nI K)])), (a1, .inl (cI, 8, .inl (fun z_ => nI (T z_)))), (a2, .inl (cI, 16, .inl (fun z_ => nI (F z_)))), (a3, .inl (cI, 16, .inl (fun z_ => nI (G z_)))), (a4, .inl (cI, 16, .inl (fun z_ => nI (C z_))))]) (va_A [(p0, .inr (1, [.ref h0, .ref p1, .ref p2, .ref p3, .int (nI mn), .ref p4, .int (nI ns)])), (p1, .inl (cI, 5088, .inl (fun z_ => nI (RW z_)))), (p2, .inl (cI, 636, .inl (fun z_ => nI (LE z_)))), (p3, .inl (cI, 8, .inl (fun z_ => nI (PA z_)))), (p4, .inl (cI, 16, .inl (fun z_ => nI (NC z_)))), (h0, .inr (0, [.ref a1, .ref a2, .ref a3, .ref a4, .int (nI N), .int (nI K)])), (a1, .inl (cI, 8, .inl (fun z_ => nI (T z_)))), (a2, .inl (cI, 16, .inl (fun z_ => nI (F z_)))), (a3, .inl (cI, 16, .inl (fun z_ => nI (G z_)))), (a4, .inl (cI, 16, .inl (fun z_ => nI (C z_))))] sz)) (va_A [(p0, .inr (1, [.ref h0, .ref p1, .ref p2, .ref p3, .int (nI mn), .ref p4, .int (nI ns)])), (p1, .inl (cI, 5088, .inl (fun z_ => nI (RW z_)))), (p2, .inl (cI, 636, .inl (fun z_ => nI (LE z_)))), (p3, .inl (cI, 8, .inl (fun z_ => nI (PA z_)))), (p4, .inl (cI, 16, .inl (fun z_ => nI (NC z_)))), (h0, .inr (0, [.ref a1, .ref a2, .ref a3, .ref a4, .int (nI N), .int (nI K)])), (a1, .inl (cI, 8, .inl (fun z_ => nI (T z_)))), (a2, .inl (cI, 16, .inl (fun z_ => nI (F z_)))), (a3, .inl (cI, 16, .inl (fun z_ => nI (G z_)))), (a4, .inl (cI, 16, .inl (fun z_ => nI (C z_))))] sz)) 0 0 (va_A [(p0, .inr (1, [.ref h0, .ref p1, .ref p2, .ref p3, .int (nI mn), .ref p4, .int (nI ns)])), (p1, .inl (cI, 5088, .inl (fun z_ => nI (RW z_)))), (p2, .inl (cI, 636, .inl (fun z_ => nI (LE z_)))), (p3, .inl (cI, 8, .inl (fun z_ => nI (PA z_)))), (p4, .inl (cI, 16, .inl (fun z_ => nI (NC z_)))), (h0, .inr (0, [.ref a1, .ref a2, .ref a3, .ref a4, .int (nI N), .int (nI K)])), (a1, .inl (cI, 8, .inl (fun z_ => nI (T z_)))), (a2, .inl (cI, 16, .inl (fun z_ => nI (F z_)))), (a3, .inl (cI, 16, .inl (fun z_ => nI (G z_)))), (a4, .inl (cI, 16, .inl (fun z_ => nI (C z_))))] sz) := by
  refine z_met_v (cc := cX1_takeNote) (maxL := 1) (by decide) rfl (Nat.le_of_ble_eq_true rfl) ?_
  intro p e s m args below meth c Q A ls hx hb hml hown hts hin hA hK hP hD hN hl hRET
  have hown : s.vm.findClass RX1 = some m.cls := hown
  obtain ⟨H, eH⟩ : ∃ H : Heap, H = s.heap := ⟨_, rfl⟩
  rw [← eH] at hP
  obtain ⟨locs, eL⟩ : ∃ z : List Loc, z = [] := ⟨_, rfl⟩
  rw [← eH, ← eL]
  have hS : va_S A s.heap H locs := by rw [eH, eL]; exact va_S.rf
  have hl : lv_has ls 1 [(0, .ref p0)] := hl
  have w24 := hts (.fieldLink RX1 24 "PullCards$Loops" "line" "LPullCards$Line;") (by decide +kernel)
  have uX1 : ∀ w ∈ wsX10, w ∈ wsX1_takeNote := by decide +kernel
  have w65 := hts (.fieldLink RX1 65 "PullCards$Line" "cards" "[I") (by decide +kernel)
  have uX0 : ∀ w ∈ wsX00, w ∈ wsX1_takeNote := by decide +kernel
  have w21 := hts (.fieldLink RX1 21 "PullCards$Loops" "notedCards" "[I") (by decide +kernel)
  have w72 := hts (.fieldLink RX1 72 "PullCards$Loops" "noteStands" "Z") (by decide +kernel)
  refine lv_aload_n hx hb dX1_takeNote_0 rfl (lv_at hl 0 rfl) ?_
  refine z_get (D := (dC, dI)) (ci := 1) (v := .ref h0) (C := RX1) (T := TX1) (N := 7) hx hb hts uX1 hown hK hP 0 rfl rfl 0 (by decide) w24 rfl rfl dX1_takeNote_1 ?_
  refine z_get (D := (dC, dI)) (ci := 0) (v := .ref a4) (C := RX0) (T := TX0) (N := 6) hx hb hts uX0 hown hK hP 5 rfl rfl 3 (by decide) w65 rfl rfl dX1_takeNote_4 ?_
  refine lv_iconst (v := nI 0) hx hb dX1_takeNote_7 (by decide) ?_
  refine lv_aload_n hx hb dX1_takeNote_8 rfl (lv_at hl 0 rfl) ?_
  refine z_get (D := (dC, dI)) (ci := 1) (v := .ref p4) (C := RX1) (T := TX1) (N := 7) hx hb hts uX1 hown hK hP 0 rfl rfl 5 (by decide) w21 rfl rfl dX1_takeNote_9 ?_
  refine lv_iconst (v := nI 0) hx hb dX1_takeNote_12 (by decide) ?_
  refine lv_bipush (v := nI 16) hx hb dX1_takeNote_13 (by decide) ?_
  refine z_copy hx hb (by rw [hml, hl.1]) hown (hts (.methodLink RX1 76 arraycopyName) (by decide +kernel)) (hts (.native arraycopyName) (by decide +kernel)) (hts (.static arraycopyName) (by decide +kernel)) (hts (.initialized "java/lang/System") (by decide +kernel)) hK hP hD hS 9 4 0 rfl rfl rfl (by decide) (Nat.le_of_ble_eq_true rfl) (Nat.le_of_ble_eq_true rfl) [(p0, .inr (1, [.ref h0, .ref p1, .ref p2, .ref p3, .int (nI mn), .ref p4, .int (nI ns)])), (p1, .inl (cI, 5088, .inl (fun z_ => nI (RW z_)))), (p2, .inl (cI, 636, .inl (fun z_ => nI (LE z_)))), (p3, .inl (cI, 8, .inl (fun z_ => nI (PA z_)))), (p4, .inl (cI, 16, .inl (fun z_ => nI ((sp_cpy 16 C NC) z_)))), (h0, .inr (0, [.ref a1, .ref a2, .ref a3, .ref a4, .int (nI N), .int (nI K)])), (a1, .inl (cI, 8, .inl (fun z_ => nI (T z_)))), (a2, .inl (cI, 16, .inl (fun z_ => nI (F z_)))), (a3, .inl (cI, 16, .inl (fun z_ => nI (G z_)))), (a4, .inl (cI, 16, .inl (fun z_ => nI (C z_))))] rfl dX1_takeNote_15 (fun H locs hP hD hS => ?_)
  refine lv_aload_n hx hb dX1_takeNote_18 rfl (lv_at hl 0 rfl) ?_
  refine lv_iconst (v := nI 1) hx hb dX1_takeNote_19 (by decide) ?_
  refine z_put (D := (dC, dI)) (ci := 1) (v := .int (nI 1)) (C := RX1) (T := TX1) (N := 7) hx hb hts uX1 tyX1 tyX1_ok nmX1 hown hK hP hD hS 0 rfl rfl 6 (by decide) w72 rfl rfl (by decide) (by decide) (Nat.le_of_ble_eq_true rfl) [(p0, .inr (1, [.ref h0, .ref p1, .ref p2, .ref p3, .int (nI mn), .ref p4, .int (nI 1)])), (p1, .inl (cI, 5088, .inl (fun z_ => nI (RW z_)))), (p2, .inl (cI, 636, .inl (fun z_ => nI (LE z_)))), (p3, .inl (cI, 8, .inl (fun z_ => nI (PA z_)))), (p4, .inl (cI, 16, .inl (fun z_ => nI ((sp_cpy 16 C NC) z_)))), (h0, .inr (0, [.ref a1, .ref a2, .ref a3, .ref a4, .int (nI N), .int (nI K)])), (a1, .inl (cI, 8, .inl (fun z_ => nI (T z_)))), (a2, .inl (cI, 16, .inl (fun z_ => nI (F z_)))), (a3, .inl (cI, 16, .inl (fun z_ => nI (G z_)))), (a4, .inl (cI, 16, .inl (fun z_ => nI (C z_))))] rfl dX1_takeNote_20 (fun H locs hP hD hS => ?_)
  exact hRET _ ls H locs () dX1_takeNote_23 trivial hP hD hS

set_option maxHeartbeats 4000000 in
set_option maxRecDepth 100000 in
theorem c_X1_countChanged (l : Launch) (dC : Nat → ClassId) (dI : Nat → Nat → Nat) (cI cJ : ClassId) (sz : Nat) (p0 : Nat) (p1 : Nat) (p2 : Nat) (p3 : Nat) (p4 : Nat) (h0 : Nat) (RW : Nat → Nat) (LE : Nat → Nat) (PA : Nat → Nat) (NC : Nat → Nat) (mn : Nat) (ns : Nat) (a1 : Nat) (a2 : Nat) (a3 : Nat) (a4 : Nat) (N : Nat) (K : Nat) (T : Nat → Nat) (F : Nat → Nat) (G : Nat → Nat) (C : Nat → Nat) (lt : Nat) (bmn : mn ≤ 636) (bRW : ∀ i, RW i < 16) (bLE : ∀ i, LE i ≤ 8) (bC : ∀ a, C a ≤ 9) (bNC : ∀ a, NC a ≤ 9) (blt : lt ≤ 1) : Met l yX1_countChanged wsX1_countChanged (zR 1 0 0 24) (va_Pc [.ref p0, .int (nI lt)] (zP (dC, dI) [(cI, .int), (cJ, .long)] [(p0, .inr (1, [.ref h0, .ref p1, .ref p2, .ref p3, .int (nI mn), .ref p4, .int (nI ns)])), (p1, .inl (cI, 5088, .inl (fun z_ => nI (RW z_)))), (p2, .inl (cI, 636, .inl (fun z_ => nI (LE z_)))), (p3, .inl (cI, 8, .inl (fun z_ => nI (PA z_)))), (p4, .inl (cI, 16, .inl (fun z_ => nI (NC z_)))), (h0, .inr (0, [.ref a1, .ref a2, .ref a3, .ref a4, .int (nI N), .int (nI K)])), (a1, .inl (cI, 8, .inl (fun z_ => nI (T z_)))), (a2, .inl (cI, 16, .inl (fun z_ => nI (F z_)))), (a3, .inl (cI, 16, .inl (fun z_ => nI (G z_)))), (a4, .inl (cI, 16, .inl (fun z_ => nI (C z_))))] sz nwA)) (va_Qi (fun (r : Int32) (u : (Nat)) => r = (nI u) ∧ (u = fb_ct (sp_chg lt (sp_cd C RW LE) (sp_cd NC RW LE)) mn)) (zB (dC, dI) (fun (u : (Nat)) => [(p0, .inr (1, [.ref h0, .ref p1, .ref p2, .ref p3, .int (nI mn), .ref p4, .int (nI ns)])), (p1, .inl (cI, 5088, .inl (fun z_ => nI (RW z_)))), (p2, .inl (cI, 636, .inl (fun z_ => nI (LE z_)))), (p3, .inl (cI, 8, .inl (fun z_ => nI (PA z_)))), (p4, .inl (cI, 16, .inl (fun z_ => nI (NC z_)))), (h0, .inr (0, [.ref a1, .ref a2, .ref a3, .ref a4, .int (nI N), .int (nI K)])), (a1, .inl (cI, 8, .inl (fun z_ => nI (T z_)))), (a2, .inl (cI, 16, .inl (fun z_ => nI (F z_)))), (a3, .inl (cI, 16, .inl (fun z_ => nI (G z_)))), (a4, .inl (cI, 16, .inl (fun z_ => nI (C z_))))]) (va_A [(p0, .inr (1, [.ref h0, .ref p1, .ref p2, .ref p3, .int (nI mn), .ref p4, .int (nI ns)])), (p1, .inl (cI, 5088, .inl (fun z_ => nI (RW z_)))), (p2, .inl (cI, 636, .inl (fun z_ => nI (LE z_)))), (p3, .inl (cI, 8, .inl (fun z_ => nI (PA z_)))), (p4, .inl (cI, 16, .inl (fun z_ => nI (NC z_)))), (h0, .inr (0, [.ref a1, .ref a2, .ref a3, .ref a4, .int (nI N), .int (nI K)])), (a1, .inl (cI, 8, .inl (fun z_ => nI (T z_)))), (a2, .inl (cI, 16, .inl (fun z_ => nI (F z_)))), (a3, .inl (cI, 16, .inl (fun z_ => nI (G z_)))), (a4, .inl (cI, 16, .inl (fun z_ => nI (C z_))))] sz)) (va_A [(p0, .inr (1, [.ref h0, .ref p1, .ref p2, .ref p3, .int (nI mn), .ref p4, .int (nI ns)])), (p1, .inl (cI, 5088, .inl (fun z_ => nI (RW z_)))), (p2, .inl (cI, 636, .inl (fun z_ => nI (LE z_)))), (p3, .inl (cI, 8, .inl (fun z_ => nI (PA z_)))), (p4, .inl (cI, 16, .inl (fun z_ => nI (NC z_)))), (h0, .inr (0, [.ref a1, .ref a2, .ref a3, .ref a4, .int (nI N), .int (nI K)])), (a1, .inl (cI, 8, .inl (fun z_ => nI (T z_)))), (a2, .inl (cI, 16, .inl (fun z_ => nI (F z_)))), (a3, .inl (cI, 16, .inl (fun z_ => nI (G z_)))), (a4, .inl (cI, 16, .inl (fun z_ => nI (C z_))))] sz)) 0 0 (va_A [(p0, .inr (1, [.ref h0, .ref p1, .ref p2, .ref p3, .int (nI mn), .ref p4, .int (nI ns)])), (p1, .inl (cI, 5088, .inl (fun z_ => nI (RW z_)))), (p2, .inl (cI, 636, .inl (fun z_ => nI (LE z_)))), (p3, .inl (cI, 8, .inl (fun z_ => nI (PA z_)))), (p4, .inl (cI, 16, .inl (fun z_ => nI (NC z_)))), (h0, .inr (0, [.ref a1, .ref a2, .ref a3, .ref a4, .int (nI N), .int (nI K)])), (a1, .inl (cI, 8, .inl (fun z_ => nI (T z_)))), (a2, .inl (cI, 16, .inl (fun z_ => nI (F z_)))), (a3, .inl (cI, 16, .inl (fun z_ => nI (G z_)))), (a4, .inl (cI, 16, .inl (fun z_ => nI (C z_))))] sz) := by
  refine z_met_i (cc := cX1_countChanged) (maxL := 5) (by decide) rfl (Nat.le_of_ble_eq_true rfl) ?_
  intro p e s m args below meth c Q A ls hx hb hml hown hts hin hA hK hP hD hN hl hRET
  have hown : s.vm.findClass RX1 = some m.cls := hown
  obtain ⟨H, eH⟩ : ∃ H : Heap, H = s.heap := ⟨_, rfl⟩
  rw [← eH] at hP
  obtain ⟨locs, eL⟩ : ∃ z : List Loc, z = [] := ⟨_, rfl⟩
  rw [← eH, ← eL]
  have hS : va_S A s.heap H locs := by rw [eH, eL]; exact va_S.rf
  have hl : lv_has ls 5 [(0, .ref p0), (1, .int (nI lt))] := hl
  have w28 := hts (.fieldLink RX1 28 "PullCards$Loops" "many" "I") (by decide +kernel)
  have uX1 : ∀ w ∈ wsX10, w ∈ wsX1_countChanged := by decide +kernel
  have w24 := hts (.fieldLink RX1 24 "PullCards$Loops" "line" "LPullCards$Line;") (by decide +kernel)
  have w65 := hts (.fieldLink RX1 65 "PullCards$Line" "cards" "[I") (by decide +kernel)
  have uX0 : ∀ w ∈ wsX00, w ∈ wsX1_countChanged := by decide +kernel
  have w21 := hts (.fieldLink RX1 21 "PullCards$Loops" "notedCards" "[I") (by decide +kernel)
  refine lv_iconst (v := nI 0) hx hb dX1_countChanged_0 (by decide) ?_
  refine lv_istore_n (lv' := [(2, .int (nI 0)), (0, .ref p0), (1, .int (nI lt))]) hx hb dX1_countChanged_1 rfl hl (by decide) rfl (fun ls hl => ?_)
  refine lv_iconst (v := nI 0) hx hb dX1_countChanged_2 (by decide) ?_
  refine lv_istore_n (lv' := [(3, .int (nI 0)), (2, .int (nI 0)), (0, .ref p0), (1, .int (nI lt))]) hx hb dX1_countChanged_3 rfl hl (by decide) rfl (fun ls hl => ?_)
  have L4 : ∀ (n : Nat) (j : Nat) (g : Nat), (mn - j) < n → (j ≤ mn) → (g = fb_ct (sp_chg lt (sp_cd C RW LE) (sp_cd NC RW LE)) j) → (g ≤ j) → ∀ (H : Heap) (locs : List Loc), va_P (dC, dI) vwCl [(p0, .inr (1, [.ref h0, .ref p1, .ref p2, .ref p3, .int (nI mn), .ref p4, .int (nI ns)])), (p1, .inl (cI, 5088, .inl (fun z_ => nI (RW z_)))), (p2, .inl (cI, 636, .inl (fun z_ => nI (LE z_)))), (p3, .inl (cI, 8, .inl (fun z_ => nI (PA z_)))), (p4, .inl (cI, 16, .inl (fun z_ => nI (NC z_)))), (h0, .inr (0, [.ref a1, .ref a2, .ref a3, .ref a4, .int (nI N), .int (nI K)])), (a1, .inl (cI, 8, .inl (fun z_ => nI (T z_)))), (a2, .inl (cI, 16, .inl (fun z_ => nI (F z_)))), (a3, .inl (cI, 16, .inl (fun z_ => nI (G z_)))), (a4, .inl (cI, 16, .inl (fun z_ => nI (C z_))))] H → va_D A [(p0, .inr (1, [.ref h0, .ref p1, .ref p2, .ref p3, .int (nI mn), .ref p4, .int (nI ns)])), (p1, .inl (cI, 5088, .inl (fun z_ => nI (RW z_)))), (p2, .inl (cI, 636, .inl (fun z_ => nI (LE z_)))), (p3, .inl (cI, 8, .inl (fun z_ => nI (PA z_)))), (p4, .inl (cI, 16, .inl (fun z_ => nI (NC z_)))), (h0, .inr (0, [.ref a1, .ref a2, .ref a3, .ref a4, .int (nI N), .int (nI K)])), (a1, .inl (cI, 8, .inl (fun z_ => nI (T z_)))), (a2, .inl (cI, 16, .inl (fun z_ => nI (F z_)))), (a3, .inl (cI, 16, .inl (fun z_ => nI (G z_)))), (a4, .inl (cI, 16, .inl (fun z_ => nI (C z_))))] → va_S A s.heap H locs → ∀ (ls : Array Slot), lv_has ls 5 [(0, .ref p0), (1, .int (nI lt)), (2, .int (nI g)), (3, .int (nI j))] → W p l e (zR 1 0 0 24) s m args below meth c H locs 0 0 Q (F0 m 4 ls []) := by
    intro n
    induction n with
    | zero => intro j g hn; exact absurd hn (Nat.not_lt_zero _)
    | succ n ih =>
      intro j g hn i1 i2 i3 H locs hP hD hS ls hl
      have ih4 := ih
      have hn4 := hn
      clear ih hn
      refine lv_iload_n hx hb dX1_countChanged_4 rfl (lv_at hl 3 rfl) ?_
      refine lv_aload_n hx hb dX1_countChanged_5 rfl (lv_at hl 0 rfl) ?_
      refine z_get (D := (dC, dI)) (ci := 1) (v := .int (nI mn)) (C := RX1) (T := TX1) (N := 7) hx hb hts uX1 hown hK hP 0 rfl rfl 4 (by decide) w28 rfl rfl dX1_countChanged_6 ?_
      refine z_icmp_ge (tgt := 62) hx hb dX1_countChanged_9 (by decide) (zcn_le (a := mn) (b := j) rfl rfl (by omega)) (fun c_9 => ?_) (fun c_9 => ?_)
      · skip
        refine lv_iload_n hx hb dX1_countChanged_62 rfl (lv_at hl 2 rfl) ?_
        have q_0 : g = fb_ct (sp_chg lt (sp_cd C RW LE) (sp_cd NC RW LE)) mn := by rw [i2, show j = mn from by omega]
        exact hRET _ ls H locs ((nI g)) (g) dX1_countChanged_63 ⟨rfl, q_0⟩ hP hD hS
      · skip
        refine lv_aload_n hx hb dX1_countChanged_12 rfl (lv_at hl 0 rfl) ?_
        refine lv_iload_n hx hb dX1_countChanged_13 rfl (lv_at hl 3 rfl) ?_
        refine lv_aload_n hx hb dX1_countChanged_14 rfl (lv_at hl 0 rfl) ?_
        refine z_get (D := (dC, dI)) (ci := 1) (v := .ref h0) (C := RX1) (T := TX1) (N := 7) hx hb hts uX1 hown hK hP 0 rfl rfl 0 (by decide) w24 rfl rfl dX1_countChanged_15 ?_
        refine z_get (D := (dC, dI)) (ci := 0) (v := .ref a4) (C := RX0) (T := TX0) (N := 6) hx hb hts uX0 hown hK hP 5 rfl rfl 3 (by decide) w65 rfl rfl dX1_countChanged_18 ?_
        refine z_callVi (As := [.int (nI j), .ref a4]) (rest := []) (wr := [(p3, .inl (cI, 8, .inl (fun z_ => nI (PA z_)))), (p4, .inl (cI, 16, .inl (fun z_ => nI (NC z_)))), (h0, .inr (0, [.ref a1, .ref a2, .ref a3, .ref a4, .int (nI N), .int (nI K)])), (a1, .inl (cI, 8, .inl (fun z_ => nI (T z_)))), (a2, .inl (cI, 16, .inl (fun z_ => nI (F z_)))), (a3, .inl (cI, 16, .inl (fun z_ => nI (G z_))))]) ⟨hx, hb, hml, hown, hts⟩ (c_X1_cardsOf l dC dI cI cJ H.size p0 p1 p2 p3 p4 h0 RW LE mn ns a4 C j (by first | assumption | omega) (by first | assumption | omega) (by first | assumption | omega) (by first | assumption | omega)) (cwV 2 hts gX1_countChanged_X1_cardsOf rfl rfl rfl (by decide +kernel) ⟨Nat.le_of_ble_eq_true rfl, Nat.le_of_ble_eq_true rfl⟩) hA hK hP hD hS [0, 1, 2, 9] [3, 4, 5, 6, 7, 8] [6, 7, 8, 0, 1, 2, 3, 4, 5, 9] rfl rfl (by decide) (by decide) (by decide) nwA_ok hN (ci := 1) rfl rfl 0 rfl hl.1 (Nat.le_of_ble_eq_true rfl) ⟨Nat.le_refl _, Nat.le_refl _⟩ rfl rfl dX1_countChanged_21 (fun (u : (Nat)) => [(p0, .inr (1, [.ref h0, .ref p1, .ref p2, .ref p3, .int (nI mn), .ref p4, .int (nI ns)])), (p1, .inl (cI, 5088, .inl (fun z_ => nI (RW z_)))), (p2, .inl (cI, 636, .inl (fun z_ => nI (LE z_)))), (p3, .inl (cI, 8, .inl (fun z_ => nI (PA z_)))), (p4, .inl (cI, 16, .inl (fun z_ => nI (NC z_)))), (h0, .inr (0, [.ref a1, .ref a2, .ref a3, .ref a4, .int (nI N), .int (nI K)])), (a1, .inl (cI, 8, .inl (fun z_ => nI (T z_)))), (a2, .inl (cI, 16, .inl (fun z_ => nI (F z_)))), (a3, .inl (cI, 16, .inl (fun z_ => nI (G z_)))), (a4, .inl (cI, 16, .inl (fun z_ => nI (C z_))))]) (fun u => rfl) (by decide) (fun r_21 u H locs hw hP hD hS => ?_)
        obtain ⟨rv_21, eu⟩ : ∃ z, z = u := ⟨_, rfl⟩
        subst eu
        have hP : va_P (dC, dI) vwCl [(p0, .inr (1, [.ref h0, .ref p1, .ref p2, .ref p3, .int (nI mn), .ref p4, .int (nI ns)])), (p1, .inl (cI, 5088, .inl (fun z_ => nI (RW z_)))), (p2, .inl (cI, 636, .inl (fun z_ => nI (LE z_)))), (p3, .inl (cI, 8, .inl (fun z_ => nI (PA z_)))), (p4, .inl (cI, 16, .inl (fun z_ => nI (NC z_)))), (h0, .inr (0, [.ref a1, .ref a2, .ref a3, .ref a4, .int (nI N), .int (nI K)])), (a1, .inl (cI, 8, .inl (fun z_ => nI (T z_)))), (a2, .inl (cI, 16, .inl (fun z_ => nI (F z_)))), (a3, .inl (cI, 16, .inl (fun z_ => nI (G z_)))), (a4, .inl (cI, 16, .inl (fun z_ => nI (C z_))))] H := hP
        have hD : va_D A [(p0, .inr (1, [.ref h0, .ref p1, .ref p2, .ref p3, .int (nI mn), .ref p4, .int (nI ns)])), (p1, .inl (cI, 5088, .inl (fun z_ => nI (RW z_)))), (p2, .inl (cI, 636, .inl (fun z_ => nI (LE z_)))), (p3, .inl (cI, 8, .inl (fun z_ => nI (PA z_)))), (p4, .inl (cI, 16, .inl (fun z_ => nI (NC z_)))), (h0, .inr (0, [.ref a1, .ref a2, .ref a3, .ref a4, .int (nI N), .int (nI K)])), (a1, .inl (cI, 8, .inl (fun z_ => nI (T z_)))), (a2, .inl (cI, 16, .inl (fun z_ => nI (F z_)))), (a3, .inl (cI, 16, .inl (fun z_ => nI (G z_)))), (a4, .inl (cI, 16, .inl (fun z_ => nI (C z_))))] := hD
        obtain ⟨er, p21_0, p21_1⟩ := hw
        have p21_0 : rv_21 = sp_cd C RW LE j := p21_0
        have p21_1 : rv_21 ≤ 72 := p21_1
        have er : r_21 = (nI rv_21) := er
        subst er
        refine lv_aload_n hx hb dX1_countChanged_24 rfl (lv_at hl 0 rfl) ?_
        refine lv_iload_n hx hb dX1_countChanged_25 rfl (lv_at hl 3 rfl) ?_
        refine lv_aload_n hx hb dX1_countChanged_26 rfl (lv_at hl 0 rfl) ?_
        refine z_get (D := (dC, dI)) (ci := 1) (v := .ref p4) (C := RX1) (T := TX1) (N := 7) hx hb hts uX1 hown hK hP 0 rfl rfl 5 (by decide) w21 rfl rfl dX1_countChanged_27 ?_
        refine z_callVi (As := [.int (nI j), .ref p4]) (rest := [.int (nI rv_21)]) (wr := [(p3, .inl (cI, 8, .inl (fun z_ => nI (PA z_)))), (h0, .inr (0, [.ref a1, .ref a2, .ref a3, .ref a4, .int (nI N), .int (nI K)])), (a1, .inl (cI, 8, .inl (fun z_ => nI (T z_)))), (a2, .inl (cI, 16, .inl (fun z_ => nI (F z_)))), (a3, .inl (cI, 16, .inl (fun z_ => nI (G z_)))), (a4, .inl (cI, 16, .inl (fun z_ => nI (C z_))))]) ⟨hx, hb, hml, hown, hts⟩ (c_X1_cardsOf l dC dI cI cJ H.size p0 p1 p2 p3 p4 h0 RW LE mn ns p4 NC j (by first | assumption | omega) (by first | assumption | omega) (by first | assumption | omega) (by first | assumption | omega)) (cwV 2 hts gX1_countChanged_X1_cardsOf rfl rfl rfl (by decide +kernel) ⟨Nat.le_of_ble_eq_true rfl, Nat.le_of_ble_eq_true rfl⟩) hA hK hP hD hS [0, 1, 2, 4] [3, 5, 6, 7, 8, 9] [6, 7, 8, 0, 9, 1, 2, 3, 4, 5] rfl rfl (by decide) (by decide) (by decide) nwA_ok hN (ci := 1) rfl rfl 0 rfl hl.1 (Nat.le_of_ble_eq_true rfl) ⟨Nat.le_refl _, Nat.le_refl _⟩ rfl rfl dX1_countChanged_30 (fun (u : (Nat)) => [(p0, .inr (1, [.ref h0, .ref p1, .ref p2, .ref p3, .int (nI mn), .ref p4, .int (nI ns)])), (p1, .inl (cI, 5088, .inl (fun z_ => nI (RW z_)))), (p2, .inl (cI, 636, .inl (fun z_ => nI (LE z_)))), (p3, .inl (cI, 8, .inl (fun z_ => nI (PA z_)))), (p4, .inl (cI, 16, .inl (fun z_ => nI (NC z_)))), (h0, .inr (0, [.ref a1, .ref a2, .ref a3, .ref a4, .int (nI N), .int (nI K)])), (a1, .inl (cI, 8, .inl (fun z_ => nI (T z_)))), (a2, .inl (cI, 16, .inl (fun z_ => nI (F z_)))), (a3, .inl (cI, 16, .inl (fun z_ => nI (G z_)))), (a4, .inl (cI, 16, .inl (fun z_ => nI (C z_))))]) (fun u => rfl) (by decide) (fun r_30 u H locs hw hP hD hS => ?_)
        obtain ⟨rv_30, eu⟩ : ∃ z, z = u := ⟨_, rfl⟩
        subst eu
        have hP : va_P (dC, dI) vwCl [(p0, .inr (1, [.ref h0, .ref p1, .ref p2, .ref p3, .int (nI mn), .ref p4, .int (nI ns)])), (p1, .inl (cI, 5088, .inl (fun z_ => nI (RW z_)))), (p2, .inl (cI, 636, .inl (fun z_ => nI (LE z_)))), (p3, .inl (cI, 8, .inl (fun z_ => nI (PA z_)))), (p4, .inl (cI, 16, .inl (fun z_ => nI (NC z_)))), (h0, .inr (0, [.ref a1, .ref a2, .ref a3, .ref a4, .int (nI N), .int (nI K)])), (a1, .inl (cI, 8, .inl (fun z_ => nI (T z_)))), (a2, .inl (cI, 16, .inl (fun z_ => nI (F z_)))), (a3, .inl (cI, 16, .inl (fun z_ => nI (G z_)))), (a4, .inl (cI, 16, .inl (fun z_ => nI (C z_))))] H := hP
        have hD : va_D A [(p0, .inr (1, [.ref h0, .ref p1, .ref p2, .ref p3, .int (nI mn), .ref p4, .int (nI ns)])), (p1, .inl (cI, 5088, .inl (fun z_ => nI (RW z_)))), (p2, .inl (cI, 636, .inl (fun z_ => nI (LE z_)))), (p3, .inl (cI, 8, .inl (fun z_ => nI (PA z_)))), (p4, .inl (cI, 16, .inl (fun z_ => nI (NC z_)))), (h0, .inr (0, [.ref a1, .ref a2, .ref a3, .ref a4, .int (nI N), .int (nI K)])), (a1, .inl (cI, 8, .inl (fun z_ => nI (T z_)))), (a2, .inl (cI, 16, .inl (fun z_ => nI (F z_)))), (a3, .inl (cI, 16, .inl (fun z_ => nI (G z_)))), (a4, .inl (cI, 16, .inl (fun z_ => nI (C z_))))] := hD
        obtain ⟨er, p30_0, p30_1⟩ := hw
        have p30_0 : rv_30 = sp_cd NC RW LE j := p30_0
        have p30_1 : rv_30 ≤ 72 := p30_1
        have er : r_30 = (nI rv_30) := er
        subst er
        refine z_isub (v := (iI (((rv_21 : Nat) : Int) - ((rv_30 : Nat) : Int)))) hx hb dX1_countChanged_33 (za_sub (iI_N _) (iI_N _)) ?_
        refine lv_istore (lv' := [(4, .int (iI (((rv_21 : Nat) : Int) - ((rv_30 : Nat) : Int)))), (0, .ref p0), (1, .int (nI lt)), (2, .int (nI g)), (3, .int (nI j))]) hx hb dX1_countChanged_34 hl (by decide) rfl (fun ls hl => ?_)
        refine lv_iload_n hx hb dX1_countChanged_36 rfl (lv_at hl 2 rfl) ?_
        refine z_if_eq (tgt := 48) hx hb dX1_countChanged_37 (by decide) (zcn_eq (a := lt) (b := 0) rfl nI_00 (by omega)) (fun c_37 => ?_) (fun c_37 => ?_)
        · skip
          refine lv_iload hx hb dX1_countChanged_48 (lv_at hl 0 rfl) ?_
          refine z_if_le (tgt := 56) hx hb dX1_countChanged_50 (by decide) (zc_le (a := ((rv_21 : Nat) : Int) - ((rv_30 : Nat) : Int)) (b := 0) rfl iI_0 (by omega)) (fun c_50 => ?_) (fun c_50 => ?_)
          · skip
            refine lv_iinc (v := (nI (j + 1))) (lv' := [(3, .int (nI (j + 1))), (4, .int (iI (((rv_21 : Nat) : Int) - ((rv_30 : Nat) : Int)))), (0, .ref p0), (1, .int (nI lt)), (2, .int (nI g))]) hx hb dX1_countChanged_56 hl (k := 4) rfl (z_incN j 1 (by decide)) (by decide) rfl (fun ls hl => ?_)
            refine lv_goto (tgt := 4) hx hb dX1_countChanged_59 (by decide) ?_
            have o_i1 : (j + 1) ≤ mn := by first | assumption | omega
            have o_i2 : g = fb_ct (sp_chg lt (sp_cd C RW LE) (sp_cd NC RW LE)) (j + 1) := by rw [fb_ct_succ, ← i2]; (first | rw [sp_chg_0 (by omega)] | rw [sp_chg_1 (by omega)]); rw [← p21_0, ← p30_0]; split <;> rename_i hz <;> simp only [decide_eq_true_eq] at hz <;> omega
            have o_i3 : g ≤ (j + 1) := by first | assumption | omega
            have o_mu : (mn - (j + 1)) < n := by omega
            exact ih4 (j + 1) g o_mu o_i1 o_i2 o_i3 H locs hP hD hS ls (lv_sub hl [2, 3, 4, 0] rfl)
          · skip
            refine lv_iinc (v := (nI (g + 1))) (lv' := [(2, .int (nI (g + 1))), (4, .int (iI (((rv_21 : Nat) : Int) - ((rv_30 : Nat) : Int)))), (0, .ref p0), (1, .int (nI lt)), (3, .int (nI j))]) hx hb dX1_countChanged_53 hl (k := 3) rfl (z_incN g 1 (by decide)) (by decide) rfl (fun ls hl => ?_)
            refine lv_iinc (v := (nI (j + 1))) (lv' := [(3, .int (nI (j + 1))), (2, .int (nI (g + 1))), (4, .int (iI (((rv_21 : Nat) : Int) - ((rv_30 : Nat) : Int)))), (0, .ref p0), (1, .int (nI lt))]) hx hb dX1_countChanged_56 hl (k := 4) rfl (z_incN j 1 (by decide)) (by decide) rfl (fun ls hl => ?_)
            refine lv_goto (tgt := 4) hx hb dX1_countChanged_59 (by decide) ?_
            have o_i1 : (j + 1) ≤ mn := by first | assumption | omega
            have o_i2 : (g + 1) = fb_ct (sp_chg lt (sp_cd C RW LE) (sp_cd NC RW LE)) (j + 1) := by rw [fb_ct_succ, ← i2]; (first | rw [sp_chg_0 (by omega)] | rw [sp_chg_1 (by omega)]); rw [← p21_0, ← p30_0]; split <;> rename_i hz <;> simp only [decide_eq_true_eq] at hz <;> omega
            have o_i3 : (g + 1) ≤ (j + 1) := by first | assumption | omega
            have o_mu : (mn - (j + 1)) < n := by omega
            exact ih4 (j + 1) (g + 1) o_mu o_i1 o_i2 o_i3 H locs hP hD hS ls (lv_sub hl [3, 4, 1, 0] rfl)
        · skip
          refine lv_iload hx hb dX1_countChanged_40 (lv_at hl 0 rfl) ?_
          refine z_if_ge (tgt := 56) hx hb dX1_countChanged_42 (by decide) (zc_le (a := 0) (b := ((rv_21 : Nat) : Int) - ((rv_30 : Nat) : Int)) iI_0 rfl (by omega)) (fun c_42 => ?_) (fun c_42 => ?_)
          · skip
            refine lv_iinc (v := (nI (j + 1))) (lv' := [(3, .int (nI (j + 1))), (4, .int (iI (((rv_21 : Nat) : Int) - ((rv_30 : Nat) : Int)))), (0, .ref p0), (1, .int (nI lt)), (2, .int (nI g))]) hx hb dX1_countChanged_56 hl (k := 4) rfl (z_incN j 1 (by decide)) (by decide) rfl (fun ls hl => ?_)
            refine lv_goto (tgt := 4) hx hb dX1_countChanged_59 (by decide) ?_
            have o_i1 : (j + 1) ≤ mn := by first | assumption | omega
            have o_i2 : g = fb_ct (sp_chg lt (sp_cd C RW LE) (sp_cd NC RW LE)) (j + 1) := by rw [fb_ct_succ, ← i2]; (first | rw [sp_chg_0 (by omega)] | rw [sp_chg_1 (by omega)]); rw [← p21_0, ← p30_0]; split <;> rename_i hz <;> simp only [decide_eq_true_eq] at hz <;> omega
            have o_i3 : g ≤ (j + 1) := by first | assumption | omega
            have o_mu : (mn - (j + 1)) < n := by omega
            exact ih4 (j + 1) g o_mu o_i1 o_i2 o_i3 H locs hP hD hS ls (lv_sub hl [2, 3, 4, 0] rfl)
          · skip
            refine lv_goto (tgt := 53) hx hb dX1_countChanged_45 (by decide) ?_
            refine lv_iinc (v := (nI (g + 1))) (lv' := [(2, .int (nI (g + 1))), (4, .int (iI (((rv_21 : Nat) : Int) - ((rv_30 : Nat) : Int)))), (0, .ref p0), (1, .int (nI lt)), (3, .int (nI j))]) hx hb dX1_countChanged_53 hl (k := 3) rfl (z_incN g 1 (by decide)) (by decide) rfl (fun ls hl => ?_)
            refine lv_iinc (v := (nI (j + 1))) (lv' := [(3, .int (nI (j + 1))), (2, .int (nI (g + 1))), (4, .int (iI (((rv_21 : Nat) : Int) - ((rv_30 : Nat) : Int)))), (0, .ref p0), (1, .int (nI lt))]) hx hb dX1_countChanged_56 hl (k := 4) rfl (z_incN j 1 (by decide)) (by decide) rfl (fun ls hl => ?_)
            refine lv_goto (tgt := 4) hx hb dX1_countChanged_59 (by decide) ?_
            have o_i1 : (j + 1) ≤ mn := by first | assumption | omega
            have o_i2 : (g + 1) = fb_ct (sp_chg lt (sp_cd C RW LE) (sp_cd NC RW LE)) (j + 1) := by rw [fb_ct_succ, ← i2]; (first | rw [sp_chg_0 (by omega)] | rw [sp_chg_1 (by omega)]); rw [← p21_0, ← p30_0]; split <;> rename_i hz <;> simp only [decide_eq_true_eq] at hz <;> omega
            have o_i3 : (g + 1) ≤ (j + 1) := by first | assumption | omega
            have o_mu : (mn - (j + 1)) < n := by omega
            exact ih4 (j + 1) (g + 1) o_mu o_i1 o_i2 o_i3 H locs hP hD hS ls (lv_sub hl [3, 4, 1, 0] rfl)
  have o_i1 : 0 ≤ mn := by first | assumption | omega
  have o_i2 : 0 = fb_ct (sp_chg lt (sp_cd C RW LE) (sp_cd NC RW LE)) 0 := by rfl
  have o_i3 : 0 ≤ 0 := by first | assumption | omega
  exact L4 ((mn - 0) + 1) 0 0 (Nat.lt_succ_self _) o_i1 o_i2 o_i3 H locs hP hD hS ls (lv_sub hl [2, 3, 1, 0] rfl)

set_option maxHeartbeats 4000000 in
set_option maxRecDepth 100000 in
theorem c_X1_cardsToReach (l : Launch) (dC : Nat → ClassId) (dI : Nat → Nat → Nat) (cI cJ : ClassId) (sz : Nat) (p0 : Nat) (p1 : Nat) (p2 : Nat) (p3 : Nat) (p4 : Nat) (h0 : Nat) (RW : Nat → Nat) (LE : Nat → Nat) (PA : Nat → Nat) (NC : Nat → Nat) (mn : Nat) (ns : Nat) (a1 : Nat) (a2 : Nat) (a3 : Nat) (a4 : Nat) (N : Nat) (K : Nat) (T : Nat → Nat) (F : Nat → Nat) (G : Nat → Nat) (C : Nat → Nat) (ar : Nat) (ab : Nat) (be : Nat) (bmn : mn ≤ 636) (bRW : ∀ i, RW i < 16) (bLE : ∀ i, LE i ≤ 8) (bF : ∀ a, F a < 8) (bT : ∀ i, T i ≤ 20) (bC : ∀ a, C a ≤ 9) (ba : ar < 16) (bab : 1 ≤ ab ∧ ab ≤ 1000) (bbe : 1 ≤ be ∧ be ≤ 1000) : Met l yX1_cardsToReach wsX1_cardsToReach (zR 1 0 0 25) (va_Pc [.ref p0, .int (nI ar), .int (nI ab), .int (nI be)] (zP (dC, dI) [(cI, .int), (cJ, .long)] [(p0, .inr (1, [.ref h0, .ref p1, .ref p2, .ref p3, .int (nI mn), .ref p4, .int (nI ns)])), (p1, .inl (cI, 5088, .inl (fun z_ => nI (RW z_)))), (p2, .inl (cI, 636, .inl (fun z_ => nI (LE z_)))), (p3, .inl (cI, 8, .inl (fun z_ => nI (PA z_)))), (p4, .inl (cI, 16, .inl (fun z_ => nI (NC z_)))), (h0, .inr (0, [.ref a1, .ref a2, .ref a3, .ref a4, .int (nI N), .int (nI K)])), (a1, .inl (cI, 8, .inl (fun z_ => nI (T z_)))), (a2, .inl (cI, 16, .inl (fun z_ => nI (F z_)))), (a3, .inl (cI, 16, .inl (fun z_ => nI (G z_)))), (a4, .inl (cI, 16, .inl (fun z_ => nI (C z_))))] sz nwA)) (va_Qi (fun (r : Int32) (u : (Int)) => r = (iI u) ∧ ((u = -9 ∧ ((∃ q, q < mn ∧ 0 < sp_nd (sp_tm T F RW LE) (sp_cd C RW LE) ab be q ∧ sp_ps RW LE q ar = false) ∨ 9 < (C ar : Int) + sp_mx (sp_nd (sp_tm T F RW LE) (sp_cd C RW LE) ab be) mn)) ∨ (u = sp_mx (sp_nd (sp_tm T F RW LE) (sp_cd C RW LE) ab be) mn ∧ (∀ q, q < mn → 0 < sp_nd (sp_tm T F RW LE) (sp_cd C RW LE) ab be q → sp_ps RW LE q ar = true) ∧ (C ar : Int) + sp_mx (sp_nd (sp_tm T F RW LE) (sp_cd C RW LE) ab be) mn ≤ 9))) (zB (dC, dI) (fun (u : (Int)) => [(p0, .inr (1, [.ref h0, .ref p1, .ref p2, .ref p3, .int (nI mn), .ref p4, .int (nI ns)])), (p1, .inl (cI, 5088, .inl (fun z_ => nI (RW z_)))), (p2, .inl (cI, 636, .inl (fun z_ => nI (LE z_)))), (p3, .inl (cI, 8, .inl (fun z_ => nI (PA z_)))), (p4, .inl (cI, 16, .inl (fun z_ => nI (NC z_)))), (h0, .inr (0, [.ref a1, .ref a2, .ref a3, .ref a4, .int (nI N), .int (nI K)])), (a1, .inl (cI, 8, .inl (fun z_ => nI (T z_)))), (a2, .inl (cI, 16, .inl (fun z_ => nI (F z_)))), (a3, .inl (cI, 16, .inl (fun z_ => nI (G z_)))), (a4, .inl (cI, 16, .inl (fun z_ => nI (C z_))))]) (va_A [(p0, .inr (1, [.ref h0, .ref p1, .ref p2, .ref p3, .int (nI mn), .ref p4, .int (nI ns)])), (p1, .inl (cI, 5088, .inl (fun z_ => nI (RW z_)))), (p2, .inl (cI, 636, .inl (fun z_ => nI (LE z_)))), (p3, .inl (cI, 8, .inl (fun z_ => nI (PA z_)))), (p4, .inl (cI, 16, .inl (fun z_ => nI (NC z_)))), (h0, .inr (0, [.ref a1, .ref a2, .ref a3, .ref a4, .int (nI N), .int (nI K)])), (a1, .inl (cI, 8, .inl (fun z_ => nI (T z_)))), (a2, .inl (cI, 16, .inl (fun z_ => nI (F z_)))), (a3, .inl (cI, 16, .inl (fun z_ => nI (G z_)))), (a4, .inl (cI, 16, .inl (fun z_ => nI (C z_))))] sz)) (va_A [(p0, .inr (1, [.ref h0, .ref p1, .ref p2, .ref p3, .int (nI mn), .ref p4, .int (nI ns)])), (p1, .inl (cI, 5088, .inl (fun z_ => nI (RW z_)))), (p2, .inl (cI, 636, .inl (fun z_ => nI (LE z_)))), (p3, .inl (cI, 8, .inl (fun z_ => nI (PA z_)))), (p4, .inl (cI, 16, .inl (fun z_ => nI (NC z_)))), (h0, .inr (0, [.ref a1, .ref a2, .ref a3, .ref a4, .int (nI N), .int (nI K)])), (a1, .inl (cI, 8, .inl (fun z_ => nI (T z_)))), (a2, .inl (cI, 16, .inl (fun z_ => nI (F z_)))), (a3, .inl (cI, 16, .inl (fun z_ => nI (G z_)))), (a4, .inl (cI, 16, .inl (fun z_ => nI (C z_))))] sz)) 0 0 (va_A [(p0, .inr (1, [.ref h0, .ref p1, .ref p2, .ref p3, .int (nI mn), .ref p4, .int (nI ns)])), (p1, .inl (cI, 5088, .inl (fun z_ => nI (RW z_)))), (p2, .inl (cI, 636, .inl (fun z_ => nI (LE z_)))), (p3, .inl (cI, 8, .inl (fun z_ => nI (PA z_)))), (p4, .inl (cI, 16, .inl (fun z_ => nI (NC z_)))), (h0, .inr (0, [.ref a1, .ref a2, .ref a3, .ref a4, .int (nI N), .int (nI K)])), (a1, .inl (cI, 8, .inl (fun z_ => nI (T z_)))), (a2, .inl (cI, 16, .inl (fun z_ => nI (F z_)))), (a3, .inl (cI, 16, .inl (fun z_ => nI (G z_)))), (a4, .inl (cI, 16, .inl (fun z_ => nI (C z_))))] sz) := by
  refine z_met_i (cc := cX1_cardsToReach) (maxL := 8) (by decide) rfl (Nat.le_of_ble_eq_true rfl) ?_
  intro p e s m args below meth c Q A ls hx hb hml hown hts hin hA hK hP hD hN hl hRET
  have hown : s.vm.findClass RX1 = some m.cls := hown
  obtain ⟨H, eH⟩ : ∃ H : Heap, H = s.heap := ⟨_, rfl⟩
  rw [← eH] at hP
  obtain ⟨locs, eL⟩ : ∃ z : List Loc, z = [] := ⟨_, rfl⟩
  rw [← eH, ← eL]
  have hS : va_S A s.heap H locs := by rw [eH, eL]; exact va_S.rf
  have hl : lv_has ls 8 [(0, .ref p0), (1, .int (nI ar)), (2, .int (nI ab)), (3, .int (nI be))] := hl
  have w28 := hts (.fieldLink RX1 28 "PullCards$Loops" "many" "I") (by decide +kernel)
  have uX1 : ∀ w ∈ wsX10, w ∈ wsX1_cardsToReach := by decide +kernel
  have w24 := hts (.fieldLink RX1 24 "PullCards$Loops" "line" "LPullCards$Line;") (by decide +kernel)
  have w65 := hts (.fieldLink RX1 65 "PullCards$Line" "cards" "[I") (by decide +kernel)
  have uX0 : ∀ w ∈ wsX00, w ∈ wsX1_cardsToReach := by decide +kernel
  refine lv_iconst (v := nI 0) hx hb dX1_cardsToReach_0 (by decide) ?_
  refine z_c0 (v := iI 0) (by decide) ?_
  refine lv_istore (lv' := [(4, .int (iI 0)), (0, .ref p0), (1, .int (nI ar)), (2, .int (nI ab)), (3, .int (nI be))]) hx hb dX1_cardsToReach_1 hl (by decide) rfl (fun ls hl => ?_)
  refine lv_iconst (v := nI 0) hx hb dX1_cardsToReach_3 (by decide) ?_
  refine lv_istore (lv' := [(5, .int (nI 0)), (4, .int (iI 0)), (0, .ref p0), (1, .int (nI ar)), (2, .int (nI ab)), (3, .int (nI be))]) hx hb dX1_cardsToReach_4 hl (by decide) rfl (fun ls hl => ?_)
  have L6 : ∀ (n : Nat) (j : Nat) (g : Int), (mn - j) < n → (j ≤ mn) → (g = sp_mx (sp_nd (sp_tm T F RW LE) (sp_cd C RW LE) ab be) j) → (∀ q, q < j → 0 < sp_nd (sp_tm T F RW LE) (sp_cd C RW LE) ab be q → sp_ps RW LE q ar = true) → (0 ≤ g ∧ g ≤ 161000) → ∀ (H : Heap) (locs : List Loc), va_P (dC, dI) vwCl [(p0, .inr (1, [.ref h0, .ref p1, .ref p2, .ref p3, .int (nI mn), .ref p4, .int (nI ns)])), (p1, .inl (cI, 5088, .inl (fun z_ => nI (RW z_)))), (p2, .inl (cI, 636, .inl (fun z_ => nI (LE z_)))), (p3, .inl (cI, 8, .inl (fun z_ => nI (PA z_)))), (p4, .inl (cI, 16, .inl (fun z_ => nI (NC z_)))), (h0, .inr (0, [.ref a1, .ref a2, .ref a3, .ref a4, .int (nI N), .int (nI K)])), (a1, .inl (cI, 8, .inl (fun z_ => nI (T z_)))), (a2, .inl (cI, 16, .inl (fun z_ => nI (F z_)))), (a3, .inl (cI, 16, .inl (fun z_ => nI (G z_)))), (a4, .inl (cI, 16, .inl (fun z_ => nI (C z_))))] H → va_D A [(p0, .inr (1, [.ref h0, .ref p1, .ref p2, .ref p3, .int (nI mn), .ref p4, .int (nI ns)])), (p1, .inl (cI, 5088, .inl (fun z_ => nI (RW z_)))), (p2, .inl (cI, 636, .inl (fun z_ => nI (LE z_)))), (p3, .inl (cI, 8, .inl (fun z_ => nI (PA z_)))), (p4, .inl (cI, 16, .inl (fun z_ => nI (NC z_)))), (h0, .inr (0, [.ref a1, .ref a2, .ref a3, .ref a4, .int (nI N), .int (nI K)])), (a1, .inl (cI, 8, .inl (fun z_ => nI (T z_)))), (a2, .inl (cI, 16, .inl (fun z_ => nI (F z_)))), (a3, .inl (cI, 16, .inl (fun z_ => nI (G z_)))), (a4, .inl (cI, 16, .inl (fun z_ => nI (C z_))))] → va_S A s.heap H locs → ∀ (ls : Array Slot), lv_has ls 8 [(0, .ref p0), (1, .int (nI ar)), (2, .int (nI ab)), (3, .int (nI be)), (4, .int (iI g)), (5, .int (nI j))] → W p l e (zR 1 0 0 25) s m args below meth c H locs 0 0 Q (F0 m 6 ls []) := by
    intro n
    induction n with
    | zero => intro j g hn; exact absurd hn (Nat.not_lt_zero _)
    | succ n ih =>
      intro j g hn i1 i2 i3 i4 H locs hP hD hS ls hl
      have ih6 := ih
      have hn6 := hn
      clear ih hn
      refine lv_iload hx hb dX1_cardsToReach_6 (lv_at hl 5 rfl) ?_
      refine lv_aload_n hx hb dX1_cardsToReach_8 rfl (lv_at hl 0 rfl) ?_
      refine z_get (D := (dC, dI)) (ci := 1) (v := .int (nI mn)) (C := RX1) (T := TX1) (N := 7) hx hb hts uX1 hown hK hP 0 rfl rfl 4 (by decide) w28 rfl rfl dX1_cardsToReach_9 ?_
      refine z_icmp_ge (tgt := 82) hx hb dX1_cardsToReach_12 (by decide) (zcn_le (a := mn) (b := j) rfl rfl (by omega)) (fun c_12 => ?_) (fun c_12 => ?_)
      · skip
        refine lv_aload_n hx hb dX1_cardsToReach_82 rfl (lv_at hl 0 rfl) ?_
        refine z_get (D := (dC, dI)) (ci := 1) (v := .ref h0) (C := RX1) (T := TX1) (N := 7) hx hb hts uX1 hown hK hP 0 rfl rfl 0 (by decide) w24 rfl rfl dX1_cardsToReach_83 ?_
        refine z_get (D := (dC, dI)) (ci := 0) (v := .ref a4) (C := RX0) (T := TX0) (N := 6) hx hb hts uX0 hown hK hP 5 rfl rfl 3 (by decide) w65 rfl rfl dX1_cardsToReach_86 ?_
        refine lv_iload_n hx hb dX1_cardsToReach_89 rfl (lv_at hl 1 rfl) ?_
        refine z_iald (v := (nI (C ar))) hx hb hK hP 9 0 rfl rfl ar rfl (by omega) rfl dX1_cardsToReach_90 ?_
        have f90_0 := bC ar
        refine lv_iload hx hb dX1_cardsToReach_91 (lv_at hl 4 rfl) ?_
        refine z_iadd (v := (iI (((C ar : Nat) : Int) + g))) hx hb dX1_cardsToReach_93 (za_add (iI_N _) rfl) ?_
        refine lv_bipush (v := nI 9) hx hb dX1_cardsToReach_94 (by decide) ?_
        refine z_icmp_le (tgt := 104) hx hb dX1_cardsToReach_96 (by decide) (zc_le (a := ((C ar : Nat) : Int) + g) (b := 9) rfl (iI_N _) (by omega)) (fun c_96 => ?_) (fun c_96 => ?_)
        · skip
          refine lv_iload hx hb dX1_cardsToReach_104 (lv_at hl 4 rfl) ?_
          have q_0 : (g = -9 ∧ ((∃ q, q < mn ∧ 0 < sp_nd (sp_tm T F RW LE) (sp_cd C RW LE) ab be q ∧ sp_ps RW LE q ar = false) ∨ 9 < (C ar : Int) + sp_mx (sp_nd (sp_tm T F RW LE) (sp_cd C RW LE) ab be) mn)) ∨ (g = sp_mx (sp_nd (sp_tm T F RW LE) (sp_cd C RW LE) ab be) mn ∧ (∀ q, q < mn → 0 < sp_nd (sp_tm T F RW LE) (sp_cd C RW LE) ab be q → sp_ps RW LE q ar = true) ∧ (C ar : Int) + sp_mx (sp_nd (sp_tm T F RW LE) (sp_cd C RW LE) ab be) mn ≤ 9) := by first | exact Or.inl ⟨rfl, Or.inr (by rw [← show j = mn from by omega, ← i2]; omega)⟩ | exact Or.inr ⟨by rw [← show j = mn from by omega, ← i2], fun q hq => i3 q (by omega), by rw [← show j = mn from by omega, ← i2]; omega⟩
          exact hRET _ ls H locs ((iI g)) (g) dX1_cardsToReach_106 ⟨rfl, q_0⟩ hP hD hS
        · skip
          refine lv_bipush (v := iI (-9)) hx hb dX1_cardsToReach_99 (by decide) ?_
          refine lv_goto (tgt := 106) hx hb dX1_cardsToReach_101 (by decide) ?_
          have q_0 : ((-9 : Int) = -9 ∧ ((∃ q, q < mn ∧ 0 < sp_nd (sp_tm T F RW LE) (sp_cd C RW LE) ab be q ∧ sp_ps RW LE q ar = false) ∨ 9 < (C ar : Int) + sp_mx (sp_nd (sp_tm T F RW LE) (sp_cd C RW LE) ab be) mn)) ∨ ((-9 : Int) = sp_mx (sp_nd (sp_tm T F RW LE) (sp_cd C RW LE) ab be) mn ∧ (∀ q, q < mn → 0 < sp_nd (sp_tm T F RW LE) (sp_cd C RW LE) ab be q → sp_ps RW LE q ar = true) ∧ (C ar : Int) + sp_mx (sp_nd (sp_tm T F RW LE) (sp_cd C RW LE) ab be) mn ≤ 9) := by first | exact Or.inl ⟨rfl, Or.inr (by rw [← show j = mn from by omega, ← i2]; omega)⟩ | exact Or.inr ⟨by rw [← show j = mn from by omega, ← i2], fun q hq => i3 q (by omega), by rw [← show j = mn from by omega, ← i2]; omega⟩
          exact hRET _ ls H locs ((iI (-9))) ((-9 : Int)) dX1_cardsToReach_106 ⟨rfl, q_0⟩ hP hD hS
      · skip
        refine lv_aload_n hx hb dX1_cardsToReach_15 rfl (lv_at hl 0 rfl) ?_
        refine lv_iload hx hb dX1_cardsToReach_16 (lv_at hl 5 rfl) ?_
        refine z_callVi (As := [.int (nI j)]) (rest := []) (wr := []) ⟨hx, hb, hml, hown, hts⟩ (c_X1_timeOf l dC dI cI cJ H.size p0 p1 p2 p3 p4 h0 RW LE PA NC mn ns a1 a2 a3 a4 N K T F G C j (by first | assumption | omega) (by first | assumption | omega) (by first | assumption | omega) (by first | assumption | omega) (by first | assumption | omega)) (cwV 1 hts gX1_cardsToReach_X1_timeOf rfl rfl rfl (by decide +kernel) ⟨Nat.le_of_ble_eq_true rfl, Nat.le_of_ble_eq_true rfl⟩) hA hK hP hD hS [0, 1, 2, 3, 4, 5, 6, 7, 8, 9] [] [0, 1, 2, 3, 4, 5, 6, 7, 8, 9] rfl rfl (by decide) (by decide) (by decide) nwA_ok hN (ci := 1) rfl rfl 0 rfl hl.1 (Nat.le_of_ble_eq_true rfl) ⟨Nat.le_refl _, Nat.le_refl _⟩ rfl rfl dX1_cardsToReach_18 (fun (u : (Nat)) => [(p0, .inr (1, [.ref h0, .ref p1, .ref p2, .ref p3, .int (nI mn), .ref p4, .int (nI ns)])), (p1, .inl (cI, 5088, .inl (fun z_ => nI (RW z_)))), (p2, .inl (cI, 636, .inl (fun z_ => nI (LE z_)))), (p3, .inl (cI, 8, .inl (fun z_ => nI (PA z_)))), (p4, .inl (cI, 16, .inl (fun z_ => nI (NC z_)))), (h0, .inr (0, [.ref a1, .ref a2, .ref a3, .ref a4, .int (nI N), .int (nI K)])), (a1, .inl (cI, 8, .inl (fun z_ => nI (T z_)))), (a2, .inl (cI, 16, .inl (fun z_ => nI (F z_)))), (a3, .inl (cI, 16, .inl (fun z_ => nI (G z_)))), (a4, .inl (cI, 16, .inl (fun z_ => nI (C z_))))]) (fun u => rfl) (by decide) (fun r_18 u H locs hw hP hD hS => ?_)
        obtain ⟨rv_18, eu⟩ : ∃ z, z = u := ⟨_, rfl⟩
        subst eu
        have hP : va_P (dC, dI) vwCl [(p0, .inr (1, [.ref h0, .ref p1, .ref p2, .ref p3, .int (nI mn), .ref p4, .int (nI ns)])), (p1, .inl (cI, 5088, .inl (fun z_ => nI (RW z_)))), (p2, .inl (cI, 636, .inl (fun z_ => nI (LE z_)))), (p3, .inl (cI, 8, .inl (fun z_ => nI (PA z_)))), (p4, .inl (cI, 16, .inl (fun z_ => nI (NC z_)))), (h0, .inr (0, [.ref a1, .ref a2, .ref a3, .ref a4, .int (nI N), .int (nI K)])), (a1, .inl (cI, 8, .inl (fun z_ => nI (T z_)))), (a2, .inl (cI, 16, .inl (fun z_ => nI (F z_)))), (a3, .inl (cI, 16, .inl (fun z_ => nI (G z_)))), (a4, .inl (cI, 16, .inl (fun z_ => nI (C z_))))] H := hP
        have hD : va_D A [(p0, .inr (1, [.ref h0, .ref p1, .ref p2, .ref p3, .int (nI mn), .ref p4, .int (nI ns)])), (p1, .inl (cI, 5088, .inl (fun z_ => nI (RW z_)))), (p2, .inl (cI, 636, .inl (fun z_ => nI (LE z_)))), (p3, .inl (cI, 8, .inl (fun z_ => nI (PA z_)))), (p4, .inl (cI, 16, .inl (fun z_ => nI (NC z_)))), (h0, .inr (0, [.ref a1, .ref a2, .ref a3, .ref a4, .int (nI N), .int (nI K)])), (a1, .inl (cI, 8, .inl (fun z_ => nI (T z_)))), (a2, .inl (cI, 16, .inl (fun z_ => nI (F z_)))), (a3, .inl (cI, 16, .inl (fun z_ => nI (G z_)))), (a4, .inl (cI, 16, .inl (fun z_ => nI (C z_))))] := hD
        obtain ⟨er, p18_0, p18_1⟩ := hw
        have p18_0 : rv_18 = sp_tm T F RW LE j := p18_0
        have p18_1 : rv_18 ≤ 160 := p18_1
        have er : r_18 = (nI rv_18) := er
        subst er
        refine lv_iload_n hx hb dX1_cardsToReach_21 rfl (lv_at hl 3 rfl) ?_
        refine z_imul (v := (nI (rv_18 * be))) hx hb dX1_cardsToReach_22 (pk_mul _ _) ?_
        refine lv_iload_n hx hb dX1_cardsToReach_23 rfl (lv_at hl 2 rfl) ?_
        refine z_iadd (v := (nI ((rv_18 * be) + ab))) hx hb dX1_cardsToReach_24 (nI_add _ _) ?_
        refine lv_iconst (v := nI 1) hx hb dX1_cardsToReach_25 (by decide) ?_
        have m1 := Nat.mul_le_mul p18_1 bbe.2
        refine z_isub (v := (nI (((rv_18 * be) + ab) - 1))) hx hb dX1_cardsToReach_26 (pk_sub (by omega)) ?_
        refine lv_iload_n hx hb dX1_cardsToReach_27 rfl (lv_at hl 2 rfl) ?_
        refine z_idiv (v := nI ((((rv_18 * be) + ab) - 1) / ab)) hx hb dX1_cardsToReach_28 (zn_ne0 (b := ab) rfl (by omega)) (zn_div rfl rfl (by omega)) ?_
        have m2 : (((((rv_18 * be) + ab) - 1) / ab)) ≤ 161000 := Nat.le_trans (Nat.div_le_self _ _) (by omega)
        obtain ⟨qn, eqn⟩ : ∃ z : Nat, z = ((((rv_18 * be) + ab) - 1) / ab) := ⟨_, rfl⟩
        refine z_c0 (v := nI qn) (by rw [eqn]) ?_
        refine lv_istore (lv' := [(6, .int (nI qn)), (0, .ref p0), (1, .int (nI ar)), (2, .int (nI ab)), (3, .int (nI be)), (4, .int (iI g)), (5, .int (nI j))]) hx hb dX1_cardsToReach_29 hl (by decide) rfl (fun ls hl => ?_)
        rw [← eqn] at m2
        refine lv_iload hx hb dX1_cardsToReach_31 (lv_at hl 0 rfl) ?_
        refine lv_aload_n hx hb dX1_cardsToReach_33 rfl (lv_at hl 1 rfl) ?_
        refine lv_iload hx hb dX1_cardsToReach_34 (lv_at hl 6 rfl) ?_
        refine lv_aload_n hx hb dX1_cardsToReach_36 rfl (lv_at hl 1 rfl) ?_
        refine z_get (D := (dC, dI)) (ci := 1) (v := .ref h0) (C := RX1) (T := TX1) (N := 7) hx hb hts uX1 hown hK hP 0 rfl rfl 0 (by decide) w24 rfl rfl dX1_cardsToReach_37 ?_
        refine z_get (D := (dC, dI)) (ci := 0) (v := .ref a4) (C := RX0) (T := TX0) (N := 6) hx hb hts uX0 hown hK hP 5 rfl rfl 3 (by decide) w65 rfl rfl dX1_cardsToReach_40 ?_
        refine z_callVi (As := [.int (nI j), .ref a4]) (rest := [.int (nI qn)]) (wr := [(p3, .inl (cI, 8, .inl (fun z_ => nI (PA z_)))), (p4, .inl (cI, 16, .inl (fun z_ => nI (NC z_)))), (h0, .inr (0, [.ref a1, .ref a2, .ref a3, .ref a4, .int (nI N), .int (nI K)])), (a1, .inl (cI, 8, .inl (fun z_ => nI (T z_)))), (a2, .inl (cI, 16, .inl (fun z_ => nI (F z_)))), (a3, .inl (cI, 16, .inl (fun z_ => nI (G z_))))]) ⟨hx, hb, hml, hown, hts⟩ (c_X1_cardsOf l dC dI cI cJ H.size p0 p1 p2 p3 p4 h0 RW LE mn ns a4 C j (by first | assumption | omega) (by first | assumption | omega) (by first | assumption | omega) (by first | assumption | omega)) (cwV 2 hts gX1_cardsToReach_X1_cardsOf rfl rfl rfl (by decide +kernel) ⟨Nat.le_of_ble_eq_true rfl, Nat.le_of_ble_eq_true rfl⟩) hA hK hP hD hS [0, 1, 2, 9] [3, 4, 5, 6, 7, 8] [6, 7, 8, 0, 1, 2, 3, 4, 5, 9] rfl rfl (by decide) (by decide) (by decide) nwA_ok hN (ci := 1) rfl rfl 0 rfl hl.1 (Nat.le_of_ble_eq_true rfl) ⟨Nat.le_refl _, Nat.le_refl _⟩ rfl rfl dX1_cardsToReach_43 (fun (u : (Nat)) => [(p0, .inr (1, [.ref h0, .ref p1, .ref p2, .ref p3, .int (nI mn), .ref p4, .int (nI ns)])), (p1, .inl (cI, 5088, .inl (fun z_ => nI (RW z_)))), (p2, .inl (cI, 636, .inl (fun z_ => nI (LE z_)))), (p3, .inl (cI, 8, .inl (fun z_ => nI (PA z_)))), (p4, .inl (cI, 16, .inl (fun z_ => nI (NC z_)))), (h0, .inr (0, [.ref a1, .ref a2, .ref a3, .ref a4, .int (nI N), .int (nI K)])), (a1, .inl (cI, 8, .inl (fun z_ => nI (T z_)))), (a2, .inl (cI, 16, .inl (fun z_ => nI (F z_)))), (a3, .inl (cI, 16, .inl (fun z_ => nI (G z_)))), (a4, .inl (cI, 16, .inl (fun z_ => nI (C z_))))]) (fun u => rfl) (by decide) (fun r_43 u H locs hw hP hD hS => ?_)
        obtain ⟨rv_43, eu⟩ : ∃ z, z = u := ⟨_, rfl⟩
        subst eu
        have hP : va_P (dC, dI) vwCl [(p0, .inr (1, [.ref h0, .ref p1, .ref p2, .ref p3, .int (nI mn), .ref p4, .int (nI ns)])), (p1, .inl (cI, 5088, .inl (fun z_ => nI (RW z_)))), (p2, .inl (cI, 636, .inl (fun z_ => nI (LE z_)))), (p3, .inl (cI, 8, .inl (fun z_ => nI (PA z_)))), (p4, .inl (cI, 16, .inl (fun z_ => nI (NC z_)))), (h0, .inr (0, [.ref a1, .ref a2, .ref a3, .ref a4, .int (nI N), .int (nI K)])), (a1, .inl (cI, 8, .inl (fun z_ => nI (T z_)))), (a2, .inl (cI, 16, .inl (fun z_ => nI (F z_)))), (a3, .inl (cI, 16, .inl (fun z_ => nI (G z_)))), (a4, .inl (cI, 16, .inl (fun z_ => nI (C z_))))] H := hP
        have hD : va_D A [(p0, .inr (1, [.ref h0, .ref p1, .ref p2, .ref p3, .int (nI mn), .ref p4, .int (nI ns)])), (p1, .inl (cI, 5088, .inl (fun z_ => nI (RW z_)))), (p2, .inl (cI, 636, .inl (fun z_ => nI (LE z_)))), (p3, .inl (cI, 8, .inl (fun z_ => nI (PA z_)))), (p4, .inl (cI, 16, .inl (fun z_ => nI (NC z_)))), (h0, .inr (0, [.ref a1, .ref a2, .ref a3, .ref a4, .int (nI N), .int (nI K)])), (a1, .inl (cI, 8, .inl (fun z_ => nI (T z_)))), (a2, .inl (cI, 16, .inl (fun z_ => nI (F z_)))), (a3, .inl (cI, 16, .inl (fun z_ => nI (G z_)))), (a4, .inl (cI, 16, .inl (fun z_ => nI (C z_))))] := hD
        obtain ⟨er, p43_0, p43_1⟩ := hw
        have p43_0 : rv_43 = sp_cd C RW LE j := p43_0
        have p43_1 : rv_43 ≤ 72 := p43_1
        have er : r_43 = (nI rv_43) := er
        subst er
        refine z_isub (v := (iI (((qn : Nat) : Int) - ((rv_43 : Nat) : Int)))) hx hb dX1_cardsToReach_46 (za_sub (iI_N _) (iI_N _)) ?_
        refine lv_istore (lv' := [(7, .int (iI (((qn : Nat) : Int) - ((rv_43 : Nat) : Int)))), (6, .int (nI qn)), (0, .ref p0), (1, .int (nI ar)), (2, .int (nI ab)), (3, .int (nI be)), (4, .int (iI g)), (5, .int (nI j))]) hx hb dX1_cardsToReach_47 hl (by decide) rfl (fun ls hl => ?_)
        have hnd : sp_nd (sp_tm T F RW LE) (sp_cd C RW LE) ab be j = (((qn : Nat) : Int) - ((rv_43 : Nat) : Int)) := by unfold sp_nd; rw [← p18_0, ← p43_0, eqn]
        refine lv_iload hx hb dX1_cardsToReach_49 (lv_at hl 0 rfl) ?_
        refine z_if_le (tgt := 67) hx hb dX1_cardsToReach_51 (by decide) (zc_le (a := ((qn : Nat) : Int) - ((rv_43 : Nat) : Int)) (b := 0) rfl iI_0 (by omega)) (fun c_51 => ?_) (fun c_51 => ?_)
        · skip
          refine lv_iload hx hb dX1_cardsToReach_67 (lv_at hl 6 rfl) ?_
          refine lv_iload hx hb dX1_cardsToReach_69 (lv_at hl 0 rfl) ?_
          refine va_mmax hx hb (by rw [hml, hl.1]) hown (hts (.methodLink RX1 86 Lib.Math.max.name) (by decide +kernel)) (hts (.static Lib.Math.max.name) (by decide +kernel)) (hts (.initialized "java/lang/Math") (by decide +kernel)) (hts (.code Lib.Math.max.name Lib.Math.max.code 2 (some .int)) (by decide +kernel)) (Nat.le_of_ble_eq_true rfl) (Nat.le_of_ble_eq_true rfl) (Nat.zero_le _) (Nat.zero_le _) dX1_cardsToReach_71 ?_
          refine z_c0 (v := iI (max g (((qn : Nat) : Int) - ((rv_43 : Nat) : Int)))) (za_max rfl rfl (by omega)) ?_
          refine lv_istore (lv' := [(4, .int (iI (max g (((qn : Nat) : Int) - ((rv_43 : Nat) : Int))))), (7, .int (iI (((qn : Nat) : Int) - ((rv_43 : Nat) : Int)))), (6, .int (nI qn)), (0, .ref p0), (1, .int (nI ar)), (2, .int (nI ab)), (3, .int (nI be)), (5, .int (nI j))]) hx hb dX1_cardsToReach_74 hl (by decide) rfl (fun ls hl => ?_)
          refine lv_iinc (v := (nI (j + 1))) (lv' := [(5, .int (nI (j + 1))), (4, .int (iI (max g (((qn : Nat) : Int) - ((rv_43 : Nat) : Int))))), (7, .int (iI (((qn : Nat) : Int) - ((rv_43 : Nat) : Int)))), (6, .int (nI qn)), (0, .ref p0), (1, .int (nI ar)), (2, .int (nI ab)), (3, .int (nI be))]) hx hb dX1_cardsToReach_76 hl (k := 7) rfl (z_incN j 1 (by decide)) (by decide) rfl (fun ls hl => ?_)
          refine lv_goto (tgt := 6) hx hb dX1_cardsToReach_79 (by decide) ?_
          have o_i1 : (j + 1) ≤ mn := by first | assumption | omega
          have o_i2 : (max g (((qn : Nat) : Int) - ((rv_43 : Nat) : Int))) = sp_mx (sp_nd (sp_tm T F RW LE) (sp_cd C RW LE) ab be) (j + 1) := by rw [sp_mx_s, ← i2, hnd]
          have o_i3 : ∀ q, q < (j + 1) → 0 < sp_nd (sp_tm T F RW LE) (sp_cd C RW LE) ab be q → sp_ps RW LE q ar = true := by exact lt_s i3 (fun hq => by first | exact c_58 | (rw [hnd] at hq; omega))
          have o_i4 : 0 ≤ (max g (((qn : Nat) : Int) - ((rv_43 : Nat) : Int))) ∧ (max g (((qn : Nat) : Int) - ((rv_43 : Nat) : Int))) ≤ 161000 := by first | assumption | omega
          have o_mu : (mn - (j + 1)) < n := by omega
          exact ih6 (j + 1) (max g (((qn : Nat) : Int) - ((rv_43 : Nat) : Int))) o_mu o_i1 o_i2 o_i3 o_i4 H locs hP hD hS ls (lv_sub hl [4, 5, 6, 7, 1, 0] rfl)
        · skip
          refine lv_aload_n hx hb dX1_cardsToReach_54 rfl (lv_at hl 2 rfl) ?_
          refine lv_iload hx hb dX1_cardsToReach_55 (lv_at hl 7 rfl) ?_
          refine lv_iload_n hx hb dX1_cardsToReach_57 rfl (lv_at hl 3 rfl) ?_
          refine z_callVi (As := [.int (nI j), .int (nI ar)]) (rest := []) (wr := [(p3, .inl (cI, 8, .inl (fun z_ => nI (PA z_)))), (p4, .inl (cI, 16, .inl (fun z_ => nI (NC z_)))), (h0, .inr (0, [.ref a1, .ref a2, .ref a3, .ref a4, .int (nI N), .int (nI K)])), (a1, .inl (cI, 8, .inl (fun z_ => nI (T z_)))), (a2, .inl (cI, 16, .inl (fun z_ => nI (F z_)))), (a3, .inl (cI, 16, .inl (fun z_ => nI (G z_)))), (a4, .inl (cI, 16, .inl (fun z_ => nI (C z_))))]) ⟨hx, hb, hml, hown, hts⟩ (c_X1_passes l dC dI cI cJ H.size p0 p1 p2 p3 p4 h0 RW LE mn ns j ar (by first | assumption | omega) (by first | assumption | omega) (by first | assumption | omega) (by first | assumption | omega)) (cwV 2 hts gX1_cardsToReach_X1_passes rfl rfl rfl (by decide +kernel) ⟨Nat.le_of_ble_eq_true rfl, Nat.le_of_ble_eq_true rfl⟩) hA hK hP hD hS [0, 1, 2] [3, 4, 5, 6, 7, 8, 9] [7, 8, 9, 0, 1, 2, 3, 4, 5, 6] rfl rfl (by decide) (by decide) (by decide) nwA_ok hN (ci := 1) rfl rfl 0 rfl hl.1 (Nat.le_of_ble_eq_true rfl) ⟨Nat.le_refl _, Nat.le_refl _⟩ rfl rfl dX1_cardsToReach_58 (fun (u : (Nat)) => [(p0, .inr (1, [.ref h0, .ref p1, .ref p2, .ref p3, .int (nI mn), .ref p4, .int (nI ns)])), (p1, .inl (cI, 5088, .inl (fun z_ => nI (RW z_)))), (p2, .inl (cI, 636, .inl (fun z_ => nI (LE z_)))), (p3, .inl (cI, 8, .inl (fun z_ => nI (PA z_)))), (p4, .inl (cI, 16, .inl (fun z_ => nI (NC z_)))), (h0, .inr (0, [.ref a1, .ref a2, .ref a3, .ref a4, .int (nI N), .int (nI K)])), (a1, .inl (cI, 8, .inl (fun z_ => nI (T z_)))), (a2, .inl (cI, 16, .inl (fun z_ => nI (F z_)))), (a3, .inl (cI, 16, .inl (fun z_ => nI (G z_)))), (a4, .inl (cI, 16, .inl (fun z_ => nI (C z_))))]) (fun u => rfl) (by decide) (fun r_58 u H locs hw hP hD hS => ?_)
          obtain ⟨rv_58, eu⟩ : ∃ z, z = u := ⟨_, rfl⟩
          subst eu
          have hP : va_P (dC, dI) vwCl [(p0, .inr (1, [.ref h0, .ref p1, .ref p2, .ref p3, .int (nI mn), .ref p4, .int (nI ns)])), (p1, .inl (cI, 5088, .inl (fun z_ => nI (RW z_)))), (p2, .inl (cI, 636, .inl (fun z_ => nI (LE z_)))), (p3, .inl (cI, 8, .inl (fun z_ => nI (PA z_)))), (p4, .inl (cI, 16, .inl (fun z_ => nI (NC z_)))), (h0, .inr (0, [.ref a1, .ref a2, .ref a3, .ref a4, .int (nI N), .int (nI K)])), (a1, .inl (cI, 8, .inl (fun z_ => nI (T z_)))), (a2, .inl (cI, 16, .inl (fun z_ => nI (F z_)))), (a3, .inl (cI, 16, .inl (fun z_ => nI (G z_)))), (a4, .inl (cI, 16, .inl (fun z_ => nI (C z_))))] H := hP
          have hD : va_D A [(p0, .inr (1, [.ref h0, .ref p1, .ref p2, .ref p3, .int (nI mn), .ref p4, .int (nI ns)])), (p1, .inl (cI, 5088, .inl (fun z_ => nI (RW z_)))), (p2, .inl (cI, 636, .inl (fun z_ => nI (LE z_)))), (p3, .inl (cI, 8, .inl (fun z_ => nI (PA z_)))), (p4, .inl (cI, 16, .inl (fun z_ => nI (NC z_)))), (h0, .inr (0, [.ref a1, .ref a2, .ref a3, .ref a4, .int (nI N), .int (nI K)])), (a1, .inl (cI, 8, .inl (fun z_ => nI (T z_)))), (a2, .inl (cI, 16, .inl (fun z_ => nI (F z_)))), (a3, .inl (cI, 16, .inl (fun z_ => nI (G z_)))), (a4, .inl (cI, 16, .inl (fun z_ => nI (C z_))))] := hD
          obtain ⟨er, p58_0⟩ := hw
          have p58_0 : (rv_58 = 1 ∧ sp_ps RW LE j ar = true) ∨ (rv_58 = 0 ∧ sp_ps RW LE j ar = false) := p58_0
          have er : r_58 = (nI rv_58) := er
          subst er
          rcases p58_0 with ⟨h58, c_58⟩ | ⟨h58, c_58⟩
          · skip
            subst h58
            refine lv_if_ne (tgt := 67) hx hb dX1_cardsToReach_61 (by decide) (fun _ => ?_) (fun c_x => absurd c_x (by decide))
            refine lv_iload hx hb dX1_cardsToReach_67 (lv_at hl 6 rfl) ?_
            refine lv_iload hx hb dX1_cardsToReach_69 (lv_at hl 0 rfl) ?_
            refine va_mmax hx hb (by rw [hml, hl.1]) hown (hts (.methodLink RX1 86 Lib.Math.max.name) (by decide +kernel)) (hts (.static Lib.Math.max.name) (by decide +kernel)) (hts (.initialized "java/lang/Math") (by decide +kernel)) (hts (.code Lib.Math.max.name Lib.Math.max.code 2 (some .int)) (by decide +kernel)) (Nat.le_of_ble_eq_true rfl) (Nat.le_of_ble_eq_true rfl) (Nat.zero_le _) (Nat.zero_le _) dX1_cardsToReach_71 ?_
            refine z_c0 (v := iI (max g (((qn : Nat) : Int) - ((rv_43 : Nat) : Int)))) (za_max rfl rfl (by omega)) ?_
            refine lv_istore (lv' := [(4, .int (iI (max g (((qn : Nat) : Int) - ((rv_43 : Nat) : Int))))), (7, .int (iI (((qn : Nat) : Int) - ((rv_43 : Nat) : Int)))), (6, .int (nI qn)), (0, .ref p0), (1, .int (nI ar)), (2, .int (nI ab)), (3, .int (nI be)), (5, .int (nI j))]) hx hb dX1_cardsToReach_74 hl (by decide) rfl (fun ls hl => ?_)
            refine lv_iinc (v := (nI (j + 1))) (lv' := [(5, .int (nI (j + 1))), (4, .int (iI (max g (((qn : Nat) : Int) - ((rv_43 : Nat) : Int))))), (7, .int (iI (((qn : Nat) : Int) - ((rv_43 : Nat) : Int)))), (6, .int (nI qn)), (0, .ref p0), (1, .int (nI ar)), (2, .int (nI ab)), (3, .int (nI be))]) hx hb dX1_cardsToReach_76 hl (k := 7) rfl (z_incN j 1 (by decide)) (by decide) rfl (fun ls hl => ?_)
            refine lv_goto (tgt := 6) hx hb dX1_cardsToReach_79 (by decide) ?_
            have o_i1 : (j + 1) ≤ mn := by first | assumption | omega
            have o_i2 : (max g (((qn : Nat) : Int) - ((rv_43 : Nat) : Int))) = sp_mx (sp_nd (sp_tm T F RW LE) (sp_cd C RW LE) ab be) (j + 1) := by rw [sp_mx_s, ← i2, hnd]
            have o_i3 : ∀ q, q < (j + 1) → 0 < sp_nd (sp_tm T F RW LE) (sp_cd C RW LE) ab be q → sp_ps RW LE q ar = true := by exact lt_s i3 (fun hq => by first | exact c_58 | (rw [hnd] at hq; omega))
            have o_i4 : 0 ≤ (max g (((qn : Nat) : Int) - ((rv_43 : Nat) : Int))) ∧ (max g (((qn : Nat) : Int) - ((rv_43 : Nat) : Int))) ≤ 161000 := by first | assumption | omega
            have o_mu : (mn - (j + 1)) < n := by omega
            exact ih6 (j + 1) (max g (((qn : Nat) : Int) - ((rv_43 : Nat) : Int))) o_mu o_i1 o_i2 o_i3 o_i4 H locs hP hD hS ls (lv_sub hl [4, 5, 6, 7, 1, 0] rfl)
          · skip
            subst h58
            refine lv_if_ne (tgt := 67) hx hb dX1_cardsToReach_61 (by decide) (fun c_x => absurd c_x (by decide)) (fun _ => ?_)
            refine lv_bipush (v := iI (-9)) hx hb dX1_cardsToReach_64 (by decide) ?_
            have q_0 : ((-9 : Int) = -9 ∧ ((∃ q, q < mn ∧ 0 < sp_nd (sp_tm T F RW LE) (sp_cd C RW LE) ab be q ∧ sp_ps RW LE q ar = false) ∨ 9 < (C ar : Int) + sp_mx (sp_nd (sp_tm T F RW LE) (sp_cd C RW LE) ab be) mn)) ∨ ((-9 : Int) = sp_mx (sp_nd (sp_tm T F RW LE) (sp_cd C RW LE) ab be) mn ∧ (∀ q, q < mn → 0 < sp_nd (sp_tm T F RW LE) (sp_cd C RW LE) ab be q → sp_ps RW LE q ar = true) ∧ (C ar : Int) + sp_mx (sp_nd (sp_tm T F RW LE) (sp_cd C RW LE) ab be) mn ≤ 9) := by exact Or.inl ⟨rfl, Or.inl ⟨j, by omega, by rw [hnd]; omega, c_58⟩⟩
            exact hRET _ ls H locs ((iI (-9))) ((-9 : Int)) dX1_cardsToReach_66 ⟨rfl, q_0⟩ hP hD hS
  have o_i1 : 0 ≤ mn := by first | assumption | omega
  have o_i2 : (0 : Int) = sp_mx (sp_nd (sp_tm T F RW LE) (sp_cd C RW LE) ab be) 0 := by rfl
  have o_i3 : ∀ q, q < 0 → 0 < sp_nd (sp_tm T F RW LE) (sp_cd C RW LE) ab be q → sp_ps RW LE q ar = true := by intro q h; omega
  have o_i4 : 0 ≤ (0 : Int) ∧ (0 : Int) ≤ 161000 := by first | assumption | omega
  exact L6 ((mn - 0) + 1) 0 (0 : Int) (Nat.lt_succ_self _) o_i1 o_i2 o_i3 o_i4 H locs hP hD hS ls (lv_sub hl [2, 3, 4, 5, 1, 0] rfl)
