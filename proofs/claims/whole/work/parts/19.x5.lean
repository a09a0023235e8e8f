set_option maxHeartbeats 4000000 in
set_option maxRecDepth 100000 in
theorem c_X5_commonDivisor (l : Launch) (dC : Nat → ClassId) (dI : Nat → Nat → Nat) (cI cJ : ClassId) (sz : Nat) (a : Nat) (b : Nat) (ba : a ≤ 1125899906842624) (bb : 1 ≤ b ∧ b ≤ 4398046511104) : Met l yX5_commonDivisor wsX5_commonDivisor (zR 1 0 0 27) (va_Pc [.long (lN a), .long (lN b)] (zP (dC, dI) [(cI, .int), (cJ, .long)] [] sz nwA)) (va_Ql (fun (r : Int64) (u : (Nat)) => r = (lN u) ∧ (u = Nat.gcd a b)) (zB (dC, dI) (fun (u : (Nat)) => []) (va_A [] sz)) (va_A [] sz)) 0 0 (va_A [] sz) := by
  refine z_met_l (cc := cX5_commonDivisor) (maxL := 11) (by decide) rfl (Nat.le_of_ble_eq_true rfl) ?_
  intro p e s m args below meth c Q A ls hx hb hml hown hts hin hA hK hP hD hN hl hRET
  have hown : s.vm.findClass RX5 = some m.cls := hown
  obtain ⟨H, eH⟩ : ∃ H : Heap, H = s.heap := ⟨_, rfl⟩
  rw [← eH] at hP
  obtain ⟨locs, eL⟩ : ∃ z : List Loc, z = [] := ⟨_, rfl⟩
  rw [← eH, ← eL]
  have hS : va_S A s.heap H locs := by rw [eH, eL]; exact va_S.rf
  have hl : lv_has ls 11 [(0, .long (lN a)), (2, .long (lN b))] := hl
  have hab : a * b < 2 ^ 98 := Nat.lt_of_le_of_lt (Nat.mul_le_mul ba bb.2) (by decide)
  have hg1 : 1 ≤ Nat.gcd a b := Nat.gcd_pos_of_pos_right a (by omega)
  refine lv_lload_n hx hb dX5_commonDivisor_0 rfl (lv_at hl 0 rfl) ?_
  refine lv_lstore (lv' := [(4, .long (lN a)), (0, .long (lN a)), (2, .long (lN b))]) hx hb dX5_commonDivisor_1 hl (by decide) rfl (fun ls hl => ?_)
  refine lv_lload_n hx hb dX5_commonDivisor_3 rfl (lv_at hl 2 rfl) ?_
  refine lv_lstore (lv' := [(6, .long (lN b)), (4, .long (lN a)), (0, .long (lN a)), (2, .long (lN b))]) hx hb dX5_commonDivisor_4 hl (by decide) rfl (fun ls hl => ?_)
  refine lv_iconst (v := nI 0) hx hb dX5_commonDivisor_6 (by decide) ?_
  refine lv_istore (lv' := [(8, .int (nI 0)), (6, .long (lN b)), (4, .long (lN a)), (0, .long (lN a)), (2, .long (lN b))]) hx hb dX5_commonDivisor_7 hl (by decide) rfl (fun ls hl => ?_)
  have L9 : ∀ (n9 : Nat) (st : Nat) (x : Nat) (y : Nat), (100 - st) < n9 → (st ≤ 100) → (sp_eu a b st x y) → (Nat.gcd x y = Nat.gcd a b) → (x ≤ 1125899906842624) → (y ≤ 1125899906842624) → ∀ (H : Heap) (locs : List Loc), va_P (dC, dI) vwCl [] H → va_D A [] → va_S A s.heap H locs → ∀ (ls : Array Slot), lv_has ls 11 [(0, .long (lN a)), (2, .long (lN b)), (4, .long (lN x)), (6, .long (lN y)), (8, .int (nI st))] → W p l e (zR 1 0 0 27) s m args below meth c H locs 0 0 Q (F0 m 9 ls []) := by
    intro n9
    induction n9 with
    | zero => intro st x y hn; exact absurd hn (Nat.not_lt_zero _)
    | succ n9 ih =>
      intro st x y hn i1 i2 i3 i4 i5 H locs hP hD hS ls hl
      have ih9 := ih
      have hn9 := hn
      clear ih hn
      refine lv_iload hx hb dX5_commonDivisor_9 (lv_at hl 4 rfl) ?_
      refine lv_bipush (v := nI 100) hx hb dX5_commonDivisor_11 (by decide) ?_
      refine z_icmp_ge (tgt := 44) hx hb dX5_commonDivisor_13 (by decide) (zcn_le (a := 100) (b := st) rfl rfl (by omega)) (fun c_13 => ?_) (fun c_13 => ?_)
      · skip
        have hy0 : y = 0 := by first | omega | (rw [show st = 100 by omega] at i2; exact sp_eu_end i2 hab)
        have hx0 : x = Nat.gcd a b := by rw [← i3, hy0, Nat.gcd_zero_right]
        refine lv_lconst (v := lN 1) hx hb dX5_commonDivisor_44 (by decide) ?_
        refine lv_lload hx hb dX5_commonDivisor_45 (lv_at hl 2 rfl) ?_
        refine va_mmax_long hx hb (by rw [hml, hl.1]) hown (hts (.methodLink RX5 195 Lib.MathLoose.max_long.x) (by decide +kernel)) (hts (.static Lib.MathLoose.max_long.x) (by decide +kernel)) (hts (.initialized "java/lang/Math") (by decide +kernel)) (hts (.code Lib.MathLoose.max_long.x Lib.MathLoose.max_long.code 4 (some .long)) (by decide +kernel)) (Nat.le_of_ble_eq_true rfl) (Nat.le_of_ble_eq_true rfl) (Nat.zero_le _) (Nat.zero_le _) dX5_commonDivisor_47 ?_
        refine z_l0 (v := lN (max 1 x)) (zn_lmax (by omega)) ?_
        have q_0 : (max 1 x) = Nat.gcd a b := by rw [← hx0]; omega
        exact hRET _ ls H locs ((lN (max 1 x))) (max 1 x) dX5_commonDivisor_50 ⟨rfl, q_0⟩ hP hD hS
      · skip
        refine lv_lload hx hb dX5_commonDivisor_16 (lv_at hl 3 rfl) ?_
        refine lv_lconst (v := lN 0) hx hb dX5_commonDivisor_18 (by decide) ?_
        refine W.lcmp hx hb dX5_commonDivisor_19 ?_
        refine z_if_le (tgt := 44) hx hb dX5_commonDivisor_20 (by decide) ((zm_le _ _).trans (not_congr (zl_lt (a := 0) (b := ((y : Nat) : Int)) (lI_N _) (lI_N _) (by omega)))) (fun c_20 => ?_) (fun c_20 => ?_)
        · skip
          have hy0 : y = 0 := by first | omega | (rw [show st = 100 by omega] at i2; exact sp_eu_end i2 hab)
          have hx0 : x = Nat.gcd a b := by rw [← i3, hy0, Nat.gcd_zero_right]
          refine lv_lconst (v := lN 1) hx hb dX5_commonDivisor_44 (by decide) ?_
          refine lv_lload hx hb dX5_commonDivisor_45 (lv_at hl 2 rfl) ?_
          refine va_mmax_long hx hb (by rw [hml, hl.1]) hown (hts (.methodLink RX5 195 Lib.MathLoose.max_long.x) (by decide +kernel)) (hts (.static Lib.MathLoose.max_long.x) (by decide +kernel)) (hts (.initialized "java/lang/Math") (by decide +kernel)) (hts (.code Lib.MathLoose.max_long.x Lib.MathLoose.max_long.code 4 (some .long)) (by decide +kernel)) (Nat.le_of_ble_eq_true rfl) (Nat.le_of_ble_eq_true rfl) (Nat.zero_le _) (Nat.zero_le _) dX5_commonDivisor_47 ?_
          refine z_l0 (v := lN (max 1 x)) (zn_lmax (by omega)) ?_
          have q_0 : (max 1 x) = Nat.gcd a b := by rw [← hx0]; omega
          exact hRET _ ls H locs ((lN (max 1 x))) (max 1 x) dX5_commonDivisor_50 ⟨rfl, q_0⟩ hP hD hS
        · skip
          refine lv_lload hx hb dX5_commonDivisor_23 (lv_at hl 2 rfl) ?_
          refine lv_lload hx hb dX5_commonDivisor_25 (lv_at hl 3 rfl) ?_
          refine z_lrem (v := lN (x % y)) hx hb dX5_commonDivisor_27 (zn_lne0 (b := y) rfl (by omega)) (zn_lrem rfl rfl (by omega)) ?_
          refine lv_lstore (lv' := [(9, .long (lN (x % y))), (0, .long (lN a)), (2, .long (lN b)), (4, .long (lN x)), (6, .long (lN y)), (8, .int (nI st))]) hx hb dX5_commonDivisor_28 hl (by decide) rfl (fun ls hl => ?_)
          refine lv_lload hx hb dX5_commonDivisor_30 (lv_at hl 4 rfl) ?_
          refine lv_lstore (lv' := [(4, .long (lN y)), (9, .long (lN (x % y))), (0, .long (lN a)), (2, .long (lN b)), (6, .long (lN y)), (8, .int (nI st))]) hx hb dX5_commonDivisor_32 hl (by decide) rfl (fun ls hl => ?_)
          have hmod := Nat.mod_lt x (show 0 < y by omega)
          refine lv_lload hx hb dX5_commonDivisor_34 (lv_at hl 1 rfl) ?_
          refine lv_lstore (lv' := [(6, .long (lN (x % y))), (4, .long (lN y)), (9, .long (lN (x % y))), (0, .long (lN a)), (2, .long (lN b)), (8, .int (nI st))]) hx hb dX5_commonDivisor_36 hl (by decide) rfl (fun ls hl => ?_)
          refine lv_iinc (v := (nI (st + 1))) (lv' := [(8, .int (nI (st + 1))), (6, .long (lN (x % y))), (4, .long (lN y)), (9, .long (lN (x % y))), (0, .long (lN a)), (2, .long (lN b))]) hx hb dX5_commonDivisor_38 hl (k := 5) rfl (z_incN st 1 (by decide)) (by decide) rfl (fun ls hl => ?_)
          refine lv_goto (tgt := 9) hx hb dX5_commonDivisor_41 (by decide) ?_
          have o_i1 : (st + 1) ≤ 100 := by first | assumption | omega
          have o_i2 : sp_eu a b (st + 1) y (x % y) := by exact sp_eu_s i2 (by omega)
          have o_i3 : Nat.gcd y (x % y) = Nat.gcd a b := by rw [sp_gcd_s, i3]
          have o_i4 : y ≤ 1125899906842624 := by first | assumption | omega
          have o_i5 : (x % y) ≤ 1125899906842624 := by first | assumption | omega
          have o_mu : (100 - (st + 1)) < n9 := by omega
          exact ih9 (st + 1) y (x % y) o_mu o_i1 o_i2 o_i3 o_i4 o_i5 H locs hP hD hS ls (lv_sub hl [4, 5, 2, 1, 0] rfl)
  have o_i1 : 0 ≤ 100 := by first | assumption | omega
  have o_i2 : sp_eu a b 0 a b := by exact Or.inl ⟨rfl, rfl, rfl⟩
  have o_i3 : Nat.gcd a b = Nat.gcd a b := by rfl
  have o_i4 : a ≤ 1125899906842624 := by first | assumption | omega
  have o_i5 : b ≤ 1125899906842624 := by first | assumption | omega
  exact L9 ((100 - 0) + 1) 0 a b (Nat.lt_succ_self _) o_i1 o_i2 o_i3 o_i4 o_i5 H locs hP hD hS ls (lv_sub hl [3, 4, 2, 1, 0] rfl)

set_option maxHeartbeats 4000000 in
set_option maxRecDepth 100000 in
theorem c_X5_inLeastTerms (l : Launch) (dC : Nat → ClassId) (dI : Nat → Nat → Nat) (cI cJ : ClassId) (sz : Nat) (a : Nat) (b : Nat) (uu : Nat) (ba : a ≤ 1125899906842624) (bb : 1 ≤ b ∧ b ≤ 4398046511104) (bu : uu ≤ 1) : Met l yX5_inLeastTerms wsX5_inLeastTerms (zR 2 0 0 57) (va_Pc [.long (lN a), .long (lN b), .int (nI uu)] (zP (dC, dI) [(cI, .int), (cJ, .long)] [] sz nwA)) (va_Ql (fun (r : Int64) (u : (Nat)) => r = (lN u) ∧ (u = sp_fr a b uu)) (zB (dC, dI) (fun (u : (Nat)) => []) (va_A [] sz)) (va_A [] sz)) 0 0 (va_A [] sz) := by
  refine z_met_l (cc := cX5_inLeastTerms) (maxL := 7) (by decide) rfl (Nat.le_of_ble_eq_true rfl) ?_
  intro p e s m args below meth c Q A ls hx hb hml hown hts hin hA hK hP hD hN hl hRET
  have hown : s.vm.findClass RX5 = some m.cls := hown
  obtain ⟨H, eH⟩ : ∃ H : Heap, H = s.heap := ⟨_, rfl⟩
  rw [← eH] at hP
  obtain ⟨locs, eL⟩ : ∃ z : List Loc, z = [] := ⟨_, rfl⟩
  rw [← eH, ← eL]
  have hS : va_S A s.heap H locs := by rw [eH, eL]; exact va_S.rf
  have hl : lv_has ls 7 [(0, .long (lN a)), (2, .long (lN b)), (4, .int (nI uu))] := hl
  have hg1 : 1 ≤ Nat.gcd a b := Nat.gcd_pos_of_pos_right a (by omega)
  have hg2 : Nat.gcd a b ≤ b := Nat.gcd_le_right a (by omega)
  refine lv_lload_n hx hb dX5_inLeastTerms_0 rfl (lv_at hl 0 rfl) ?_
  refine lv_lload_n hx hb dX5_inLeastTerms_1 rfl (lv_at hl 1 rfl) ?_
  refine z_callSl (As := [.long (lN a), .long (lN b)]) (rest := []) (wr := []) ⟨hx, hb, hml, hown, hts⟩ (c_X5_commonDivisor l dC dI cI cJ H.size a b (by first | assumption | omega) (by first | assumption | omega)) (va_cwS 2 hts gX5_inLeastTerms_X5_commonDivisor rfl rfl rfl (by decide +kernel) ⟨Nat.le_of_ble_eq_true rfl, Nat.le_of_ble_eq_true rfl⟩) hA hK hP hD hS [] [] [] rfl rfl (by decide) (by decide) (by decide) nwA_ok hN hl.1 (Nat.le_of_ble_eq_true rfl) ⟨Nat.le_refl _, Nat.le_refl _⟩ rfl rfl dX5_inLeastTerms_2 (fun (u : (Nat)) => []) (fun u => rfl) (by decide) (fun r_2 u H locs hw hP hD hS => ?_)
  obtain ⟨rv_2, eu⟩ : ∃ z, z = u := ⟨_, rfl⟩
  subst eu
  have hP : va_P (dC, dI) vwCl [] H := hP
  have hD : va_D A [] := hD
  obtain ⟨er, p2_0⟩ := hw
  have p2_0 : rv_2 = Nat.gcd a b := p2_0
  have er : r_2 = (lN rv_2) := er
  subst er
  subst p2_0
  refine lv_lstore (lv' := [(5, .long (lN (Nat.gcd a b))), (0, .long (lN a)), (2, .long (lN b)), (4, .int (nI uu))]) hx hb dX5_inLeastTerms_5 hl (by decide) rfl (fun ls hl => ?_)
  refine lv_iload hx hb dX5_inLeastTerms_7 (lv_at hl 3 rfl) ?_
  refine z_if_eq (tgt := 19) hx hb dX5_inLeastTerms_9 (by decide) (zcn_eq (a := uu) (b := 0) rfl nI_00 (by omega)) (fun c_9 => ?_) (fun c_9 => ?_)
  · skip
    refine lv_lload_n hx hb dX5_inLeastTerms_19 rfl (lv_at hl 2 rfl) ?_
    refine lv_lload hx hb dX5_inLeastTerms_20 (lv_at hl 0 rfl) ?_
    refine z_ldiv (v := lN (b / (Nat.gcd a b))) hx hb dX5_inLeastTerms_22 (zn_lne0 (b := (Nat.gcd a b)) rfl (by omega)) (zn_ldiv rfl rfl (by omega)) ?_
    have q_0 : (b / (Nat.gcd a b)) = sp_fr a b uu := by unfold sp_fr; repeat (first | rw [if_pos (by omega)] | rw [if_neg (by omega)])
    exact hRET _ ls H locs ((lN (b / (Nat.gcd a b)))) (b / (Nat.gcd a b)) dX5_inLeastTerms_23 ⟨rfl, q_0⟩ hP hD hS
  · skip
    refine lv_lload_n hx hb dX5_inLeastTerms_12 rfl (lv_at hl 1 rfl) ?_
    refine lv_lload hx hb dX5_inLeastTerms_13 (lv_at hl 0 rfl) ?_
    refine z_ldiv (v := lN (a / (Nat.gcd a b))) hx hb dX5_inLeastTerms_15 (zn_lne0 (b := (Nat.gcd a b)) rfl (by omega)) (zn_ldiv rfl rfl (by omega)) ?_
    refine lv_goto (tgt := 23) hx hb dX5_inLeastTerms_16 (by decide) ?_
    have q_0 : (a / (Nat.gcd a b)) = sp_fr a b uu := by unfold sp_fr; repeat (first | rw [if_pos (by omega)] | rw [if_neg (by omega)])
    exact hRET _ ls H locs ((lN (a / (Nat.gcd a b)))) (a / (Nat.gcd a b)) dX5_inLeastTerms_23 ⟨rfl, q_0⟩ hP hD hS

set_option maxHeartbeats 4000000 in
set_option maxRecDepth 100000 in
theorem c_X5_station (l : Launch) (dC : Nat → ClassId) (dI : Nat → Nat → Nat) (cI cJ : ClassId) (sz : Nat) (g0 : Nat) (h0 : Nat) (p0 : Nat) (k0 : Nat) (u0 : Nat) (r0 : Nat) (a1 : Nat) (a2 : Nat) (a3 : Nat) (a4 : Nat) (N : Nat) (K : Nat) (T : Nat → Nat) (F : Nat → Nat) (G : Nat → Nat) (C : Nat → Nat) (p1 : Nat) (p2 : Nat) (p3 : Nat) (p4 : Nat) (mn : Nat) (ns : Nat) (z : Int) (bN : N ≤ 8) (bz : -2147483648 ≤ z ∧ z < 2147483648) : Met l yX5_station wsX5_station (zR 1 0 0 22) (va_Pc [.ref g0, .int (iI z)] (zP (dC, dI) [(cI, .int), (cJ, .long)] [(g0, .inr (5, [.ref h0, .ref p0, .ref k0, .ref u0, .ref r0])), (h0, .inr (0, [.ref a1, .ref a2, .ref a3, .ref a4, .int (nI N), .int (nI K)])), (a1, .inl (cI, 8, .inl (fun z_ => nI (T z_)))), (a2, .inl (cI, 16, .inl (fun z_ => nI (F z_)))), (a3, .inl (cI, 16, .inl (fun z_ => nI (G z_)))), (a4, .inl (cI, 16, .inl (fun z_ => nI (C z_)))), (p0, .inr (1, [.ref h0, .ref p1, .ref p2, .ref p3, .int (nI mn), .ref p4, .int (nI ns)]))] sz nwA)) (va_Qi (fun (r : Int32) (u : (Int) × (Nat) × (Nat → Nat) × (Nat)) => r = (iI u.1) ∧ (u.1 = if 1 ≤ z ∧ z ≤ 20 then (if N < 8 then (N : Int) else -4) else -2) ∧ (u.2.1 = if ((1 ≤ z ∧ z ≤ 20) ∧ N < 8) then N + 1 else N) ∧ (u.2.2.1 = if ((1 ≤ z ∧ z ≤ 20) ∧ N < 8) then up T N z.toNat else T) ∧ (u.2.2.2 = if ((1 ≤ z ∧ z ≤ 20) ∧ N < 8) then 0 else ns)) (zB (dC, dI) (fun (u : (Int) × (Nat) × (Nat → Nat) × (Nat)) => [(g0, .inr (5, [.ref h0, .ref p0, .ref k0, .ref u0, .ref r0])), (h0, .inr (0, [.ref a1, .ref a2, .ref a3, .ref a4, .int (nI u.2.1), .int (nI K)])), (a1, .inl (cI, 8, .inl (fun z_ => nI (u.2.2.1 z_)))), (a2, .inl (cI, 16, .inl (fun z_ => nI (F z_)))), (a3, .inl (cI, 16, .inl (fun z_ => nI (G z_)))), (a4, .inl (cI, 16, .inl (fun z_ => nI (C z_)))), (p0, .inr (1, [.ref h0, .ref p1, .ref p2, .ref p3, .int (nI mn), .ref p4, .int (nI u.2.2.2)]))]) (va_A [(g0, .inr (5, [.ref h0, .ref p0, .ref k0, .ref u0, .ref r0])), (h0, .inr (0, [.ref a1, .ref a2, .ref a3, .ref a4, .int (nI N), .int (nI K)])), (a1, .inl (cI, 8, .inl (fun z_ => nI (T z_)))), (a2, .inl (cI, 16, .inl (fun z_ => nI (F z_)))), (a3, .inl (cI, 16, .inl (fun z_ => nI (G z_)))), (a4, .inl (cI, 16, .inl (fun z_ => nI (C z_)))), (p0, .inr (1, [.ref h0, .ref p1, .ref p2, .ref p3, .int (nI mn), .ref p4, .int (nI ns)]))] sz)) (va_A [(g0, .inr (5, [.ref h0, .ref p0, .ref k0, .ref u0, .ref r0])), (h0, .inr (0, [.ref a1, .ref a2, .ref a3, .ref a4, .int (nI N), .int (nI K)])), (a1, .inl (cI, 8, .inl (fun z_ => nI (T z_)))), (a2, .inl (cI, 16, .inl (fun z_ => nI (F z_)))), (a3, .inl (cI, 16, .inl (fun z_ => nI (G z_)))), (a4, .inl (cI, 16, .inl (fun z_ => nI (C z_)))), (p0, .inr (1, [.ref h0, .ref p1, .ref p2, .ref p3, .int (nI mn), .ref p4, .int (nI ns)]))] sz)) 0 0 (va_A [(g0, .inr (5, [.ref h0, .ref p0, .ref k0, .ref u0, .ref r0])), (h0, .inr (0, [.ref a1, .ref a2, .ref a3, .ref a4, .int (nI N), .int (nI K)])), (a1, .inl (cI, 8, .inl (fun z_ => nI (T z_)))), (a2, .inl (cI, 16, .inl (fun z_ => nI (F z_)))), (a3, .inl (cI, 16, .inl (fun z_ => nI (G z_)))), (a4, .inl (cI, 16, .inl (fun z_ => nI (C z_)))), (p0, .inr (1, [.ref h0, .ref p1, .ref p2, .ref p3, .int (nI mn), .ref p4, .int (nI ns)]))] sz) := by
  refine z_met_i (cc := cX5_station) (maxL := 2) (by decide) rfl (Nat.le_of_ble_eq_true rfl) ?_
  intro p e s m args below meth c Q A ls hx hb hml hown hts hin hA hK hP hD hN hl hRET
  have hown : s.vm.findClass RX5 = some m.cls := hown
  obtain ⟨H, eH⟩ : ∃ H : Heap, H = s.heap := ⟨_, rfl⟩
  rw [← eH] at hP
  obtain ⟨locs, eL⟩ : ∃ z : List Loc, z = [] := ⟨_, rfl⟩
  rw [← eH, ← eL]
  have hS : va_S A s.heap H locs := by rw [eH, eL]; exact va_S.rf
  have hl : lv_has ls 2 [(0, .ref g0), (1, .int (iI z))] := hl
  have w10 := hts (.fieldLink RX5 10 "PullCards" "line" "LPullCards$Line;") (by decide +kernel)
  have uX5 : ∀ w ∈ wsX50, w ∈ wsX5_station := by decide +kernel
  have w50 := hts (.fieldLink RX5 50 "PullCards$Line" "stations" "I") (by decide +kernel)
  have uX0 : ∀ w ∈ wsX00, w ∈ wsX5_station := by decide +kernel
  have w21 := hts (.fieldLink RX5 21 "PullCards" "loops" "LPullCards$Loops;") (by decide +kernel)
  refine lv_iload_n hx hb dX5_station_0 rfl (lv_at hl 1 rfl) ?_
  refine lv_iconst (v := nI 1) hx hb dX5_station_1 (by decide) ?_
  refine lv_bipush (v := nI 20) hx hb dX5_station_2 (by decide) ?_
  refine z_c0 (v := iI 20) (by decide) ?_
  refine z_c1 (v := iI 1) (by decide) ?_
  refine z_callSi (As := [.int (iI z), .int (iI 1), .int (iI 20)]) (rest := []) (wr := [(g0, .inr (5, [.ref h0, .ref p0, .ref k0, .ref u0, .ref r0])), (h0, .inr (0, [.ref a1, .ref a2, .ref a3, .ref a4, .int (nI N), .int (nI K)])), (a1, .inl (cI, 8, .inl (fun z_ => nI (T z_)))), (a2, .inl (cI, 16, .inl (fun z_ => nI (F z_)))), (a3, .inl (cI, 16, .inl (fun z_ => nI (G z_)))), (a4, .inl (cI, 16, .inl (fun z_ => nI (C z_)))), (p0, .inr (1, [.ref h0, .ref p1, .ref p2, .ref p3, .int (nI mn), .ref p4, .int (nI ns)]))]) ⟨hx, hb, hml, hown, hts⟩ (c_X5_within l dC dI cI cJ H.size z (1 : Int) (20 : Int) (by first | assumption | omega) (by first | assumption | omega) (by first | assumption | omega)) (va_cwS 3 hts gX5_station_X5_within rfl rfl rfl (by decide +kernel) ⟨Nat.le_of_ble_eq_true rfl, Nat.le_of_ble_eq_true rfl⟩) hA hK hP hD hS [] [0, 1, 2, 3, 4, 5, 6] [0, 1, 2, 3, 4, 5, 6] rfl rfl (by decide) (by decide) (by decide) nwA_ok hN hl.1 (Nat.le_of_ble_eq_true rfl) ⟨Nat.le_refl _, Nat.le_refl _⟩ rfl rfl dX5_station_4 (fun (u : (Nat)) => [(g0, .inr (5, [.ref h0, .ref p0, .ref k0, .ref u0, .ref r0])), (h0, .inr (0, [.ref a1, .ref a2, .ref a3, .ref a4, .int (nI N), .int (nI K)])), (a1, .inl (cI, 8, .inl (fun z_ => nI (T z_)))), (a2, .inl (cI, 16, .inl (fun z_ => nI (F z_)))), (a3, .inl (cI, 16, .inl (fun z_ => nI (G z_)))), (a4, .inl (cI, 16, .inl (fun z_ => nI (C z_)))), (p0, .inr (1, [.ref h0, .ref p1, .ref p2, .ref p3, .int (nI mn), .ref p4, .int (nI ns)]))]) (fun u => rfl) (by decide) (fun r_4 u H locs hw hP hD hS => ?_)
  obtain ⟨rv_4, eu⟩ : ∃ z, z = u := ⟨_, rfl⟩
  subst eu
  have hP : va_P (dC, dI) vwCl [(g0, .inr (5, [.ref h0, .ref p0, .ref k0, .ref u0, .ref r0])), (h0, .inr (0, [.ref a1, .ref a2, .ref a3, .ref a4, .int (nI N), .int (nI K)])), (a1, .inl (cI, 8, .inl (fun z_ => nI (T z_)))), (a2, .inl (cI, 16, .inl (fun z_ => nI (F z_)))), (a3, .inl (cI, 16, .inl (fun z_ => nI (G z_)))), (a4, .inl (cI, 16, .inl (fun z_ => nI (C z_)))), (p0, .inr (1, [.ref h0, .ref p1, .ref p2, .ref p3, .int (nI mn), .ref p4, .int (nI ns)]))] H := hP
  have hD : va_D A [(g0, .inr (5, [.ref h0, .ref p0, .ref k0, .ref u0, .ref r0])), (h0, .inr (0, [.ref a1, .ref a2, .ref a3, .ref a4, .int (nI N), .int (nI K)])), (a1, .inl (cI, 8, .inl (fun z_ => nI (T z_)))), (a2, .inl (cI, 16, .inl (fun z_ => nI (F z_)))), (a3, .inl (cI, 16, .inl (fun z_ => nI (G z_)))), (a4, .inl (cI, 16, .inl (fun z_ => nI (C z_)))), (p0, .inr (1, [.ref h0, .ref p1, .ref p2, .ref p3, .int (nI mn), .ref p4, .int (nI ns)]))] := hD
  obtain ⟨er, p4_0⟩ := hw
  have p4_0 : (rv_4 = 1 ∧ ((1 : Int) ≤ z ∧ z ≤ (20 : Int))) ∨ (rv_4 = 0 ∧ ¬ ((1 : Int) ≤ z ∧ z ≤ (20 : Int))) := p4_0
  have er : r_4 = (nI rv_4) := er
  subst er
  rcases p4_0 with ⟨h4, c_4⟩ | ⟨h4, c_4⟩
  · skip
    subst h4
    refine lv_if_ne (tgt := 13) hx hb dX5_station_7 (by decide) (fun _ => ?_) (fun c_x => absurd c_x (by decide))
    refine lv_aload_n hx hb dX5_station_13 rfl (lv_at hl 0 rfl) ?_
    refine z_get (D := (dC, dI)) (ci := 5) (v := .ref h0) (C := RX5) (T := TX5) (N := 5) hx hb hts uX5 hown hK hP 0 rfl rfl 0 (by decide) w10 rfl rfl dX5_station_14 ?_
    refine z_get (D := (dC, dI)) (ci := 0) (v := .int (nI N)) (C := RX0) (T := TX0) (N := 6) hx hb hts uX0 hown hK hP 1 rfl rfl 4 (by decide) w50 rfl rfl dX5_station_17 ?_
    refine lv_bipush (v := nI 8) hx hb dX5_station_20 (by decide) ?_
    refine z_icmp_lt (tgt := 28) hx hb dX5_station_22 (by decide) (zcn_lt (a := N) (b := 8) rfl rfl (by omega)) (fun c_22 => ?_) (fun c_22 => ?_)
    · skip
      refine lv_aload_n hx hb dX5_station_28 rfl (lv_at hl 0 rfl) ?_
      refine z_get (D := (dC, dI)) (ci := 5) (v := .ref p0) (C := RX5) (T := TX5) (N := 5) hx hb hts uX5 hown hK hP 0 rfl rfl 1 (by decide) w21 rfl rfl dX5_station_29 ?_
      refine z_callVv (As := []) (rest := []) (wr := [(g0, .inr (5, [.ref h0, .ref p0, .ref k0, .ref u0, .ref r0])), (h0, .inr (0, [.ref a1, .ref a2, .ref a3, .ref a4, .int (nI N), .int (nI K)])), (a1, .inl (cI, 8, .inl (fun z_ => nI (T z_)))), (a2, .inl (cI, 16, .inl (fun z_ => nI (F z_)))), (a3, .inl (cI, 16, .inl (fun z_ => nI (G z_)))), (a4, .inl (cI, 16, .inl (fun z_ => nI (C z_))))]) ⟨hx, hb, hml, hown, hts⟩ (c_X1_forgetNote l dC dI cI cJ H.size p0 p1 p2 p3 p4 h0 mn ns ) (cwV 0 hts gX5_station_X1_forgetNote rfl rfl rfl (by decide +kernel) ⟨Nat.le_of_ble_eq_true rfl, Nat.le_of_ble_eq_true rfl⟩) hA hK hP hD hS [6] [0, 1, 2, 3, 4, 5] [0, 1, 2, 3, 4, 5, 6] rfl rfl (by decide) (by decide) (by decide) nwA_ok hN (ci := 1) rfl rfl 6 rfl hl.1 (Nat.le_of_ble_eq_true rfl) ⟨Nat.le_refl _, Nat.le_refl _⟩ rfl rfl dX5_station_32 (fun (u : Unit) => [(g0, .inr (5, [.ref h0, .ref p0, .ref k0, .ref u0, .ref r0])), (h0, .inr (0, [.ref a1, .ref a2, .ref a3, .ref a4, .int (nI N), .int (nI K)])), (a1, .inl (cI, 8, .inl (fun z_ => nI (T z_)))), (a2, .inl (cI, 16, .inl (fun z_ => nI (F z_)))), (a3, .inl (cI, 16, .inl (fun z_ => nI (G z_)))), (a4, .inl (cI, 16, .inl (fun z_ => nI (C z_)))), (p0, .inr (1, [.ref h0, .ref p1, .ref p2, .ref p3, .int (nI mn), .ref p4, .int (nI 0)]))]) (fun u => rfl) (by decide) (fun u H locs hw hP hD hS => ?_)
      have hP : va_P (dC, dI) vwCl [(g0, .inr (5, [.ref h0, .ref p0, .ref k0, .ref u0, .ref r0])), (h0, .inr (0, [.ref a1, .ref a2, .ref a3, .ref a4, .int (nI N), .int (nI K)])), (a1, .inl (cI, 8, .inl (fun z_ => nI (T z_)))), (a2, .inl (cI, 16, .inl (fun z_ => nI (F z_)))), (a3, .inl (cI, 16, .inl (fun z_ => nI (G z_)))), (a4, .inl (cI, 16, .inl (fun z_ => nI (C z_)))), (p0, .inr (1, [.ref h0, .ref p1, .ref p2, .ref p3, .int (nI mn), .ref p4, .int (nI 0)]))] H := hP
      have hD : va_D A [(g0, .inr (5, [.ref h0, .ref p0, .ref k0, .ref u0, .ref r0])), (h0, .inr (0, [.ref a1, .ref a2, .ref a3, .ref a4, .int (nI N), .int (nI K)])), (a1, .inl (cI, 8, .inl (fun z_ => nI (T z_)))), (a2, .inl (cI, 16, .inl (fun z_ => nI (F z_)))), (a3, .inl (cI, 16, .inl (fun z_ => nI (G z_)))), (a4, .inl (cI, 16, .inl (fun z_ => nI (C z_)))), (p0, .inr (1, [.ref h0, .ref p1, .ref p2, .ref p3, .int (nI mn), .ref p4, .int (nI 0)]))] := hD
      refine lv_aload_n hx hb dX5_station_35 rfl (lv_at hl 0 rfl) ?_
      refine z_get (D := (dC, dI)) (ci := 5) (v := .ref h0) (C := RX5) (T := TX5) (N := 5) hx hb hts uX5 hown hK hP 0 rfl rfl 0 (by decide) w10 rfl rfl dX5_station_36 ?_
      refine lv_iload_n hx hb dX5_station_39 rfl (lv_at hl 1 rfl) ?_
      refine z_c0 (v := nI z.toNat) (z_ZtoN (by first | assumption | omega)) ?_
      refine z_callVi (As := [.int (nI z.toNat)]) (rest := []) (wr := [(g0, .inr (5, [.ref h0, .ref p0, .ref k0, .ref u0, .ref r0])), (p0, .inr (1, [.ref h0, .ref p1, .ref p2, .ref p3, .int (nI mn), .ref p4, .int (nI 0)]))]) ⟨hx, hb, hml, hown, hts⟩ (c_X0_addStation l dC dI cI cJ H.size h0 a1 a2 a3 a4 N K T F G C z.toNat (by first | assumption | omega)) (cwV 1 hts gX5_station_X0_addStation rfl rfl rfl (by decide +kernel) ⟨Nat.le_of_ble_eq_true rfl, Nat.le_of_ble_eq_true rfl⟩) hA hK hP hD hS [1, 2, 3, 4, 5] [0, 6] [0, 2, 3, 4, 5, 6, 1] rfl rfl (by decide) (by decide) (by decide) nwA_ok hN (ci := 0) rfl rfl 1 rfl hl.1 (Nat.le_of_ble_eq_true rfl) ⟨Nat.le_refl _, Nat.le_refl _⟩ rfl rfl dX5_station_40 (fun (u : Unit) => [(g0, .inr (5, [.ref h0, .ref p0, .ref k0, .ref u0, .ref r0])), (h0, .inr (0, [.ref a1, .ref a2, .ref a3, .ref a4, .int (nI (N + 1)), .int (nI K)])), (a1, .inl (cI, 8, .inl (fun z_ => nI ((up T N z.toNat) z_)))), (a2, .inl (cI, 16, .inl (fun z_ => nI (F z_)))), (a3, .inl (cI, 16, .inl (fun z_ => nI (G z_)))), (a4, .inl (cI, 16, .inl (fun z_ => nI (C z_)))), (p0, .inr (1, [.ref h0, .ref p1, .ref p2, .ref p3, .int (nI mn), .ref p4, .int (nI 0)]))]) (fun u => rfl) (by decide) (fun r_40 u H locs hw hP hD hS => ?_)
      have hP : va_P (dC, dI) vwCl [(g0, .inr (5, [.ref h0, .ref p0, .ref k0, .ref u0, .ref r0])), (h0, .inr (0, [.ref a1, .ref a2, .ref a3, .ref a4, .int (nI (N + 1)), .int (nI K)])), (a1, .inl (cI, 8, .inl (fun z_ => nI ((up T N z.toNat) z_)))), (a2, .inl (cI, 16, .inl (fun z_ => nI (F z_)))), (a3, .inl (cI, 16, .inl (fun z_ => nI (G z_)))), (a4, .inl (cI, 16, .inl (fun z_ => nI (C z_)))), (p0, .inr (1, [.ref h0, .ref p1, .ref p2, .ref p3, .int (nI mn), .ref p4, .int (nI 0)]))] H := hP
      have hD : va_D A [(g0, .inr (5, [.ref h0, .ref p0, .ref k0, .ref u0, .ref r0])), (h0, .inr (0, [.ref a1, .ref a2, .ref a3, .ref a4, .int (nI (N + 1)), .int (nI K)])), (a1, .inl (cI, 8, .inl (fun z_ => nI ((up T N z.toNat) z_)))), (a2, .inl (cI, 16, .inl (fun z_ => nI (F z_)))), (a3, .inl (cI, 16, .inl (fun z_ => nI (G z_)))), (a4, .inl (cI, 16, .inl (fun z_ => nI (C z_)))), (p0, .inr (1, [.ref h0, .ref p1, .ref p2, .ref p3, .int (nI mn), .ref p4, .int (nI 0)]))] := hD
      have er := hw
      have er : r_40 = (nI N) := er
      subst er
      refine z_c0 (v := iI ((N : Nat) : Int)) (iI_N _) ?_
      have q_0 : ((N : Nat) : Int) = if 1 ≤ z ∧ z ≤ 20 then (if N < 8 then (N : Int) else -4) else -2 := by repeat (first | rw [if_pos (by omega)] | rw [if_neg (by omega)])
      have q_1 : (N + 1) = if ((1 ≤ z ∧ z ≤ 20) ∧ N < 8) then N + 1 else N := by repeat (first | rw [if_pos (by omega)] | rw [if_neg (by omega)])
      have q_2 : (up T N z.toNat) = if ((1 ≤ z ∧ z ≤ 20) ∧ N < 8) then up T N z.toNat else T := by repeat (first | rw [if_pos (by omega)] | rw [if_neg (by omega)])
      have q_3 : 0 = if ((1 ≤ z ∧ z ≤ 20) ∧ N < 8) then 0 else ns := by repeat (first | rw [if_pos (by omega)] | rw [if_neg (by omega)])
      exact hRET _ ls H locs ((iI ((N : Nat) : Int))) (((N : Nat) : Int), N + 1, up T N z.toNat, 0) dX5_station_43 ⟨rfl, q_0, q_1, q_2, q_3⟩ hP hD hS
    · skip
      refine lv_bipush (v := iI (-4)) hx hb dX5_station_25 (by decide) ?_
      have q_0 : (-4 : Int) = if 1 ≤ z ∧ z ≤ 20 then (if N < 8 then (N : Int) else -4) else -2 := by repeat (first | rw [if_pos (by omega)] | rw [if_neg (by omega)])
      have q_1 : N = if ((1 ≤ z ∧ z ≤ 20) ∧ N < 8) then N + 1 else N := by repeat (first | rw [if_pos (by omega)] | rw [if_neg (by omega)])
      have q_2 : T = if ((1 ≤ z ∧ z ≤ 20) ∧ N < 8) then up T N z.toNat else T := by repeat (first | rw [if_pos (by omega)] | rw [if_neg (by omega)])
      have q_3 : ns = if ((1 ≤ z ∧ z ≤ 20) ∧ N < 8) then 0 else ns := by repeat (first | rw [if_pos (by omega)] | rw [if_neg (by omega)])
      exact hRET _ ls H locs ((iI (-4))) ((-4 : Int), N, T, ns) dX5_station_27 ⟨rfl, q_0, q_1, q_2, q_3⟩ hP hD hS
  · skip
    subst h4
    refine lv_if_ne (tgt := 13) hx hb dX5_station_7 (by decide) (fun c_x => absurd c_x (by decide)) (fun _ => ?_)
    refine lv_bipush (v := iI (-2)) hx hb dX5_station_10 (by decide) ?_
    have q_0 : (-2 : Int) = if 1 ≤ z ∧ z ≤ 20 then (if N < 8 then (N : Int) else -4) else -2 := by repeat (first | rw [if_pos (by omega)] | rw [if_neg (by omega)])
    have q_1 : N = if ((1 ≤ z ∧ z ≤ 20) ∧ N < 8) then N + 1 else N := by repeat (first | rw [if_pos (by omega)] | rw [if_neg (by omega)])
    have q_2 : T = if ((1 ≤ z ∧ z ≤ 20) ∧ N < 8) then up T N z.toNat else T := by repeat (first | rw [if_pos (by omega)] | rw [if_neg (by omega)])
    have q_3 : ns = if ((1 ≤ z ∧ z ≤ 20) ∧ N < 8) then 0 else ns := by repeat (first | rw [if_pos (by omega)] | rw [if_neg (by omega)])
    exact hRET _ ls H locs ((iI (-2))) ((-2 : Int), N, T, ns) dX5_station_12 ⟨rfl, q_0, q_1, q_2, q_3⟩ hP hD hS

set_option maxHeartbeats 4000000 in
set_option maxRecDepth 100000 in
theorem c_X5_arc (l : Launch) (dC : Nat → ClassId) (dI : Nat → Nat → Nat) (cI cJ : ClassId) (sz : Nat) (g0 : Nat) (h0 : Nat) (p0 : Nat) (k0 : Nat) (u0 : Nat) (r0 : Nat) (a1 : Nat) (a2 : Nat) (a3 : Nat) (a4 : Nat) (N : Nat) (K : Nat) (T : Nat → Nat) (F : Nat → Nat) (G : Nat → Nat) (C : Nat → Nat) (p1 : Nat) (p2 : Nat) (p3 : Nat) (p4 : Nat) (RW : Nat → Nat) (LE : Nat → Nat) (PA : Nat → Nat) (NC : Nat → Nat) (mn : Nat) (ns : Nat) (f : Int) (g : Int) (k : Int) (bN : N ≤ 8) (bK : K ≤ 16) (bF : ∀ a, F a < 8) (bG : ∀ a, G a < 8) (bRW : ∀ i, RW i < 16) (bLE : ∀ i, LE i ≤ 8) (bPA : ∀ i, PA i < 16) (bf : -2147483648 ≤ f ∧ f < 2147483648) (bg : -2147483648 ≤ g ∧ g < 2147483648) (bk : -2147483648 ≤ k ∧ k < 2147483648) (hh : sp_hold (sp_all N K F G) mn RW LE) : Met l yX5_arc wsX5_arc (zR 11 0 0 291) (va_Pc [.ref g0, .int (iI f), .int (iI g), .int (iI k)] (zP (dC, dI) [(cI, .int), (cJ, .long)] [(g0, .inr (5, [.ref h0, .ref p0, .ref k0, .ref u0, .ref r0])), (h0, .inr (0, [.ref a1, .ref a2, .ref a3, .ref a4, .int (nI N), .int (nI K)])), (a1, .inl (cI, 8, .inl (fun z_ => nI (T z_)))), (a2, .inl (cI, 16, .inl (fun z_ => nI (F z_)))), (a3, .inl (cI, 16, .inl (fun z_ => nI (G z_)))), (a4, .inl (cI, 16, .inl (fun z_ => nI (C z_)))), (p0, .inr (1, [.ref h0, .ref p1, .ref p2, .ref p3, .int (nI mn), .ref p4, .int (nI ns)])), (p1, .inl (cI, 5088, .inl (fun z_ => nI (RW z_)))), (p2, .inl (cI, 636, .inl (fun z_ => nI (LE z_)))), (p3, .inl (cI, 8, .inl (fun z_ => nI (PA z_)))), (p4, .inl (cI, 16, .inl (fun z_ => nI (NC z_))))] sz nwA)) (va_Qi (fun (r : Int32) (u : (Int) × (Nat) × (Nat → Nat) × (Nat → Nat) × (Nat → Nat) × (Nat) × (Nat → Nat) × (Nat → Nat) × (Nat → Nat) × (Nat)) => r = (iI u.1) ∧ (u.1 = if ((0 ≤ f ∧ f < (N : Int)) ∧ (0 ≤ g ∧ g < (N : Int))) then (if 0 ≤ k ∧ k ≤ 9 then (if K < 16 then (K : Int) else -4) else -2) else -1) ∧ (u.2.1 = if ((((0 ≤ f ∧ f < (N : Int)) ∧ (0 ≤ g ∧ g < (N : Int))) ∧ (0 ≤ k ∧ k ≤ 9)) ∧ K < 16) then K + 1 else K) ∧ (u.2.2.1 = if ((((0 ≤ f ∧ f < (N : Int)) ∧ (0 ≤ g ∧ g < (N : Int))) ∧ (0 ≤ k ∧ k ≤ 9)) ∧ K < 16) then up F K f.toNat else F) ∧ (u.2.2.2.1 = if ((((0 ≤ f ∧ f < (N : Int)) ∧ (0 ≤ g ∧ g < (N : Int))) ∧ (0 ≤ k ∧ k ≤ 9)) ∧ K < 16) then up G K g.toNat else G) ∧ (u.2.2.2.2.1 = if ((((0 ≤ f ∧ f < (N : Int)) ∧ (0 ≤ g ∧ g < (N : Int))) ∧ (0 ≤ k ∧ k ≤ 9)) ∧ K < 16) then up C K k.toNat else C) ∧ (u.2.2.2.2.2.1 = if ((((0 ≤ f ∧ f < (N : Int)) ∧ (0 ≤ g ∧ g < (N : Int))) ∧ (0 ≤ k ∧ k ≤ 9)) ∧ K < 16) then 0 else ns) ∧ (sp_hold (sp_all N u.2.1 u.2.2.1 u.2.2.2.1) u.2.2.2.2.2.2.2.2.2 u.2.2.2.2.2.2.1 u.2.2.2.2.2.2.2.1) ∧ (∀ i, u.2.2.2.2.2.2.1 i < 16) ∧ (∀ i, u.2.2.2.2.2.2.2.1 i ≤ 8) ∧ (∀ i, u.2.2.2.2.2.2.2.2.1 i < 16)) (zB (dC, dI) (fun (u : (Int) × (Nat) × (Nat → Nat) × (Nat → Nat) × (Nat → Nat) × (Nat) × (Nat → Nat) × (Nat → Nat) × (Nat → Nat) × (Nat)) => [(g0, .inr (5, [.ref h0, .ref p0, .ref k0, .ref u0, .ref r0])), (h0, .inr (0, [.ref a1, .ref a2, .ref a3, .ref a4, .int (nI N), .int (nI u.2.1)])), (a1, .inl (cI, 8, .inl (fun z_ => nI (T z_)))), (a2, .inl (cI, 16, .inl (fun z_ => nI (u.2.2.1 z_)))), (a3, .inl (cI, 16, .inl (fun z_ => nI (u.2.2.2.1 z_)))), (a4, .inl (cI, 16, .inl (fun z_ => nI (u.2.2.2.2.1 z_)))), (p0, .inr (1, [.ref h0, .ref p1, .ref p2, .ref p3, .int (nI u.2.2.2.2.2.2.2.2.2), .ref p4, .int (nI u.2.2.2.2.2.1)])), (p1, .inl (cI, 5088, .inl (fun z_ => nI (u.2.2.2.2.2.2.1 z_)))), (p2, .inl (cI, 636, .inl (fun z_ => nI (u.2.2.2.2.2.2.2.1 z_)))), (p3, .inl (cI, 8, .inl (fun z_ => nI (u.2.2.2.2.2.2.2.2.1 z_)))), (p4, .inl (cI, 16, .inl (fun z_ => nI (NC z_))))]) (va_A [(g0, .inr (5, [.ref h0, .ref p0, .ref k0, .ref u0, .ref r0])), (h0, .inr (0, [.ref a1, .ref a2, .ref a3, .ref a4, .int (nI N), .int (nI K)])), (a1, .inl (cI, 8, .inl (fun z_ => nI (T z_)))), (a2, .inl (cI, 16, .inl (fun z_ => nI (F z_)))), (a3, .inl (cI, 16, .inl (fun z_ => nI (G z_)))), (a4, .inl (cI, 16, .inl (fun z_ => nI (C z_)))), (p0, .inr (1, [.ref h0, .ref p1, .ref p2, .ref p3, .int (nI mn), .ref p4, .int (nI ns)])), (p1, .inl (cI, 5088, .inl (fun z_ => nI (RW z_)))), (p2, .inl (cI, 636, .inl (fun z_ => nI (LE z_)))), (p3, .inl (cI, 8, .inl (fun z_ => nI (PA z_)))), (p4, .inl (cI, 16, .inl (fun z_ => nI (NC z_))))] sz)) (va_A [(g0, .inr (5, [.ref h0, .ref p0, .ref k0, .ref u0, .ref r0])), (h0, .inr (0, [.ref a1, .ref a2, .ref a3, .ref a4, .int (nI N), .int (nI K)])), (a1, .inl (cI, 8, .inl (fun z_ => nI (T z_)))), (a2, .inl (cI, 16, .inl (fun z_ => nI (F z_)))), (a3, .inl (cI, 16, .inl (fun z_ => nI (G z_)))), (a4, .inl (cI, 16, .inl (fun z_ => nI (C z_)))), (p0, .inr (1, [.ref h0, .ref p1, .ref p2, .ref p3, .int (nI mn), .ref p4, .int (nI ns)])), (p1, .inl (cI, 5088, .inl (fun z_ => nI (RW z_)))), (p2, .inl (cI, 636, .inl (fun z_ => nI (LE z_)))), (p3, .inl (cI, 8, .inl (fun z_ => nI (PA z_)))), (p4, .inl (cI, 16, .inl (fun z_ => nI (NC z_))))] sz)) 0 0 (va_A [(g0, .inr (5, [.ref h0, .ref p0, .ref k0, .ref u0, .ref r0])), (h0, .inr (0, [.ref a1, .ref a2, .ref a3, .ref a4, .int (nI N), .int (nI K)])), (a1, .inl (cI, 8, .inl (fun z_ => nI (T z_)))), (a2, .inl (cI, 16, .inl (fun z_ => nI (F z_)))), (a3, .inl (cI, 16, .inl (fun z_ => nI (G z_)))), (a4, .inl (cI, 16, .inl (fun z_ => nI (C z_)))), (p0, .inr (1, [.ref h0, .ref p1, .ref p2, .ref p3, .int (nI mn), .ref p4, .int (nI ns)])), (p1, .inl (cI, 5088, .inl (fun z_ => nI (RW z_)))), (p2, .inl (cI, 636, .inl (fun z_ => nI (LE z_)))), (p3, .inl (cI, 8, .inl (fun z_ => nI (PA z_)))), (p4, .inl (cI, 16, .inl (fun z_ => nI (NC z_))))] sz) := by
  refine z_met_i (cc := cX5_arc) (maxL := 5) (by decide) rfl (Nat.le_of_ble_eq_true rfl) ?_
  intro p e s m args below meth c Q A ls hx hb hml hown hts hin hA hK hP hD hN hl hRET
  have hown : s.vm.findClass RX5 = some m.cls := hown
  obtain ⟨H, eH⟩ : ∃ H : Heap, H = s.heap := ⟨_, rfl⟩
  rw [← eH] at hP
  obtain ⟨locs, eL⟩ : ∃ z : List Loc, z = [] := ⟨_, rfl⟩
  rw [← eH, ← eL]
  have hS : va_S A s.heap H locs := by rw [eH, eL]; exact va_S.rf
  have hl : lv_has ls 5 [(0, .ref g0), (1, .int (iI f)), (2, .int (iI g)), (3, .int (iI k))] := hl
  have w10 := hts (.fieldLink RX5 10 "PullCards" "line" "LPullCards$Line;") (by decide +kernel)
  have uX5 : ∀ w ∈ wsX50, w ∈ wsX5_arc := by decide +kernel
  have w65 := hts (.fieldLink RX5 65 "PullCards$Line" "arcs" "I") (by decide +kernel)
  have uX0 : ∀ w ∈ wsX00, w ∈ wsX5_arc := by decide +kernel
  have w21 := hts (.fieldLink RX5 21 "PullCards" "loops" "LPullCards$Loops;") (by decide +kernel)
  refine lv_aload_n hx hb dX5_arc_0 rfl (lv_at hl 0 rfl) ?_
  refine z_get (D := (dC, dI)) (ci := 5) (v := .ref h0) (C := RX5) (T := TX5) (N := 5) hx hb hts uX5 hown hK hP 0 rfl rfl 0 (by decide) w10 rfl rfl dX5_arc_1 ?_
  refine lv_iload_n hx hb dX5_arc_4 rfl (lv_at hl 1 rfl) ?_
  refine z_callVi (As := [.int (iI f)]) (rest := []) (wr := [(g0, .inr (5, [.ref h0, .ref p0, .ref k0, .ref u0, .ref r0])), (p0, .inr (1, [.ref h0, .ref p1, .ref p2, .ref p3, .int (nI mn), .ref p4, .int (nI ns)])), (p1, .inl (cI, 5088, .inl (fun z_ => nI (RW z_)))), (p2, .inl (cI, 636, .inl (fun z_ => nI (LE z_)))), (p3, .inl (cI, 8, .inl (fun z_ => nI (PA z_)))), (p4, .inl (cI, 16, .inl (fun z_ => nI (NC z_))))]) ⟨hx, hb, hml, hown, hts⟩ (c_X0_hasStation l dC dI cI cJ H.size h0 a1 a2 a3 a4 N K T F G C f (by first | assumption | omega) (by first | assumption | omega) (by first | assumption | omega)) (cwV 1 hts gX5_arc_X0_hasStation rfl rfl rfl (by decide +kernel) ⟨Nat.le_of_ble_eq_true rfl, Nat.le_of_ble_eq_true rfl⟩) hA hK hP hD hS [1, 2, 3, 4, 5] [0, 6, 7, 8, 9, 10] [0, 6, 7, 8, 9, 10, 1, 2, 3, 4, 5] rfl rfl (by decide) (by decide) (by decide) nwA_ok hN (ci := 0) rfl rfl 1 rfl hl.1 (Nat.le_of_ble_eq_true rfl) ⟨Nat.le_refl _, Nat.le_refl _⟩ rfl rfl dX5_arc_5 (fun (u : (Nat)) => [(g0, .inr (5, [.ref h0, .ref p0, .ref k0, .ref u0, .ref r0])), (h0, .inr (0, [.ref a1, .ref a2, .ref a3, .ref a4, .int (nI N), .int (nI K)])), (a1, .inl (cI, 8, .inl (fun z_ => nI (T z_)))), (a2, .inl (cI, 16, .inl (fun z_ => nI (F z_)))), (a3, .inl (cI, 16, .inl (fun z_ => nI (G z_)))), (a4, .inl (cI, 16, .inl (fun z_ => nI (C z_)))), (p0, .inr (1, [.ref h0, .ref p1, .ref p2, .ref p3, .int (nI mn), .ref p4, .int (nI ns)])), (p1, .inl (cI, 5088, .inl (fun z_ => nI (RW z_)))), (p2, .inl (cI, 636, .inl (fun z_ => nI (LE z_)))), (p3, .inl (cI, 8, .inl (fun z_ => nI (PA z_)))), (p4, .inl (cI, 16, .inl (fun z_ => nI (NC z_))))]) (fun u => rfl) (by decide) (fun r_5 u H locs hw hP hD hS => ?_)
  obtain ⟨rv_5, eu⟩ : ∃ z, z = u := ⟨_, rfl⟩
  subst eu
  have hP : va_P (dC, dI) vwCl [(g0, .inr (5, [.ref h0, .ref p0, .ref k0, .ref u0, .ref r0])), (h0, .inr (0, [.ref a1, .ref a2, .ref a3, .ref a4, .int (nI N), .int (nI K)])), (a1, .inl (cI, 8, .inl (fun z_ => nI (T z_)))), (a2, .inl (cI, 16, .inl (fun z_ => nI (F z_)))), (a3, .inl (cI, 16, .inl (fun z_ => nI (G z_)))), (a4, .inl (cI, 16, .inl (fun z_ => nI (C z_)))), (p0, .inr (1, [.ref h0, .ref p1, .ref p2, .ref p3, .int (nI mn), .ref p4, .int (nI ns)])), (p1, .inl (cI, 5088, .inl (fun z_ => nI (RW z_)))), (p2, .inl (cI, 636, .inl (fun z_ => nI (LE z_)))), (p3, .inl (cI, 8, .inl (fun z_ => nI (PA z_)))), (p4, .inl (cI, 16, .inl (fun z_ => nI (NC z_))))] H := hP
  have hD : va_D A [(g0, .inr (5, [.ref h0, .ref p0, .ref k0, .ref u0, .ref r0])), (h0, .inr (0, [.ref a1, .ref a2, .ref a3, .ref a4, .int (nI N), .int (nI K)])), (a1, .inl (cI, 8, .inl (fun z_ => nI (T z_)))), (a2, .inl (cI, 16, .inl (fun z_ => nI (F z_)))), (a3, .inl (cI, 16, .inl (fun z_ => nI (G z_)))), (a4, .inl (cI, 16, .inl (fun z_ => nI (C z_)))), (p0, .inr (1, [.ref h0, .ref p1, .ref p2, .ref p3, .int (nI mn), .ref p4, .int (nI ns)])), (p1, .inl (cI, 5088, .inl (fun z_ => nI (RW z_)))), (p2, .inl (cI, 636, .inl (fun z_ => nI (LE z_)))), (p3, .inl (cI, 8, .inl (fun z_ => nI (PA z_)))), (p4, .inl (cI, 16, .inl (fun z_ => nI (NC z_))))] := hD
  obtain ⟨er, p5_0⟩ := hw
  have p5_0 : (rv_5 = 1 ∧ (0 ≤ f ∧ f < (N : Int))) ∨ (rv_5 = 0 ∧ ¬ (0 ≤ f ∧ f < (N : Int))) := p5_0
  have er : r_5 = (nI rv_5) := er
  subst er
  rcases p5_0 with ⟨h5, c_5⟩ | ⟨h5, c_5⟩
  · skip
    subst h5
    refine lv_if_eq (tgt := 22) hx hb dX5_arc_8 (by decide) (fun c_x => absurd c_x (by decide)) (fun _ => ?_)
    refine lv_aload_n hx hb dX5_arc_11 rfl (lv_at hl 0 rfl) ?_
    refine z_get (D := (dC, dI)) (ci := 5) (v := .ref h0) (C := RX5) (T := TX5) (N := 5) hx hb hts uX5 hown hK hP 0 rfl rfl 0 (by decide) w10 rfl rfl dX5_arc_12 ?_
    refine lv_iload_n hx hb dX5_arc_15 rfl (lv_at hl 2 rfl) ?_
    refine z_callVi (As := [.int (iI g)]) (rest := []) (wr := [(g0, .inr (5, [.ref h0, .ref p0, .ref k0, .ref u0, .ref r0])), (p0, .inr (1, [.ref h0, .ref p1, .ref p2, .ref p3, .int (nI mn), .ref p4, .int (nI ns)])), (p1, .inl (cI, 5088, .inl (fun z_ => nI (RW z_)))), (p2, .inl (cI, 636, .inl (fun z_ => nI (LE z_)))), (p3, .inl (cI, 8, .inl (fun z_ => nI (PA z_)))), (p4, .inl (cI, 16, .inl (fun z_ => nI (NC z_))))]) ⟨hx, hb, hml, hown, hts⟩ (c_X0_hasStation l dC dI cI cJ H.size h0 a1 a2 a3 a4 N K T F G C g (by first | assumption | omega) (by first | assumption | omega) (by first | assumption | omega)) (cwV 1 hts gX5_arc_X0_hasStation rfl rfl rfl (by decide +kernel) ⟨Nat.le_of_ble_eq_true rfl, Nat.le_of_ble_eq_true rfl⟩) hA hK hP hD hS [1, 2, 3, 4, 5] [0, 6, 7, 8, 9, 10] [0, 6, 7, 8, 9, 10, 1, 2, 3, 4, 5] rfl rfl (by decide) (by decide) (by decide) nwA_ok hN (ci := 0) rfl rfl 1 rfl hl.1 (Nat.le_of_ble_eq_true rfl) ⟨Nat.le_refl _, Nat.le_refl _⟩ rfl rfl dX5_arc_16 (fun (u : (Nat)) => [(g0, .inr (5, [.ref h0, .ref p0, .ref k0, .ref u0, .ref r0])), (h0, .inr (0, [.ref a1, .ref a2, .ref a3, .ref a4, .int (nI N), .int (nI K)])), (a1, .inl (cI, 8, .inl (fun z_ => nI (T z_)))), (a2, .inl (cI, 16, .inl (fun z_ => nI (F z_)))), (a3, .inl (cI, 16, .inl (fun z_ => nI (G z_)))), (a4, .inl (cI, 16, .inl (fun z_ => nI (C z_)))), (p0, .inr (1, [.ref h0, .ref p1, .ref p2, .ref p3, .int (nI mn), .ref p4, .int (nI ns)])), (p1, .inl (cI, 5088, .inl (fun z_ => nI (RW z_)))), (p2, .inl (cI, 636, .inl (fun z_ => nI (LE z_)))), (p3, .inl (cI, 8, .inl (fun z_ => nI (PA z_)))), (p4, .inl (cI, 16, .inl (fun z_ => nI (NC z_))))]) (fun u => rfl) (by decide) (fun r_16 u H locs hw hP hD hS => ?_)
    obtain ⟨rv_16, eu⟩ : ∃ z, z = u := ⟨_, rfl⟩
    subst eu
    have hP : va_P (dC, dI) vwCl [(g0, .inr (5, [.ref h0, .ref p0, .ref k0, .ref u0, .ref r0])), (h0, .inr (0, [.ref a1, .ref a2, .ref a3, .ref a4, .int (nI N), .int (nI K)])), (a1, .inl (cI, 8, .inl (fun z_ => nI (T z_)))), (a2, .inl (cI, 16, .inl (fun z_ => nI (F z_)))), (a3, .inl (cI, 16, .inl (fun z_ => nI (G z_)))), (a4, .inl (cI, 16, .inl (fun z_ => nI (C z_)))), (p0, .inr (1, [.ref h0, .ref p1, .ref p2, .ref p3, .int (nI mn), .ref p4, .int (nI ns)])), (p1, .inl (cI, 5088, .inl (fun z_ => nI (RW z_)))), (p2, .inl (cI, 636, .inl (fun z_ => nI (LE z_)))), (p3, .inl (cI, 8, .inl (fun z_ => nI (PA z_)))), (p4, .inl (cI, 16, .inl (fun z_ => nI (NC z_))))] H := hP
    have hD : va_D A [(g0, .inr (5, [.ref h0, .ref p0, .ref k0, .ref u0, .ref r0])), (h0, .inr (0, [.ref a1, .ref a2, .ref a3, .ref a4, .int (nI N), .int (nI K)])), (a1, .inl (cI, 8, .inl (fun z_ => nI (T z_)))), (a2, .inl (cI, 16, .inl (fun z_ => nI (F z_)))), (a3, .inl (cI, 16, .inl (fun z_ => nI (G z_)))), (a4, .inl (cI, 16, .inl (fun z_ => nI (C z_)))), (p0, .inr (1, [.ref h0, .ref p1, .ref p2, .ref p3, .int (nI mn), .ref p4, .int (nI ns)])), (p1, .inl (cI, 5088, .inl (fun z_ => nI (RW z_)))), (p2, .inl (cI, 636, .inl (fun z_ => nI (LE z_)))), (p3, .inl (cI, 8, .inl (fun z_ => nI (PA z_)))), (p4, .inl (cI, 16, .inl (fun z_ => nI (NC z_))))] := hD
    obtain ⟨er, p16_0⟩ := hw
    have p16_0 : (rv_16 = 1 ∧ (0 ≤ g ∧ g < (N : Int))) ∨ (rv_16 = 0 ∧ ¬ (0 ≤ g ∧ g < (N : Int))) := p16_0
    have er : r_16 = (nI rv_16) := er
    subst er
    rcases p16_0 with ⟨h16, c_16⟩ | ⟨h16, c_16⟩
    · skip
      subst h16
      refine lv_if_ne (tgt := 24) hx hb dX5_arc_19 (by decide) (fun _ => ?_) (fun c_x => absurd c_x (by decide))
      refine lv_iload_n hx hb dX5_arc_24 rfl (lv_at hl 3 rfl) ?_
      refine lv_iconst (v := nI 0) hx hb dX5_arc_25 (by decide) ?_
      refine lv_bipush (v := nI 9) hx hb dX5_arc_26 (by decide) ?_
      refine z_c0 (v := iI 9) (by decide) ?_
      refine z_c1 (v := iI 0) (by decide) ?_
      refine z_callSi (As := [.int (iI k), .int (iI 0), .int (iI 9)]) (rest := []) (wr := [(g0, .inr (5, [.ref h0, .ref p0, .ref k0, .ref u0, .ref r0])), (h0, .inr (0, [.ref a1, .ref a2, .ref a3, .ref a4, .int (nI N), .int (nI K)])), (a1, .inl (cI, 8, .inl (fun z_ => nI (T z_)))), (a2, .inl (cI, 16, .inl (fun z_ => nI (F z_)))), (a3, .inl (cI, 16, .inl (fun z_ => nI (G z_)))), (a4, .inl (cI, 16, .inl (fun z_ => nI (C z_)))), (p0, .inr (1, [.ref h0, .ref p1, .ref p2, .ref p3, .int (nI mn), .ref p4, .int (nI ns)])), (p1, .inl (cI, 5088, .inl (fun z_ => nI (RW z_)))), (p2, .inl (cI, 636, .inl (fun z_ => nI (LE z_)))), (p3, .inl (cI, 8, .inl (fun z_ => nI (PA z_)))), (p4, .inl (cI, 16, .inl (fun z_ => nI (NC z_))))]) ⟨hx, hb, hml, hown, hts⟩ (c_X5_within l dC dI cI cJ H.size k (0 : Int) (9 : Int) (by first | assumption | omega) (by first | assumption | omega) (by first | assumption | omega)) (va_cwS 3 hts gX5_arc_X5_within rfl rfl rfl (by decide +kernel) ⟨Nat.le_of_ble_eq_true rfl, Nat.le_of_ble_eq_true rfl⟩) hA hK hP hD hS [] [0, 1, 2, 3, 4, 5, 6, 7, 8, 9, 10] [0, 1, 2, 3, 4, 5, 6, 7, 8, 9, 10] rfl rfl (by decide) (by decide) (by decide) nwA_ok hN hl.1 (Nat.le_of_ble_eq_true rfl) ⟨Nat.le_refl _, Nat.le_refl _⟩ rfl rfl dX5_arc_28 (fun (u : (Nat)) => [(g0, .inr (5, [.ref h0, .ref p0, .ref k0, .ref u0, .ref r0])), (h0, .inr (0, [.ref a1, .ref a2, .ref a3, .ref a4, .int (nI N), .int (nI K)])), (a1, .inl (cI, 8, .inl (fun z_ => nI (T z_)))), (a2, .inl (cI, 16, .inl (fun z_ => nI (F z_)))), (a3, .inl (cI, 16, .inl (fun z_ => nI (G z_)))), (a4, .inl (cI, 16, .inl (fun z_ => nI (C z_)))), (p0, .inr (1, [.ref h0, .ref p1, .ref p2, .ref p3, .int (nI mn), .ref p4, .int (nI ns)])), (p1, .inl (cI, 5088, .inl (fun z_ => nI (RW z_)))), (p2, .inl (cI, 636, .inl (fun z_ => nI (LE z_)))), (p3, .inl (cI, 8, .inl (fun z_ => nI (PA z_)))), (p4, .inl (cI, 16, .inl (fun z_ => nI (NC z_))))]) (fun u => rfl) (by decide) (fun r_28 u H locs hw hP hD hS => ?_)
      obtain ⟨rv_28, eu⟩ : ∃ z, z = u := ⟨_, rfl⟩
      subst eu
      have hP : va_P (dC, dI) vwCl [(g0, .inr (5, [.ref h0, .ref p0, .ref k0, .ref u0, .ref r0])), (h0, .inr (0, [.ref a1, .ref a2, .ref a3, .ref a4, .int (nI N), .int (nI K)])), (a1, .inl (cI, 8, .inl (fun z_ => nI (T z_)))), (a2, .inl (cI, 16, .inl (fun z_ => nI (F z_)))), (a3, .inl (cI, 16, .inl (fun z_ => nI (G z_)))), (a4, .inl (cI, 16, .inl (fun z_ => nI (C z_)))), (p0, .inr (1, [.ref h0, .ref p1, .ref p2, .ref p3, .int (nI mn), .ref p4, .int (nI ns)])), (p1, .inl (cI, 5088, .inl (fun z_ => nI (RW z_)))), (p2, .inl (cI, 636, .inl (fun z_ => nI (LE z_)))), (p3, .inl (cI, 8, .inl (fun z_ => nI (PA z_)))), (p4, .inl (cI, 16, .inl (fun z_ => nI (NC z_))))] H := hP
      have hD : va_D A [(g0, .inr (5, [.ref h0, .ref p0, .ref k0, .ref u0, .ref r0])), (h0, .inr (0, [.ref a1, .ref a2, .ref a3, .ref a4, .int (nI N), .int (nI K)])), (a1, .inl (cI, 8, .inl (fun z_ => nI (T z_)))), (a2, .inl (cI, 16, .inl (fun z_ => nI (F z_)))), (a3, .inl (cI, 16, .inl (fun z_ => nI (G z_)))), (a4, .inl (cI, 16, .inl (fun z_ => nI (C z_)))), (p0, .inr (1, [.ref h0, .ref p1, .ref p2, .ref p3, .int (nI mn), .ref p4, .int (nI ns)])), (p1, .inl (cI, 5088, .inl (fun z_ => nI (RW z_)))), (p2, .inl (cI, 636, .inl (fun z_ => nI (LE z_)))), (p3, .inl (cI, 8, .inl (fun z_ => nI (PA z_)))), (p4, .inl (cI, 16, .inl (fun z_ => nI (NC z_))))] := hD
      obtain ⟨er, p28_0⟩ := hw
      have p28_0 : (rv_28 = 1 ∧ ((0 : Int) ≤ k ∧ k ≤ (9 : Int))) ∨ (rv_28 = 0 ∧ ¬ ((0 : Int) ≤ k ∧ k ≤ (9 : Int))) := p28_0
      have er : r_28 = (nI rv_28) := er
      subst er
      rcases p28_0 with ⟨h28, c_28⟩ | ⟨h28, c_28⟩
      · skip
        subst h28
        refine lv_if_ne (tgt := 37) hx hb dX5_arc_31 (by decide) (fun _ => ?_) (fun c_x => absurd c_x (by decide))
        refine lv_aload_n hx hb dX5_arc_37 rfl (lv_at hl 0 rfl) ?_
        refine z_get (D := (dC, dI)) (ci := 5) (v := .ref h0) (C := RX5) (T := TX5) (N := 5) hx hb hts uX5 hown hK hP 0 rfl rfl 0 (by decide) w10 rfl rfl dX5_arc_38 ?_
        refine z_get (D := (dC, dI)) (ci := 0) (v := .int (nI K)) (C := RX0) (T := TX0) (N := 6) hx hb hts uX0 hown hK hP 1 rfl rfl 5 (by decide) w65 rfl rfl dX5_arc_41 ?_
        refine lv_bipush (v := nI 16) hx hb dX5_arc_44 (by decide) ?_
        refine z_icmp_lt (tgt := 52) hx hb dX5_arc_46 (by decide) (zcn_lt (a := K) (b := 16) rfl rfl (by omega)) (fun c_46 => ?_) (fun c_46 => ?_)
        · skip
          refine lv_aload_n hx hb dX5_arc_52 rfl (lv_at hl 0 rfl) ?_
          refine z_get (D := (dC, dI)) (ci := 5) (v := .ref h0) (C := RX5) (T := TX5) (N := 5) hx hb hts uX5 hown hK hP 0 rfl rfl 0 (by decide) w10 rfl rfl dX5_arc_53 ?_
          refine lv_iload_n hx hb dX5_arc_56 rfl (lv_at hl 1 rfl) ?_
          refine lv_iload_n hx hb dX5_arc_57 rfl (lv_at hl 2 rfl) ?_
          refine lv_iload_n hx hb dX5_arc_58 rfl (lv_at hl 3 rfl) ?_
          refine z_c0 (v := nI k.toNat) (z_ZtoN (by first | assumption | omega)) ?_
          refine z_c1 (v := nI g.toNat) (z_ZtoN (by first | assumption | omega)) ?_
          refine z_c2 (v := nI f.toNat) (z_ZtoN (by first | assumption | omega)) ?_
          refine z_callVi (As := [.int (nI f.toNat), .int (nI g.toNat), .int (nI k.toNat)]) (rest := []) (wr := [(g0, .inr (5, [.ref h0, .ref p0, .ref k0, .ref u0, .ref r0])), (p0, .inr (1, [.ref h0, .ref p1, .ref p2, .ref p3, .int (nI mn), .ref p4, .int (nI ns)])), (p1, .inl (cI, 5088, .inl (fun z_ => nI (RW z_)))), (p2, .inl (cI, 636, .inl (fun z_ => nI (LE z_)))), (p3, .inl (cI, 8, .inl (fun z_ => nI (PA z_)))), (p4, .inl (cI, 16, .inl (fun z_ => nI (NC z_))))]) ⟨hx, hb, hml, hown, hts⟩ (c_X0_addArc l dC dI cI cJ H.size h0 a1 a2 a3 a4 N K T F G C f.toNat g.toNat k.toNat (by first | assumption | omega)) (cwV 3 hts gX5_arc_X0_addArc rfl rfl rfl (by decide +kernel) ⟨Nat.le_of_ble_eq_true rfl, Nat.le_of_ble_eq_true rfl⟩) hA hK hP hD hS [1, 2, 3, 4, 5] [0, 6, 7, 8, 9, 10] [0, 6, 7, 8, 9, 10, 1, 2, 3, 4, 5] rfl rfl (by decide) (by decide) (by decide) nwA_ok hN (ci := 0) rfl rfl 1 rfl hl.1 (Nat.le_of_ble_eq_true rfl) ⟨Nat.le_refl _, Nat.le_refl _⟩ rfl rfl dX5_arc_59 (fun (u : Unit) => [(g0, .inr (5, [.ref h0, .ref p0, .ref k0, .ref u0, .ref r0])), (h0, .inr (0, [.ref a1, .ref a2, .ref a3, .ref a4, .int (nI N), .int (nI (K + 1))])), (a1, .inl (cI, 8, .inl (fun z_ => nI (T z_)))), (a2, .inl (cI, 16, .inl (fun z_ => nI ((up F K f.toNat) z_)))), (a3, .inl (cI, 16, .inl (fun z_ => nI ((up G K g.toNat) z_)))), (a4, .inl (cI, 16, .inl (fun z_ => nI ((up C K k.toNat) z_)))), (p0, .inr (1, [.ref h0, .ref p1, .ref p2, .ref p3, .int (nI mn), .ref p4, .int (nI ns)])), (p1, .inl (cI, 5088, .inl (fun z_ => nI (RW z_)))), (p2, .inl (cI, 636, .inl (fun z_ => nI (LE z_)))), (p3, .inl (cI, 8, .inl (fun z_ => nI (PA z_)))), (p4, .inl (cI, 16, .inl (fun z_ => nI (NC z_))))]) (fun u => rfl) (by decide) (fun r_59 u H locs hw hP hD hS => ?_)
          have hP : va_P (dC, dI) vwCl [(g0, .inr (5, [.ref h0, .ref p0, .ref k0, .ref u0, .ref r0])), (h0, .inr (0, [.ref a1, .ref a2, .ref a3, .ref a4, .int (nI N), .int (nI (K + 1))])), (a1, .inl (cI, 8, .inl (fun z_ => nI (T z_)))), (a2, .inl (cI, 16, .inl (fun z_ => nI ((up F K f.toNat) z_)))), (a3, .inl (cI, 16, .inl (fun z_ => nI ((up G K g.toNat) z_)))), (a4, .inl (cI, 16, .inl (fun z_ => nI ((up C K k.toNat) z_)))), (p0, .inr (1, [.ref h0, .ref p1, .ref p2, .ref p3, .int (nI mn), .ref p4, .int (nI ns)])), (p1, .inl (cI, 5088, .inl (fun z_ => nI (RW z_)))), (p2, .inl (cI, 636, .inl (fun z_ => nI (LE z_)))), (p3, .inl (cI, 8, .inl (fun z_ => nI (PA z_)))), (p4, .inl (cI, 16, .inl (fun z_ => nI (NC z_))))] H := hP
          have hD : va_D A [(g0, .inr (5, [.ref h0, .ref p0, .ref k0, .ref u0, .ref r0])), (h0, .inr (0, [.ref a1, .ref a2, .ref a3, .ref a4, .int (nI N), .int (nI (K + 1))])), (a1, .inl (cI, 8, .inl (fun z_ => nI (T z_)))), (a2, .inl (cI, 16, .inl (fun z_ => nI ((up F K f.toNat) z_)))), (a3, .inl (cI, 16, .inl (fun z_ => nI ((up G K g.toNat) z_)))), (a4, .inl (cI, 16, .inl (fun z_ => nI ((up C K k.toNat) z_)))), (p0, .inr (1, [.ref h0, .ref p1, .ref p2, .ref p3, .int (nI mn), .ref p4, .int (nI ns)])), (p1, .inl (cI, 5088, .inl (fun z_ => nI (RW z_)))), (p2, .inl (cI, 636, .inl (fun z_ => nI (LE z_)))), (p3, .inl (cI, 8, .inl (fun z_ => nI (PA z_)))), (p4, .inl (cI, 16, .inl (fun z_ => nI (NC z_))))] := hD
          have er := hw
          have er : r_59 = (nI K) := er
          subst er
          refine lv_istore (lv' := [(4, .int (nI K)), (0, .ref g0), (1, .int (iI f)), (2, .int (iI g)), (3, .int (iI k))]) hx hb dX5_arc_62 hl (by decide) rfl (fun ls hl => ?_)
          refine lv_aload_n hx hb dX5_arc_64 rfl (lv_at hl 1 rfl) ?_
          refine z_get (D := (dC, dI)) (ci := 5) (v := .ref p0) (C := RX5) (T := TX5) (N := 5) hx hb hts uX5 hown hK hP 0 rfl rfl 1 (by decide) w21 rfl rfl dX5_arc_65 ?_
          refine z_callVv (As := []) (rest := []) (wr := [(g0, .inr (5, [.ref h0, .ref p0, .ref k0, .ref u0, .ref r0])), (h0, .inr (0, [.ref a1, .ref a2, .ref a3, .ref a4, .int (nI N), .int (nI (K + 1))])), (a1, .inl (cI, 8, .inl (fun z_ => nI (T z_)))), (a2, .inl (cI, 16, .inl (fun z_ => nI ((up F K f.toNat) z_)))), (a3, .inl (cI, 16, .inl (fun z_ => nI ((up G K g.toNat) z_)))), (a4, .inl (cI, 16, .inl (fun z_ => nI ((up C K k.toNat) z_)))), (p1, .inl (cI, 5088, .inl (fun z_ => nI (RW z_)))), (p2, .inl (cI, 636, .inl (fun z_ => nI (LE z_)))), (p3, .inl (cI, 8, .inl (fun z_ => nI (PA z_)))), (p4, .inl (cI, 16, .inl (fun z_ => nI (NC z_))))]) ⟨hx, hb, hml, hown, hts⟩ (c_X1_forgetNote l dC dI cI cJ H.size p0 p1 p2 p3 p4 h0 mn ns ) (cwV 0 hts gX5_arc_X1_forgetNote rfl rfl rfl (by decide +kernel) ⟨Nat.le_of_ble_eq_true rfl, Nat.le_of_ble_eq_true rfl⟩) hA hK hP hD hS [6] [0, 1, 2, 3, 4, 5, 7, 8, 9, 10] [0, 1, 2, 3, 4, 5, 10, 6, 7, 8, 9] rfl rfl (by decide) (by decide) (by decide) nwA_ok hN (ci := 1) rfl rfl 6 rfl hl.1 (Nat.le_of_ble_eq_true rfl) ⟨Nat.le_refl _, Nat.le_refl _⟩ rfl rfl dX5_arc_68 (fun (u : Unit) => [(g0, .inr (5, [.ref h0, .ref p0, .ref k0, .ref u0, .ref r0])), (h0, .inr (0, [.ref a1, .ref a2, .ref a3, .ref a4, .int (nI N), .int (nI (K + 1))])), (a1, .inl (cI, 8, .inl (fun z_ => nI (T z_)))), (a2, .inl (cI, 16, .inl (fun z_ => nI ((up F K f.toNat) z_)))), (a3, .inl (cI, 16, .inl (fun z_ => nI ((up G K g.toNat) z_)))), (a4, .inl (cI, 16, .inl (fun z_ => nI ((up C K k.toNat) z_)))), (p0, .inr (1, [.ref h0, .ref p1, .ref p2, .ref p3, .int (nI mn), .ref p4, .int (nI 0)])), (p1, .inl (cI, 5088, .inl (fun z_ => nI (RW z_)))), (p2, .inl (cI, 636, .inl (fun z_ => nI (LE z_)))), (p3, .inl (cI, 8, .inl (fun z_ => nI (PA z_)))), (p4, .inl (cI, 16, .inl (fun z_ => nI (NC z_))))]) (fun u => rfl) (by decide) (fun u H locs hw hP hD hS => ?_)
          have hP : va_P (dC, dI) vwCl [(g0, .inr (5, [.ref h0, .ref p0, .ref k0, .ref u0, .ref r0])), (h0, .inr (0, [.ref a1, .ref a2, .ref a3, .ref a4, .int (nI N), .int (nI (K + 1))])), (a1, .inl (cI, 8, .inl (fun z_ => nI (T z_)))), (a2, .inl (cI, 16, .inl (fun z_ => nI ((up F K f.toNat) z_)))), (a3, .inl (cI, 16, .inl (fun z_ => nI ((up G K g.toNat) z_)))), (a4, .inl (cI, 16, .inl (fun z_ => nI ((up C K k.toNat) z_)))), (p0, .inr (1, [.ref h0, .ref p1, .ref p2, .ref p3, .int (nI mn), .ref p4, .int (nI 0)])), (p1, .inl (cI, 5088, .inl (fun z_ => nI (RW z_)))), (p2, .inl (cI, 636, .inl (fun z_ => nI (LE z_)))), (p3, .inl (cI, 8, .inl (fun z_ => nI (PA z_)))), (p4, .inl (cI, 16, .inl (fun z_ => nI (NC z_))))] H := hP
          have hD : va_D A [(g0, .inr (5, [.ref h0, .ref p0, .ref k0, .ref u0, .ref r0])), (h0, .inr (0, [.ref a1, .ref a2, .ref a3, .ref a4, .int (nI N), .int (nI (K + 1))])), (a1, .inl (cI, 8, .inl (fun z_ => nI (T z_)))), (a2, .inl (cI, 16, .inl (fun z_ => nI ((up F K f.toNat) z_)))), (a3, .inl (cI, 16, .inl (fun z_ => nI ((up G K g.toNat) z_)))), (a4, .inl (cI, 16, .inl (fun z_ => nI ((up C K k.toNat) z_)))), (p0, .inr (1, [.ref h0, .ref p1, .ref p2, .ref p3, .int (nI mn), .ref p4, .int (nI 0)])), (p1, .inl (cI, 5088, .inl (fun z_ => nI (RW z_)))), (p2, .inl (cI, 636, .inl (fun z_ => nI (LE z_)))), (p3, .inl (cI, 8, .inl (fun z_ => nI (PA z_)))), (p4, .inl (cI, 16, .inl (fun z_ => nI (NC z_))))] := hD
          refine lv_aload_n hx hb dX5_arc_71 rfl (lv_at hl 1 rfl) ?_
          refine z_get (D := (dC, dI)) (ci := 5) (v := .ref p0) (C := RX5) (T := TX5) (N := 5) hx hb hts uX5 hown hK hP 0 rfl rfl 1 (by decide) w21 rfl rfl dX5_arc_72 ?_
          refine z_callVv (As := []) (rest := []) (wr := [(g0, .inr (5, [.ref h0, .ref p0, .ref k0, .ref u0, .ref r0]))]) ⟨hx, hb, hml, hown, hts⟩ (c_X1_find l dC dI cI cJ H.size p0 p1 p2 p3 p4 h0 RW LE PA NC mn 0 a1 a2 a3 a4 N (K + 1) T (up F K f.toNat) (up G K g.toNat) (up C K k.toNat) (by first | assumption | omega) (by first | assumption | omega) (by intro a; rw [up_e]; split; omega; exact bF a) (by intro a; rw [up_e]; split; omega; exact bG a) (by first | assumption | omega) (by first | assumption | omega) (by first | assumption | omega) (by exact sp_636 (by omega) (by omega) _ _)) (cwV 0 hts gX5_arc_X1_find rfl rfl rfl (by decide +kernel) ⟨Nat.le_of_ble_eq_true rfl, Nat.le_of_ble_eq_true rfl⟩) hA hK hP hD hS [6, 7, 8, 9, 10, 1, 2, 3, 4, 5] [0] [0, 6, 7, 8, 9, 10, 1, 2, 3, 4, 5] rfl rfl (by decide) (by decide) (by decide) nwA_ok hN (ci := 1) rfl rfl 6 rfl hl.1 (Nat.le_of_ble_eq_true rfl) ⟨Nat.le_refl _, Nat.le_refl _⟩ rfl rfl dX5_arc_75 (fun (u : (Nat → Nat) × (Nat → Nat) × (Nat → Nat) × (Nat)) => [(g0, .inr (5, [.ref h0, .ref p0, .ref k0, .ref u0, .ref r0])), (h0, .inr (0, [.ref a1, .ref a2, .ref a3, .ref a4, .int (nI N), .int (nI (K + 1))])), (a1, .inl (cI, 8, .inl (fun z_ => nI (T z_)))), (a2, .inl (cI, 16, .inl (fun z_ => nI ((up F K f.toNat) z_)))), (a3, .inl (cI, 16, .inl (fun z_ => nI ((up G K g.toNat) z_)))), (a4, .inl (cI, 16, .inl (fun z_ => nI ((up C K k.toNat) z_)))), (p0, .inr (1, [.ref h0, .ref p1, .ref p2, .ref p3, .int (nI u.2.2.2), .ref p4, .int (nI 0)])), (p1, .inl (cI, 5088, .inl (fun z_ => nI (u.1 z_)))), (p2, .inl (cI, 636, .inl (fun z_ => nI (u.2.1 z_)))), (p3, .inl (cI, 8, .inl (fun z_ => nI (u.2.2.1 z_)))), (p4, .inl (cI, 16, .inl (fun z_ => nI (NC z_))))]) (fun u => rfl) (by decide) (fun u H locs hw hP hD hS => ?_)
          obtain ⟨RW2_75, LE2_75, PA2_75, mn2_75⟩ := u
          have hP : va_P (dC, dI) vwCl [(g0, .inr (5, [.ref h0, .ref p0, .ref k0, .ref u0, .ref r0])), (h0, .inr (0, [.ref a1, .ref a2, .ref a3, .ref a4, .int (nI N), .int (nI (K + 1))])), (a1, .inl (cI, 8, .inl (fun z_ => nI (T z_)))), (a2, .inl (cI, 16, .inl (fun z_ => nI ((up F K f.toNat) z_)))), (a3, .inl (cI, 16, .inl (fun z_ => nI ((up G K g.toNat) z_)))), (a4, .inl (cI, 16, .inl (fun z_ => nI ((up C K k.toNat) z_)))), (p0, .inr (1, [.ref h0, .ref p1, .ref p2, .ref p3, .int (nI mn2_75), .ref p4, .int (nI 0)])), (p1, .inl (cI, 5088, .inl (fun z_ => nI (RW2_75 z_)))), (p2, .inl (cI, 636, .inl (fun z_ => nI (LE2_75 z_)))), (p3, .inl (cI, 8, .inl (fun z_ => nI (PA2_75 z_)))), (p4, .inl (cI, 16, .inl (fun z_ => nI (NC z_))))] H := hP
          have hD : va_D A [(g0, .inr (5, [.ref h0, .ref p0, .ref k0, .ref u0, .ref r0])), (h0, .inr (0, [.ref a1, .ref a2, .ref a3, .ref a4, .int (nI N), .int (nI (K + 1))])), (a1, .inl (cI, 8, .inl (fun z_ => nI (T z_)))), (a2, .inl (cI, 16, .inl (fun z_ => nI ((up F K f.toNat) z_)))), (a3, .inl (cI, 16, .inl (fun z_ => nI ((up G K g.toNat) z_)))), (a4, .inl (cI, 16, .inl (fun z_ => nI ((up C K k.toNat) z_)))), (p0, .inr (1, [.ref h0, .ref p1, .ref p2, .ref p3, .int (nI mn2_75), .ref p4, .int (nI 0)])), (p1, .inl (cI, 5088, .inl (fun z_ => nI (RW2_75 z_)))), (p2, .inl (cI, 636, .inl (fun z_ => nI (LE2_75 z_)))), (p3, .inl (cI, 8, .inl (fun z_ => nI (PA2_75 z_)))), (p4, .inl (cI, 16, .inl (fun z_ => nI (NC z_))))] := hD
          obtain ⟨p75_0, p75_1, p75_2, p75_3⟩ := hw
          have p75_0 : sp_hold (sp_all N (K + 1) (up F K f.toNat) (up G K g.toNat)) mn2_75 RW2_75 LE2_75 := p75_0
          have p75_1 : ∀ i, RW2_75 i < 16 := p75_1
          have p75_2 : ∀ i, LE2_75 i ≤ 8 := p75_2
          have p75_3 : ∀ i, PA2_75 i < 16 := p75_3
          refine lv_iload hx hb dX5_arc_78 (lv_at hl 0 rfl) ?_
          refine z_c0 (v := iI ((K : Nat) : Int)) (iI_N _) ?_
          have q_0 : ((K : Nat) : Int) = if ((0 ≤ f ∧ f < (N : Int)) ∧ (0 ≤ g ∧ g < (N : Int))) then (if 0 ≤ k ∧ k ≤ 9 then (if K < 16 then (K : Int) else -4) else -2) else -1 := by repeat (first | rw [if_pos (by omega)] | rw [if_neg (by omega)])
          have q_1 : (K + 1) = if ((((0 ≤ f ∧ f < (N : Int)) ∧ (0 ≤ g ∧ g < (N : Int))) ∧ (0 ≤ k ∧ k ≤ 9)) ∧ K < 16) then K + 1 else K := by repeat (first | rw [if_pos (by omega)] | rw [if_neg (by omega)])
          have q_2 : (up F K f.toNat) = if ((((0 ≤ f ∧ f < (N : Int)) ∧ (0 ≤ g ∧ g < (N : Int))) ∧ (0 ≤ k ∧ k ≤ 9)) ∧ K < 16) then up F K f.toNat else F := by repeat (first | rw [if_pos (by omega)] | rw [if_neg (by omega)])
          have q_3 : (up G K g.toNat) = if ((((0 ≤ f ∧ f < (N : Int)) ∧ (0 ≤ g ∧ g < (N : Int))) ∧ (0 ≤ k ∧ k ≤ 9)) ∧ K < 16) then up G K g.toNat else G := by repeat (first | rw [if_pos (by omega)] | rw [if_neg (by omega)])
          have q_4 : (up C K k.toNat) = if ((((0 ≤ f ∧ f < (N : Int)) ∧ (0 ≤ g ∧ g < (N : Int))) ∧ (0 ≤ k ∧ k ≤ 9)) ∧ K < 16) then up C K k.toNat else C := by repeat (first | rw [if_pos (by omega)] | rw [if_neg (by omega)])
          have q_5 : 0 = if ((((0 ≤ f ∧ f < (N : Int)) ∧ (0 ≤ g ∧ g < (N : Int))) ∧ (0 ≤ k ∧ k ≤ 9)) ∧ K < 16) then 0 else ns := by repeat (first | rw [if_pos (by omega)] | rw [if_neg (by omega)])
          have q_6 : sp_hold (sp_all N (K + 1) (up F K f.toNat) (up G K g.toNat)) mn2_75 RW2_75 LE2_75 := by first | exact hh | exact p75_0
          have q_7 : ∀ i, RW2_75 i < 16 := by first | assumption | omega
          have q_8 : ∀ i, LE2_75 i ≤ 8 := by first | assumption | omega
          have q_9 : ∀ i, PA2_75 i < 16 := by first | assumption | omega
          exact hRET _ ls H locs ((iI ((K : Nat) : Int))) (((K : Nat) : Int), (K + 1), (up F K f.toNat), (up G K g.toNat), (up C K k.toNat), 0, RW2_75, LE2_75, PA2_75, mn2_75) dX5_arc_80 ⟨rfl, q_0, q_1, q_2, q_3, q_4, q_5, q_6, q_7, q_8, q_9⟩ hP hD hS
        · skip
          refine lv_bipush (v := iI (-4)) hx hb dX5_arc_49 (by decide) ?_
          have q_0 : (-4 : Int) = if ((0 ≤ f ∧ f < (N : Int)) ∧ (0 ≤ g ∧ g < (N : Int))) then (if 0 ≤ k ∧ k ≤ 9 then (if K < 16 then (K : Int) else -4) else -2) else -1 := by repeat (first | rw [if_pos (by omega)] | rw [if_neg (by omega)])
          have q_1 : K = if ((((0 ≤ f ∧ f < (N : Int)) ∧ (0 ≤ g ∧ g < (N : Int))) ∧ (0 ≤ k ∧ k ≤ 9)) ∧ K < 16) then K + 1 else K := by repeat (first | rw [if_pos (by omega)] | rw [if_neg (by omega)])
          have q_2 : F = if ((((0 ≤ f ∧ f < (N : Int)) ∧ (0 ≤ g ∧ g < (N : Int))) ∧ (0 ≤ k ∧ k ≤ 9)) ∧ K < 16) then up F K f.toNat else F := by repeat (first | rw [if_pos (by omega)] | rw [if_neg (by omega)])
          have q_3 : G = if ((((0 ≤ f ∧ f < (N : Int)) ∧ (0 ≤ g ∧ g < (N : Int))) ∧ (0 ≤ k ∧ k ≤ 9)) ∧ K < 16) then up G K g.toNat else G := by repeat (first | rw [if_pos (by omega)] | rw [if_neg (by omega)])
          have q_4 : C = if ((((0 ≤ f ∧ f < (N : Int)) ∧ (0 ≤ g ∧ g < (N : Int))) ∧ (0 ≤ k ∧ k ≤ 9)) ∧ K < 16) then up C K k.toNat else C := by repeat (first | rw [if_pos (by omega)] | rw [if_neg (by omega)])
          have q_5 : ns = if ((((0 ≤ f ∧ f < (N : Int)) ∧ (0 ≤ g ∧ g < (N : Int))) ∧ (0 ≤ k ∧ k ≤ 9)) ∧ K < 16) then 0 else ns := by repeat (first | rw [if_pos (by omega)] | rw [if_neg (by omega)])
          have q_6 : sp_hold (sp_all N K F G) mn RW LE := by first | exact hh | exact p75_0
          have q_7 : ∀ i, RW i < 16 := by first | assumption | omega
          have q_8 : ∀ i, LE i ≤ 8 := by first | assumption | omega
          have q_9 : ∀ i, PA i < 16 := by first | assumption | omega
          exact hRET _ ls H locs ((iI (-4))) ((-4 : Int), K, F, G, C, ns, RW, LE, PA, mn) dX5_arc_51 ⟨rfl, q_0, q_1, q_2, q_3, q_4, q_5, q_6, q_7, q_8, q_9⟩ hP hD hS
      · skip
        subst h28
        refine lv_if_ne (tgt := 37) hx hb dX5_arc_31 (by decide) (fun c_x => absurd c_x (by decide)) (fun _ => ?_)
        refine lv_bipush (v := iI (-2)) hx hb dX5_arc_34 (by decide) ?_
        have q_0 : (-2 : Int) = if ((0 ≤ f ∧ f < (N : Int)) ∧ (0 ≤ g ∧ g < (N : Int))) then (if 0 ≤ k ∧ k ≤ 9 then (if K < 16 then (K : Int) else -4) else -2) else -1 := by repeat (first | rw [if_pos (by omega)] | rw [if_neg (by omega)])
        have q_1 : K = if ((((0 ≤ f ∧ f < (N : Int)) ∧ (0 ≤ g ∧ g < (N : Int))) ∧ (0 ≤ k ∧ k ≤ 9)) ∧ K < 16) then K + 1 else K := by repeat (first | rw [if_pos (by omega)] | rw [if_neg (by omega)])
        have q_2 : F = if ((((0 ≤ f ∧ f < (N : Int)) ∧ (0 ≤ g ∧ g < (N : Int))) ∧ (0 ≤ k ∧ k ≤ 9)) ∧ K < 16) then up F K f.toNat else F := by repeat (first | rw [if_pos (by omega)] | rw [if_neg (by omega)])
        have q_3 : G = if ((((0 ≤ f ∧ f < (N : Int)) ∧ (0 ≤ g ∧ g < (N : Int))) ∧ (0 ≤ k ∧ k ≤ 9)) ∧ K < 16) then up G K g.toNat else G := by repeat (first | rw [if_pos (by omega)] | rw [if_neg (by omega)])
        have q_4 : C = if ((((0 ≤ f ∧ f < (N : Int)) ∧ (0 ≤ g ∧ g < (N : Int))) ∧ (0 ≤ k ∧ k ≤ 9)) ∧ K < 16) then up C K k.toNat else C := by repeat (first | rw [if_pos (by omega)] | rw [if_neg (by omega)])
        have q_5 : ns = if ((((0 ≤ f ∧ f < (N : Int)) ∧ (0 ≤ g ∧ g < (N : Int))) ∧ (0 ≤ k ∧ k ≤ 9)) ∧ K < 16) then 0 else ns := by repeat (first | rw [if_pos (by omega)] | rw [if_neg (by omega)])
        have q_6 : sp_hold (sp_all N K F G) mn RW LE := by first | exact hh | exact p75_0
        have q_7 : ∀ i, RW i < 16 := by first | assumption | omega
        have q_8 : ∀ i, LE i ≤ 8 := by first | assumption | omega
        have q_9 : ∀ i, PA i < 16 := by first | assumption | omega
        exact hRET _ ls H locs ((iI (-2))) ((-2 : Int), K, F, G, C, ns, RW, LE, PA, mn) dX5_arc_36 ⟨rfl, q_0, q_1, q_2, q_3, q_4, q_5, q_6, q_7, q_8, q_9⟩ hP hD hS
    · skip
      subst h16
      refine lv_if_ne (tgt := 24) hx hb dX5_arc_19 (by decide) (fun c_x => absurd c_x (by decide)) (fun _ => ?_)
      refine lv_iconst (v := iI (-1)) hx hb dX5_arc_22 (by decide) ?_
      have q_0 : (-1 : Int) = if ((0 ≤ f ∧ f < (N : Int)) ∧ (0 ≤ g ∧ g < (N : Int))) then (if 0 ≤ k ∧ k ≤ 9 then (if K < 16 then (K : Int) else -4) else -2) else -1 := by repeat (first | rw [if_pos (by omega)] | rw [if_neg (by omega)])
      have q_1 : K = if ((((0 ≤ f ∧ f < (N : Int)) ∧ (0 ≤ g ∧ g < (N : Int))) ∧ (0 ≤ k ∧ k ≤ 9)) ∧ K < 16) then K + 1 else K := by repeat (first | rw [if_pos (by omega)] | rw [if_neg (by omega)])
      have q_2 : F = if ((((0 ≤ f ∧ f < (N : Int)) ∧ (0 ≤ g ∧ g < (N : Int))) ∧ (0 ≤ k ∧ k ≤ 9)) ∧ K < 16) then up F K f.toNat else F := by repeat (first | rw [if_pos (by omega)] | rw [if_neg (by omega)])
      have q_3 : G = if ((((0 ≤ f ∧ f < (N : Int)) ∧ (0 ≤ g ∧ g < (N : Int))) ∧ (0 ≤ k ∧ k ≤ 9)) ∧ K < 16) then up G K g.toNat else G := by repeat (first | rw [if_pos (by omega)] | rw [if_neg (by omega)])
      have q_4 : C = if ((((0 ≤ f ∧ f < (N : Int)) ∧ (0 ≤ g ∧ g < (N : Int))) ∧ (0 ≤ k ∧ k ≤ 9)) ∧ K < 16) then up C K k.toNat else C := by repeat (first | rw [if_pos (by omega)] | rw [if_neg (by omega)])
      have q_5 : ns = if ((((0 ≤ f ∧ f < (N : Int)) ∧ (0 ≤ g ∧ g < (N : Int))) ∧ (0 ≤ k ∧ k ≤ 9)) ∧ K < 16) then 0 else ns := by repeat (first | rw [if_pos (by omega)] | rw [if_neg (by omega)])
      have q_6 : sp_hold (sp_all N K F G) mn RW LE := by first | exact hh | exact p75_0
      have q_7 : ∀ i, RW i < 16 := by first | assumption | omega
      have q_8 : ∀ i, LE i ≤ 8 := by first | assumption | omega
      have q_9 : ∀ i, PA i < 16 := by first | assumption | omega
      exact hRET _ ls H locs ((iI (-1))) ((-1 : Int), K, F, G, C, ns, RW, LE, PA, mn) dX5_arc_23 ⟨rfl, q_0, q_1, q_2, q_3, q_4, q_5, q_6, q_7, q_8, q_9⟩ hP hD hS
  · skip
    subst h5
    refine lv_if_eq (tgt := 22) hx hb dX5_arc_8 (by decide) (fun _ => ?_) (fun c_x => absurd c_x (by decide))
    refine lv_iconst (v := iI (-1)) hx hb dX5_arc_22 (by decide) ?_
    have q_0 : (-1 : Int) = if ((0 ≤ f ∧ f < (N : Int)) ∧ (0 ≤ g ∧ g < (N : Int))) then (if 0 ≤ k ∧ k ≤ 9 then (if K < 16 then (K : Int) else -4) else -2) else -1 := by repeat (first | rw [if_pos (by omega)] | rw [if_neg (by omega)])
    have q_1 : K = if ((((0 ≤ f ∧ f < (N : Int)) ∧ (0 ≤ g ∧ g < (N : Int))) ∧ (0 ≤ k ∧ k ≤ 9)) ∧ K < 16) then K + 1 else K := by repeat (first | rw [if_pos (by omega)] | rw [if_neg (by omega)])
    have q_2 : F = if ((((0 ≤ f ∧ f < (N : Int)) ∧ (0 ≤ g ∧ g < (N : Int))) ∧ (0 ≤ k ∧ k ≤ 9)) ∧ K < 16) then up F K f.toNat else F := by repeat (first | rw [if_pos (by omega)] | rw [if_neg (by omega)])
    have q_3 : G = if ((((0 ≤ f ∧ f < (N : Int)) ∧ (0 ≤ g ∧ g < (N : Int))) ∧ (0 ≤ k ∧ k ≤ 9)) ∧ K < 16) then up G K g.toNat else G := by repeat (first | rw [if_pos (by omega)] | rw [if_neg (by omega)])
    have q_4 : C = if ((((0 ≤ f ∧ f < (N : Int)) ∧ (0 ≤ g ∧ g < (N : Int))) ∧ (0 ≤ k ∧ k ≤ 9)) ∧ K < 16) then up C K k.toNat else C := by repeat (first | rw [if_pos (by omega)] | rw [if_neg (by omega)])
    have q_5 : ns = if ((((0 ≤ f ∧ f < (N : Int)) ∧ (0 ≤ g ∧ g < (N : Int))) ∧ (0 ≤ k ∧ k ≤ 9)) ∧ K < 16) then 0 else ns := by repeat (first | rw [if_pos (by omega)] | rw [if_neg (by omega)])
    have q_6 : sp_hold (sp_all N K F G) mn RW LE := by first | exact hh | exact p75_0
    have q_7 : ∀ i, RW i < 16 := by first | assumption | omega
    have q_8 : ∀ i, LE i ≤ 8 := by first | assumption | omega
    have q_9 : ∀ i, PA i < 16 := by first | assumption | omega
    exact hRET _ ls H locs ((iI (-1))) ((-1 : Int), K, F, G, C, ns, RW, LE, PA, mn) dX5_arc_23 ⟨rfl, q_0, q_1, q_2, q_3, q_4, q_5, q_6, q_7, q_8, q_9⟩ hP hD hS

set_option maxHeartbeats 4000000 in
set_option maxRecDepth 100000 in
theorem c_X5_time (l : Launch) (dC : Nat → ClassId) (dI : Nat → Nat → Nat) (cI cJ : ClassId) (sz : Nat) (g0 : Nat) (h0 : Nat) (p0 : Nat) (k0 : Nat) (u0 : Nat) (r0 : Nat) (a1 : Nat) (a2 : Nat) (a3 : Nat) (a4 : Nat) (N : Nat) (K : Nat) (T : Nat → Nat) (F : Nat → Nat) (G : Nat → Nat) (C : Nat → Nat) (z : Int) (t : Int) (bN : N ≤ 8) (bK : K ≤ 16) (bz : -2147483648 ≤ z ∧ z < 2147483648) (bt : -2147483648 ≤ t ∧ t < 2147483648) : Met l yX5_time wsX5_time (zR 2 0 0 43) (va_Pc [.ref g0, .int (iI z), .int (iI t)] (zP (dC, dI) [(cI, .int), (cJ, .long)] [(g0, .inr (5, [.ref h0, .ref p0, .ref k0, .ref u0, .ref r0])), (h0, .inr (0, [.ref a1, .ref a2, .ref a3, .ref a4, .int (nI N), .int (nI K)])), (a1, .inl (cI, 8, .inl (fun z_ => nI (T z_)))), (a2, .inl (cI, 16, .inl (fun z_ => nI (F z_)))), (a3, .inl (cI, 16, .inl (fun z_ => nI (G z_)))), (a4, .inl (cI, 16, .inl (fun z_ => nI (C z_))))] sz nwA)) (va_Qi (fun (r : Int32) (u : (Int) × (Nat → Nat)) => r = (iI u.1) ∧ (u.1 = if 0 ≤ z ∧ z < (N : Int) then (if 1 ≤ t ∧ t ≤ 20 then (T z.toNat : Int) else -2) else -1) ∧ (u.2 = if ((0 ≤ z ∧ z < (N : Int)) ∧ (1 ≤ t ∧ t ≤ 20)) then up T z.toNat t.toNat else T)) (zB (dC, dI) (fun (u : (Int) × (Nat → Nat)) => [(g0, .inr (5, [.ref h0, .ref p0, .ref k0, .ref u0, .ref r0])), (h0, .inr (0, [.ref a1, .ref a2, .ref a3, .ref a4, .int (nI N), .int (nI K)])), (a1, .inl (cI, 8, .inl (fun z_ => nI (u.2 z_)))), (a2, .inl (cI, 16, .inl (fun z_ => nI (F z_)))), (a3, .inl (cI, 16, .inl (fun z_ => nI (G z_)))), (a4, .inl (cI, 16, .inl (fun z_ => nI (C z_))))]) (va_A [(g0, .inr (5, [.ref h0, .ref p0, .ref k0, .ref u0, .ref r0])), (h0, .inr (0, [.ref a1, .ref a2, .ref a3, .ref a4, .int (nI N), .int (nI K)])), (a1, .inl (cI, 8, .inl (fun z_ => nI (T z_)))), (a2, .inl (cI, 16, .inl (fun z_ => nI (F z_)))), (a3, .inl (cI, 16, .inl (fun z_ => nI (G z_)))), (a4, .inl (cI, 16, .inl (fun z_ => nI (C z_))))] sz)) (va_A [(g0, .inr (5, [.ref h0, .ref p0, .ref k0, .ref u0, .ref r0])), (h0, .inr (0, [.ref a1, .ref a2, .ref a3, .ref a4, .int (nI N), .int (nI K)])), (a1, .inl (cI, 8, .inl (fun z_ => nI (T z_)))), (a2, .inl (cI, 16, .inl (fun z_ => nI (F z_)))), (a3, .inl (cI, 16, .inl (fun z_ => nI (G z_)))), (a4, .inl (cI, 16, .inl (fun z_ => nI (C z_))))] sz)) 0 0 (va_A [(g0, .inr (5, [.ref h0, .ref p0, .ref k0, .ref u0, .ref r0])), (h0, .inr (0, [.ref a1, .ref a2, .ref a3, .ref a4, .int (nI N), .int (nI K)])), (a1, .inl (cI, 8, .inl (fun z_ => nI (T z_)))), (a2, .inl (cI, 16, .inl (fun z_ => nI (F z_)))), (a3, .inl (cI, 16, .inl (fun z_ => nI (G z_)))), (a4, .inl (cI, 16, .inl (fun z_ => nI (C z_))))] sz) := by
  refine z_met_i (cc := cX5_time) (maxL := 4) (by decide) rfl (Nat.le_of_ble_eq_true rfl) ?_
  intro p e s m args below meth c Q A ls hx hb hml hown hts hin hA hK hP hD hN hl hRET
  have hown : s.vm.findClass RX5 = some m.cls := hown
  obtain ⟨H, eH⟩ : ∃ H : Heap, H = s.heap := ⟨_, rfl⟩
  rw [← eH] at hP
  obtain ⟨locs, eL⟩ : ∃ z : List Loc, z = [] := ⟨_, rfl⟩
  rw [← eH, ← eL]
  have hS : va_S A s.heap H locs := by rw [eH, eL]; exact va_S.rf
  have hl : lv_has ls 4 [(0, .ref g0), (1, .int (iI z)), (2, .int (iI t))] := hl
  have w10 := hts (.fieldLink RX5 10 "PullCards" "line" "LPullCards$Line;") (by decide +kernel)
  have uX5 : ∀ w ∈ wsX50, w ∈ wsX5_time := by decide +kernel
  have w75 := hts (.fieldLink RX5 75 "PullCards$Line" "times" "[I") (by decide +kernel)
  have uX0 : ∀ w ∈ wsX00, w ∈ wsX5_time := by decide +kernel
  refine lv_aload_n hx hb dX5_time_0 rfl (lv_at hl 0 rfl) ?_
  refine z_get (D := (dC, dI)) (ci := 5) (v := .ref h0) (C := RX5) (T := TX5) (N := 5) hx hb hts uX5 hown hK hP 0 rfl rfl 0 (by decide) w10 rfl rfl dX5_time_1 ?_
  refine lv_iload_n hx hb dX5_time_4 rfl (lv_at hl 1 rfl) ?_
  refine z_callVi (As := [.int (iI z)]) (rest := []) (wr := [(g0, .inr (5, [.ref h0, .ref p0, .ref k0, .ref u0, .ref r0]))]) ⟨hx, hb, hml, hown, hts⟩ (c_X0_hasStation l dC dI cI cJ H.size h0 a1 a2 a3 a4 N K T F G C z (by first | assumption | omega) (by first | assumption | omega) (by first | assumption | omega)) (cwV 1 hts gX5_time_X0_hasStation rfl rfl rfl (by decide +kernel) ⟨Nat.le_of_ble_eq_true rfl, Nat.le_of_ble_eq_true rfl⟩) hA hK hP hD hS [1, 2, 3, 4, 5] [0] [0, 1, 2, 3, 4, 5] rfl rfl (by decide) (by decide) (by decide) nwA_ok hN (ci := 0) rfl rfl 1 rfl hl.1 (Nat.le_of_ble_eq_true rfl) ⟨Nat.le_refl _, Nat.le_refl _⟩ rfl rfl dX5_time_5 (fun (u : (Nat)) => [(g0, .inr (5, [.ref h0, .ref p0, .ref k0, .ref u0, .ref r0])), (h0, .inr (0, [.ref a1, .ref a2, .ref a3, .ref a4, .int (nI N), .int (nI K)])), (a1, .inl (cI, 8, .inl (fun z_ => nI (T z_)))), (a2, .inl (cI, 16, .inl (fun z_ => nI (F z_)))), (a3, .inl (cI, 16, .inl (fun z_ => nI (G z_)))), (a4, .inl (cI, 16, .inl (fun z_ => nI (C z_))))]) (fun u => rfl) (by decide) (fun r_5 u H locs hw hP hD hS => ?_)
  obtain ⟨rv_5, eu⟩ : ∃ z, z = u := ⟨_, rfl⟩
  subst eu
  have hP : va_P (dC, dI) vwCl [(g0, .inr (5, [.ref h0, .ref p0, .ref k0, .ref u0, .ref r0])), (h0, .inr (0, [.ref a1, .ref a2, .ref a3, .ref a4, .int (nI N), .int (nI K)])), (a1, .inl (cI, 8, .inl (fun z_ => nI (T z_)))), (a2, .inl (cI, 16, .inl (fun z_ => nI (F z_)))), (a3, .inl (cI, 16, .inl (fun z_ => nI (G z_)))), (a4, .inl (cI, 16, .inl (fun z_ => nI (C z_))))] H := hP
  have hD : va_D A [(g0, .inr (5, [.ref h0, .ref p0, .ref k0, .ref u0, .ref r0])), (h0, .inr (0, [.ref a1, .ref a2, .ref a3, .ref a4, .int (nI N), .int (nI K)])), (a1, .inl (cI, 8, .inl (fun z_ => nI (T z_)))), (a2, .inl (cI, 16, .inl (fun z_ => nI (F z_)))), (a3, .inl (cI, 16, .inl (fun z_ => nI (G z_)))), (a4, .inl (cI, 16, .inl (fun z_ => nI (C z_))))] := hD
  obtain ⟨er, p5_0⟩ := hw
  have p5_0 : (rv_5 = 1 ∧ (0 ≤ z ∧ z < (N : Int))) ∨ (rv_5 = 0 ∧ ¬ (0 ≤ z ∧ z < (N : Int))) := p5_0
  have er : r_5 = (nI rv_5) := er
  subst er
  rcases p5_0 with ⟨h5, c_5⟩ | ⟨h5, c_5⟩
  · skip
    subst h5
    refine lv_if_ne (tgt := 13) hx hb dX5_time_8 (by decide) (fun _ => ?_) (fun c_x => absurd c_x (by decide))
    refine lv_iload_n hx hb dX5_time_13 rfl (lv_at hl 2 rfl) ?_
    refine lv_iconst (v := nI 1) hx hb dX5_time_14 (by decide) ?_
    refine lv_bipush (v := nI 20) hx hb dX5_time_15 (by decide) ?_
    refine z_c0 (v := iI 20) (by decide) ?_
    refine z_c1 (v := iI 1) (by decide) ?_
    refine z_callSi (As := [.int (iI t), .int (iI 1), .int (iI 20)]) (rest := []) (wr := [(g0, .inr (5, [.ref h0, .ref p0, .ref k0, .ref u0, .ref r0])), (h0, .inr (0, [.ref a1, .ref a2, .ref a3, .ref a4, .int (nI N), .int (nI K)])), (a1, .inl (cI, 8, .inl (fun z_ => nI (T z_)))), (a2, .inl (cI, 16, .inl (fun z_ => nI (F z_)))), (a3, .inl (cI, 16, .inl (fun z_ => nI (G z_)))), (a4, .inl (cI, 16, .inl (fun z_ => nI (C z_))))]) ⟨hx, hb, hml, hown, hts⟩ (c_X5_within l dC dI cI cJ H.size t (1 : Int) (20 : Int) (by first | assumption | omega) (by first | assumption | omega) (by first | assumption | omega)) (va_cwS 3 hts gX5_time_X5_within rfl rfl rfl (by decide +kernel) ⟨Nat.le_of_ble_eq_true rfl, Nat.le_of_ble_eq_true rfl⟩) hA hK hP hD hS [] [0, 1, 2, 3, 4, 5] [0, 1, 2, 3, 4, 5] rfl rfl (by decide) (by decide) (by decide) nwA_ok hN hl.1 (Nat.le_of_ble_eq_true rfl) ⟨Nat.le_refl _, Nat.le_refl _⟩ rfl rfl dX5_time_17 (fun (u : (Nat)) => [(g0, .inr (5, [.ref h0, .ref p0, .ref k0, .ref u0, .ref r0])), (h0, .inr (0, [.ref a1, .ref a2, .ref a3, .ref a4, .int (nI N), .int (nI K)])), (a1, .inl (cI, 8, .inl (fun z_ => nI (T z_)))), (a2, .inl (cI, 16, .inl (fun z_ => nI (F z_)))), (a3, .inl (cI, 16, .inl (fun z_ => nI (G z_)))), (a4, .inl (cI, 16, .inl (fun z_ => nI (C z_))))]) (fun u => rfl) (by decide) (fun r_17 u H locs hw hP hD hS => ?_)
    obtain ⟨rv_17, eu⟩ : ∃ z, z = u := ⟨_, rfl⟩
    subst eu
    have hP : va_P (dC, dI) vwCl [(g0, .inr (5, [.ref h0, .ref p0, .ref k0, .ref u0, .ref r0])), (h0, .inr (0, [.ref a1, .ref a2, .ref a3, .ref a4, .int (nI N), .int (nI K)])), (a1, .inl (cI, 8, .inl (fun z_ => nI (T z_)))), (a2, .inl (cI, 16, .inl (fun z_ => nI (F z_)))), (a3, .inl (cI, 16, .inl (fun z_ => nI (G z_)))), (a4, .inl (cI, 16, .inl (fun z_ => nI (C z_))))] H := hP
    have hD : va_D A [(g0, .inr (5, [.ref h0, .ref p0, .ref k0, .ref u0, .ref r0])), (h0, .inr (0, [.ref a1, .ref a2, .ref a3, .ref a4, .int (nI N), .int (nI K)])), (a1, .inl (cI, 8, .inl (fun z_ => nI (T z_)))), (a2, .inl (cI, 16, .inl (fun z_ => nI (F z_)))), (a3, .inl (cI, 16, .inl (fun z_ => nI (G z_)))), (a4, .inl (cI, 16, .inl (fun z_ => nI (C z_))))] := hD
    obtain ⟨er, p17_0⟩ := hw
    have p17_0 : (rv_17 = 1 ∧ ((1 : Int) ≤ t ∧ t ≤ (20 : Int))) ∨ (rv_17 = 0 ∧ ¬ ((1 : Int) ≤ t ∧ t ≤ (20 : Int))) := p17_0
    have er : r_17 = (nI rv_17) := er
    subst er
    rcases p17_0 with ⟨h17, c_17⟩ | ⟨h17, c_17⟩
    · skip
      subst h17
      refine lv_if_ne (tgt := 26) hx hb dX5_time_20 (by decide) (fun _ => ?_) (fun c_x => absurd c_x (by decide))
      refine lv_aload_n hx hb dX5_time_26 rfl (lv_at hl 0 rfl) ?_
      refine z_get (D := (dC, dI)) (ci := 5) (v := .ref h0) (C := RX5) (T := TX5) (N := 5) hx hb hts uX5 hown hK hP 0 rfl rfl 0 (by decide) w10 rfl rfl dX5_time_27 ?_
      refine z_get (D := (dC, dI)) (ci := 0) (v := .ref a1) (C := RX0) (T := TX0) (N := 6) hx hb hts uX0 hown hK hP 1 rfl rfl 0 (by decide) w75 rfl rfl dX5_time_30 ?_
      refine lv_iload_n hx hb dX5_time_33 rfl (lv_at hl 1 rfl) ?_
      refine z_c0 (v := nI z.toNat) (z_ZtoN (by first | assumption | omega)) ?_
      refine z_iald (v := (nI (T z.toNat))) hx hb hK hP 2 0 rfl rfl z.toNat rfl (by omega) rfl dX5_time_34 ?_
      refine lv_istore_n (lv' := [(3, .int (nI (T z.toNat))), (0, .ref g0), (1, .int (iI z)), (2, .int (iI t))]) hx hb dX5_time_35 rfl hl (by decide) rfl (fun ls hl => ?_)
      refine lv_aload_n hx hb dX5_time_36 rfl (lv_at hl 1 rfl) ?_
      refine z_get (D := (dC, dI)) (ci := 5) (v := .ref h0) (C := RX5) (T := TX5) (N := 5) hx hb hts uX5 hown hK hP 0 rfl rfl 0 (by decide) w10 rfl rfl dX5_time_37 ?_
      refine z_get (D := (dC, dI)) (ci := 0) (v := .ref a1) (C := RX0) (T := TX0) (N := 6) hx hb hts uX0 hown hK hP 1 rfl rfl 0 (by decide) w75 rfl rfl dX5_time_40 ?_
      refine lv_iload_n hx hb dX5_time_43 rfl (lv_at hl 2 rfl) ?_
      refine lv_iload_n hx hb dX5_time_44 rfl (lv_at hl 3 rfl) ?_
      refine z_c0 (v := nI t.toNat) (z_ZtoN (by first | assumption | omega)) ?_
      refine z_c1 (v := nI z.toNat) (z_ZtoN (by first | assumption | omega)) ?_
      refine z_iast hx hb hK hP hD hS 2 0 rfl rfl z.toNat rfl (by omega) (upd_N T z.toNat t.toNat) [(g0, .inr (5, [.ref h0, .ref p0, .ref k0, .ref u0, .ref r0])), (h0, .inr (0, [.ref a1, .ref a2, .ref a3, .ref a4, .int (nI N), .int (nI K)])), (a1, .inl (cI, 8, .inl (fun z_ => nI ((up T z.toNat t.toNat) z_)))), (a2, .inl (cI, 16, .inl (fun z_ => nI (F z_)))), (a3, .inl (cI, 16, .inl (fun z_ => nI (G z_)))), (a4, .inl (cI, 16, .inl (fun z_ => nI (C z_))))] rfl dX5_time_45 (fun H locs hP hD hS => ?_)
      refine lv_iload_n hx hb dX5_time_46 rfl (lv_at hl 0 rfl) ?_
      refine z_c0 (v := iI ((T z.toNat : Nat) : Int)) (iI_N _) ?_
      have q_0 : ((T z.toNat : Nat) : Int) = if 0 ≤ z ∧ z < (N : Int) then (if 1 ≤ t ∧ t ≤ 20 then (T z.toNat : Int) else -2) else -1 := by repeat (first | rw [if_pos (by omega)] | rw [if_neg (by omega)])
      have q_1 : (up T z.toNat t.toNat) = if ((0 ≤ z ∧ z < (N : Int)) ∧ (1 ≤ t ∧ t ≤ 20)) then up T z.toNat t.toNat else T := by repeat (first | rw [if_pos (by omega)] | rw [if_neg (by omega)])
      exact hRET _ ls H locs ((iI ((T z.toNat : Nat) : Int))) (((T z.toNat : Nat) : Int), up T z.toNat t.toNat) dX5_time_47 ⟨rfl, q_0, q_1⟩ hP hD hS
    · skip
      subst h17
      refine lv_if_ne (tgt := 26) hx hb dX5_time_20 (by decide) (fun c_x => absurd c_x (by decide)) (fun _ => ?_)
      refine lv_bipush (v := iI (-2)) hx hb dX5_time_23 (by decide) ?_
      have q_0 : (-2 : Int) = if 0 ≤ z ∧ z < (N : Int) then (if 1 ≤ t ∧ t ≤ 20 then (T z.toNat : Int) else -2) else -1 := by repeat (first | rw [if_pos (by omega)] | rw [if_neg (by omega)])
      have q_1 : T = if ((0 ≤ z ∧ z < (N : Int)) ∧ (1 ≤ t ∧ t ≤ 20)) then up T z.toNat t.toNat else T := by repeat (first | rw [if_pos (by omega)] | rw [if_neg (by omega)])
      exact hRET _ ls H locs ((iI (-2))) ((-2 : Int), T) dX5_time_25 ⟨rfl, q_0, q_1⟩ hP hD hS
  · skip
    subst h5
    refine lv_if_ne (tgt := 13) hx hb dX5_time_8 (by decide) (fun c_x => absurd c_x (by decide)) (fun _ => ?_)
    refine lv_iconst (v := iI (-1)) hx hb dX5_time_11 (by decide) ?_
    have q_0 : (-1 : Int) = if 0 ≤ z ∧ z < (N : Int) then (if 1 ≤ t ∧ t ≤ 20 then (T z.toNat : Int) else -2) else -1 := by repeat (first | rw [if_pos (by omega)] | rw [if_neg (by omega)])
    have q_1 : T = if ((0 ≤ z ∧ z < (N : Int)) ∧ (1 ≤ t ∧ t ≤ 20)) then up T z.toNat t.toNat else T := by repeat (first | rw [if_pos (by omega)] | rw [if_neg (by omega)])
    exact hRET _ ls H locs ((iI (-1))) ((-1 : Int), T) dX5_time_12 ⟨rfl, q_0, q_1⟩ hP hD hS

set_option maxHeartbeats 4000000 in
set_option maxRecDepth 100000 in
theorem c_X5_put (l : Launch) (dC : Nat → ClassId) (dI : Nat → Nat → Nat) (cI cJ : ClassId) (sz : Nat) (g0 : Nat) (h0 : Nat) (p0 : Nat) (k0 : Nat) (u0 : Nat) (r0 : Nat) (a1 : Nat) (a2 : Nat) (a3 : Nat) (a4 : Nat) (N : Nat) (K : Nat) (T : Nat → Nat) (F : Nat → Nat) (G : Nat → Nat) (C : Nat → Nat) (z : Int) (t : Int) (bN : N ≤ 8) (bK : K ≤ 16) (bz : -2147483648 ≤ z ∧ z < 2147483648) (bt : -2147483648 ≤ t ∧ t < 2147483648) : Met l yX5_put wsX5_put (zR 2 0 0 43) (va_Pc [.ref g0, .int (iI z), .int (iI t)] (zP (dC, dI) [(cI, .int), (cJ, .long)] [(g0, .inr (5, [.ref h0, .ref p0, .ref k0, .ref u0, .ref r0])), (h0, .inr (0, [.ref a1, .ref a2, .ref a3, .ref a4, .int (nI N), .int (nI K)])), (a1, .inl (cI, 8, .inl (fun z_ => nI (T z_)))), (a2, .inl (cI, 16, .inl (fun z_ => nI (F z_)))), (a3, .inl (cI, 16, .inl (fun z_ => nI (G z_)))), (a4, .inl (cI, 16, .inl (fun z_ => nI (C z_))))] sz nwA)) (va_Qi (fun (r : Int32) (u : (Int) × (Nat → Nat)) => r = (iI u.1) ∧ (u.1 = if 0 ≤ z ∧ z < (K : Int) then (if 0 ≤ t ∧ t ≤ 9 then (C z.toNat : Int) else -2) else -1) ∧ (u.2 = if ((0 ≤ z ∧ z < (K : Int)) ∧ (0 ≤ t ∧ t ≤ 9)) then up C z.toNat t.toNat else C)) (zB (dC, dI) (fun (u : (Int) × (Nat → Nat)) => [(g0, .inr (5, [.ref h0, .ref p0, .ref k0, .ref u0, .ref r0])), (h0, .inr (0, [.ref a1, .ref a2, .ref a3, .ref a4, .int (nI N), .int (nI K)])), (a1, .inl (cI, 8, .inl (fun z_ => nI (T z_)))), (a2, .inl (cI, 16, .inl (fun z_ => nI (F z_)))), (a3, .inl (cI, 16, .inl (fun z_ => nI (G z_)))), (a4, .inl (cI, 16, .inl (fun z_ => nI (u.2 z_))))]) (va_A [(g0, .inr (5, [.ref h0, .ref p0, .ref k0, .ref u0, .ref r0])), (h0, .inr (0, [.ref a1, .ref a2, .ref a3, .ref a4, .int (nI N), .int (nI K)])), (a1, .inl (cI, 8, .inl (fun z_ => nI (T z_)))), (a2, .inl (cI, 16, .inl (fun z_ => nI (F z_)))), (a3, .inl (cI, 16, .inl (fun z_ => nI (G z_)))), (a4, .inl (cI, 16, .inl (fun z_ => nI (C z_))))] sz)) (va_A [(g0, .inr (5, [.ref h0, .ref p0, .ref k0, .ref u0, .ref r0])), (h0, .inr (0, [.ref a1, .ref a2, .ref a3, .ref a4, .int (nI N), .int (nI K)])), (a1, .inl (cI, 8, .inl (fun z_ => nI (T z_)))), (a2, .inl (cI, 16, .inl (fun z_ => nI (F z_)))), (a3, .inl (cI, 16, .inl (fun z_ => nI (G z_)))), (a4, .inl (cI, 16, .inl (fun z_ => nI (C z_))))] sz)) 0 0 (va_A [(g0, .inr (5, [.ref h0, .ref p0, .ref k0, .ref u0, .ref r0])), (h0, .inr (0, [.ref a1, .ref a2, .ref a3, .ref a4, .int (nI N), .int (nI K)])), (a1, .inl (cI, 8, .inl (fun z_ => nI (T z_)))), (a2, .inl (cI, 16, .inl (fun z_ => nI (F z_)))), (a3, .inl (cI, 16, .inl (fun z_ => nI (G z_)))), (a4, .inl (cI, 16, .inl (fun z_ => nI (C z_))))] sz) := by
  refine z_met_i (cc := cX5_put) (maxL := 4) (by decide) rfl (Nat.le_of_ble_eq_true rfl) ?_
  intro p e s m args below meth c Q A ls hx hb hml hown hts hin hA hK hP hD hN hl hRET
  have hown : s.vm.findClass RX5 = some m.cls := hown
  obtain ⟨H, eH⟩ : ∃ H : Heap, H = s.heap := ⟨_, rfl⟩
  rw [← eH] at hP
  obtain ⟨locs, eL⟩ : ∃ z : List Loc, z = [] := ⟨_, rfl⟩
  rw [← eH, ← eL]
  have hS : va_S A s.heap H locs := by rw [eH, eL]; exact va_S.rf
  have hl : lv_has ls 4 [(0, .ref g0), (1, .int (iI z)), (2, .int (iI t))] := hl
  have w10 := hts (.fieldLink RX5 10 "PullCards" "line" "LPullCards$Line;") (by decide +kernel)
  have uX5 : ∀ w ∈ wsX50, w ∈ wsX5_put := by decide +kernel
  have w82 := hts (.fieldLink RX5 82 "PullCards$Line" "cards" "[I") (by decide +kernel)
  have uX0 : ∀ w ∈ wsX00, w ∈ wsX5_put := by decide +kernel
  refine lv_aload_n hx hb dX5_put_0 rfl (lv_at hl 0 rfl) ?_
  refine z_get (D := (dC, dI)) (ci := 5) (v := .ref h0) (C := RX5) (T := TX5) (N := 5) hx hb hts uX5 hown hK hP 0 rfl rfl 0 (by decide) w10 rfl rfl dX5_put_1 ?_
  refine lv_iload_n hx hb dX5_put_4 rfl (lv_at hl 1 rfl) ?_
  refine z_callVi (As := [.int (iI z)]) (rest := []) (wr := [(g0, .inr (5, [.ref h0, .ref p0, .ref k0, .ref u0, .ref r0]))]) ⟨hx, hb, hml, hown, hts⟩ (c_X0_hasArc l dC dI cI cJ H.size h0 a1 a2 a3 a4 N K T F G C z (by first | assumption | omega) (by first | assumption | omega) (by first | assumption | omega)) (cwV 1 hts gX5_put_X0_hasArc rfl rfl rfl (by decide +kernel) ⟨Nat.le_of_ble_eq_true rfl, Nat.le_of_ble_eq_true rfl⟩) hA hK hP hD hS [1, 2, 3, 4, 5] [0] [0, 1, 2, 3, 4, 5] rfl rfl (by decide) (by decide) (by decide) nwA_ok hN (ci := 0) rfl rfl 1 rfl hl.1 (Nat.le_of_ble_eq_true rfl) ⟨Nat.le_refl _, Nat.le_refl _⟩ rfl rfl dX5_put_5 (fun (u : (Nat)) => [(g0, .inr (5, [.ref h0, .ref p0, .ref k0, .ref u0, .ref r0])), (h0, .inr (0, [.ref a1, .ref a2, .ref a3, .ref a4, .int (nI N), .int (nI K)])), (a1, .inl (cI, 8, .inl (fun z_ => nI (T z_)))), (a2, .inl (cI, 16, .inl (fun z_ => nI (F z_)))), (a3, .inl (cI, 16, .inl (fun z_ => nI (G z_)))), (a4, .inl (cI, 16, .inl (fun z_ => nI (C z_))))]) (fun u => rfl) (by decide) (fun r_5 u H locs hw hP hD hS => ?_)
  obtain ⟨rv_5, eu⟩ : ∃ z, z = u := ⟨_, rfl⟩
  subst eu
  have hP : va_P (dC, dI) vwCl [(g0, .inr (5, [.ref h0, .ref p0, .ref k0, .ref u0, .ref r0])), (h0, .inr (0, [.ref a1, .ref a2, .ref a3, .ref a4, .int (nI N), .int (nI K)])), (a1, .inl (cI, 8, .inl (fun z_ => nI (T z_)))), (a2, .inl (cI, 16, .inl (fun z_ => nI (F z_)))), (a3, .inl (cI, 16, .inl (fun z_ => nI (G z_)))), (a4, .inl (cI, 16, .inl (fun z_ => nI (C z_))))] H := hP
  have hD : va_D A [(g0, .inr (5, [.ref h0, .ref p0, .ref k0, .ref u0, .ref r0])), (h0, .inr (0, [.ref a1, .ref a2, .ref a3, .ref a4, .int (nI N), .int (nI K)])), (a1, .inl (cI, 8, .inl (fun z_ => nI (T z_)))), (a2, .inl (cI, 16, .inl (fun z_ => nI (F z_)))), (a3, .inl (cI, 16, .inl (fun z_ => nI (G z_)))), (a4, .inl (cI, 16, .inl (fun z_ => nI (C z_))))] := hD
  obtain ⟨er, p5_0⟩ := hw
  have p5_0 : (rv_5 = 1 ∧ (0 ≤ z ∧ z < (K : Int))) ∨ (rv_5 = 0 ∧ ¬ (0 ≤ z ∧ z < (K : Int))) := p5_0
  have er : r_5 = (nI rv_5) := er
  subst er
  rcases p5_0 with ⟨h5, c_5⟩ | ⟨h5, c_5⟩
  · skip
    subst h5
    refine lv_if_ne (tgt := 13) hx hb dX5_put_8 (by decide) (fun _ => ?_) (fun c_x => absurd c_x (by decide))
    refine lv_iload_n hx hb dX5_put_13 rfl (lv_at hl 2 rfl) ?_
    refine lv_iconst (v := nI 0) hx hb dX5_put_14 (by decide) ?_
    refine lv_bipush (v := nI 9) hx hb dX5_put_15 (by decide) ?_
    refine z_c0 (v := iI 9) (by decide) ?_
    refine z_c1 (v := iI 0) (by decide) ?_
    refine z_callSi (As := [.int (iI t), .int (iI 0), .int (iI 9)]) (rest := []) (wr := [(g0, .inr (5, [.ref h0, .ref p0, .ref k0, .ref u0, .ref r0])), (h0, .inr (0, [.ref a1, .ref a2, .ref a3, .ref a4, .int (nI N), .int (nI K)])), (a1, .inl (cI, 8, .inl (fun z_ => nI (T z_)))), (a2, .inl (cI, 16, .inl (fun z_ => nI (F z_)))), (a3, .inl (cI, 16, .inl (fun z_ => nI (G z_)))), (a4, .inl (cI, 16, .inl (fun z_ => nI (C z_))))]) ⟨hx, hb, hml, hown, hts⟩ (c_X5_within l dC dI cI cJ H.size t (0 : Int) (9 : Int) (by first | assumption | omega) (by first | assumption | omega) (by first | assumption | omega)) (va_cwS 3 hts gX5_put_X5_within rfl rfl rfl (by decide +kernel) ⟨Nat.le_of_ble_eq_true rfl, Nat.le_of_ble_eq_true rfl⟩) hA hK hP hD hS [] [0, 1, 2, 3, 4, 5] [0, 1, 2, 3, 4, 5] rfl rfl (by decide) (by decide) (by decide) nwA_ok hN hl.1 (Nat.le_of_ble_eq_true rfl) ⟨Nat.le_refl _, Nat.le_refl _⟩ rfl rfl dX5_put_17 (fun (u : (Nat)) => [(g0, .inr (5, [.ref h0, .ref p0, .ref k0, .ref u0, .ref r0])), (h0, .inr (0, [.ref a1, .ref a2, .ref a3, .ref a4, .int (nI N), .int (nI K)])), (a1, .inl (cI, 8, .inl (fun z_ => nI (T z_)))), (a2, .inl (cI, 16, .inl (fun z_ => nI (F z_)))), (a3, .inl (cI, 16, .inl (fun z_ => nI (G z_)))), (a4, .inl (cI, 16, .inl (fun z_ => nI (C z_))))]) (fun u => rfl) (by decide) (fun r_17 u H locs hw hP hD hS => ?_)
    obtain ⟨rv_17, eu⟩ : ∃ z, z = u := ⟨_, rfl⟩
    subst eu
    have hP : va_P (dC, dI) vwCl [(g0, .inr (5, [.ref h0, .ref p0, .ref k0, .ref u0, .ref r0])), (h0, .inr (0, [.ref a1, .ref a2, .ref a3, .ref a4, .int (nI N), .int (nI K)])), (a1, .inl (cI, 8, .inl (fun z_ => nI (T z_)))), (a2, .inl (cI, 16, .inl (fun z_ => nI (F z_)))), (a3, .inl (cI, 16, .inl (fun z_ => nI (G z_)))), (a4, .inl (cI, 16, .inl (fun z_ => nI (C z_))))] H := hP
    have hD : va_D A [(g0, .inr (5, [.ref h0, .ref p0, .ref k0, .ref u0, .ref r0])), (h0, .inr (0, [.ref a1, .ref a2, .ref a3, .ref a4, .int (nI N), .int (nI K)])), (a1, .inl (cI, 8, .inl (fun z_ => nI (T z_)))), (a2, .inl (cI, 16, .inl (fun z_ => nI (F z_)))), (a3, .inl (cI, 16, .inl (fun z_ => nI (G z_)))), (a4, .inl (cI, 16, .inl (fun z_ => nI (C z_))))] := hD
    obtain ⟨er, p17_0⟩ := hw
    have p17_0 : (rv_17 = 1 ∧ ((0 : Int) ≤ t ∧ t ≤ (9 : Int))) ∨ (rv_17 = 0 ∧ ¬ ((0 : Int) ≤ t ∧ t ≤ (9 : Int))) := p17_0
    have er : r_17 = (nI rv_17) := er
    subst er
    rcases p17_0 with ⟨h17, c_17⟩ | ⟨h17, c_17⟩
    · skip
      subst h17
      refine lv_if_ne (tgt := 26) hx hb dX5_put_20 (by decide) (fun _ => ?_) (fun c_x => absurd c_x (by decide))
      refine lv_aload_n hx hb dX5_put_26 rfl (lv_at hl 0 rfl) ?_
      refine z_get (D := (dC, dI)) (ci := 5) (v := .ref h0) (C := RX5) (T := TX5) (N := 5) hx hb hts uX5 hown hK hP 0 rfl rfl 0 (by decide) w10 rfl rfl dX5_put_27 ?_
      refine z_get (D := (dC, dI)) (ci := 0) (v := .ref a4) (C := RX0) (T := TX0) (N := 6) hx hb hts uX0 hown hK hP 1 rfl rfl 3 (by decide) w82 rfl rfl dX5_put_30 ?_
      refine lv_iload_n hx hb dX5_put_33 rfl (lv_at hl 1 rfl) ?_
      refine z_c0 (v := nI z.toNat) (z_ZtoN (by first | assumption | omega)) ?_
      refine z_iald (v := (nI (C z.toNat))) hx hb hK hP 5 0 rfl rfl z.toNat rfl (by omega) rfl dX5_put_34 ?_
      refine lv_istore_n (lv' := [(3, .int (nI (C z.toNat))), (0, .ref g0), (1, .int (iI z)), (2, .int (iI t))]) hx hb dX5_put_35 rfl hl (by decide) rfl (fun ls hl => ?_)
      refine lv_aload_n hx hb dX5_put_36 rfl (lv_at hl 1 rfl) ?_
      refine z_get (D := (dC, dI)) (ci := 5) (v := .ref h0) (C := RX5) (T := TX5) (N := 5) hx hb hts uX5 hown hK hP 0 rfl rfl 0 (by decide) w10 rfl rfl dX5_put_37 ?_
      refine z_get (D := (dC, dI)) (ci := 0) (v := .ref a4) (C := RX0) (T := TX0) (N := 6) hx hb hts uX0 hown hK hP 1 rfl rfl 3 (by decide) w82 rfl rfl dX5_put_40 ?_
      refine lv_iload_n hx hb dX5_put_43 rfl (lv_at hl 2 rfl) ?_
      refine lv_iload_n hx hb dX5_put_44 rfl (lv_at hl 3 rfl) ?_
      refine z_c0 (v := nI t.toNat) (z_ZtoN (by first | assumption | omega)) ?_
      refine z_c1 (v := nI z.toNat) (z_ZtoN (by first | assumption | omega)) ?_
      refine z_iast hx hb hK hP hD hS 5 0 rfl rfl z.toNat rfl (by omega) (upd_N C z.toNat t.toNat) [(g0, .inr (5, [.ref h0, .ref p0, .ref k0, .ref u0, .ref r0])), (h0, .inr (0, [.ref a1, .ref a2, .ref a3, .ref a4, .int (nI N), .int (nI K)])), (a1, .inl (cI, 8, .inl (fun z_ => nI (T z_)))), (a2, .inl (cI, 16, .inl (fun z_ => nI (F z_)))), (a3, .inl (cI, 16, .inl (fun z_ => nI (G z_)))), (a4, .inl (cI, 16, .inl (fun z_ => nI ((up C z.toNat t.toNat) z_))))] rfl dX5_put_45 (fun H locs hP hD hS => ?_)
      refine lv_iload_n hx hb dX5_put_46 rfl (lv_at hl 0 rfl) ?_
      refine z_c0 (v := iI ((C z.toNat : Nat) : Int)) (iI_N _) ?_
      have q_0 : ((C z.toNat : Nat) : Int) = if 0 ≤ z ∧ z < (K : Int) then (if 0 ≤ t ∧ t ≤ 9 then (C z.toNat : Int) else -2) else -1 := by repeat (first | rw [if_pos (by omega)] | rw [if_neg (by omega)])
      have q_1 : (up C z.toNat t.toNat) = if ((0 ≤ z ∧ z < (K : Int)) ∧ (0 ≤ t ∧ t ≤ 9)) then up C z.toNat t.toNat else C := by repeat (first | rw [if_pos (by omega)] | rw [if_neg (by omega)])
      exact hRET _ ls H locs ((iI ((C z.toNat : Nat) : Int))) (((C z.toNat : Nat) : Int), up C z.toNat t.toNat) dX5_put_47 ⟨rfl, q_0, q_1⟩ hP hD hS
    · skip
      subst h17
      refine lv_if_ne (tgt := 26) hx hb dX5_put_20 (by decide) (fun c_x => absurd c_x (by decide)) (fun _ => ?_)
      refine lv_bipush (v := iI (-2)) hx hb dX5_put_23 (by decide) ?_
      have q_0 : (-2 : Int) = if 0 ≤ z ∧ z < (K : Int) then (if 0 ≤ t ∧ t ≤ 9 then (C z.toNat : Int) else -2) else -1 := by repeat (first | rw [if_pos (by omega)] | rw [if_neg (by omega)])
      have q_1 : C = if ((0 ≤ z ∧ z < (K : Int)) ∧ (0 ≤ t ∧ t ≤ 9)) then up C z.toNat t.toNat else C := by repeat (first | rw [if_pos (by omega)] | rw [if_neg (by omega)])
      exact hRET _ ls H locs ((iI (-2))) ((-2 : Int), C) dX5_put_25 ⟨rfl, q_0, q_1⟩ hP hD hS
  · skip
    subst h5
    refine lv_if_ne (tgt := 13) hx hb dX5_put_8 (by decide) (fun c_x => absurd c_x (by decide)) (fun _ => ?_)
    refine lv_iconst (v := iI (-1)) hx hb dX5_put_11 (by decide) ?_
    have q_0 : (-1 : Int) = if 0 ≤ z ∧ z < (K : Int) then (if 0 ≤ t ∧ t ≤ 9 then (C z.toNat : Int) else -2) else -1 := by repeat (first | rw [if_pos (by omega)] | rw [if_neg (by omega)])
    have q_1 : C = if ((0 ≤ z ∧ z < (K : Int)) ∧ (0 ≤ t ∧ t ≤ 9)) then up C z.toNat t.toNat else C := by repeat (first | rw [if_pos (by omega)] | rw [if_neg (by omega)])
    exact hRET _ ls H locs ((iI (-1))) ((-1 : Int), C) dX5_put_12 ⟨rfl, q_0, q_1⟩ hP hD hS

set_option maxHeartbeats 4000000 in
set_option maxRecDepth 100000 in
theorem c_X5_about (l : Launch) (dC : Nat → ClassId) (dI : Nat → Nat → Nat) (cI cJ : ClassId) (sz : Nat) (g0 : Nat) (h0 : Nat) (p0 : Nat) (k0 : Nat) (u0 : Nat) (r0 : Nat) (a1 : Nat) (a2 : Nat) (a3 : Nat) (a4 : Nat) (N : Nat) (K : Nat) (T : Nat → Nat) (F : Nat → Nat) (G : Nat → Nat) (C : Nat → Nat) (z : Int) (w : Int) (bN : N ≤ 8) (bK : K ≤ 16) (bz : -2147483648 ≤ z ∧ z < 2147483648) (bw : -2147483648 ≤ w ∧ w < 2147483648) : Met l yX5_about wsX5_about (zR 2 0 0 43) (va_Pc [.ref g0, .int (iI z), .int (iI w)] (zP (dC, dI) [(cI, .int), (cJ, .long)] [(g0, .inr (5, [.ref h0, .ref p0, .ref k0, .ref u0, .ref r0])), (h0, .inr (0, [.ref a1, .ref a2, .ref a3, .ref a4, .int (nI N), .int (nI K)])), (a1, .inl (cI, 8, .inl (fun z_ => nI (T z_)))), (a2, .inl (cI, 16, .inl (fun z_ => nI (F z_)))), (a3, .inl (cI, 16, .inl (fun z_ => nI (G z_)))), (a4, .inl (cI, 16, .inl (fun z_ => nI (C z_))))] sz nwA)) (va_Qi (fun (r : Int32) (u : (Int)) => r = (iI u) ∧ (u = if 0 ≤ z ∧ z < (K : Int) then (if w = 0 then (F z.toNat : Int) else if w = 1 then (G z.toNat : Int) else if w = 2 then (C z.toNat : Int) else -2) else -1)) (zB (dC, dI) (fun (u : (Int)) => [(g0, .inr (5, [.ref h0, .ref p0, .ref k0, .ref u0, .ref r0])), (h0, .inr (0, [.ref a1, .ref a2, .ref a3, .ref a4, .int (nI N), .int (nI K)])), (a1, .inl (cI, 8, .inl (fun z_ => nI (T z_)))), (a2, .inl (cI, 16, .inl (fun z_ => nI (F z_)))), (a3, .inl (cI, 16, .inl (fun z_ => nI (G z_)))), (a4, .inl (cI, 16, .inl (fun z_ => nI (C z_))))]) (va_A [(g0, .inr (5, [.ref h0, .ref p0, .ref k0, .ref u0, .ref r0])), (h0, .inr (0, [.ref a1, .ref a2, .ref a3, .ref a4, .int (nI N), .int (nI K)])), (a1, .inl (cI, 8, .inl (fun z_ => nI (T z_)))), (a2, .inl (cI, 16, .inl (fun z_ => nI (F z_)))), (a3, .inl (cI, 16, .inl (fun z_ => nI (G z_)))), (a4, .inl (cI, 16, .inl (fun z_ => nI (C z_))))] sz)) (va_A [(g0, .inr (5, [.ref h0, .ref p0, .ref k0, .ref u0, .ref r0])), (h0, .inr (0, [.ref a1, .ref a2, .ref a3, .ref a4, .int (nI N), .int (nI K)])), (a1, .inl (cI, 8, .inl (fun z_ => nI (T z_)))), (a2, .inl (cI, 16, .inl (fun z_ => nI (F z_)))), (a3, .inl (cI, 16, .inl (fun z_ => nI (G z_)))), (a4, .inl (cI, 16, .inl (fun z_ => nI (C z_))))] sz)) 0 0 (va_A [(g0, .inr (5, [.ref h0, .ref p0, .ref k0, .ref u0, .ref r0])), (h0, .inr (0, [.ref a1, .ref a2, .ref a3, .ref a4, .int (nI N), .int (nI K)])), (a1, .inl (cI, 8, .inl (fun z_ => nI (T z_)))), (a2, .inl (cI, 16, .inl (fun z_ => nI (F z_)))), (a3, .inl (cI, 16, .inl (fun z_ => nI (G z_)))), (a4, .inl (cI, 16, .inl (fun z_ => nI (C z_))))] sz) := by
  refine z_met_i (cc := cX5_about) (maxL := 3) (by decide) rfl (Nat.le_of_ble_eq_true rfl) ?_
  intro p e s m args below meth c Q A ls hx hb hml hown hts hin hA hK hP hD hN hl hRET
  have hown : s.vm.findClass RX5 = some m.cls := hown
  obtain ⟨H, eH⟩ : ∃ H : Heap, H = s.heap := ⟨_, rfl⟩
  rw [← eH] at hP
  obtain ⟨locs, eL⟩ : ∃ z : List Loc, z = [] := ⟨_, rfl⟩
  rw [← eH, ← eL]
  have hS : va_S A s.heap H locs := by rw [eH, eL]; exact va_S.rf
  have hl : lv_has ls 3 [(0, .ref g0), (1, .int (iI z)), (2, .int (iI w))] := hl
  have w10 := hts (.fieldLink RX5 10 "PullCards" "line" "LPullCards$Line;") (by decide +kernel)
  have uX5 : ∀ w ∈ wsX50, w ∈ wsX5_about := by decide +kernel
  have w85 := hts (.fieldLink RX5 85 "PullCards$Line" "froms" "[I") (by decide +kernel)
  have uX0 : ∀ w ∈ wsX00, w ∈ wsX5_about := by decide +kernel
  have w88 := hts (.fieldLink RX5 88 "PullCards$Line" "tos" "[I") (by decide +kernel)
  have w82 := hts (.fieldLink RX5 82 "PullCards$Line" "cards" "[I") (by decide +kernel)
  refine lv_aload_n hx hb dX5_about_0 rfl (lv_at hl 0 rfl) ?_
  refine z_get (D := (dC, dI)) (ci := 5) (v := .ref h0) (C := RX5) (T := TX5) (N := 5) hx hb hts uX5 hown hK hP 0 rfl rfl 0 (by decide) w10 rfl rfl dX5_about_1 ?_
  refine lv_iload_n hx hb dX5_about_4 rfl (lv_at hl 1 rfl) ?_
  refine z_callVi (As := [.int (iI z)]) (rest := []) (wr := [(g0, .inr (5, [.ref h0, .ref p0, .ref k0, .ref u0, .ref r0]))]) ⟨hx, hb, hml, hown, hts⟩ (c_X0_hasArc l dC dI cI cJ H.size h0 a1 a2 a3 a4 N K T F G C z (by first | assumption | omega) (by first | assumption | omega) (by first | assumption | omega)) (cwV 1 hts gX5_about_X0_hasArc rfl rfl rfl (by decide +kernel) ⟨Nat.le_of_ble_eq_true rfl, Nat.le_of_ble_eq_true rfl⟩) hA hK hP hD hS [1, 2, 3, 4, 5] [0] [0, 1, 2, 3, 4, 5] rfl rfl (by decide) (by decide) (by decide) nwA_ok hN (ci := 0) rfl rfl 1 rfl hl.1 (Nat.le_of_ble_eq_true rfl) ⟨Nat.le_refl _, Nat.le_refl _⟩ rfl rfl dX5_about_5 (fun (u : (Nat)) => [(g0, .inr (5, [.ref h0, .ref p0, .ref k0, .ref u0, .ref r0])), (h0, .inr (0, [.ref a1, .ref a2, .ref a3, .ref a4, .int (nI N), .int (nI K)])), (a1, .inl (cI, 8, .inl (fun z_ => nI (T z_)))), (a2, .inl (cI, 16, .inl (fun z_ => nI (F z_)))), (a3, .inl (cI, 16, .inl (fun z_ => nI (G z_)))), (a4, .inl (cI, 16, .inl (fun z_ => nI (C z_))))]) (fun u => rfl) (by decide) (fun r_5 u H locs hw hP hD hS => ?_)
  obtain ⟨rv_5, eu⟩ : ∃ z, z = u := ⟨_, rfl⟩
  subst eu
  have hP : va_P (dC, dI) vwCl [(g0, .inr (5, [.ref h0, .ref p0, .ref k0, .ref u0, .ref r0])), (h0, .inr (0, [.ref a1, .ref a2, .ref a3, .ref a4, .int (nI N), .int (nI K)])), (a1, .inl (cI, 8, .inl (fun z_ => nI (T z_)))), (a2, .inl (cI, 16, .inl (fun z_ => nI (F z_)))), (a3, .inl (cI, 16, .inl (fun z_ => nI (G z_)))), (a4, .inl (cI, 16, .inl (fun z_ => nI (C z_))))] H := hP
  have hD : va_D A [(g0, .inr (5, [.ref h0, .ref p0, .ref k0, .ref u0, .ref r0])), (h0, .inr (0, [.ref a1, .ref a2, .ref a3, .ref a4, .int (nI N), .int (nI K)])), (a1, .inl (cI, 8, .inl (fun z_ => nI (T z_)))), (a2, .inl (cI, 16, .inl (fun z_ => nI (F z_)))), (a3, .inl (cI, 16, .inl (fun z_ => nI (G z_)))), (a4, .inl (cI, 16, .inl (fun z_ => nI (C z_))))] := hD
  obtain ⟨er, p5_0⟩ := hw
  have p5_0 : (rv_5 = 1 ∧ (0 ≤ z ∧ z < (K : Int))) ∨ (rv_5 = 0 ∧ ¬ (0 ≤ z ∧ z < (K : Int))) := p5_0
  have er : r_5 = (nI rv_5) := er
  subst er
  rcases p5_0 with ⟨h5, c_5⟩ | ⟨h5, c_5⟩
  · skip
    subst h5
    refine lv_if_ne (tgt := 13) hx hb dX5_about_8 (by decide) (fun _ => ?_) (fun c_x => absurd c_x (by decide))
    refine lv_iload_n hx hb dX5_about_13 rfl (lv_at hl 2 rfl) ?_
    rcases (show (w < 0 ∨ 2 < w) ∨ w = 0 ∨ w = 1 ∨ w = 2 from by omega) with c_14 | c_14 | c_14 | c_14
    · skip
      refine lv_tableOut (tgt := 70) hx hb dX5_about_14 (by rw [iI_t (by omega)]; exact c_14) (by decide) ?_
      refine lv_bipush (v := iI (-2)) hx hb dX5_about_70 (by decide) ?_
      have q_0 : (-2 : Int) = if 0 ≤ z ∧ z < (K : Int) then (if w = 0 then (F z.toNat : Int) else if w = 1 then (G z.toNat : Int) else if w = 2 then (C z.toNat : Int) else -2) else -1 := by repeat (first | rw [if_pos (by omega)] | rw [if_neg (by omega)])
      exact hRET _ ls H locs ((iI (-2))) ((-2 : Int)) dX5_about_72 ⟨rfl, q_0⟩ hP hD hS
    · skip
      refine lv_tableIn (tgt := 40) hx hb dX5_about_14 (by rw [iI_t (by omega)]; omega) (by rw [iI_t (by omega)]; omega) (by rw [iI_t (by omega), c_14]; rfl) (by decide) ?_
      refine lv_aload_n hx hb dX5_about_40 rfl (lv_at hl 0 rfl) ?_
      refine z_get (D := (dC, dI)) (ci := 5) (v := .ref h0) (C := RX5) (T := TX5) (N := 5) hx hb hts uX5 hown hK hP 0 rfl rfl 0 (by decide) w10 rfl rfl dX5_about_41 ?_
      refine z_get (D := (dC, dI)) (ci := 0) (v := .ref a2) (C := RX0) (T := TX0) (N := 6) hx hb hts uX0 hown hK hP 1 rfl rfl 1 (by decide) w85 rfl rfl dX5_about_44 ?_
      refine lv_iload_n hx hb dX5_about_47 rfl (lv_at hl 1 rfl) ?_
      refine z_c0 (v := nI z.toNat) (z_ZtoN (by first | assumption | omega)) ?_
      refine z_iald (v := (nI (F z.toNat))) hx hb hK hP 3 0 rfl rfl z.toNat rfl (by omega) rfl dX5_about_48 ?_
      refine z_c0 (v := iI ((F z.toNat : Nat) : Int)) (iI_N _) ?_
      have q_0 : ((F z.toNat : Nat) : Int) = if 0 ≤ z ∧ z < (K : Int) then (if w = 0 then (F z.toNat : Int) else if w = 1 then (G z.toNat : Int) else if w = 2 then (C z.toNat : Int) else -2) else -1 := by repeat (first | rw [if_pos (by omega)] | rw [if_neg (by omega)])
      exact hRET _ ls H locs ((iI ((F z.toNat : Nat) : Int))) (((F z.toNat : Nat) : Int)) dX5_about_49 ⟨rfl, q_0⟩ hP hD hS
    · skip
      refine lv_tableIn (tgt := 50) hx hb dX5_about_14 (by rw [iI_t (by omega)]; omega) (by rw [iI_t (by omega)]; omega) (by rw [iI_t (by omega), c_14]; rfl) (by decide) ?_
      refine lv_aload_n hx hb dX5_about_50 rfl (lv_at hl 0 rfl) ?_
      refine z_get (D := (dC, dI)) (ci := 5) (v := .ref h0) (C := RX5) (T := TX5) (N := 5) hx hb hts uX5 hown hK hP 0 rfl rfl 0 (by decide) w10 rfl rfl dX5_about_51 ?_
      refine z_get (D := (dC, dI)) (ci := 0) (v := .ref a3) (C := RX0) (T := TX0) (N := 6) hx hb hts uX0 hown hK hP 1 rfl rfl 2 (by decide) w88 rfl rfl dX5_about_54 ?_
      refine lv_iload_n hx hb dX5_about_57 rfl (lv_at hl 1 rfl) ?_
      refine z_c0 (v := nI z.toNat) (z_ZtoN (by first | assumption | omega)) ?_
      refine z_iald (v := (nI (G z.toNat))) hx hb hK hP 4 0 rfl rfl z.toNat rfl (by omega) rfl dX5_about_58 ?_
      refine z_c0 (v := iI ((G z.toNat : Nat) : Int)) (iI_N _) ?_
      have q_0 : ((G z.toNat : Nat) : Int) = if 0 ≤ z ∧ z < (K : Int) then (if w = 0 then (F z.toNat : Int) else if w = 1 then (G z.toNat : Int) else if w = 2 then (C z.toNat : Int) else -2) else -1 := by repeat (first | rw [if_pos (by omega)] | rw [if_neg (by omega)])
      exact hRET _ ls H locs ((iI ((G z.toNat : Nat) : Int))) (((G z.toNat : Nat) : Int)) dX5_about_59 ⟨rfl, q_0⟩ hP hD hS
    · skip
      refine lv_tableIn (tgt := 60) hx hb dX5_about_14 (by rw [iI_t (by omega)]; omega) (by rw [iI_t (by omega)]; omega) (by rw [iI_t (by omega), c_14]; rfl) (by decide) ?_
      refine lv_aload_n hx hb dX5_about_60 rfl (lv_at hl 0 rfl) ?_
      refine z_get (D := (dC, dI)) (ci := 5) (v := .ref h0) (C := RX5) (T := TX5) (N := 5) hx hb hts uX5 hown hK hP 0 rfl rfl 0 (by decide) w10 rfl rfl dX5_about_61 ?_
      refine z_get (D := (dC, dI)) (ci := 0) (v := .ref a4) (C := RX0) (T := TX0) (N := 6) hx hb hts uX0 hown hK hP 1 rfl rfl 3 (by decide) w82 rfl rfl dX5_about_64 ?_
      refine lv_iload_n hx hb dX5_about_67 rfl (lv_at hl 1 rfl) ?_
      refine z_c0 (v := nI z.toNat) (z_ZtoN (by first | assumption | omega)) ?_
      refine z_iald (v := (nI (C z.toNat))) hx hb hK hP 5 0 rfl rfl z.toNat rfl (by omega) rfl dX5_about_68 ?_
      refine z_c0 (v := iI ((C z.toNat : Nat) : Int)) (iI_N _) ?_
      have q_0 : ((C z.toNat : Nat) : Int) = if 0 ≤ z ∧ z < (K : Int) then (if w = 0 then (F z.toNat : Int) else if w = 1 then (G z.toNat : Int) else if w = 2 then (C z.toNat : Int) else -2) else -1 := by repeat (first | rw [if_pos (by omega)] | rw [if_neg (by omega)])
      exact hRET _ ls H locs ((iI ((C z.toNat : Nat) : Int))) (((C z.toNat : Nat) : Int)) dX5_about_69 ⟨rfl, q_0⟩ hP hD hS
  · skip
    subst h5
    refine lv_if_ne (tgt := 13) hx hb dX5_about_8 (by decide) (fun c_x => absurd c_x (by decide)) (fun _ => ?_)
    refine lv_iconst (v := iI (-1)) hx hb dX5_about_11 (by decide) ?_
    have q_0 : (-1 : Int) = if 0 ≤ z ∧ z < (K : Int) then (if w = 0 then (F z.toNat : Int) else if w = 1 then (G z.toNat : Int) else if w = 2 then (C z.toNat : Int) else -2) else -1 := by repeat (first | rw [if_pos (by omega)] | rw [if_neg (by omega)])
    exact hRET _ ls H locs ((iI (-1))) ((-1 : Int)) dX5_about_12 ⟨rfl, q_0⟩ hP hD hS

set_option maxHeartbeats 4000000 in
set_option maxRecDepth 100000 in
theorem c_X5_ready (l : Launch) (dC : Nat → ClassId) (dI : Nat → Nat → Nat) (cI cJ : ClassId) (sz : Nat) (g0 : Nat) (h0 : Nat) (p0 : Nat) (k0 : Nat) (u0 : Nat) (r0 : Nat) (a1 : Nat) (a2 : Nat) (a3 : Nat) (a4 : Nat) (N : Nat) (K : Nat) (T : Nat → Nat) (F : Nat → Nat) (G : Nat → Nat) (C : Nat → Nat) (z : Int) (bN : N ≤ 8) (bK : K ≤ 16) (bC : ∀ a, C a ≤ 9) (bG : ∀ a, G a < 8) (bz : -2147483648 ≤ z ∧ z < 2147483648) : Met l yX5_ready wsX5_ready (zR 2 0 0 43) (va_Pc [.ref g0, .int (iI z)] (zP (dC, dI) [(cI, .int), (cJ, .long)] [(g0, .inr (5, [.ref h0, .ref p0, .ref k0, .ref u0, .ref r0])), (h0, .inr (0, [.ref a1, .ref a2, .ref a3, .ref a4, .int (nI N), .int (nI K)])), (a1, .inl (cI, 8, .inl (fun z_ => nI (T z_)))), (a2, .inl (cI, 16, .inl (fun z_ => nI (F z_)))), (a3, .inl (cI, 16, .inl (fun z_ => nI (G z_)))), (a4, .inl (cI, 16, .inl (fun z_ => nI (C z_))))] sz nwA)) (va_Qi (fun (r : Int32) (u : (Int)) => r = (iI u) ∧ (u = if 0 ≤ z ∧ z < (N : Int) then (if sp_rdy K G C z.toNat = true then 1 else 0) else -1)) (zB (dC, dI) (fun (u : (Int)) => [(g0, .inr (5, [.ref h0, .ref p0, .ref k0, .ref u0, .ref r0])), (h0, .inr (0, [.ref a1, .ref a2, .ref a3, .ref a4, .int (nI N), .int (nI K)])), (a1, .inl (cI, 8, .inl (fun z_ => nI (T z_)))), (a2, .inl (cI, 16, .inl (fun z_ => nI (F z_)))), (a3, .inl (cI, 16, .inl (fun z_ => nI (G z_)))), (a4, .inl (cI, 16, .inl (fun z_ => nI (C z_))))]) (va_A [(g0, .inr (5, [.ref h0, .ref p0, .ref k0, .ref u0, .ref r0])), (h0, .inr (0, [.ref a1, .ref a2, .ref a3, .ref a4, .int (nI N), .int (nI K)])), (a1, .inl (cI, 8, .inl (fun z_ => nI (T z_)))), (a2, .inl (cI, 16, .inl (fun z_ => nI (F z_)))), (a3, .inl (cI, 16, .inl (fun z_ => nI (G z_)))), (a4, .inl (cI, 16, .inl (fun z_ => nI (C z_))))] sz)) (va_A [(g0, .inr (5, [.ref h0, .ref p0, .ref k0, .ref u0, .ref r0])), (h0, .inr (0, [.ref a1, .ref a2, .ref a3, .ref a4, .int (nI N), .int (nI K)])), (a1, .inl (cI, 8, .inl (fun z_ => nI (T z_)))), (a2, .inl (cI, 16, .inl (fun z_ => nI (F z_)))), (a3, .inl (cI, 16, .inl (fun z_ => nI (G z_)))), (a4, .inl (cI, 16, .inl (fun z_ => nI (C z_))))] sz)) 0 0 (va_A [(g0, .inr (5, [.ref h0, .ref p0, .ref k0, .ref u0, .ref r0])), (h0, .inr (0, [.ref a1, .ref a2, .ref a3, .ref a4, .int (nI N), .int (nI K)])), (a1, .inl (cI, 8, .inl (fun z_ => nI (T z_)))), (a2, .inl (cI, 16, .inl (fun z_ => nI (F z_)))), (a3, .inl (cI, 16, .inl (fun z_ => nI (G z_)))), (a4, .inl (cI, 16, .inl (fun z_ => nI (C z_))))] sz) := by
  refine z_met_i (cc := cX5_ready) (maxL := 2) (by decide) rfl (Nat.le_of_ble_eq_true rfl) ?_
  intro p e s m args below meth c Q A ls hx hb hml hown hts hin hA hK hP hD hN hl hRET
  have hown : s.vm.findClass RX5 = some m.cls := hown
  obtain ⟨H, eH⟩ : ∃ H : Heap, H = s.heap := ⟨_, rfl⟩
  rw [← eH] at hP
  obtain ⟨locs, eL⟩ : ∃ z : List Loc, z = [] := ⟨_, rfl⟩
  rw [← eH, ← eL]
  have hS : va_S A s.heap H locs := by rw [eH, eL]; exact va_S.rf
  have hl : lv_has ls 2 [(0, .ref g0), (1, .int (iI z))] := hl
  have w10 := hts (.fieldLink RX5 10 "PullCards" "line" "LPullCards$Line;") (by decide +kernel)
  have uX5 : ∀ w ∈ wsX50, w ∈ wsX5_ready := by decide +kernel
  refine lv_aload_n hx hb dX5_ready_0 rfl (lv_at hl 0 rfl) ?_
  refine z_get (D := (dC, dI)) (ci := 5) (v := .ref h0) (C := RX5) (T := TX5) (N := 5) hx hb hts uX5 hown hK hP 0 rfl rfl 0 (by decide) w10 rfl rfl dX5_ready_1 ?_
  refine lv_iload_n hx hb dX5_ready_4 rfl (lv_at hl 1 rfl) ?_
  refine z_callVi (As := [.int (iI z)]) (rest := []) (wr := [(g0, .inr (5, [.ref h0, .ref p0, .ref k0, .ref u0, .ref r0]))]) ⟨hx, hb, hml, hown, hts⟩ (c_X0_hasStation l dC dI cI cJ H.size h0 a1 a2 a3 a4 N K T F G C z (by first | assumption | omega) (by first | assumption | omega) (by first | assumption | omega)) (cwV 1 hts gX5_ready_X0_hasStation rfl rfl rfl (by decide +kernel) ⟨Nat.le_of_ble_eq_true rfl, Nat.le_of_ble_eq_true rfl⟩) hA hK hP hD hS [1, 2, 3, 4, 5] [0] [0, 1, 2, 3, 4, 5] rfl rfl (by decide) (by decide) (by decide) nwA_ok hN (ci := 0) rfl rfl 1 rfl hl.1 (Nat.le_of_ble_eq_true rfl) ⟨Nat.le_refl _, Nat.le_refl _⟩ rfl rfl dX5_ready_5 (fun (u : (Nat)) => [(g0, .inr (5, [.ref h0, .ref p0, .ref k0, .ref u0, .ref r0])), (h0, .inr (0, [.ref a1, .ref a2, .ref a3, .ref a4, .int (nI N), .int (nI K)])), (a1, .inl (cI, 8, .inl (fun z_ => nI (T z_)))), (a2, .inl (cI, 16, .inl (fun z_ => nI (F z_)))), (a3, .inl (cI, 16, .inl (fun z_ => nI (G z_)))), (a4, .inl (cI, 16, .inl (fun z_ => nI (C z_))))]) (fun u => rfl) (by decide) (fun r_5 u H locs hw hP hD hS => ?_)
  obtain ⟨rv_5, eu⟩ : ∃ z, z = u := ⟨_, rfl⟩
  subst eu
  have hP : va_P (dC, dI) vwCl [(g0, .inr (5, [.ref h0, .ref p0, .ref k0, .ref u0, .ref r0])), (h0, .inr (0, [.ref a1, .ref a2, .ref a3, .ref a4, .int (nI N), .int (nI K)])), (a1, .inl (cI, 8, .inl (fun z_ => nI (T z_)))), (a2, .inl (cI, 16, .inl (fun z_ => nI (F z_)))), (a3, .inl (cI, 16, .inl (fun z_ => nI (G z_)))), (a4, .inl (cI, 16, .inl (fun z_ => nI (C z_))))] H := hP
  have hD : va_D A [(g0, .inr (5, [.ref h0, .ref p0, .ref k0, .ref u0, .ref r0])), (h0, .inr (0, [.ref a1, .ref a2, .ref a3, .ref a4, .int (nI N), .int (nI K)])), (a1, .inl (cI, 8, .inl (fun z_ => nI (T z_)))), (a2, .inl (cI, 16, .inl (fun z_ => nI (F z_)))), (a3, .inl (cI, 16, .inl (fun z_ => nI (G z_)))), (a4, .inl (cI, 16, .inl (fun z_ => nI (C z_))))] := hD
  obtain ⟨er, p5_0⟩ := hw
  have p5_0 : (rv_5 = 1 ∧ (0 ≤ z ∧ z < (N : Int))) ∨ (rv_5 = 0 ∧ ¬ (0 ≤ z ∧ z < (N : Int))) := p5_0
  have er : r_5 = (nI rv_5) := er
  subst er
  rcases p5_0 with ⟨h5, c_5⟩ | ⟨h5, c_5⟩
  · skip
    subst h5
    refine lv_if_ne (tgt := 13) hx hb dX5_ready_8 (by decide) (fun _ => ?_) (fun c_x => absurd c_x (by decide))
    refine lv_aload_n hx hb dX5_ready_13 rfl (lv_at hl 0 rfl) ?_
    refine z_get (D := (dC, dI)) (ci := 5) (v := .ref h0) (C := RX5) (T := TX5) (N := 5) hx hb hts uX5 hown hK hP 0 rfl rfl 0 (by decide) w10 rfl rfl dX5_ready_14 ?_
    refine lv_iload_n hx hb dX5_ready_17 rfl (lv_at hl 1 rfl) ?_
    refine z_c0 (v := nI z.toNat) (z_ZtoN (by first | assumption | omega)) ?_
    refine z_callVi (As := [.int (nI z.toNat)]) (rest := []) (wr := [(g0, .inr (5, [.ref h0, .ref p0, .ref k0, .ref u0, .ref r0]))]) ⟨hx, hb, hml, hown, hts⟩ (c_X0_isReady l dC dI cI cJ H.size h0 a1 a2 a3 a4 N K T F G C z.toNat (by first | assumption | omega) (by first | assumption | omega) (by first | assumption | omega) (by first | assumption | omega)) (cwV 1 hts gX5_ready_X0_isReady rfl rfl rfl (by decide +kernel) ⟨Nat.le_of_ble_eq_true rfl, Nat.le_of_ble_eq_true rfl⟩) hA hK hP hD hS [1, 2, 3, 4, 5] [0] [0, 1, 2, 3, 4, 5] rfl rfl (by decide) (by decide) (by decide) nwA_ok hN (ci := 0) rfl rfl 1 rfl hl.1 (Nat.le_of_ble_eq_true rfl) ⟨Nat.le_refl _, Nat.le_refl _⟩ rfl rfl dX5_ready_18 (fun (u : (Nat)) => [(g0, .inr (5, [.ref h0, .ref p0, .ref k0, .ref u0, .ref r0])), (h0, .inr (0, [.ref a1, .ref a2, .ref a3, .ref a4, .int (nI N), .int (nI K)])), (a1, .inl (cI, 8, .inl (fun z_ => nI (T z_)))), (a2, .inl (cI, 16, .inl (fun z_ => nI (F z_)))), (a3, .inl (cI, 16, .inl (fun z_ => nI (G z_)))), (a4, .inl (cI, 16, .inl (fun z_ => nI (C z_))))]) (fun u => rfl) (by decide) (fun r_18 u H locs hw hP hD hS => ?_)
    obtain ⟨rv_18, eu⟩ : ∃ z, z = u := ⟨_, rfl⟩
    subst eu
    have hP : va_P (dC, dI) vwCl [(g0, .inr (5, [.ref h0, .ref p0, .ref k0, .ref u0, .ref r0])), (h0, .inr (0, [.ref a1, .ref a2, .ref a3, .ref a4, .int (nI N), .int (nI K)])), (a1, .inl (cI, 8, .inl (fun z_ => nI (T z_)))), (a2, .inl (cI, 16, .inl (fun z_ => nI (F z_)))), (a3, .inl (cI, 16, .inl (fun z_ => nI (G z_)))), (a4, .inl (cI, 16, .inl (fun z_ => nI (C z_))))] H := hP
    have hD : va_D A [(g0, .inr (5, [.ref h0, .ref p0, .ref k0, .ref u0, .ref r0])), (h0, .inr (0, [.ref a1, .ref a2, .ref a3, .ref a4, .int (nI N), .int (nI K)])), (a1, .inl (cI, 8, .inl (fun z_ => nI (T z_)))), (a2, .inl (cI, 16, .inl (fun z_ => nI (F z_)))), (a3, .inl (cI, 16, .inl (fun z_ => nI (G z_)))), (a4, .inl (cI, 16, .inl (fun z_ => nI (C z_))))] := hD
    obtain ⟨er, p18_0⟩ := hw
    have p18_0 : (rv_18 = 1 ∧ sp_rdy K G C z.toNat = true) ∨ (rv_18 = 0 ∧ sp_rdy K G C z.toNat = false) := p18_0
    have er : r_18 = (nI rv_18) := er
    subst er
    rcases p18_0 with ⟨h18, c_18⟩ | ⟨h18, c_18⟩
    · skip
      subst h18
      refine lv_if_eq (tgt := 28) hx hb dX5_ready_21 (by decide) (fun c_x => absurd c_x (by decide)) (fun _ => ?_)
      refine lv_iconst (v := nI 1) hx hb dX5_ready_24 (by decide) ?_
      refine lv_goto (tgt := 29) hx hb dX5_ready_25 (by decide) ?_
      refine z_c0 (v := iI 1) (by decide) ?_
      have q_0 : (1 : Int) = if 0 ≤ z ∧ z < (N : Int) then (if sp_rdy K G C z.toNat = true then 1 else 0) else -1 := by first | rw [if_pos (by omega), if_pos (by assumption)] | rw [if_pos (by omega), if_neg (by simp [*])] | rw [if_neg (by omega)]
      exact hRET _ ls H locs ((iI 1)) ((1 : Int)) dX5_ready_29 ⟨rfl, q_0⟩ hP hD hS
    · skip
      subst h18
      refine lv_if_eq (tgt := 28) hx hb dX5_ready_21 (by decide) (fun _ => ?_) (fun c_x => absurd c_x (by decide))
      refine lv_iconst (v := nI 0) hx hb dX5_ready_28 (by decide) ?_
      refine z_c0 (v := iI 0) (by decide) ?_
      have q_0 : (0 : Int) = if 0 ≤ z ∧ z < (N : Int) then (if sp_rdy K G C z.toNat = true then 1 else 0) else -1 := by first | rw [if_pos (by omega), if_pos (by assumption)] | rw [if_pos (by omega), if_neg (by simp [*])] | rw [if_neg (by omega)]
      exact hRET _ ls H locs ((iI 0)) ((0 : Int)) dX5_ready_29 ⟨rfl, q_0⟩ hP hD hS
  · skip
    subst h5
    refine lv_if_ne (tgt := 13) hx hb dX5_ready_8 (by decide) (fun c_x => absurd c_x (by decide)) (fun _ => ?_)
    refine lv_iconst (v := iI (-1)) hx hb dX5_ready_11 (by decide) ?_
    have q_0 : (-1 : Int) = if 0 ≤ z ∧ z < (N : Int) then (if sp_rdy K G C z.toNat = true then 1 else 0) else -1 := by first | rw [if_pos (by omega), if_pos (by assumption)] | rw [if_pos (by omega), if_neg (by simp [*])] | rw [if_neg (by omega)]
    exact hRET _ ls H locs ((iI (-1))) ((-1 : Int)) dX5_ready_12 ⟨rfl, q_0⟩ hP hD hS

set_option maxHeartbeats 4000000 in
set_option maxRecDepth 100000 in
theorem c_X5_fire (l : Launch) (dC : Nat → ClassId) (dI : Nat → Nat → Nat) (cI cJ : ClassId) (sz : Nat) (g0 : Nat) (h0 : Nat) (p0 : Nat) (k0 : Nat) (u0 : Nat) (r0 : Nat) (a1 : Nat) (a2 : Nat) (a3 : Nat) (a4 : Nat) (N : Nat) (K : Nat) (T : Nat → Nat) (F : Nat → Nat) (G : Nat → Nat) (C : Nat → Nat) (z : Int) (bN : N ≤ 8) (bK : K ≤ 16) (bC : ∀ a, C a ≤ 9) (bF : ∀ a, F a < 8) (bG : ∀ a, G a < 8) (bz : -2147483648 ≤ z ∧ z < 2147483648) : Met l yX5_fire wsX5_fire (zR 2 0 0 44) (va_Pc [.ref g0, .int (iI z)] (zP (dC, dI) [(cI, .int), (cJ, .long)] [(g0, .inr (5, [.ref h0, .ref p0, .ref k0, .ref u0, .ref r0])), (h0, .inr (0, [.ref a1, .ref a2, .ref a3, .ref a4, .int (nI N), .int (nI K)])), (a1, .inl (cI, 8, .inl (fun z_ => nI (T z_)))), (a2, .inl (cI, 16, .inl (fun z_ => nI (F z_)))), (a3, .inl (cI, 16, .inl (fun z_ => nI (G z_)))), (a4, .inl (cI, 16, .inl (fun z_ => nI (C z_))))] sz nwA)) (va_Qi (fun (r : Int32) (u : (Int) × (Nat → Nat)) => r = (iI u.1) ∧ (u.1 = if 0 ≤ z ∧ z < (N : Int) then (if sp_rdy K G C z.toNat = true then (if sp_room K F G C z.toNat = true then (sp_cnt N K G (sp_mv K F G C z.toNat) : Int) else -4) else -3) else -1) ∧ (u.2 = if ((0 ≤ z ∧ z < (N : Int)) ∧ sp_rdy K G C z.toNat = true ∧ sp_room K F G C z.toNat = true) then sp_mv K F G C z.toNat else C)) (zB (dC, dI) (fun (u : (Int) × (Nat → Nat)) => [(g0, .inr (5, [.ref h0, .ref p0, .ref k0, .ref u0, .ref r0])), (h0, .inr (0, [.ref a1, .ref a2, .ref a3, .ref a4, .int (nI N), .int (nI K)])), (a1, .inl (cI, 8, .inl (fun z_ => nI (T z_)))), (a2, .inl (cI, 16, .inl (fun z_ => nI (F z_)))), (a3, .inl (cI, 16, .inl (fun z_ => nI (G z_)))), (a4, .inl (cI, 16, .inl (fun z_ => nI (u.2 z_))))]) (va_A [(g0, .inr (5, [.ref h0, .ref p0, .ref k0, .ref u0, .ref r0])), (h0, .inr (0, [.ref a1, .ref a2, .ref a3, .ref a4, .int (nI N), .int (nI K)])), (a1, .inl (cI, 8, .inl (fun z_ => nI (T z_)))), (a2, .inl (cI, 16, .inl (fun z_ => nI (F z_)))), (a3, .inl (cI, 16, .inl (fun z_ => nI (G z_)))), (a4, .inl (cI, 16, .inl (fun z_ => nI (C z_))))] sz)) (va_A [(g0, .inr (5, [.ref h0, .ref p0, .ref k0, .ref u0, .ref r0])), (h0, .inr (0, [.ref a1, .ref a2, .ref a3, .ref a4, .int (nI N), .int (nI K)])), (a1, .inl (cI, 8, .inl (fun z_ => nI (T z_)))), (a2, .inl (cI, 16, .inl (fun z_ => nI (F z_)))), (a3, .inl (cI, 16, .inl (fun z_ => nI (G z_)))), (a4, .inl (cI, 16, .inl (fun z_ => nI (C z_))))] sz)) 0 0 (va_A [(g0, .inr (5, [.ref h0, .ref p0, .ref k0, .ref u0, .ref r0])), (h0, .inr (0, [.ref a1, .ref a2, .ref a3, .ref a4, .int (nI N), .int (nI K)])), (a1, .inl (cI, 8, .inl (fun z_ => nI (T z_)))), (a2, .inl (cI, 16, .inl (fun z_ => nI (F z_)))), (a3, .inl (cI, 16, .inl (fun z_ => nI (G z_)))), (a4, .inl (cI, 16, .inl (fun z_ => nI (C z_))))] sz) := by
  refine z_met_i (cc := cX5_fire) (maxL := 2) (by decide) rfl (Nat.le_of_ble_eq_true rfl) ?_
  intro p e s m args below meth c Q A ls hx hb hml hown hts hin hA hK hP hD hN hl hRET
  have hown : s.vm.findClass RX5 = some m.cls := hown
  obtain ⟨H, eH⟩ : ∃ H : Heap, H = s.heap := ⟨_, rfl⟩
  rw [← eH] at hP
  obtain ⟨locs, eL⟩ : ∃ z : List Loc, z = [] := ⟨_, rfl⟩
  rw [← eH, ← eL]
  have hS : va_S A s.heap H locs := by rw [eH, eL]; exact va_S.rf
  have hl : lv_has ls 2 [(0, .ref g0), (1, .int (iI z))] := hl
  have w10 := hts (.fieldLink RX5 10 "PullCards" "line" "LPullCards$Line;") (by decide +kernel)
  have uX5 : ∀ w ∈ wsX50, w ∈ wsX5_fire := by decide +kernel
  refine lv_aload_n hx hb dX5_fire_0 rfl (lv_at hl 0 rfl) ?_
  refine z_get (D := (dC, dI)) (ci := 5) (v := .ref h0) (C := RX5) (T := TX5) (N := 5) hx hb hts uX5 hown hK hP 0 rfl rfl 0 (by decide) w10 rfl rfl dX5_fire_1 ?_
  refine lv_iload_n hx hb dX5_fire_4 rfl (lv_at hl 1 rfl) ?_
  refine z_callVi (As := [.int (iI z)]) (rest := []) (wr := [(g0, .inr (5, [.ref h0, .ref p0, .ref k0, .ref u0, .ref r0]))]) ⟨hx, hb, hml, hown, hts⟩ (c_X0_hasStation l dC dI cI cJ H.size h0 a1 a2 a3 a4 N K T F G C z (by first | assumption | omega) (by first | assumption | omega) (by first | assumption | omega)) (cwV 1 hts gX5_fire_X0_hasStation rfl rfl rfl (by decide +kernel) ⟨Nat.le_of_ble_eq_true rfl, Nat.le_of_ble_eq_true rfl⟩) hA hK hP hD hS [1, 2, 3, 4, 5] [0] [0, 1, 2, 3, 4, 5] rfl rfl (by decide) (by decide) (by decide) nwA_ok hN (ci := 0) rfl rfl 1 rfl hl.1 (Nat.le_of_ble_eq_true rfl) ⟨Nat.le_refl _, Nat.le_refl _⟩ rfl rfl dX5_fire_5 (fun (u : (Nat)) => [(g0, .inr (5, [.ref h0, .ref p0, .ref k0, .ref u0, .ref r0])), (h0, .inr (0, [.ref a1, .ref a2, .ref a3, .ref a4, .int (nI N), .int (nI K)])), (a1, .inl (cI, 8, .inl (fun z_ => nI (T z_)))), (a2, .inl (cI, 16, .inl (fun z_ => nI (F z_)))), (a3, .inl (cI, 16, .inl (fun z_ => nI (G z_)))), (a4, .inl (cI, 16, .inl (fun z_ => nI (C z_))))]) (fun u => rfl) (by decide) (fun r_5 u H locs hw hP hD hS => ?_)
  obtain ⟨rv_5, eu⟩ : ∃ z, z = u := ⟨_, rfl⟩
  subst eu
  have hP : va_P (dC, dI) vwCl [(g0, .inr (5, [.ref h0, .ref p0, .ref k0, .ref u0, .ref r0])), (h0, .inr (0, [.ref a1, .ref a2, .ref a3, .ref a4, .int (nI N), .int (nI K)])), (a1, .inl (cI, 8, .inl (fun z_ => nI (T z_)))), (a2, .inl (cI, 16, .inl (fun z_ => nI (F z_)))), (a3, .inl (cI, 16, .inl (fun z_ => nI (G z_)))), (a4, .inl (cI, 16, .inl (fun z_ => nI (C z_))))] H := hP
  have hD : va_D A [(g0, .inr (5, [.ref h0, .ref p0, .ref k0, .ref u0, .ref r0])), (h0, .inr (0, [.ref a1, .ref a2, .ref a3, .ref a4, .int (nI N), .int (nI K)])), (a1, .inl (cI, 8, .inl (fun z_ => nI (T z_)))), (a2, .inl (cI, 16, .inl (fun z_ => nI (F z_)))), (a3, .inl (cI, 16, .inl (fun z_ => nI (G z_)))), (a4, .inl (cI, 16, .inl (fun z_ => nI (C z_))))] := hD
  obtain ⟨er, p5_0⟩ := hw
  have p5_0 : (rv_5 = 1 ∧ (0 ≤ z ∧ z < (N : Int))) ∨ (rv_5 = 0 ∧ ¬ (0 ≤ z ∧ z < (N : Int))) := p5_0
  have er : r_5 = (nI rv_5) := er
  subst er
  rcases p5_0 with ⟨h5, c_5⟩ | ⟨h5, c_5⟩
  · skip
    subst h5
    refine lv_if_ne (tgt := 13) hx hb dX5_fire_8 (by decide) (fun _ => ?_) (fun c_x => absurd c_x (by decide))
    refine lv_aload_n hx hb dX5_fire_13 rfl (lv_at hl 0 rfl) ?_
    refine z_get (D := (dC, dI)) (ci := 5) (v := .ref h0) (C := RX5) (T := TX5) (N := 5) hx hb hts uX5 hown hK hP 0 rfl rfl 0 (by decide) w10 rfl rfl dX5_fire_14 ?_
    refine lv_iload_n hx hb dX5_fire_17 rfl (lv_at hl 1 rfl) ?_
    refine z_c0 (v := nI z.toNat) (z_ZtoN (by first | assumption | omega)) ?_
    refine z_callVi (As := [.int (nI z.toNat)]) (rest := []) (wr := [(g0, .inr (5, [.ref h0, .ref p0, .ref k0, .ref u0, .ref r0]))]) ⟨hx, hb, hml, hown, hts⟩ (c_X0_isReady l dC dI cI cJ H.size h0 a1 a2 a3 a4 N K T F G C z.toNat (by first | assumption | omega) (by first | assumption | omega) (by first | assumption | omega) (by first | assumption | omega)) (cwV 1 hts gX5_fire_X0_isReady rfl rfl rfl (by decide +kernel) ⟨Nat.le_of_ble_eq_true rfl, Nat.le_of_ble_eq_true rfl⟩) hA hK hP hD hS [1, 2, 3, 4, 5] [0] [0, 1, 2, 3, 4, 5] rfl rfl (by decide) (by decide) (by decide) nwA_ok hN (ci := 0) rfl rfl 1 rfl hl.1 (Nat.le_of_ble_eq_true rfl) ⟨Nat.le_refl _, Nat.le_refl _⟩ rfl rfl dX5_fire_18 (fun (u : (Nat)) => [(g0, .inr (5, [.ref h0, .ref p0, .ref k0, .ref u0, .ref r0])), (h0, .inr (0, [.ref a1, .ref a2, .ref a3, .ref a4, .int (nI N), .int (nI K)])), (a1, .inl (cI, 8, .inl (fun z_ => nI (T z_)))), (a2, .inl (cI, 16, .inl (fun z_ => nI (F z_)))), (a3, .inl (cI, 16, .inl (fun z_ => nI (G z_)))), (a4, .inl (cI, 16, .inl (fun z_ => nI (C z_))))]) (fun u => rfl) (by decide) (fun r_18 u H locs hw hP hD hS => ?_)
    obtain ⟨rv_18, eu⟩ : ∃ z, z = u := ⟨_, rfl⟩
    subst eu
    have hP : va_P (dC, dI) vwCl [(g0, .inr (5, [.ref h0, .ref p0, .ref k0, .ref u0, .ref r0])), (h0, .inr (0, [.ref a1, .ref a2, .ref a3, .ref a4, .int (nI N), .int (nI K)])), (a1, .inl (cI, 8, .inl (fun z_ => nI (T z_)))), (a2, .inl (cI, 16, .inl (fun z_ => nI (F z_)))), (a3, .inl (cI, 16, .inl (fun z_ => nI (G z_)))), (a4, .inl (cI, 16, .inl (fun z_ => nI (C z_))))] H := hP
    have hD : va_D A [(g0, .inr (5, [.ref h0, .ref p0, .ref k0, .ref u0, .ref r0])), (h0, .inr (0, [.ref a1, .ref a2, .ref a3, .ref a4, .int (nI N), .int (nI K)])), (a1, .inl (cI, 8, .inl (fun z_ => nI (T z_)))), (a2, .inl (cI, 16, .inl (fun z_ => nI (F z_)))), (a3, .inl (cI, 16, .inl (fun z_ => nI (G z_)))), (a4, .inl (cI, 16, .inl (fun z_ => nI (C z_))))] := hD
    obtain ⟨er, p18_0⟩ := hw
    have p18_0 : (rv_18 = 1 ∧ sp_rdy K G C z.toNat = true) ∨ (rv_18 = 0 ∧ sp_rdy K G C z.toNat = false) := p18_0
    have er : r_18 = (nI rv_18) := er
    subst er
    rcases p18_0 with ⟨h18, c_18⟩ | ⟨h18, c_18⟩
    · skip
      subst h18
      refine lv_if_ne (tgt := 27) hx hb dX5_fire_21 (by decide) (fun _ => ?_) (fun c_x => absurd c_x (by decide))
      refine lv_aload_n hx hb dX5_fire_27 rfl (lv_at hl 0 rfl) ?_
      refine z_get (D := (dC, dI)) (ci := 5) (v := .ref h0) (C := RX5) (T := TX5) (N := 5) hx hb hts uX5 hown hK hP 0 rfl rfl 0 (by decide) w10 rfl rfl dX5_fire_28 ?_
      refine lv_iload_n hx hb dX5_fire_31 rfl (lv_at hl 1 rfl) ?_
      refine z_c0 (v := nI z.toNat) (z_ZtoN (by first | assumption | omega)) ?_
      refine z_callVi (As := [.int (nI z.toNat)]) (rest := []) (wr := [(g0, .inr (5, [.ref h0, .ref p0, .ref k0, .ref u0, .ref r0]))]) ⟨hx, hb, hml, hown, hts⟩ (c_X0_hasRoom l dC dI cI cJ H.size h0 a1 a2 a3 a4 N K T F G C z.toNat (by first | assumption | omega) (by first | assumption | omega) (by first | assumption | omega) (by first | assumption | omega) (by first | assumption | omega)) (cwV 1 hts gX5_fire_X0_hasRoom rfl rfl rfl (by decide +kernel) ⟨Nat.le_of_ble_eq_true rfl, Nat.le_of_ble_eq_true rfl⟩) hA hK hP hD hS [1, 2, 3, 4, 5] [0] [0, 1, 2, 3, 4, 5] rfl rfl (by decide) (by decide) (by decide) nwA_ok hN (ci := 0) rfl rfl 1 rfl hl.1 (Nat.le_of_ble_eq_true rfl) ⟨Nat.le_refl _, Nat.le_refl _⟩ rfl rfl dX5_fire_32 (fun (u : (Nat)) => [(g0, .inr (5, [.ref h0, .ref p0, .ref k0, .ref u0, .ref r0])), (h0, .inr (0, [.ref a1, .ref a2, .ref a3, .ref a4, .int (nI N), .int (nI K)])), (a1, .inl (cI, 8, .inl (fun z_ => nI (T z_)))), (a2, .inl (cI, 16, .inl (fun z_ => nI (F z_)))), (a3, .inl (cI, 16, .inl (fun z_ => nI (G z_)))), (a4, .inl (cI, 16, .inl (fun z_ => nI (C z_))))]) (fun u => rfl) (by decide) (fun r_32 u H locs hw hP hD hS => ?_)
      obtain ⟨rv_32, eu⟩ : ∃ z, z = u := ⟨_, rfl⟩
      subst eu
      have hP : va_P (dC, dI) vwCl [(g0, .inr (5, [.ref h0, .ref p0, .ref k0, .ref u0, .ref r0])), (h0, .inr (0, [.ref a1, .ref a2, .ref a3, .ref a4, .int (nI N), .int (nI K)])), (a1, .inl (cI, 8, .inl (fun z_ => nI (T z_)))), (a2, .inl (cI, 16, .inl (fun z_ => nI (F z_)))), (a3, .inl (cI, 16, .inl (fun z_ => nI (G z_)))), (a4, .inl (cI, 16, .inl (fun z_ => nI (C z_))))] H := hP
      have hD : va_D A [(g0, .inr (5, [.ref h0, .ref p0, .ref k0, .ref u0, .ref r0])), (h0, .inr (0, [.ref a1, .ref a2, .ref a3, .ref a4, .int (nI N), .int (nI K)])), (a1, .inl (cI, 8, .inl (fun z_ => nI (T z_)))), (a2, .inl (cI, 16, .inl (fun z_ => nI (F z_)))), (a3, .inl (cI, 16, .inl (fun z_ => nI (G z_)))), (a4, .inl (cI, 16, .inl (fun z_ => nI (C z_))))] := hD
      obtain ⟨er, p32_0⟩ := hw
      have p32_0 : (rv_32 = 1 ∧ sp_room K F G C z.toNat = true) ∨ (rv_32 = 0 ∧ sp_room K F G C z.toNat = false) := p32_0
      have er : r_32 = (nI rv_32) := er
      subst er
      rcases p32_0 with ⟨h32, c_32⟩ | ⟨h32, c_32⟩
      · skip
        subst h32
        refine lv_if_ne (tgt := 41) hx hb dX5_fire_35 (by decide) (fun _ => ?_) (fun c_x => absurd c_x (by decide))
        refine lv_aload_n hx hb dX5_fire_41 rfl (lv_at hl 0 rfl) ?_
        refine z_get (D := (dC, dI)) (ci := 5) (v := .ref h0) (C := RX5) (T := TX5) (N := 5) hx hb hts uX5 hown hK hP 0 rfl rfl 0 (by decide) w10 rfl rfl dX5_fire_42 ?_
        refine lv_iload_n hx hb dX5_fire_45 rfl (lv_at hl 1 rfl) ?_
        refine z_c0 (v := nI z.toNat) (z_ZtoN (by first | assumption | omega)) ?_
        refine z_callVv (As := [.int (nI z.toNat)]) (rest := []) (wr := [(g0, .inr (5, [.ref h0, .ref p0, .ref k0, .ref u0, .ref r0]))]) ⟨hx, hb, hml, hown, hts⟩ (c_X0_moveCards l dC dI cI cJ H.size h0 a1 a2 a3 a4 N K T F G C z.toNat (by first | assumption | omega) (by first | assumption | omega) (by first | assumption | omega) (by first | assumption | omega) (by first | assumption | omega) (by first | assumption | omega)) (cwV 1 hts gX5_fire_X0_moveCards rfl rfl rfl (by decide +kernel) ⟨Nat.le_of_ble_eq_true rfl, Nat.le_of_ble_eq_true rfl⟩) hA hK hP hD hS [1, 2, 3, 4, 5] [0] [0, 1, 2, 3, 4, 5] rfl rfl (by decide) (by decide) (by decide) nwA_ok hN (ci := 0) rfl rfl 1 rfl hl.1 (Nat.le_of_ble_eq_true rfl) ⟨Nat.le_refl _, Nat.le_refl _⟩ rfl rfl dX5_fire_46 (fun (u : (Nat → Nat)) => [(g0, .inr (5, [.ref h0, .ref p0, .ref k0, .ref u0, .ref r0])), (h0, .inr (0, [.ref a1, .ref a2, .ref a3, .ref a4, .int (nI N), .int (nI K)])), (a1, .inl (cI, 8, .inl (fun z_ => nI (T z_)))), (a2, .inl (cI, 16, .inl (fun z_ => nI (F z_)))), (a3, .inl (cI, 16, .inl (fun z_ => nI (G z_)))), (a4, .inl (cI, 16, .inl (fun z_ => nI (u z_))))]) (fun u => rfl) (by decide) (fun u H locs hw hP hD hS => ?_)
        obtain ⟨C2_46, eu⟩ : ∃ z, z = u := ⟨_, rfl⟩
        subst eu
        have hP : va_P (dC, dI) vwCl [(g0, .inr (5, [.ref h0, .ref p0, .ref k0, .ref u0, .ref r0])), (h0, .inr (0, [.ref a1, .ref a2, .ref a3, .ref a4, .int (nI N), .int (nI K)])), (a1, .inl (cI, 8, .inl (fun z_ => nI (T z_)))), (a2, .inl (cI, 16, .inl (fun z_ => nI (F z_)))), (a3, .inl (cI, 16, .inl (fun z_ => nI (G z_)))), (a4, .inl (cI, 16, .inl (fun z_ => nI (C2_46 z_))))] H := hP
        have hD : va_D A [(g0, .inr (5, [.ref h0, .ref p0, .ref k0, .ref u0, .ref r0])), (h0, .inr (0, [.ref a1, .ref a2, .ref a3, .ref a4, .int (nI N), .int (nI K)])), (a1, .inl (cI, 8, .inl (fun z_ => nI (T z_)))), (a2, .inl (cI, 16, .inl (fun z_ => nI (F z_)))), (a3, .inl (cI, 16, .inl (fun z_ => nI (G z_)))), (a4, .inl (cI, 16, .inl (fun z_ => nI (C2_46 z_))))] := hD
        have p46_0 := hw
        have p46_0 : C2_46 = sp_mv K F G C z.toNat := p46_0
        subst p46_0
        refine lv_aload_n hx hb dX5_fire_49 rfl (lv_at hl 0 rfl) ?_
        refine z_get (D := (dC, dI)) (ci := 5) (v := .ref h0) (C := RX5) (T := TX5) (N := 5) hx hb hts uX5 hown hK hP 0 rfl rfl 0 (by decide) w10 rfl rfl dX5_fire_50 ?_
        refine z_callVi (As := []) (rest := []) (wr := [(g0, .inr (5, [.ref h0, .ref p0, .ref k0, .ref u0, .ref r0]))]) ⟨hx, hb, hml, hown, hts⟩ (c_X0_countReady l dC dI cI cJ H.size h0 a1 a2 a3 a4 N K T F G (sp_mv K F G C z.toNat) (by first | assumption | omega) (by first | assumption | omega) (by exact sp_mv_le bC c_18 c_32) (by first | assumption | omega)) (cwV 0 hts gX5_fire_X0_countReady rfl rfl rfl (by decide +kernel) ⟨Nat.le_of_ble_eq_true rfl, Nat.le_of_ble_eq_true rfl⟩) hA hK hP hD hS [1, 2, 3, 4, 5] [0] [0, 1, 2, 3, 4, 5] rfl rfl (by decide) (by decide) (by decide) nwA_ok hN (ci := 0) rfl rfl 1 rfl hl.1 (Nat.le_of_ble_eq_true rfl) ⟨Nat.le_refl _, Nat.le_refl _⟩ rfl rfl dX5_fire_53 (fun (u : (Nat)) => [(g0, .inr (5, [.ref h0, .ref p0, .ref k0, .ref u0, .ref r0])), (h0, .inr (0, [.ref a1, .ref a2, .ref a3, .ref a4, .int (nI N), .int (nI K)])), (a1, .inl (cI, 8, .inl (fun z_ => nI (T z_)))), (a2, .inl (cI, 16, .inl (fun z_ => nI (F z_)))), (a3, .inl (cI, 16, .inl (fun z_ => nI (G z_)))), (a4, .inl (cI, 16, .inl (fun z_ => nI ((sp_mv K F G C z.toNat) z_))))]) (fun u => rfl) (by decide) (fun r_53 u H locs hw hP hD hS => ?_)
        obtain ⟨rv_53, eu⟩ : ∃ z, z = u := ⟨_, rfl⟩
        subst eu
        have hP : va_P (dC, dI) vwCl [(g0, .inr (5, [.ref h0, .ref p0, .ref k0, .ref u0, .ref r0])), (h0, .inr (0, [.ref a1, .ref a2, .ref a3, .ref a4, .int (nI N), .int (nI K)])), (a1, .inl (cI, 8, .inl (fun z_ => nI (T z_)))), (a2, .inl (cI, 16, .inl (fun z_ => nI (F z_)))), (a3, .inl (cI, 16, .inl (fun z_ => nI (G z_)))), (a4, .inl (cI, 16, .inl (fun z_ => nI ((sp_mv K F G C z.toNat) z_))))] H := hP
        have hD : va_D A [(g0, .inr (5, [.ref h0, .ref p0, .ref k0, .ref u0, .ref r0])), (h0, .inr (0, [.ref a1, .ref a2, .ref a3, .ref a4, .int (nI N), .int (nI K)])), (a1, .inl (cI, 8, .inl (fun z_ => nI (T z_)))), (a2, .inl (cI, 16, .inl (fun z_ => nI (F z_)))), (a3, .inl (cI, 16, .inl (fun z_ => nI (G z_)))), (a4, .inl (cI, 16, .inl (fun z_ => nI ((sp_mv K F G C z.toNat) z_))))] := hD
        obtain ⟨er, p53_0⟩ := hw
        have p53_0 : rv_53 = sp_cnt N K G (sp_mv K F G C z.toNat) := p53_0
        have er : r_53 = (nI rv_53) := er
        subst er
        subst p53_0
        refine z_c0 (v := iI (((sp_cnt N K G (sp_mv K F G C z.toNat)) : Nat) : Int)) (iI_N _) ?_
        have q_0 : (((sp_cnt N K G (sp_mv K F G C z.toNat)) : Nat) : Int) = if 0 ≤ z ∧ z < (N : Int) then (if sp_rdy K G C z.toNat = true then (if sp_room K F G C z.toNat = true then (sp_cnt N K G (sp_mv K F G C z.toNat) : Int) else -4) else -3) else -1 := by first | rw [if_pos (by omega), if_pos (by assumption), if_pos (by assumption)] | rw [if_pos (by omega), if_pos (by assumption), if_neg (by simp [*])] | rw [if_pos (by omega), if_neg (by simp [*])] | rw [if_neg (by omega)]
        have q_1 : (sp_mv K F G C z.toNat) = if ((0 ≤ z ∧ z < (N : Int)) ∧ sp_rdy K G C z.toNat = true ∧ sp_room K F G C z.toNat = true) then sp_mv K F G C z.toNat else C := by first | rw [if_pos ⟨by omega, by assumption, by assumption⟩] | rw [if_neg (fun h => absurd h.1 (by omega))] | rw [if_neg (fun h => by rw [c_18] at h; exact absurd h.2.1 (by decide))] | rw [if_neg (fun h => by rw [c_32] at h; exact absurd h.2.2 (by decide))]
        exact hRET _ ls H locs ((iI (((sp_cnt N K G (sp_mv K F G C z.toNat)) : Nat) : Int))) ((((sp_cnt N K G (sp_mv K F G C z.toNat)) : Nat) : Int), (sp_mv K F G C z.toNat)) dX5_fire_56 ⟨rfl, q_0, q_1⟩ hP hD hS
      · skip
        subst h32
        refine lv_if_ne (tgt := 41) hx hb dX5_fire_35 (by decide) (fun c_x => absurd c_x (by decide)) (fun _ => ?_)
        refine lv_bipush (v := iI (-4)) hx hb dX5_fire_38 (by decide) ?_
        have q_0 : (-4 : Int) = if 0 ≤ z ∧ z < (N : Int) then (if sp_rdy K G C z.toNat = true then (if sp_room K F G C z.toNat = true then (sp_cnt N K G (sp_mv K F G C z.toNat) : Int) else -4) else -3) else -1 := by first | rw [if_pos (by omega), if_pos (by assumption), if_pos (by assumption)] | rw [if_pos (by omega), if_pos (by assumption), if_neg (by simp [*])] | rw [if_pos (by omega), if_neg (by simp [*])] | rw [if_neg (by omega)]
        have q_1 : C = if ((0 ≤ z ∧ z < (N : Int)) ∧ sp_rdy K G C z.toNat = true ∧ sp_room K F G C z.toNat = true) then sp_mv K F G C z.toNat else C := by first | rw [if_pos ⟨by omega, by assumption, by assumption⟩] | rw [if_neg (fun h => absurd h.1 (by omega))] | rw [if_neg (fun h => by rw [c_18] at h; exact absurd h.2.1 (by decide))] | rw [if_neg (fun h => by rw [c_32] at h; exact absurd h.2.2 (by decide))]
        exact hRET _ ls H locs ((iI (-4))) ((-4 : Int), C) dX5_fire_40 ⟨rfl, q_0, q_1⟩ hP hD hS
    · skip
      subst h18
      refine lv_if_ne (tgt := 27) hx hb dX5_fire_21 (by decide) (fun c_x => absurd c_x (by decide)) (fun _ => ?_)
      refine lv_bipush (v := iI (-3)) hx hb dX5_fire_24 (by decide) ?_
      have q_0 : (-3 : Int) = if 0 ≤ z ∧ z < (N : Int) then (if sp_rdy K G C z.toNat = true then (if sp_room K F G C z.toNat = true then (sp_cnt N K G (sp_mv K F G C z.toNat) : Int) else -4) else -3) else -1 := by first | rw [if_pos (by omega), if_pos (by assumption), if_pos (by assumption)] | rw [if_pos (by omega), if_pos (by assumption), if_neg (by simp [*])] | rw [if_pos (by omega), if_neg (by simp [*])] | rw [if_neg (by omega)]
      have q_1 : C = if ((0 ≤ z ∧ z < (N : Int)) ∧ sp_rdy K G C z.toNat = true ∧ sp_room K F G C z.toNat = true) then sp_mv K F G C z.toNat else C := by first | rw [if_pos ⟨by omega, by assumption, by assumption⟩] | rw [if_neg (fun h => absurd h.1 (by omega))] | rw [if_neg (fun h => by rw [c_18] at h; exact absurd h.2.1 (by decide))] | rw [if_neg (fun h => by rw [c_32] at h; exact absurd h.2.2 (by decide))]
      exact hRET _ ls H locs ((iI (-3))) ((-3 : Int), C) dX5_fire_26 ⟨rfl, q_0, q_1⟩ hP hD hS
  · skip
    subst h5
    refine lv_if_ne (tgt := 13) hx hb dX5_fire_8 (by decide) (fun c_x => absurd c_x (by decide)) (fun _ => ?_)
    refine lv_iconst (v := iI (-1)) hx hb dX5_fire_11 (by decide) ?_
    have q_0 : (-1 : Int) = if 0 ≤ z ∧ z < (N : Int) then (if sp_rdy K G C z.toNat = true then (if sp_room K F G C z.toNat = true then (sp_cnt N K G (sp_mv K F G C z.toNat) : Int) else -4) else -3) else -1 := by first | rw [if_pos (by omega), if_pos (by assumption), if_pos (by assumption)] | rw [if_pos (by omega), if_pos (by assumption), if_neg (by simp [*])] | rw [if_pos (by omega), if_neg (by simp [*])] | rw [if_neg (by omega)]
    have q_1 : C = if ((0 ≤ z ∧ z < (N : Int)) ∧ sp_rdy K G C z.toNat = true ∧ sp_room K F G C z.toNat = true) then sp_mv K F G C z.toNat else C := by first | rw [if_pos ⟨by omega, by assumption, by assumption⟩] | rw [if_neg (fun h => absurd h.1 (by omega))] | rw [if_neg (fun h => by rw [c_18] at h; exact absurd h.2.1 (by decide))] | rw [if_neg (fun h => by rw [c_32] at h; exact absurd h.2.2 (by decide))]
    exact hRET _ ls H locs ((iI (-1))) ((-1 : Int), C) dX5_fire_12 ⟨rfl, q_0, q_1⟩ hP hD hS

set_option maxHeartbeats 4000000 in
set_option maxRecDepth 100000 in
theorem c_X5_round (l : Launch) (dC : Nat → ClassId) (dI : Nat → Nat → Nat) (cI cJ : ClassId) (sz : Nat) (g0 : Nat) (h0 : Nat) (p0 : Nat) (k0 : Nat) (u0 : Nat) (r0 : Nat) (a1 : Nat) (a2 : Nat) (a3 : Nat) (a4 : Nat) (N : Nat) (K : Nat) (T : Nat → Nat) (F : Nat → Nat) (G : Nat → Nat) (C : Nat → Nat) (bN : N ≤ 8) (bK : K ≤ 16) (bC : ∀ a, C a ≤ 9) (bF : ∀ a, F a < 8) (bG : ∀ a, G a < 8) : Met l yX5_round wsX5_round (zR 1 0 0 23) (va_Pc [.ref g0] (zP (dC, dI) [(cI, .int), (cJ, .long)] [(g0, .inr (5, [.ref h0, .ref p0, .ref k0, .ref u0, .ref r0])), (h0, .inr (0, [.ref a1, .ref a2, .ref a3, .ref a4, .int (nI N), .int (nI K)])), (a1, .inl (cI, 8, .inl (fun z_ => nI (T z_)))), (a2, .inl (cI, 16, .inl (fun z_ => nI (F z_)))), (a3, .inl (cI, 16, .inl (fun z_ => nI (G z_)))), (a4, .inl (cI, 16, .inl (fun z_ => nI (C z_))))] sz nwA)) (va_Qi (fun (r : Int32) (u : (Nat) × (Nat → Nat)) => r = (nI u.1) ∧ (u.1 = fb_ct (sp_rok K F G C) N) ∧ (u.2 = sp_rC K F G C N)) (zB (dC, dI) (fun (u : (Nat) × (Nat → Nat)) => [(g0, .inr (5, [.ref h0, .ref p0, .ref k0, .ref u0, .ref r0])), (h0, .inr (0, [.ref a1, .ref a2, .ref a3, .ref a4, .int (nI N), .int (nI K)])), (a1, .inl (cI, 8, .inl (fun z_ => nI (T z_)))), (a2, .inl (cI, 16, .inl (fun z_ => nI (F z_)))), (a3, .inl (cI, 16, .inl (fun z_ => nI (G z_)))), (a4, .inl (cI, 16, .inl (fun z_ => nI (u.2 z_))))]) (va_A [(g0, .inr (5, [.ref h0, .ref p0, .ref k0, .ref u0, .ref r0])), (h0, .inr (0, [.ref a1, .ref a2, .ref a3, .ref a4, .int (nI N), .int (nI K)])), (a1, .inl (cI, 8, .inl (fun z_ => nI (T z_)))), (a2, .inl (cI, 16, .inl (fun z_ => nI (F z_)))), (a3, .inl (cI, 16, .inl (fun z_ => nI (G z_)))), (a4, .inl (cI, 16, .inl (fun z_ => nI (C z_))))] sz)) (va_A [(g0, .inr (5, [.ref h0, .ref p0, .ref k0, .ref u0, .ref r0])), (h0, .inr (0, [.ref a1, .ref a2, .ref a3, .ref a4, .int (nI N), .int (nI K)])), (a1, .inl (cI, 8, .inl (fun z_ => nI (T z_)))), (a2, .inl (cI, 16, .inl (fun z_ => nI (F z_)))), (a3, .inl (cI, 16, .inl (fun z_ => nI (G z_)))), (a4, .inl (cI, 16, .inl (fun z_ => nI (C z_))))] sz)) 0 0 (va_A [(g0, .inr (5, [.ref h0, .ref p0, .ref k0, .ref u0, .ref r0])), (h0, .inr (0, [.ref a1, .ref a2, .ref a3, .ref a4, .int (nI N), .int (nI K)])), (a1, .inl (cI, 8, .inl (fun z_ => nI (T z_)))), (a2, .inl (cI, 16, .inl (fun z_ => nI (F z_)))), (a3, .inl (cI, 16, .inl (fun z_ => nI (G z_)))), (a4, .inl (cI, 16, .inl (fun z_ => nI (C z_))))] sz) := by
  refine z_met_i (cc := cX5_round) (maxL := 3) (by decide) rfl (Nat.le_of_ble_eq_true rfl) ?_
  intro p e s m args below meth c Q A ls hx hb hml hown hts hin hA hK hP hD hN hl hRET
  have hown : s.vm.findClass RX5 = some m.cls := hown
  obtain ⟨H, eH⟩ : ∃ H : Heap, H = s.heap := ⟨_, rfl⟩
  rw [← eH] at hP
  obtain ⟨locs, eL⟩ : ∃ z : List Loc, z = [] := ⟨_, rfl⟩
  rw [← eH, ← eL]
  have hS : va_S A s.heap H locs := by rw [eH, eL]; exact va_S.rf
  have hl : lv_has ls 3 [(0, .ref g0)] := hl
  have w10 := hts (.fieldLink RX5 10 "PullCards" "line" "LPullCards$Line;") (by decide +kernel)
  have uX5 : ∀ w ∈ wsX50, w ∈ wsX5_round := by decide +kernel
  have w50 := hts (.fieldLink RX5 50 "PullCards$Line" "stations" "I") (by decide +kernel)
  have uX0 : ∀ w ∈ wsX00, w ∈ wsX5_round := by decide +kernel
  refine lv_iconst (v := nI 0) hx hb dX5_round_0 (by decide) ?_
  refine lv_istore_n (lv' := [(1, .int (nI 0)), (0, .ref g0)]) hx hb dX5_round_1 rfl hl (by decide) rfl (fun ls hl => ?_)
  refine lv_iconst (v := nI 0) hx hb dX5_round_2 (by decide) ?_
  refine lv_istore_n (lv' := [(2, .int (nI 0)), (1, .int (nI 0)), (0, .ref g0)]) hx hb dX5_round_3 rfl hl (by decide) rfl (fun ls hl => ?_)
  have L4 : ∀ (n4 : Nat) (j : Nat) (n1 : Nat) (C1 : Nat → Nat), (N - j) < n4 → (j ≤ N) → (C1 = sp_rC K F G C j) → (n1 = fb_ct (sp_rok K F G C) j) → (n1 ≤ j) → ∀ (H : Heap) (locs : List Loc), va_P (dC, dI) vwCl [(g0, .inr (5, [.ref h0, .ref p0, .ref k0, .ref u0, .ref r0])), (h0, .inr (0, [.ref a1, .ref a2, .ref a3, .ref a4, .int (nI N), .int (nI K)])), (a1, .inl (cI, 8, .inl (fun z_ => nI (T z_)))), (a2, .inl (cI, 16, .inl (fun z_ => nI (F z_)))), (a3, .inl (cI, 16, .inl (fun z_ => nI (G z_)))), (a4, .inl (cI, 16, .inl (fun z_ => nI (C1 z_))))] H → va_D A [(g0, .inr (5, [.ref h0, .ref p0, .ref k0, .ref u0, .ref r0])), (h0, .inr (0, [.ref a1, .ref a2, .ref a3, .ref a4, .int (nI N), .int (nI K)])), (a1, .inl (cI, 8, .inl (fun z_ => nI (T z_)))), (a2, .inl (cI, 16, .inl (fun z_ => nI (F z_)))), (a3, .inl (cI, 16, .inl (fun z_ => nI (G z_)))), (a4, .inl (cI, 16, .inl (fun z_ => nI (C1 z_))))] → va_S A s.heap H locs → ∀ (ls : Array Slot), lv_has ls 3 [(0, .ref g0), (1, .int (nI n1)), (2, .int (nI j))] → W p l e (zR 1 0 0 23) s m args below meth c H locs 0 0 Q (F0 m 4 ls []) := by
    intro n4
    induction n4 with
    | zero => intro j n1 C1 hn; exact absurd hn (Nat.not_lt_zero _)
    | succ n4 ih =>
      intro j n1 C1 hn i1 i2 i3 i4 H locs hP hD hS ls hl
      have ih4 := ih
      have hn4 := hn
      clear ih hn
      have bC1 : ∀ a, C1 a ≤ 9 := by rw [i2]; exact sp_rC_le bC j
      refine lv_iload_n hx hb dX5_round_4 rfl (lv_at hl 2 rfl) ?_
      refine lv_aload_n hx hb dX5_round_5 rfl (lv_at hl 0 rfl) ?_
      refine z_get (D := (dC, dI)) (ci := 5) (v := .ref h0) (C := RX5) (T := TX5) (N := 5) hx hb hts uX5 hown hK hP 0 rfl rfl 0 (by decide) w10 rfl rfl dX5_round_6 ?_
      refine z_get (D := (dC, dI)) (ci := 0) (v := .int (nI N)) (C := RX0) (T := TX0) (N := 6) hx hb hts uX0 hown hK hP 1 rfl rfl 4 (by decide) w50 rfl rfl dX5_round_9 ?_
      refine z_icmp_ge (tgt := 54) hx hb dX5_round_12 (by decide) (zcn_le (a := N) (b := j) rfl rfl (by omega)) (fun c_12 => ?_) (fun c_12 => ?_)
      · skip
        refine lv_iload_n hx hb dX5_round_54 rfl (lv_at hl 1 rfl) ?_
        have q_0 : n1 = fb_ct (sp_rok K F G C) N := by rw [i3, show j = N by omega]
        have q_1 : C1 = sp_rC K F G C N := by rw [i2, show j = N by omega]
        exact hRET _ ls H locs ((nI n1)) (n1, C1) dX5_round_55 ⟨rfl, q_0, q_1⟩ hP hD hS
      · skip
        refine lv_aload_n hx hb dX5_round_15 rfl (lv_at hl 0 rfl) ?_
        refine z_get (D := (dC, dI)) (ci := 5) (v := .ref h0) (C := RX5) (T := TX5) (N := 5) hx hb hts uX5 hown hK hP 0 rfl rfl 0 (by decide) w10 rfl rfl dX5_round_16 ?_
        refine lv_iload_n hx hb dX5_round_19 rfl (lv_at hl 2 rfl) ?_
        refine z_callVi (As := [.int (nI j)]) (rest := []) (wr := [(g0, .inr (5, [.ref h0, .ref p0, .ref k0, .ref u0, .ref r0]))]) ⟨hx, hb, hml, hown, hts⟩ (c_X0_isReady l dC dI cI cJ H.size h0 a1 a2 a3 a4 N K T F G C1 j (by first | assumption | omega) (by exact bC1) (by first | assumption | omega) (by first | assumption | omega)) (cwV 1 hts gX5_round_X0_isReady rfl rfl rfl (by decide +kernel) ⟨Nat.le_of_ble_eq_true rfl, Nat.le_of_ble_eq_true rfl⟩) hA hK hP hD hS [1, 2, 3, 4, 5] [0] [0, 1, 2, 3, 4, 5] rfl rfl (by decide) (by decide) (by decide) nwA_ok hN (ci := 0) rfl rfl 1 rfl hl.1 (Nat.le_of_ble_eq_true rfl) ⟨Nat.le_refl _, Nat.le_refl _⟩ rfl rfl dX5_round_20 (fun (u : (Nat)) => [(g0, .inr (5, [.ref h0, .ref p0, .ref k0, .ref u0, .ref r0])), (h0, .inr (0, [.ref a1, .ref a2, .ref a3, .ref a4, .int (nI N), .int (nI K)])), (a1, .inl (cI, 8, .inl (fun z_ => nI (T z_)))), (a2, .inl (cI, 16, .inl (fun z_ => nI (F z_)))), (a3, .inl (cI, 16, .inl (fun z_ => nI (G z_)))), (a4, .inl (cI, 16, .inl (fun z_ => nI (C1 z_))))]) (fun u => rfl) (by decide) (fun r_20 u H locs hw hP hD hS => ?_)
        obtain ⟨rv_20, eu⟩ : ∃ z, z = u := ⟨_, rfl⟩
        subst eu
        have hP : va_P (dC, dI) vwCl [(g0, .inr (5, [.ref h0, .ref p0, .ref k0, .ref u0, .ref r0])), (h0, .inr (0, [.ref a1, .ref a2, .ref a3, .ref a4, .int (nI N), .int (nI K)])), (a1, .inl (cI, 8, .inl (fun z_ => nI (T z_)))), (a2, .inl (cI, 16, .inl (fun z_ => nI (F z_)))), (a3, .inl (cI, 16, .inl (fun z_ => nI (G z_)))), (a4, .inl (cI, 16, .inl (fun z_ => nI (C1 z_))))] H := hP
        have hD : va_D A [(g0, .inr (5, [.ref h0, .ref p0, .ref k0, .ref u0, .ref r0])), (h0, .inr (0, [.ref a1, .ref a2, .ref a3, .ref a4, .int (nI N), .int (nI K)])), (a1, .inl (cI, 8, .inl (fun z_ => nI (T z_)))), (a2, .inl (cI, 16, .inl (fun z_ => nI (F z_)))), (a3, .inl (cI, 16, .inl (fun z_ => nI (G z_)))), (a4, .inl (cI, 16, .inl (fun z_ => nI (C1 z_))))] := hD
        obtain ⟨er, p20_0⟩ := hw
        have p20_0 : (rv_20 = 1 ∧ sp_rdy K G C1 j = true) ∨ (rv_20 = 0 ∧ sp_rdy K G C1 j = false) := p20_0
        have er : r_20 = (nI rv_20) := er
        subst er
        rcases p20_0 with ⟨h20, c_20⟩ | ⟨h20, c_20⟩
        · skip
          subst h20
          refine lv_if_eq (tgt := 48) hx hb dX5_round_23 (by decide) (fun c_x => absurd c_x (by decide)) (fun _ => ?_)
          refine lv_aload_n hx hb dX5_round_26 rfl (lv_at hl 0 rfl) ?_
          refine z_get (D := (dC, dI)) (ci := 5) (v := .ref h0) (C := RX5) (T := TX5) (N := 5) hx hb hts uX5 hown hK hP 0 rfl rfl 0 (by decide) w10 rfl rfl dX5_round_27 ?_
          refine lv_iload_n hx hb dX5_round_30 rfl (lv_at hl 2 rfl) ?_
          refine z_callVi (As := [.int (nI j)]) (rest := []) (wr := [(g0, .inr (5, [.ref h0, .ref p0, .ref k0, .ref u0, .ref r0]))]) ⟨hx, hb, hml, hown, hts⟩ (c_X0_hasRoom l dC dI cI cJ H.size h0 a1 a2 a3 a4 N K T F G C1 j (by first | assumption | omega) (by exact bC1) (by first | assumption | omega) (by first | assumption | omega) (by first | assumption | omega)) (cwV 1 hts gX5_round_X0_hasRoom rfl rfl rfl (by decide +kernel) ⟨Nat.le_of_ble_eq_true rfl, Nat.le_of_ble_eq_true rfl⟩) hA hK hP hD hS [1, 2, 3, 4, 5] [0] [0, 1, 2, 3, 4, 5] rfl rfl (by decide) (by decide) (by decide) nwA_ok hN (ci := 0) rfl rfl 1 rfl hl.1 (Nat.le_of_ble_eq_true rfl) ⟨Nat.le_refl _, Nat.le_refl _⟩ rfl rfl dX5_round_31 (fun (u : (Nat)) => [(g0, .inr (5, [.ref h0, .ref p0, .ref k0, .ref u0, .ref r0])), (h0, .inr (0, [.ref a1, .ref a2, .ref a3, .ref a4, .int (nI N), .int (nI K)])), (a1, .inl (cI, 8, .inl (fun z_ => nI (T z_)))), (a2, .inl (cI, 16, .inl (fun z_ => nI (F z_)))), (a3, .inl (cI, 16, .inl (fun z_ => nI (G z_)))), (a4, .inl (cI, 16, .inl (fun z_ => nI (C1 z_))))]) (fun u => rfl) (by decide) (fun r_31 u H locs hw hP hD hS => ?_)
          obtain ⟨rv_31, eu⟩ : ∃ z, z = u := ⟨_, rfl⟩
          subst eu
          have hP : va_P (dC, dI) vwCl [(g0, .inr (5, [.ref h0, .ref p0, .ref k0, .ref u0, .ref r0])), (h0, .inr (0, [.ref a1, .ref a2, .ref a3, .ref a4, .int (nI N), .int (nI K)])), (a1, .inl (cI, 8, .inl (fun z_ => nI (T z_)))), (a2, .inl (cI, 16, .inl (fun z_ => nI (F z_)))), (a3, .inl (cI, 16, .inl (fun z_ => nI (G z_)))), (a4, .inl (cI, 16, .inl (fun z_ => nI (C1 z_))))] H := hP
          have hD : va_D A [(g0, .inr (5, [.ref h0, .ref p0, .ref k0, .ref u0, .ref r0])), (h0, .inr (0, [.ref a1, .ref a2, .ref a3, .ref a4, .int (nI N), .int (nI K)])), (a1, .inl (cI, 8, .inl (fun z_ => nI (T z_)))), (a2, .inl (cI, 16, .inl (fun z_ => nI (F z_)))), (a3, .inl (cI, 16, .inl (fun z_ => nI (G z_)))), (a4, .inl (cI, 16, .inl (fun z_ => nI (C1 z_))))] := hD
          obtain ⟨er, p31_0⟩ := hw
          have p31_0 : (rv_31 = 1 ∧ sp_room K F G C1 j = true) ∨ (rv_31 = 0 ∧ sp_room K F G C1 j = false) := p31_0
          have er : r_31 = (nI rv_31) := er
          subst er
          rcases p31_0 with ⟨h31, c_31⟩ | ⟨h31, c_31⟩
          · skip
            subst h31
            have es := sp_rC_y (by rw [← i2]; exact c_20) (by rw [← i2]; exact c_31)
            refine lv_if_eq (tgt := 48) hx hb dX5_round_34 (by decide) (fun c_x => absurd c_x (by decide)) (fun _ => ?_)
            refine lv_aload_n hx hb dX5_round_37 rfl (lv_at hl 0 rfl) ?_
            refine z_get (D := (dC, dI)) (ci := 5) (v := .ref h0) (C := RX5) (T := TX5) (N := 5) hx hb hts uX5 hown hK hP 0 rfl rfl 0 (by decide) w10 rfl rfl dX5_round_38 ?_
            refine lv_iload_n hx hb dX5_round_41 rfl (lv_at hl 2 rfl) ?_
            refine z_callVv (As := [.int (nI j)]) (rest := []) (wr := [(g0, .inr (5, [.ref h0, .ref p0, .ref k0, .ref u0, .ref r0]))]) ⟨hx, hb, hml, hown, hts⟩ (c_X0_moveCards l dC dI cI cJ H.size h0 a1 a2 a3 a4 N K T F G C1 j (by first | assumption | omega) (by exact bC1) (by first | assumption | omega) (by first | assumption | omega) (by first | assumption | omega) (by first | assumption | omega)) (cwV 1 hts gX5_round_X0_moveCards rfl rfl rfl (by decide +kernel) ⟨Nat.le_of_ble_eq_true rfl, Nat.le_of_ble_eq_true rfl⟩) hA hK hP hD hS [1, 2, 3, 4, 5] [0] [0, 1, 2, 3, 4, 5] rfl rfl (by decide) (by decide) (by decide) nwA_ok hN (ci := 0) rfl rfl 1 rfl hl.1 (Nat.le_of_ble_eq_true rfl) ⟨Nat.le_refl _, Nat.le_refl _⟩ rfl rfl dX5_round_42 (fun (u : (Nat → Nat)) => [(g0, .inr (5, [.ref h0, .ref p0, .ref k0, .ref u0, .ref r0])), (h0, .inr (0, [.ref a1, .ref a2, .ref a3, .ref a4, .int (nI N), .int (nI K)])), (a1, .inl (cI, 8, .inl (fun z_ => nI (T z_)))), (a2, .inl (cI, 16, .inl (fun z_ => nI (F z_)))), (a3, .inl (cI, 16, .inl (fun z_ => nI (G z_)))), (a4, .inl (cI, 16, .inl (fun z_ => nI (u z_))))]) (fun u => rfl) (by decide) (fun u H locs hw hP hD hS => ?_)
            obtain ⟨C2_42, eu⟩ : ∃ z, z = u := ⟨_, rfl⟩
            subst eu
            have hP : va_P (dC, dI) vwCl [(g0, .inr (5, [.ref h0, .ref p0, .ref k0, .ref u0, .ref r0])), (h0, .inr (0, [.ref a1, .ref a2, .ref a3, .ref a4, .int (nI N), .int (nI K)])), (a1, .inl (cI, 8, .inl (fun z_ => nI (T z_)))), (a2, .inl (cI, 16, .inl (fun z_ => nI (F z_)))), (a3, .inl (cI, 16, .inl (fun z_ => nI (G z_)))), (a4, .inl (cI, 16, .inl (fun z_ => nI (C2_42 z_))))] H := hP
            have hD : va_D A [(g0, .inr (5, [.ref h0, .ref p0, .ref k0, .ref u0, .ref r0])), (h0, .inr (0, [.ref a1, .ref a2, .ref a3, .ref a4, .int (nI N), .int (nI K)])), (a1, .inl (cI, 8, .inl (fun z_ => nI (T z_)))), (a2, .inl (cI, 16, .inl (fun z_ => nI (F z_)))), (a3, .inl (cI, 16, .inl (fun z_ => nI (G z_)))), (a4, .inl (cI, 16, .inl (fun z_ => nI (C2_42 z_))))] := hD
            have p42_0 := hw
            have p42_0 : C2_42 = sp_mv K F G C1 j := p42_0
            refine lv_iinc (v := (nI (n1 + 1))) (lv' := [(1, .int (nI (n1 + 1))), (0, .ref g0), (2, .int (nI j))]) hx hb dX5_round_45 hl (k := 1) rfl (z_incN n1 1 (by decide)) (by decide) rfl (fun ls hl => ?_)
            refine lv_iinc (v := (nI (j + 1))) (lv' := [(2, .int (nI (j + 1))), (1, .int (nI (n1 + 1))), (0, .ref g0)]) hx hb dX5_round_48 hl (k := 2) rfl (z_incN j 1 (by decide)) (by decide) rfl (fun ls hl => ?_)
            refine lv_goto (tgt := 4) hx hb dX5_round_51 (by decide) ?_
            have o_i1 : (j + 1) ≤ N := by first | assumption | omega
            have o_i2 : C2_42 = sp_rC K F G C (j + 1) := by rw [es.1]; (first | exact i2 | (rw [p42_0, i2]))
            have o_i3 : (n1 + 1) = fb_ct (sp_rok K F G C) (j + 1) := by rw [fb_ct_succ, es.2, ← i3]; rfl
            have o_i4 : (n1 + 1) ≤ (j + 1) := by first | assumption | omega
            have o_mu : (N - (j + 1)) < n4 := by omega
            exact ih4 (j + 1) (n1 + 1) C2_42 o_mu o_i1 o_i2 o_i3 o_i4 H locs hP hD hS ls (lv_sub hl [2, 1, 0] rfl)
          · skip
            subst h31
            have es := sp_rC_n (Or.inr (by rw [← i2]; exact c_31))
            refine lv_if_eq (tgt := 48) hx hb dX5_round_34 (by decide) (fun _ => ?_) (fun c_x => absurd c_x (by decide))
            refine lv_iinc (v := (nI (j + 1))) (lv' := [(2, .int (nI (j + 1))), (0, .ref g0), (1, .int (nI n1))]) hx hb dX5_round_48 hl (k := 2) rfl (z_incN j 1 (by decide)) (by decide) rfl (fun ls hl => ?_)
            refine lv_goto (tgt := 4) hx hb dX5_round_51 (by decide) ?_
            have o_i1 : (j + 1) ≤ N := by first | assumption | omega
            have o_i2 : C1 = sp_rC K F G C (j + 1) := by rw [es.1]; (first | exact i2 | (rw [p42_0, i2]))
            have o_i3 : n1 = fb_ct (sp_rok K F G C) (j + 1) := by rw [fb_ct_succ, es.2, ← i3]; rfl
            have o_i4 : n1 ≤ (j + 1) := by first | assumption | omega
            have o_mu : (N - (j + 1)) < n4 := by omega
            exact ih4 (j + 1) n1 C1 o_mu o_i1 o_i2 o_i3 o_i4 H locs hP hD hS ls (lv_sub hl [1, 2, 0] rfl)
        · skip
          subst h20
          have es := sp_rC_n (F := F) (Or.inl (by rw [← i2]; exact c_20))
          refine lv_if_eq (tgt := 48) hx hb dX5_round_23 (by decide) (fun _ => ?_) (fun c_x => absurd c_x (by decide))
          refine lv_iinc (v := (nI (j + 1))) (lv' := [(2, .int (nI (j + 1))), (0, .ref g0), (1, .int (nI n1))]) hx hb dX5_round_48 hl (k := 2) rfl (z_incN j 1 (by decide)) (by decide) rfl (fun ls hl => ?_)
          refine lv_goto (tgt := 4) hx hb dX5_round_51 (by decide) ?_
          have o_i1 : (j + 1) ≤ N := by first | assumption | omega
          have o_i2 : C1 = sp_rC K F G C (j + 1) := by rw [es.1]; (first | exact i2 | (rw [p42_0, i2]))
          have o_i3 : n1 = fb_ct (sp_rok K F G C) (j + 1) := by rw [fb_ct_succ, es.2, ← i3]; rfl
          have o_i4 : n1 ≤ (j + 1) := by first | assumption | omega
          have o_mu : (N - (j + 1)) < n4 := by omega
          exact ih4 (j + 1) n1 C1 o_mu o_i1 o_i2 o_i3 o_i4 H locs hP hD hS ls (lv_sub hl [1, 2, 0] rfl)
  have o_i1 : 0 ≤ N := by first | assumption | omega
  have o_i2 : C = sp_rC K F G C 0 := by rfl
  have o_i3 : 0 = fb_ct (sp_rok K F G C) 0 := by rfl
  have o_i4 : 0 ≤ 0 := by first | assumption | omega
  exact L4 ((N - 0) + 1) 0 0 C (Nat.lt_succ_self _) o_i1 o_i2 o_i3 o_i4 H locs hP hD hS ls (lv_sub hl [2, 1, 0] rfl)

set_option maxHeartbeats 4000000 in
set_option maxRecDepth 100000 in
theorem c_X5_loops (l : Launch) (dC : Nat → ClassId) (dI : Nat → Nat → Nat) (cI cJ : ClassId) (sz : Nat) (g0 : Nat) (h0 : Nat) (p0 : Nat) (k0 : Nat) (u0 : Nat) (r0 : Nat) (p1 : Nat) (p2 : Nat) (p3 : Nat) (p4 : Nat) (RW : Nat → Nat) (LE : Nat → Nat) (PA : Nat → Nat) (NC : Nat → Nat) (mn : Nat) (ns : Nat) (LS : List (List Nat)) (hh : sp_hold LS mn RW LE) : Met l yX5_loops wsX5_loops (zR 0 0 0 0) (va_Pc [.ref g0] (zP (dC, dI) [(cI, .int), (cJ, .long)] [(g0, .inr (5, [.ref h0, .ref p0, .ref k0, .ref u0, .ref r0])), (p0, .inr (1, [.ref h0, .ref p1, .ref p2, .ref p3, .int (nI mn), .ref p4, .int (nI ns)])), (p1, .inl (cI, 5088, .inl (fun z_ => nI (RW z_)))), (p2, .inl (cI, 636, .inl (fun z_ => nI (LE z_)))), (p3, .inl (cI, 8, .inl (fun z_ => nI (PA z_)))), (p4, .inl (cI, 16, .inl (fun z_ => nI (NC z_))))] sz nwA)) (va_Qi (fun (r : Int32) (u : Unit) => r = (nI mn) ∧ (mn = LS.length)) (zB (dC, dI) (fun (u : Unit) => [(g0, .inr (5, [.ref h0, .ref p0, .ref k0, .ref u0, .ref r0])), (p0, .inr (1, [.ref h0, .ref p1, .ref p2, .ref p3, .int (nI mn), .ref p4, .int (nI ns)])), (p1, .inl (cI, 5088, .inl (fun z_ => nI (RW z_)))), (p2, .inl (cI, 636, .inl (fun z_ => nI (LE z_)))), (p3, .inl (cI, 8, .inl (fun z_ => nI (PA z_)))), (p4, .inl (cI, 16, .inl (fun z_ => nI (NC z_))))]) (va_A [(g0, .inr (5, [.ref h0, .ref p0, .ref k0, .ref u0, .ref r0])), (p0, .inr (1, [.ref h0, .ref p1, .ref p2, .ref p3, .int (nI mn), .ref p4, .int (nI ns)])), (p1, .inl (cI, 5088, .inl (fun z_ => nI (RW z_)))), (p2, .inl (cI, 636, .inl (fun z_ => nI (LE z_)))), (p3, .inl (cI, 8, .inl (fun z_ => nI (PA z_)))), (p4, .inl (cI, 16, .inl (fun z_ => nI (NC z_))))] sz)) (va_A [(g0, .inr (5, [.ref h0, .ref p0, .ref k0, .ref u0, .ref r0])), (p0, .inr (1, [.ref h0, .ref p1, .ref p2, .ref p3, .int (nI mn), .ref p4, .int (nI ns)])), (p1, .inl (cI, 5088, .inl (fun z_ => nI (RW z_)))), (p2, .inl (cI, 636, .inl (fun z_ => nI (LE z_)))), (p3, .inl (cI, 8, .inl (fun z_ => nI (PA z_)))), (p4, .inl (cI, 16, .inl (fun z_ => nI (NC z_))))] sz)) 0 0 (va_A [(g0, .inr (5, [.ref h0, .ref p0, .ref k0, .ref u0, .ref r0])), (p0, .inr (1, [.ref h0, .ref p1, .ref p2, .ref p3, .int (nI mn), .ref p4, .int (nI ns)])), (p1, .inl (cI, 5088, .inl (fun z_ => nI (RW z_)))), (p2, .inl (cI, 636, .inl (fun z_ => nI (LE z_)))), (p3, .inl (cI, 8, .inl (fun z_ => nI (PA z_)))), (p4, .inl (cI, 16, .inl (fun z_ => nI (NC z_))))] sz) := by
  refine z_met_i (cc := cX5_loops) (maxL := 1) (by decide) rfl (Nat.le_of_ble_eq_true rfl) ?_
  intro p e s m args below meth c Q A ls hx hb hml hown hts hin hA hK hP hD hN hl hRET
  have hown : s.vm.findClass RX5 = some m.cls := hown
  obtain ⟨H, eH⟩ : ∃ H : Heap, H = s.heap := ⟨_, rfl⟩
  rw [← eH] at hP
  obtain ⟨locs, eL⟩ : ∃ z : List Loc, z = [] := ⟨_, rfl⟩
  rw [← eH, ← eL]
  have hS : va_S A s.heap H locs := by rw [eH, eL]; exact va_S.rf
  have hl : lv_has ls 1 [(0, .ref g0)] := hl
  have w21 := hts (.fieldLink RX5 21 "PullCards" "loops" "LPullCards$Loops;") (by decide +kernel)
  have uX5 : ∀ w ∈ wsX50, w ∈ wsX5_loops := by decide +kernel
  have w105 := hts (.fieldLink RX5 105 "PullCards$Loops" "many" "I") (by decide +kernel)
  have uX1 : ∀ w ∈ wsX10, w ∈ wsX5_loops := by decide +kernel
  refine lv_aload_n hx hb dX5_loops_0 rfl (lv_at hl 0 rfl) ?_
  refine z_get (D := (dC, dI)) (ci := 5) (v := .ref p0) (C := RX5) (T := TX5) (N := 5) hx hb hts uX5 hown hK hP 0 rfl rfl 1 (by decide) w21 rfl rfl dX5_loops_1 ?_
  refine z_get (D := (dC, dI)) (ci := 1) (v := .int (nI mn)) (C := RX1) (T := TX1) (N := 7) hx hb hts uX1 hown hK hP 1 rfl rfl 4 (by decide) w105 rfl rfl dX5_loops_4 ?_
  have q_0 : mn = LS.length := by exact hh.1
  exact hRET _ ls H locs ((nI mn)) () dX5_loops_7 ⟨rfl, q_0⟩ hP hD hS

set_option maxHeartbeats 4000000 in
set_option maxRecDepth 100000 in
theorem c_X5_loop (l : Launch) (dC : Nat → ClassId) (dI : Nat → Nat → Nat) (cI cJ : ClassId) (sz : Nat) (g0 : Nat) (h0 : Nat) (p0 : Nat) (k0 : Nat) (u0 : Nat) (r0 : Nat) (p1 : Nat) (p2 : Nat) (p3 : Nat) (p4 : Nat) (RW : Nat → Nat) (LE : Nat → Nat) (PA : Nat → Nat) (NC : Nat → Nat) (mn : Nat) (ns : Nat) (LS : List (List Nat)) (z : Int) (i : Int) (bmn : mn ≤ 636) (hh : sp_hold LS mn RW LE) (bRW : ∀ i, RW i < 16) (bLE : ∀ i, LE i ≤ 8) (bz : -2147483648 ≤ z ∧ z < 2147483648) (bi : -2147483648 ≤ i ∧ i < 2147483648) : Met l yX5_loop wsX5_loop (zR 2 0 0 44) (va_Pc [.ref g0, .int (iI z), .int (iI i)] (zP (dC, dI) [(cI, .int), (cJ, .long)] [(g0, .inr (5, [.ref h0, .ref p0, .ref k0, .ref u0, .ref r0])), (p0, .inr (1, [.ref h0, .ref p1, .ref p2, .ref p3, .int (nI mn), .ref p4, .int (nI ns)])), (p1, .inl (cI, 5088, .inl (fun z_ => nI (RW z_)))), (p2, .inl (cI, 636, .inl (fun z_ => nI (LE z_)))), (p3, .inl (cI, 8, .inl (fun z_ => nI (PA z_)))), (p4, .inl (cI, 16, .inl (fun z_ => nI (NC z_))))] sz nwA)) (va_Qi (fun (r : Int32) (u : (Int)) => r = (iI u) ∧ (u = if 0 ≤ z ∧ z < (LS.length : Int) then (if 0 ≤ i ∧ i < ((LS.getD z.toNat []).length : Int) then ((LS.getD z.toNat []).getD i.toNat 0 : Int) else -9) else -1)) (zB (dC, dI) (fun (u : (Int)) => [(g0, .inr (5, [.ref h0, .ref p0, .ref k0, .ref u0, .ref r0])), (p0, .inr (1, [.ref h0, .ref p1, .ref p2, .ref p3, .int (nI mn), .ref p4, .int (nI ns)])), (p1, .inl (cI, 5088, .inl (fun z_ => nI (RW z_)))), (p2, .inl (cI, 636, .inl (fun z_ => nI (LE z_)))), (p3, .inl (cI, 8, .inl (fun z_ => nI (PA z_)))), (p4, .inl (cI, 16, .inl (fun z_ => nI (NC z_))))]) (va_A [(g0, .inr (5, [.ref h0, .ref p0, .ref k0, .ref u0, .ref r0])), (p0, .inr (1, [.ref h0, .ref p1, .ref p2, .ref p3, .int (nI mn), .ref p4, .int (nI ns)])), (p1, .inl (cI, 5088, .inl (fun z_ => nI (RW z_)))), (p2, .inl (cI, 636, .inl (fun z_ => nI (LE z_)))), (p3, .inl (cI, 8, .inl (fun z_ => nI (PA z_)))), (p4, .inl (cI, 16, .inl (fun z_ => nI (NC z_))))] sz)) (va_A [(g0, .inr (5, [.ref h0, .ref p0, .ref k0, .ref u0, .ref r0])), (p0, .inr (1, [.ref h0, .ref p1, .ref p2, .ref p3, .int (nI mn), .ref p4, .int (nI ns)])), (p1, .inl (cI, 5088, .inl (fun z_ => nI (RW z_)))), (p2, .inl (cI, 636, .inl (fun z_ => nI (LE z_)))), (p3, .inl (cI, 8, .inl (fun z_ => nI (PA z_)))), (p4, .inl (cI, 16, .inl (fun z_ => nI (NC z_))))] sz)) 0 0 (va_A [(g0, .inr (5, [.ref h0, .ref p0, .ref k0, .ref u0, .ref r0])), (p0, .inr (1, [.ref h0, .ref p1, .ref p2, .ref p3, .int (nI mn), .ref p4, .int (nI ns)])), (p1, .inl (cI, 5088, .inl (fun z_ => nI (RW z_)))), (p2, .inl (cI, 636, .inl (fun z_ => nI (LE z_)))), (p3, .inl (cI, 8, .inl (fun z_ => nI (PA z_)))), (p4, .inl (cI, 16, .inl (fun z_ => nI (NC z_))))] sz) := by
  refine z_met_i (cc := cX5_loop) (maxL := 3) (by decide) rfl (Nat.le_of_ble_eq_true rfl) ?_
  intro p e s m args below meth c Q A ls hx hb hml hown hts hin hA hK hP hD hN hl hRET
  have hown : s.vm.findClass RX5 = some m.cls := hown
  obtain ⟨H, eH⟩ : ∃ H : Heap, H = s.heap := ⟨_, rfl⟩
  rw [← eH] at hP
  obtain ⟨locs, eL⟩ : ∃ z : List Loc, z = [] := ⟨_, rfl⟩
  rw [← eH, ← eL]
  have hS : va_S A s.heap H locs := by rw [eH, eL]; exact va_S.rf
  have hl : lv_has ls 3 [(0, .ref g0), (1, .int (iI z)), (2, .int (iI i))] := hl
  have w21 := hts (.fieldLink RX5 21 "PullCards" "loops" "LPullCards$Loops;") (by decide +kernel)
  have uX5 : ∀ w ∈ wsX50, w ∈ wsX5_loop := by decide +kernel
  have hlen := hh.1
  refine lv_aload_n hx hb dX5_loop_0 rfl (lv_at hl 0 rfl) ?_
  refine z_get (D := (dC, dI)) (ci := 5) (v := .ref p0) (C := RX5) (T := TX5) (N := 5) hx hb hts uX5 hown hK hP 0 rfl rfl 1 (by decide) w21 rfl rfl dX5_loop_1 ?_
  refine lv_iload_n hx hb dX5_loop_4 rfl (lv_at hl 1 rfl) ?_
  refine z_callVi (As := [.int (iI z)]) (rest := []) (wr := [(g0, .inr (5, [.ref h0, .ref p0, .ref k0, .ref u0, .ref r0])), (p1, .inl (cI, 5088, .inl (fun z_ => nI (RW z_)))), (p2, .inl (cI, 636, .inl (fun z_ => nI (LE z_)))), (p3, .inl (cI, 8, .inl (fun z_ => nI (PA z_)))), (p4, .inl (cI, 16, .inl (fun z_ => nI (NC z_))))]) ⟨hx, hb, hml, hown, hts⟩ (c_X1_has l dC dI cI cJ H.size p0 p1 p2 p3 p4 h0 mn ns z (by first | assumption | omega) (by first | assumption | omega)) (cwV 1 hts gX5_loop_X1_has rfl rfl rfl (by decide +kernel) ⟨Nat.le_of_ble_eq_true rfl, Nat.le_of_ble_eq_true rfl⟩) hA hK hP hD hS [1] [0, 2, 3, 4, 5] [0, 5, 1, 2, 3, 4] rfl rfl (by decide) (by decide) (by decide) nwA_ok hN (ci := 1) rfl rfl 1 rfl hl.1 (Nat.le_of_ble_eq_true rfl) ⟨Nat.le_refl _, Nat.le_refl _⟩ rfl rfl dX5_loop_5 (fun (u : (Nat)) => [(g0, .inr (5, [.ref h0, .ref p0, .ref k0, .ref u0, .ref r0])), (p0, .inr (1, [.ref h0, .ref p1, .ref p2, .ref p3, .int (nI mn), .ref p4, .int (nI ns)])), (p1, .inl (cI, 5088, .inl (fun z_ => nI (RW z_)))), (p2, .inl (cI, 636, .inl (fun z_ => nI (LE z_)))), (p3, .inl (cI, 8, .inl (fun z_ => nI (PA z_)))), (p4, .inl (cI, 16, .inl (fun z_ => nI (NC z_))))]) (fun u => rfl) (by decide) (fun r_5 u H locs hw hP hD hS => ?_)
  obtain ⟨rv_5, eu⟩ : ∃ z, z = u := ⟨_, rfl⟩
  subst eu
  have hP : va_P (dC, dI) vwCl [(g0, .inr (5, [.ref h0, .ref p0, .ref k0, .ref u0, .ref r0])), (p0, .inr (1, [.ref h0, .ref p1, .ref p2, .ref p3, .int (nI mn), .ref p4, .int (nI ns)])), (p1, .inl (cI, 5088, .inl (fun z_ => nI (RW z_)))), (p2, .inl (cI, 636, .inl (fun z_ => nI (LE z_)))), (p3, .inl (cI, 8, .inl (fun z_ => nI (PA z_)))), (p4, .inl (cI, 16, .inl (fun z_ => nI (NC z_))))] H := hP
  have hD : va_D A [(g0, .inr (5, [.ref h0, .ref p0, .ref k0, .ref u0, .ref r0])), (p0, .inr (1, [.ref h0, .ref p1, .ref p2, .ref p3, .int (nI mn), .ref p4, .int (nI ns)])), (p1, .inl (cI, 5088, .inl (fun z_ => nI (RW z_)))), (p2, .inl (cI, 636, .inl (fun z_ => nI (LE z_)))), (p3, .inl (cI, 8, .inl (fun z_ => nI (PA z_)))), (p4, .inl (cI, 16, .inl (fun z_ => nI (NC z_))))] := hD
  obtain ⟨er, p5_0⟩ := hw
  have p5_0 : (rv_5 = 1 ∧ (0 ≤ z ∧ z < (mn : Int))) ∨ (rv_5 = 0 ∧ ¬ (0 ≤ z ∧ z < (mn : Int))) := p5_0
  have er : r_5 = (nI rv_5) := er
  subst er
  rcases p5_0 with ⟨h5, c_5⟩ | ⟨h5, c_5⟩
  · skip
    subst h5
    refine lv_if_ne (tgt := 13) hx hb dX5_loop_8 (by decide) (fun _ => ?_) (fun c_x => absurd c_x (by decide))
    refine lv_aload_n hx hb dX5_loop_13 rfl (lv_at hl 0 rfl) ?_
    refine z_get (D := (dC, dI)) (ci := 5) (v := .ref p0) (C := RX5) (T := TX5) (N := 5) hx hb hts uX5 hown hK hP 0 rfl rfl 1 (by decide) w21 rfl rfl dX5_loop_14 ?_
    refine lv_iload_n hx hb dX5_loop_17 rfl (lv_at hl 1 rfl) ?_
    refine lv_iload_n hx hb dX5_loop_18 rfl (lv_at hl 2 rfl) ?_
    refine z_c1 (v := nI z.toNat) (z_ZtoN (by first | assumption | omega)) ?_
    refine z_callVi (As := [.int (nI z.toNat), .int (iI i)]) (rest := []) (wr := [(g0, .inr (5, [.ref h0, .ref p0, .ref k0, .ref u0, .ref r0]))]) ⟨hx, hb, hml, hown, hts⟩ (c_X1_arcOf l dC dI cI cJ H.size p0 p1 p2 p3 p4 h0 RW LE PA NC mn ns z.toNat i (by first | assumption | omega) (by first | assumption | omega) (by first | assumption | omega) (by first | assumption | omega) (by first | assumption | omega)) (cwV 2 hts gX5_loop_X1_arcOf rfl rfl rfl (by decide +kernel) ⟨Nat.le_of_ble_eq_true rfl, Nat.le_of_ble_eq_true rfl⟩) hA hK hP hD hS [1, 2, 3, 4, 5] [0] [0, 1, 2, 3, 4, 5] rfl rfl (by decide) (by decide) (by decide) nwA_ok hN (ci := 1) rfl rfl 1 rfl hl.1 (Nat.le_of_ble_eq_true rfl) ⟨Nat.le_refl _, Nat.le_refl _⟩ rfl rfl dX5_loop_19 (fun (u : (Int)) => [(g0, .inr (5, [.ref h0, .ref p0, .ref k0, .ref u0, .ref r0])), (p0, .inr (1, [.ref h0, .ref p1, .ref p2, .ref p3, .int (nI mn), .ref p4, .int (nI ns)])), (p1, .inl (cI, 5088, .inl (fun z_ => nI (RW z_)))), (p2, .inl (cI, 636, .inl (fun z_ => nI (LE z_)))), (p3, .inl (cI, 8, .inl (fun z_ => nI (PA z_)))), (p4, .inl (cI, 16, .inl (fun z_ => nI (NC z_))))]) (fun u => rfl) (by decide) (fun r_19 u H locs hw hP hD hS => ?_)
    obtain ⟨rv_19, eu⟩ : ∃ z, z = u := ⟨_, rfl⟩
    subst eu
    have hP : va_P (dC, dI) vwCl [(g0, .inr (5, [.ref h0, .ref p0, .ref k0, .ref u0, .ref r0])), (p0, .inr (1, [.ref h0, .ref p1, .ref p2, .ref p3, .int (nI mn), .ref p4, .int (nI ns)])), (p1, .inl (cI, 5088, .inl (fun z_ => nI (RW z_)))), (p2, .inl (cI, 636, .inl (fun z_ => nI (LE z_)))), (p3, .inl (cI, 8, .inl (fun z_ => nI (PA z_)))), (p4, .inl (cI, 16, .inl (fun z_ => nI (NC z_))))] H := hP
    have hD : va_D A [(g0, .inr (5, [.ref h0, .ref p0, .ref k0, .ref u0, .ref r0])), (p0, .inr (1, [.ref h0, .ref p1, .ref p2, .ref p3, .int (nI mn), .ref p4, .int (nI ns)])), (p1, .inl (cI, 5088, .inl (fun z_ => nI (RW z_)))), (p2, .inl (cI, 636, .inl (fun z_ => nI (LE z_)))), (p3, .inl (cI, 8, .inl (fun z_ => nI (PA z_)))), (p4, .inl (cI, 16, .inl (fun z_ => nI (NC z_))))] := hD
    obtain ⟨er, p19_0⟩ := hw
    have p19_0 : rv_19 = if 0 ≤ i ∧ i < (LE z.toNat : Int) then (RW (z.toNat * 8 + i.toNat) : Int) else -9 := p19_0
    have er : r_19 = (iI rv_19) := er
    subst er
    have q_0 : rv_19 = if 0 ≤ z ∧ z < (LS.length : Int) then (if 0 ≤ i ∧ i < ((LS.getD z.toNat []).length : Int) then ((LS.getD z.toNat []).getD i.toNat 0 : Int) else -9) else -1 := by rw [if_pos (by omega), p19_0]; obtain ⟨e1, e2⟩ := hh.2 z.toNat (by omega); (by_cases q : 0 ≤ i ∧ i < (LE z.toNat : Int)); (rw [if_pos q, if_pos (by omega), e2 i.toNat (by omega)]); (rw [if_neg q, if_neg (by omega)])
    exact hRET _ ls H locs ((iI rv_19)) (rv_19) dX5_loop_22 ⟨rfl, q_0⟩ hP hD hS
  · skip
    subst h5
    refine lv_if_ne (tgt := 13) hx hb dX5_loop_8 (by decide) (fun c_x => absurd c_x (by decide)) (fun _ => ?_)
    refine lv_iconst (v := iI (-1)) hx hb dX5_loop_11 (by decide) ?_
    have q_0 : (-1 : Int) = if 0 ≤ z ∧ z < (LS.length : Int) then (if 0 ≤ i ∧ i < ((LS.getD z.toNat []).length : Int) then ((LS.getD z.toNat []).getD i.toNat 0 : Int) else -9) else -1 := by rw [if_neg (by omega)]
    exact hRET _ ls H locs ((iI (-1))) ((-1 : Int)) dX5_loop_12 ⟨rfl, q_0⟩ hP hD hS

set_option maxHeartbeats 4000000 in
set_option maxRecDepth 100000 in
theorem c_X5_sum (l : Launch) (dC : Nat → ClassId) (dI : Nat → Nat → Nat) (cI cJ : ClassId) (sz : Nat) (g0 : Nat) (h0 : Nat) (p0 : Nat) (k0 : Nat) (u0 : Nat) (r0 : Nat) (a1 : Nat) (a2 : Nat) (a3 : Nat) (a4 : Nat) (N : Nat) (K : Nat) (T : Nat → Nat) (F : Nat → Nat) (G : Nat → Nat) (C : Nat → Nat) (p1 : Nat) (p2 : Nat) (p3 : Nat) (p4 : Nat) (RW : Nat → Nat) (LE : Nat → Nat) (PA : Nat → Nat) (NC : Nat → Nat) (mn : Nat) (ns : Nat) (LS : List (List Nat)) (z : Int) (b : Nat) (bmn : mn ≤ 636) (hh : sp_hold LS mn RW LE) (bRW : ∀ i, RW i < 16) (bLE : ∀ i, LE i ≤ 8) (bF : ∀ a, F a < 8) (bT : ∀ i, T i ≤ 20) (bC : ∀ a, C a ≤ 9) (bz : -2147483648 ≤ z ∧ z < 2147483648) (bb : b ≤ 1) : Met l yX5_sum wsX5_sum (zR 2 0 0 43) (va_Pc [.ref g0, .int (iI z), .int (nI b)] (zP (dC, dI) [(cI, .int), (cJ, .long)] [(g0, .inr (5, [.ref h0, .ref p0, .ref k0, .ref u0, .ref r0])), (h0, .inr (0, [.ref a1, .ref a2, .ref a3, .ref a4, .int (nI N), .int (nI K)])), (a1, .inl (cI, 8, .inl (fun z_ => nI (T z_)))), (a2, .inl (cI, 16, .inl (fun z_ => nI (F z_)))), (a3, .inl (cI, 16, .inl (fun z_ => nI (G z_)))), (a4, .inl (cI, 16, .inl (fun z_ => nI (C z_)))), (p0, .inr (1, [.ref h0, .ref p1, .ref p2, .ref p3, .int (nI mn), .ref p4, .int (nI ns)])), (p1, .inl (cI, 5088, .inl (fun z_ => nI (RW z_)))), (p2, .inl (cI, 636, .inl (fun z_ => nI (LE z_)))), (p3, .inl (cI, 8, .inl (fun z_ => nI (PA z_)))), (p4, .inl (cI, 16, .inl (fun z_ => nI (NC z_))))] sz nwA)) (va_Qi (fun (r : Int32) (u : (Int)) => r = (iI u) ∧ (u = if 0 ≤ z ∧ z < (LS.length : Int) then (if b = 0 then (sp_tmL T F LS z.toNat : Int) else (sp_cdL C LS z.toNat : Int)) else -1)) (zB (dC, dI) (fun (u : (Int)) => [(g0, .inr (5, [.ref h0, .ref p0, .ref k0, .ref u0, .ref r0])), (h0, .inr (0, [.ref a1, .ref a2, .ref a3, .ref a4, .int (nI N), .int (nI K)])), (a1, .inl (cI, 8, .inl (fun z_ => nI (T z_)))), (a2, .inl (cI, 16, .inl (fun z_ => nI (F z_)))), (a3, .inl (cI, 16, .inl (fun z_ => nI (G z_)))), (a4, .inl (cI, 16, .inl (fun z_ => nI (C z_)))), (p0, .inr (1, [.ref h0, .ref p1, .ref p2, .ref p3, .int (nI mn), .ref p4, .int (nI ns)])), (p1, .inl (cI, 5088, .inl (fun z_ => nI (RW z_)))), (p2, .inl (cI, 636, .inl (fun z_ => nI (LE z_)))), (p3, .inl (cI, 8, .inl (fun z_ => nI (PA z_)))), (p4, .inl (cI, 16, .inl (fun z_ => nI (NC z_))))]) (va_A [(g0, .inr (5, [.ref h0, .ref p0, .ref k0, .ref u0, .ref r0])), (h0, .inr (0, [.ref a1, .ref a2, .ref a3, .ref a4, .int (nI N), .int (nI K)])), (a1, .inl (cI, 8, .inl (fun z_ => nI (T z_)))), (a2, .inl (cI, 16, .inl (fun z_ => nI (F z_)))), (a3, .inl (cI, 16, .inl (fun z_ => nI (G z_)))), (a4, .inl (cI, 16, .inl (fun z_ => nI (C z_)))), (p0, .inr (1, [.ref h0, .ref p1, .ref p2, .ref p3, .int (nI mn), .ref p4, .int (nI ns)])), (p1, .inl (cI, 5088, .inl (fun z_ => nI (RW z_)))), (p2, .inl (cI, 636, .inl (fun z_ => nI (LE z_)))), (p3, .inl (cI, 8, .inl (fun z_ => nI (PA z_)))), (p4, .inl (cI, 16, .inl (fun z_ => nI (NC z_))))] sz)) (va_A [(g0, .inr (5, [.ref h0, .ref p0, .ref k0, .ref u0, .ref r0])), (h0, .inr (0, [.ref a1, .ref a2, .ref a3, .ref a4, .int (nI N), .int (nI K)])), (a1, .inl (cI, 8, .inl (fun z_ => nI (T z_)))), (a2, .inl (cI, 16, .inl (fun z_ => nI (F z_)))), (a3, .inl (cI, 16, .inl (fun z_ => nI (G z_)))), (a4, .inl (cI, 16, .inl (fun z_ => nI (C z_)))), (p0, .inr (1, [.ref h0, .ref p1, .ref p2, .ref p3, .int (nI mn), .ref p4, .int (nI ns)])), (p1, .inl (cI, 5088, .inl (fun z_ => nI (RW z_)))), (p2, .inl (cI, 636, .inl (fun z_ => nI (LE z_)))), (p3, .inl (cI, 8, .inl (fun z_ => nI (PA z_)))), (p4, .inl (cI, 16, .inl (fun z_ => nI (NC z_))))] sz)) 0 0 (va_A [(g0, .inr (5, [.ref h0, .ref p0, .ref k0, .ref u0, .ref r0])), (h0, .inr (0, [.ref a1, .ref a2, .ref a3, .ref a4, .int (nI N), .int (nI K)])), (a1, .inl (cI, 8, .inl (fun z_ => nI (T z_)))), (a2, .inl (cI, 16, .inl (fun z_ => nI (F z_)))), (a3, .inl (cI, 16, .inl (fun z_ => nI (G z_)))), (a4, .inl (cI, 16, .inl (fun z_ => nI (C z_)))), (p0, .inr (1, [.ref h0, .ref p1, .ref p2, .ref p3, .int (nI mn), .ref p4, .int (nI ns)])), (p1, .inl (cI, 5088, .inl (fun z_ => nI (RW z_)))), (p2, .inl (cI, 636, .inl (fun z_ => nI (LE z_)))), (p3, .inl (cI, 8, .inl (fun z_ => nI (PA z_)))), (p4, .inl (cI, 16, .inl (fun z_ => nI (NC z_))))] sz) := by
  refine z_met_i (cc := cX5_sum) (maxL := 3) (by decide) rfl (Nat.le_of_ble_eq_true rfl) ?_
  intro p e s m args below meth c Q A ls hx hb hml hown hts hin hA hK hP hD hN hl hRET
  have hown : s.vm.findClass RX5 = some m.cls := hown
  obtain ⟨H, eH⟩ : ∃ H : Heap, H = s.heap := ⟨_, rfl⟩
  rw [← eH] at hP
  obtain ⟨locs, eL⟩ : ∃ z : List Loc, z = [] := ⟨_, rfl⟩
  rw [← eH, ← eL]
  have hS : va_S A s.heap H locs := by rw [eH, eL]; exact va_S.rf
  have hl : lv_has ls 3 [(0, .ref g0), (1, .int (iI z)), (2, .int (nI b))] := hl
  have w21 := hts (.fieldLink RX5 21 "PullCards" "loops" "LPullCards$Loops;") (by decide +kernel)
  have uX5 : ∀ w ∈ wsX50, w ∈ wsX5_sum := by decide +kernel
  have w10 := hts (.fieldLink RX5 10 "PullCards" "line" "LPullCards$Line;") (by decide +kernel)
  have w82 := hts (.fieldLink RX5 82 "PullCards$Line" "cards" "[I") (by decide +kernel)
  have uX0 : ∀ w ∈ wsX00, w ∈ wsX5_sum := by decide +kernel
  have hlen := hh.1
  refine lv_aload_n hx hb dX5_sum_0 rfl (lv_at hl 0 rfl) ?_
  refine z_get (D := (dC, dI)) (ci := 5) (v := .ref p0) (C := RX5) (T := TX5) (N := 5) hx hb hts uX5 hown hK hP 0 rfl rfl 1 (by decide) w21 rfl rfl dX5_sum_1 ?_
  refine lv_iload_n hx hb dX5_sum_4 rfl (lv_at hl 1 rfl) ?_
  refine z_callVi (As := [.int (iI z)]) (rest := []) (wr := [(g0, .inr (5, [.ref h0, .ref p0, .ref k0, .ref u0, .ref r0])), (h0, .inr (0, [.ref a1, .ref a2, .ref a3, .ref a4, .int (nI N), .int (nI K)])), (a1, .inl (cI, 8, .inl (fun z_ => nI (T z_)))), (a2, .inl (cI, 16, .inl (fun z_ => nI (F z_)))), (a3, .inl (cI, 16, .inl (fun z_ => nI (G z_)))), (a4, .inl (cI, 16, .inl (fun z_ => nI (C z_)))), (p1, .inl (cI, 5088, .inl (fun z_ => nI (RW z_)))), (p2, .inl (cI, 636, .inl (fun z_ => nI (LE z_)))), (p3, .inl (cI, 8, .inl (fun z_ => nI (PA z_)))), (p4, .inl (cI, 16, .inl (fun z_ => nI (NC z_))))]) ⟨hx, hb, hml, hown, hts⟩ (c_X1_has l dC dI cI cJ H.size p0 p1 p2 p3 p4 h0 mn ns z (by first | assumption | omega) (by first | assumption | omega)) (cwV 1 hts gX5_sum_X1_has rfl rfl rfl (by decide +kernel) ⟨Nat.le_of_ble_eq_true rfl, Nat.le_of_ble_eq_true rfl⟩) hA hK hP hD hS [6] [0, 1, 2, 3, 4, 5, 7, 8, 9, 10] [0, 1, 2, 3, 4, 5, 10, 6, 7, 8, 9] rfl rfl (by decide) (by decide) (by decide) nwA_ok hN (ci := 1) rfl rfl 6 rfl hl.1 (Nat.le_of_ble_eq_true rfl) ⟨Nat.le_refl _, Nat.le_refl _⟩ rfl rfl dX5_sum_5 (fun (u : (Nat)) => [(g0, .inr (5, [.ref h0, .ref p0, .ref k0, .ref u0, .ref r0])), (h0, .inr (0, [.ref a1, .ref a2, .ref a3, .ref a4, .int (nI N), .int (nI K)])), (a1, .inl (cI, 8, .inl (fun z_ => nI (T z_)))), (a2, .inl (cI, 16, .inl (fun z_ => nI (F z_)))), (a3, .inl (cI, 16, .inl (fun z_ => nI (G z_)))), (a4, .inl (cI, 16, .inl (fun z_ => nI (C z_)))), (p0, .inr (1, [.ref h0, .ref p1, .ref p2, .ref p3, .int (nI mn), .ref p4, .int (nI ns)])), (p1, .inl (cI, 5088, .inl (fun z_ => nI (RW z_)))), (p2, .inl (cI, 636, .inl (fun z_ => nI (LE z_)))), (p3, .inl (cI, 8, .inl (fun z_ => nI (PA z_)))), (p4, .inl (cI, 16, .inl (fun z_ => nI (NC z_))))]) (fun u => rfl) (by decide) (fun r_5 u H locs hw hP hD hS => ?_)
  obtain ⟨rv_5, eu⟩ : ∃ z, z = u := ⟨_, rfl⟩
  subst eu
  have hP : va_P (dC, dI) vwCl [(g0, .inr (5, [.ref h0, .ref p0, .ref k0, .ref u0, .ref r0])), (h0, .inr (0, [.ref a1, .ref a2, .ref a3, .ref a4, .int (nI N), .int (nI K)])), (a1, .inl (cI, 8, .inl (fun z_ => nI (T z_)))), (a2, .inl (cI, 16, .inl (fun z_ => nI (F z_)))), (a3, .inl (cI, 16, .inl (fun z_ => nI (G z_)))), (a4, .inl (cI, 16, .inl (fun z_ => nI (C z_)))), (p0, .inr (1, [.ref h0, .ref p1, .ref p2, .ref p3, .int (nI mn), .ref p4, .int (nI ns)])), (p1, .inl (cI, 5088, .inl (fun z_ => nI (RW z_)))), (p2, .inl (cI, 636, .inl (fun z_ => nI (LE z_)))), (p3, .inl (cI, 8, .inl (fun z_ => nI (PA z_)))), (p4, .inl (cI, 16, .inl (fun z_ => nI (NC z_))))] H := hP
  have hD : va_D A [(g0, .inr (5, [.ref h0, .ref p0, .ref k0, .ref u0, .ref r0])), (h0, .inr (0, [.ref a1, .ref a2, .ref a3, .ref a4, .int (nI N), .int (nI K)])), (a1, .inl (cI, 8, .inl (fun z_ => nI (T z_)))), (a2, .inl (cI, 16, .inl (fun z_ => nI (F z_)))), (a3, .inl (cI, 16, .inl (fun z_ => nI (G z_)))), (a4, .inl (cI, 16, .inl (fun z_ => nI (C z_)))), (p0, .inr (1, [.ref h0, .ref p1, .ref p2, .ref p3, .int (nI mn), .ref p4, .int (nI ns)])), (p1, .inl (cI, 5088, .inl (fun z_ => nI (RW z_)))), (p2, .inl (cI, 636, .inl (fun z_ => nI (LE z_)))), (p3, .inl (cI, 8, .inl (fun z_ => nI (PA z_)))), (p4, .inl (cI, 16, .inl (fun z_ => nI (NC z_))))] := hD
  obtain ⟨er, p5_0⟩ := hw
  have p5_0 : (rv_5 = 1 ∧ (0 ≤ z ∧ z < (mn : Int))) ∨ (rv_5 = 0 ∧ ¬ (0 ≤ z ∧ z < (mn : Int))) := p5_0
  have er : r_5 = (nI rv_5) := er
  subst er
  rcases p5_0 with ⟨h5, c_5⟩ | ⟨h5, c_5⟩
  · skip
    subst h5
    refine lv_if_ne (tgt := 13) hx hb dX5_sum_8 (by decide) (fun _ => ?_) (fun c_x => absurd c_x (by decide))
    refine lv_iload_n hx hb dX5_sum_13 rfl (lv_at hl 2 rfl) ?_
    refine z_if_eq (tgt := 35) hx hb dX5_sum_14 (by decide) (zcn_eq (a := b) (b := 0) rfl nI_00 (by omega)) (fun c_14 => ?_) (fun c_14 => ?_)
    · skip
      refine lv_aload_n hx hb dX5_sum_35 rfl (lv_at hl 0 rfl) ?_
      refine z_get (D := (dC, dI)) (ci := 5) (v := .ref p0) (C := RX5) (T := TX5) (N := 5) hx hb hts uX5 hown hK hP 0 rfl rfl 1 (by decide) w21 rfl rfl dX5_sum_36 ?_
      refine lv_iload_n hx hb dX5_sum_39 rfl (lv_at hl 1 rfl) ?_
      refine z_c0 (v := nI z.toNat) (z_ZtoN (by first | assumption | omega)) ?_
      refine z_callVi (As := [.int (nI z.toNat)]) (rest := []) (wr := [(g0, .inr (5, [.ref h0, .ref p0, .ref k0, .ref u0, .ref r0]))]) ⟨hx, hb, hml, hown, hts⟩ (c_X1_timeOf l dC dI cI cJ H.size p0 p1 p2 p3 p4 h0 RW LE PA NC mn ns a1 a2 a3 a4 N K T F G C z.toNat (by first | assumption | omega) (by first | assumption | omega) (by first | assumption | omega) (by first | assumption | omega) (by first | assumption | omega)) (cwV 1 hts gX5_sum_X1_timeOf rfl rfl rfl (by decide +kernel) ⟨Nat.le_of_ble_eq_true rfl, Nat.le_of_ble_eq_true rfl⟩) hA hK hP hD hS [6, 7, 8, 9, 10, 1, 2, 3, 4, 5] [0] [0, 6, 7, 8, 9, 10, 1, 2, 3, 4, 5] rfl rfl (by decide) (by decide) (by decide) nwA_ok hN (ci := 1) rfl rfl 6 rfl hl.1 (Nat.le_of_ble_eq_true rfl) ⟨Nat.le_refl _, Nat.le_refl _⟩ rfl rfl dX5_sum_40 (fun (u : (Nat)) => [(g0, .inr (5, [.ref h0, .ref p0, .ref k0, .ref u0, .ref r0])), (h0, .inr (0, [.ref a1, .ref a2, .ref a3, .ref a4, .int (nI N), .int (nI K)])), (a1, .inl (cI, 8, .inl (fun z_ => nI (T z_)))), (a2, .inl (cI, 16, .inl (fun z_ => nI (F z_)))), (a3, .inl (cI, 16, .inl (fun z_ => nI (G z_)))), (a4, .inl (cI, 16, .inl (fun z_ => nI (C z_)))), (p0, .inr (1, [.ref h0, .ref p1, .ref p2, .ref p3, .int (nI mn), .ref p4, .int (nI ns)])), (p1, .inl (cI, 5088, .inl (fun z_ => nI (RW z_)))), (p2, .inl (cI, 636, .inl (fun z_ => nI (LE z_)))), (p3, .inl (cI, 8, .inl (fun z_ => nI (PA z_)))), (p4, .inl (cI, 16, .inl (fun z_ => nI (NC z_))))]) (fun u => rfl) (by decide) (fun r_40 u H locs hw hP hD hS => ?_)
      obtain ⟨rv_40, eu⟩ : ∃ z, z = u := ⟨_, rfl⟩
      subst eu
      have hP : va_P (dC, dI) vwCl [(g0, .inr (5, [.ref h0, .ref p0, .ref k0, .ref u0, .ref r0])), (h0, .inr (0, [.ref a1, .ref a2, .ref a3, .ref a4, .int (nI N), .int (nI K)])), (a1, .inl (cI, 8, .inl (fun z_ => nI (T z_)))), (a2, .inl (cI, 16, .inl (fun z_ => nI (F z_)))), (a3, .inl (cI, 16, .inl (fun z_ => nI (G z_)))), (a4, .inl (cI, 16, .inl (fun z_ => nI (C z_)))), (p0, .inr (1, [.ref h0, .ref p1, .ref p2, .ref p3, .int (nI mn), .ref p4, .int (nI ns)])), (p1, .inl (cI, 5088, .inl (fun z_ => nI (RW z_)))), (p2, .inl (cI, 636, .inl (fun z_ => nI (LE z_)))), (p3, .inl (cI, 8, .inl (fun z_ => nI (PA z_)))), (p4, .inl (cI, 16, .inl (fun z_ => nI (NC z_))))] H := hP
      have hD : va_D A [(g0, .inr (5, [.ref h0, .ref p0, .ref k0, .ref u0, .ref r0])), (h0, .inr (0, [.ref a1, .ref a2, .ref a3, .ref a4, .int (nI N), .int (nI K)])), (a1, .inl (cI, 8, .inl (fun z_ => nI (T z_)))), (a2, .inl (cI, 16, .inl (fun z_ => nI (F z_)))), (a3, .inl (cI, 16, .inl (fun z_ => nI (G z_)))), (a4, .inl (cI, 16, .inl (fun z_ => nI (C z_)))), (p0, .inr (1, [.ref h0, .ref p1, .ref p2, .ref p3, .int (nI mn), .ref p4, .int (nI ns)])), (p1, .inl (cI, 5088, .inl (fun z_ => nI (RW z_)))), (p2, .inl (cI, 636, .inl (fun z_ => nI (LE z_)))), (p3, .inl (cI, 8, .inl (fun z_ => nI (PA z_)))), (p4, .inl (cI, 16, .inl (fun z_ => nI (NC z_))))] := hD
      obtain ⟨er, p40_0, p40_1⟩ := hw
      have p40_0 : rv_40 = sp_tm T F RW LE z.toNat := p40_0
      have p40_1 : rv_40 ≤ 160 := p40_1
      have er : r_40 = (nI rv_40) := er
      subst er
      refine z_c0 (v := iI ((rv_40 : Nat) : Int)) (iI_N _) ?_
      have q_0 : ((rv_40 : Nat) : Int) = if 0 ≤ z ∧ z < (LS.length : Int) then (if b = 0 then (sp_tmL T F LS z.toNat : Int) else (sp_cdL C LS z.toNat : Int)) else -1 := by first | rw [if_neg (by omega)] | (rw [if_pos (by omega), if_pos (by omega), ← sp_tm_L hh (by omega), ← p40_0]) | (rw [if_pos (by omega), if_neg (by omega), ← sp_cd_L hh (by omega), ← p29_0])
      exact hRET _ ls H locs ((iI ((rv_40 : Nat) : Int))) (((rv_40 : Nat) : Int)) dX5_sum_43 ⟨rfl, q_0⟩ hP hD hS
    · skip
      refine lv_aload_n hx hb dX5_sum_17 rfl (lv_at hl 0 rfl) ?_
      refine z_get (D := (dC, dI)) (ci := 5) (v := .ref p0) (C := RX5) (T := TX5) (N := 5) hx hb hts uX5 hown hK hP 0 rfl rfl 1 (by decide) w21 rfl rfl dX5_sum_18 ?_
      refine lv_iload_n hx hb dX5_sum_21 rfl (lv_at hl 1 rfl) ?_
      refine lv_aload_n hx hb dX5_sum_22 rfl (lv_at hl 0 rfl) ?_
      refine z_get (D := (dC, dI)) (ci := 5) (v := .ref h0) (C := RX5) (T := TX5) (N := 5) hx hb hts uX5 hown hK hP 0 rfl rfl 0 (by decide) w10 rfl rfl dX5_sum_23 ?_
      refine z_get (D := (dC, dI)) (ci := 0) (v := .ref a4) (C := RX0) (T := TX0) (N := 6) hx hb hts uX0 hown hK hP 1 rfl rfl 3 (by decide) w82 rfl rfl dX5_sum_26 ?_
      refine z_c1 (v := nI z.toNat) (z_ZtoN (by first | assumption | omega)) ?_
      refine z_callVi (As := [.int (nI z.toNat), .ref a4]) (rest := []) (wr := [(g0, .inr (5, [.ref h0, .ref p0, .ref k0, .ref u0, .ref r0])), (h0, .inr (0, [.ref a1, .ref a2, .ref a3, .ref a4, .int (nI N), .int (nI K)])), (a1, .inl (cI, 8, .inl (fun z_ => nI (T z_)))), (a2, .inl (cI, 16, .inl (fun z_ => nI (F z_)))), (a3, .inl (cI, 16, .inl (fun z_ => nI (G z_)))), (p3, .inl (cI, 8, .inl (fun z_ => nI (PA z_)))), (p4, .inl (cI, 16, .inl (fun z_ => nI (NC z_))))]) ⟨hx, hb, hml, hown, hts⟩ (c_X1_cardsOf l dC dI cI cJ H.size p0 p1 p2 p3 p4 h0 RW LE mn ns a4 C z.toNat (by first | assumption | omega) (by first | assumption | omega) (by first | assumption | omega) (by first | assumption | omega)) (cwV 2 hts gX5_sum_X1_cardsOf rfl rfl rfl (by decide +kernel) ⟨Nat.le_of_ble_eq_true rfl, Nat.le_of_ble_eq_true rfl⟩) hA hK hP hD hS [6, 7, 8, 5] [0, 1, 2, 3, 4, 9, 10] [0, 1, 2, 3, 4, 10, 7, 8, 9, 5, 6] rfl rfl (by decide) (by decide) (by decide) nwA_ok hN (ci := 1) rfl rfl 6 rfl hl.1 (Nat.le_of_ble_eq_true rfl) ⟨Nat.le_refl _, Nat.le_refl _⟩ rfl rfl dX5_sum_29 (fun (u : (Nat)) => [(g0, .inr (5, [.ref h0, .ref p0, .ref k0, .ref u0, .ref r0])), (h0, .inr (0, [.ref a1, .ref a2, .ref a3, .ref a4, .int (nI N), .int (nI K)])), (a1, .inl (cI, 8, .inl (fun z_ => nI (T z_)))), (a2, .inl (cI, 16, .inl (fun z_ => nI (F z_)))), (a3, .inl (cI, 16, .inl (fun z_ => nI (G z_)))), (a4, .inl (cI, 16, .inl (fun z_ => nI (C z_)))), (p0, .inr (1, [.ref h0, .ref p1, .ref p2, .ref p3, .int (nI mn), .ref p4, .int (nI ns)])), (p1, .inl (cI, 5088, .inl (fun z_ => nI (RW z_)))), (p2, .inl (cI, 636, .inl (fun z_ => nI (LE z_)))), (p3, .inl (cI, 8, .inl (fun z_ => nI (PA z_)))), (p4, .inl (cI, 16, .inl (fun z_ => nI (NC z_))))]) (fun u => rfl) (by decide) (fun r_29 u H locs hw hP hD hS => ?_)
      obtain ⟨rv_29, eu⟩ : ∃ z, z = u := ⟨_, rfl⟩
      subst eu
      have hP : va_P (dC, dI) vwCl [(g0, .inr (5, [.ref h0, .ref p0, .ref k0, .ref u0, .ref r0])), (h0, .inr (0, [.ref a1, .ref a2, .ref a3, .ref a4, .int (nI N), .int (nI K)])), (a1, .inl (cI, 8, .inl (fun z_ => nI (T z_)))), (a2, .inl (cI, 16, .inl (fun z_ => nI (F z_)))), (a3, .inl (cI, 16, .inl (fun z_ => nI (G z_)))), (a4, .inl (cI, 16, .inl (fun z_ => nI (C z_)))), (p0, .inr (1, [.ref h0, .ref p1, .ref p2, .ref p3, .int (nI mn), .ref p4, .int (nI ns)])), (p1, .inl (cI, 5088, .inl (fun z_ => nI (RW z_)))), (p2, .inl (cI, 636, .inl (fun z_ => nI (LE z_)))), (p3, .inl (cI, 8, .inl (fun z_ => nI (PA z_)))), (p4, .inl (cI, 16, .inl (fun z_ => nI (NC z_))))] H := hP
      have hD : va_D A [(g0, .inr (5, [.ref h0, .ref p0, .ref k0, .ref u0, .ref r0])), (h0, .inr (0, [.ref a1, .ref a2, .ref a3, .ref a4, .int (nI N), .int (nI K)])), (a1, .inl (cI, 8, .inl (fun z_ => nI (T z_)))), (a2, .inl (cI, 16, .inl (fun z_ => nI (F z_)))), (a3, .inl (cI, 16, .inl (fun z_ => nI (G z_)))), (a4, .inl (cI, 16, .inl (fun z_ => nI (C z_)))), (p0, .inr (1, [.ref h0, .ref p1, .ref p2, .ref p3, .int (nI mn), .ref p4, .int (nI ns)])), (p1, .inl (cI, 5088, .inl (fun z_ => nI (RW z_)))), (p2, .inl (cI, 636, .inl (fun z_ => nI (LE z_)))), (p3, .inl (cI, 8, .inl (fun z_ => nI (PA z_)))), (p4, .inl (cI, 16, .inl (fun z_ => nI (NC z_))))] := hD
      obtain ⟨er, p29_0, p29_1⟩ := hw
      have p29_0 : rv_29 = sp_cd C RW LE z.toNat := p29_0
      have p29_1 : rv_29 ≤ 72 := p29_1
      have er : r_29 = (nI rv_29) := er
      subst er
      refine lv_goto (tgt := 43) hx hb dX5_sum_32 (by decide) ?_
      refine z_c0 (v := iI ((rv_29 : Nat) : Int)) (iI_N _) ?_
      have q_0 : ((rv_29 : Nat) : Int) = if 0 ≤ z ∧ z < (LS.length : Int) then (if b = 0 then (sp_tmL T F LS z.toNat : Int) else (sp_cdL C LS z.toNat : Int)) else -1 := by first | rw [if_neg (by omega)] | (rw [if_pos (by omega), if_pos (by omega), ← sp_tm_L hh (by omega), ← p40_0]) | (rw [if_pos (by omega), if_neg (by omega), ← sp_cd_L hh (by omega), ← p29_0])
      exact hRET _ ls H locs ((iI ((rv_29 : Nat) : Int))) (((rv_29 : Nat) : Int)) dX5_sum_43 ⟨rfl, q_0⟩ hP hD hS
  · skip
    subst h5
    refine lv_if_ne (tgt := 13) hx hb dX5_sum_8 (by decide) (fun c_x => absurd c_x (by decide)) (fun _ => ?_)
    refine lv_iconst (v := iI (-1)) hx hb dX5_sum_11 (by decide) ?_
    have q_0 : (-1 : Int) = if 0 ≤ z ∧ z < (LS.length : Int) then (if b = 0 then (sp_tmL T F LS z.toNat : Int) else (sp_cdL C LS z.toNat : Int)) else -1 := by first | rw [if_neg (by omega)] | (rw [if_pos (by omega), if_pos (by omega), ← sp_tm_L hh (by omega), ← p40_0]) | (rw [if_pos (by omega), if_neg (by omega), ← sp_cd_L hh (by omega), ← p29_0])
    exact hRET _ ls H locs ((iI (-1))) ((-1 : Int)) dX5_sum_12 ⟨rfl, q_0⟩ hP hD hS

set_option maxHeartbeats 4000000 in
set_option maxRecDepth 100000 in
theorem c_X5_slowest (l : Launch) (dC : Nat → ClassId) (dI : Nat → Nat → Nat) (cI cJ : ClassId) (sz : Nat) (g0 : Nat) (h0 : Nat) (p0 : Nat) (k0 : Nat) (u0 : Nat) (r0 : Nat) (a1 : Nat) (a2 : Nat) (a3 : Nat) (a4 : Nat) (N : Nat) (K : Nat) (T : Nat → Nat) (F : Nat → Nat) (G : Nat → Nat) (C : Nat → Nat) (p1 : Nat) (p2 : Nat) (p3 : Nat) (p4 : Nat) (RW : Nat → Nat) (LE : Nat → Nat) (PA : Nat → Nat) (NC : Nat → Nat) (mn : Nat) (ns : Nat) (LS : List (List Nat)) (bmn : mn ≤ 636) (hh : sp_hold LS mn RW LE) (bRW : ∀ i, RW i < 16) (bLE : ∀ i, LE i ≤ 8) (bF : ∀ a, F a < 8) (bT : ∀ i, T i ≤ 20) (bC : ∀ a, C a ≤ 9) : Met l yX5_slowest wsX5_slowest (zR 2 0 0 50) (va_Pc [.ref g0] (zP (dC, dI) [(cI, .int), (cJ, .long)] [(g0, .inr (5, [.ref h0, .ref p0, .ref k0, .ref u0, .ref r0])), (h0, .inr (0, [.ref a1, .ref a2, .ref a3, .ref a4, .int (nI N), .int (nI K)])), (a1, .inl (cI, 8, .inl (fun z_ => nI (T z_)))), (a2, .inl (cI, 16, .inl (fun z_ => nI (F z_)))), (a3, .inl (cI, 16, .inl (fun z_ => nI (G z_)))), (a4, .inl (cI, 16, .inl (fun z_ => nI (C z_)))), (p0, .inr (1, [.ref h0, .ref p1, .ref p2, .ref p3, .int (nI mn), .ref p4, .int (nI ns)])), (p1, .inl (cI, 5088, .inl (fun z_ => nI (RW z_)))), (p2, .inl (cI, 636, .inl (fun z_ => nI (LE z_)))), (p3, .inl (cI, 8, .inl (fun z_ => nI (PA z_)))), (p4, .inl (cI, 16, .inl (fun z_ => nI (NC z_))))] sz nwA)) (va_Qi (fun (r : Int32) (u : (Int)) => r = (iI u) ∧ (u = sp_slow T F C LS)) (zB (dC, dI) (fun (u : (Int)) => [(g0, .inr (5, [.ref h0, .ref p0, .ref k0, .ref u0, .ref r0])), (h0, .inr (0, [.ref a1, .ref a2, .ref a3, .ref a4, .int (nI N), .int (nI K)])), (a1, .inl (cI, 8, .inl (fun z_ => nI (T z_)))), (a2, .inl (cI, 16, .inl (fun z_ => nI (F z_)))), (a3, .inl (cI, 16, .inl (fun z_ => nI (G z_)))), (a4, .inl (cI, 16, .inl (fun z_ => nI (C z_)))), (p0, .inr (1, [.ref h0, .ref p1, .ref p2, .ref p3, .int (nI mn), .ref p4, .int (nI ns)])), (p1, .inl (cI, 5088, .inl (fun z_ => nI (RW z_)))), (p2, .inl (cI, 636, .inl (fun z_ => nI (LE z_)))), (p3, .inl (cI, 8, .inl (fun z_ => nI (PA z_)))), (p4, .inl (cI, 16, .inl (fun z_ => nI (NC z_))))]) (va_A [(g0, .inr (5, [.ref h0, .ref p0, .ref k0, .ref u0, .ref r0])), (h0, .inr (0, [.ref a1, .ref a2, .ref a3, .ref a4, .int (nI N), .int (nI K)])), (a1, .inl (cI, 8, .inl (fun z_ => nI (T z_)))), (a2, .inl (cI, 16, .inl (fun z_ => nI (F z_)))), (a3, .inl (cI, 16, .inl (fun z_ => nI (G z_)))), (a4, .inl (cI, 16, .inl (fun z_ => nI (C z_)))), (p0, .inr (1, [.ref h0, .ref p1, .ref p2, .ref p3, .int (nI mn), .ref p4, .int (nI ns)])), (p1, .inl (cI, 5088, .inl (fun z_ => nI (RW z_)))), (p2, .inl (cI, 636, .inl (fun z_ => nI (LE z_)))), (p3, .inl (cI, 8, .inl (fun z_ => nI (PA z_)))), (p4, .inl (cI, 16, .inl (fun z_ => nI (NC z_))))] sz)) (va_A [(g0, .inr (5, [.ref h0, .ref p0, .ref k0, .ref u0, .ref r0])), (h0, .inr (0, [.ref a1, .ref a2, .ref a3, .ref a4, .int (nI N), .int (nI K)])), (a1, .inl (cI, 8, .inl (fun z_ => nI (T z_)))), (a2, .inl (cI, 16, .inl (fun z_ => nI (F z_)))), (a3, .inl (cI, 16, .inl (fun z_ => nI (G z_)))), (a4, .inl (cI, 16, .inl (fun z_ => nI (C z_)))), (p0, .inr (1, [.ref h0, .ref p1, .ref p2, .ref p3, .int (nI mn), .ref p4, .int (nI ns)])), (p1, .inl (cI, 5088, .inl (fun z_ => nI (RW z_)))), (p2, .inl (cI, 636, .inl (fun z_ => nI (LE z_)))), (p3, .inl (cI, 8, .inl (fun z_ => nI (PA z_)))), (p4, .inl (cI, 16, .inl (fun z_ => nI (NC z_))))] sz)) 0 0 (va_A [(g0, .inr (5, [.ref h0, .ref p0, .ref k0, .ref u0, .ref r0])), (h0, .inr (0, [.ref a1, .ref a2, .ref a3, .ref a4, .int (nI N), .int (nI K)])), (a1, .inl (cI, 8, .inl (fun z_ => nI (T z_)))), (a2, .inl (cI, 16, .inl (fun z_ => nI (F z_)))), (a3, .inl (cI, 16, .inl (fun z_ => nI (G z_)))), (a4, .inl (cI, 16, .inl (fun z_ => nI (C z_)))), (p0, .inr (1, [.ref h0, .ref p1, .ref p2, .ref p3, .int (nI mn), .ref p4, .int (nI ns)])), (p1, .inl (cI, 5088, .inl (fun z_ => nI (RW z_)))), (p2, .inl (cI, 636, .inl (fun z_ => nI (LE z_)))), (p3, .inl (cI, 8, .inl (fun z_ => nI (PA z_)))), (p4, .inl (cI, 16, .inl (fun z_ => nI (NC z_))))] sz) := by
  refine z_met_i (cc := cX5_slowest) (maxL := 1) (by decide) rfl (Nat.le_of_ble_eq_true rfl) ?_
  intro p e s m args below meth c Q A ls hx hb hml hown hts hin hA hK hP hD hN hl hRET
  have hown : s.vm.findClass RX5 = some m.cls := hown
  obtain ⟨H, eH⟩ : ∃ H : Heap, H = s.heap := ⟨_, rfl⟩
  rw [← eH] at hP
  obtain ⟨locs, eL⟩ : ∃ z : List Loc, z = [] := ⟨_, rfl⟩
  rw [← eH, ← eL]
  have hS : va_S A s.heap H locs := by rw [eH, eL]; exact va_S.rf
  have hl : lv_has ls 1 [(0, .ref g0)] := hl
  have w21 := hts (.fieldLink RX5 21 "PullCards" "loops" "LPullCards$Loops;") (by decide +kernel)
  have uX5 : ∀ w ∈ wsX50, w ∈ wsX5_slowest := by decide +kernel
  have hlen := hh.1
  refine lv_aload_n hx hb dX5_slowest_0 rfl (lv_at hl 0 rfl) ?_
  refine z_get (D := (dC, dI)) (ci := 5) (v := .ref p0) (C := RX5) (T := TX5) (N := 5) hx hb hts uX5 hown hK hP 0 rfl rfl 1 (by decide) w21 rfl rfl dX5_slowest_1 ?_
  refine z_callVi (As := []) (rest := []) (wr := [(g0, .inr (5, [.ref h0, .ref p0, .ref k0, .ref u0, .ref r0]))]) ⟨hx, hb, hml, hown, hts⟩ (c_X1_findSlowest l dC dI cI cJ H.size p0 p1 p2 p3 p4 h0 RW LE PA NC mn ns a1 a2 a3 a4 N K T F G C (by first | assumption | omega) (by first | assumption | omega) (by first | assumption | omega) (by first | assumption | omega) (by first | assumption | omega) (by first | assumption | omega)) (cwV 0 hts gX5_slowest_X1_findSlowest rfl rfl rfl (by decide +kernel) ⟨Nat.le_of_ble_eq_true rfl, Nat.le_of_ble_eq_true rfl⟩) hA hK hP hD hS [6, 7, 8, 9, 10, 1, 2, 3, 4, 5] [0] [0, 6, 7, 8, 9, 10, 1, 2, 3, 4, 5] rfl rfl (by decide) (by decide) (by decide) nwA_ok hN (ci := 1) rfl rfl 6 rfl hl.1 (Nat.le_of_ble_eq_true rfl) ⟨Nat.le_refl _, Nat.le_refl _⟩ rfl rfl dX5_slowest_4 (fun (u : (Int)) => [(g0, .inr (5, [.ref h0, .ref p0, .ref k0, .ref u0, .ref r0])), (h0, .inr (0, [.ref a1, .ref a2, .ref a3, .ref a4, .int (nI N), .int (nI K)])), (a1, .inl (cI, 8, .inl (fun z_ => nI (T z_)))), (a2, .inl (cI, 16, .inl (fun z_ => nI (F z_)))), (a3, .inl (cI, 16, .inl (fun z_ => nI (G z_)))), (a4, .inl (cI, 16, .inl (fun z_ => nI (C z_)))), (p0, .inr (1, [.ref h0, .ref p1, .ref p2, .ref p3, .int (nI mn), .ref p4, .int (nI ns)])), (p1, .inl (cI, 5088, .inl (fun z_ => nI (RW z_)))), (p2, .inl (cI, 636, .inl (fun z_ => nI (LE z_)))), (p3, .inl (cI, 8, .inl (fun z_ => nI (PA z_)))), (p4, .inl (cI, 16, .inl (fun z_ => nI (NC z_))))]) (fun u => rfl) (by decide) (fun r_4 u H locs hw hP hD hS => ?_)
  obtain ⟨rv_4, eu⟩ : ∃ z, z = u := ⟨_, rfl⟩
  subst eu
  have hP : va_P (dC, dI) vwCl [(g0, .inr (5, [.ref h0, .ref p0, .ref k0, .ref u0, .ref r0])), (h0, .inr (0, [.ref a1, .ref a2, .ref a3, .ref a4, .int (nI N), .int (nI K)])), (a1, .inl (cI, 8, .inl (fun z_ => nI (T z_)))), (a2, .inl (cI, 16, .inl (fun z_ => nI (F z_)))), (a3, .inl (cI, 16, .inl (fun z_ => nI (G z_)))), (a4, .inl (cI, 16, .inl (fun z_ => nI (C z_)))), (p0, .inr (1, [.ref h0, .ref p1, .ref p2, .ref p3, .int (nI mn), .ref p4, .int (nI ns)])), (p1, .inl (cI, 5088, .inl (fun z_ => nI (RW z_)))), (p2, .inl (cI, 636, .inl (fun z_ => nI (LE z_)))), (p3, .inl (cI, 8, .inl (fun z_ => nI (PA z_)))), (p4, .inl (cI, 16, .inl (fun z_ => nI (NC z_))))] H := hP
  have hD : va_D A [(g0, .inr (5, [.ref h0, .ref p0, .ref k0, .ref u0, .ref r0])), (h0, .inr (0, [.ref a1, .ref a2, .ref a3, .ref a4, .int (nI N), .int (nI K)])), (a1, .inl (cI, 8, .inl (fun z_ => nI (T z_)))), (a2, .inl (cI, 16, .inl (fun z_ => nI (F z_)))), (a3, .inl (cI, 16, .inl (fun z_ => nI (G z_)))), (a4, .inl (cI, 16, .inl (fun z_ => nI (C z_)))), (p0, .inr (1, [.ref h0, .ref p1, .ref p2, .ref p3, .int (nI mn), .ref p4, .int (nI ns)])), (p1, .inl (cI, 5088, .inl (fun z_ => nI (RW z_)))), (p2, .inl (cI, 636, .inl (fun z_ => nI (LE z_)))), (p3, .inl (cI, 8, .inl (fun z_ => nI (PA z_)))), (p4, .inl (cI, 16, .inl (fun z_ => nI (NC z_))))] := hD
  obtain ⟨er, p4_0⟩ := hw
  have p4_0 : rv_4 = (sp_sl (sp_tm T F RW LE) (sp_cd C RW LE) mn).1 := p4_0
  have er : r_4 = (iI rv_4) := er
  subst er
  have hsl : rv_4 = sp_slow T F C LS := by rw [p4_0]; unfold sp_slow; rw [← hlen, sp_sl_cong mn (fun q hq => sp_tm_L hh hq) (fun q hq => sp_cd_L hh hq)]
  have q_0 : rv_4 = sp_slow T F C LS := by exact hsl
  exact hRET _ ls H locs ((iI rv_4)) (rv_4) dX5_slowest_7 ⟨rfl, q_0⟩ hP hD hS

set_option maxHeartbeats 4000000 in
set_option maxRecDepth 100000 in
theorem c_X5_pace (l : Launch) (dC : Nat → ClassId) (dI : Nat → Nat → Nat) (cI cJ : ClassId) (sz : Nat) (g0 : Nat) (h0 : Nat) (p0 : Nat) (k0 : Nat) (u0 : Nat) (r0 : Nat) (a1 : Nat) (a2 : Nat) (a3 : Nat) (a4 : Nat) (N : Nat) (K : Nat) (T : Nat → Nat) (F : Nat → Nat) (G : Nat → Nat) (C : Nat → Nat) (p1 : Nat) (p2 : Nat) (p3 : Nat) (p4 : Nat) (RW : Nat → Nat) (LE : Nat → Nat) (PA : Nat → Nat) (NC : Nat → Nat) (mn : Nat) (ns : Nat) (LS : List (List Nat)) (uu : Nat) (bmn : mn ≤ 636) (hh : sp_hold LS mn RW LE) (bRW : ∀ i, RW i < 16) (bLE : ∀ i, LE i ≤ 8) (bF : ∀ a, F a < 8) (bT : ∀ i, T i ≤ 20) (bC : ∀ a, C a ≤ 9) (bu : uu ≤ 1) : Met l yX5_pace wsX5_pace (zR 3 0 0 83) (va_Pc [.ref g0, .int (nI uu)] (zP (dC, dI) [(cI, .int), (cJ, .long)] [(g0, .inr (5, [.ref h0, .ref p0, .ref k0, .ref u0, .ref r0])), (h0, .inr (0, [.ref a1, .ref a2, .ref a3, .ref a4, .int (nI N), .int (nI K)])), (a1, .inl (cI, 8, .inl (fun z_ => nI (T z_)))), (a2, .inl (cI, 16, .inl (fun z_ => nI (F z_)))), (a3, .inl (cI, 16, .inl (fun z_ => nI (G z_)))), (a4, .inl (cI, 16, .inl (fun z_ => nI (C z_)))), (p0, .inr (1, [.ref h0, .ref p1, .ref p2, .ref p3, .int (nI mn), .ref p4, .int (nI ns)])), (p1, .inl (cI, 5088, .inl (fun z_ => nI (RW z_)))), (p2, .inl (cI, 636, .inl (fun z_ => nI (LE z_)))), (p3, .inl (cI, 8, .inl (fun z_ => nI (PA z_)))), (p4, .inl (cI, 16, .inl (fun z_ => nI (NC z_))))] sz nwA)) (va_Ql (fun (r : Int64) (u : (Int)) => r = (lI u) ∧ (u = sp_pace T F C LS uu)) (zB (dC, dI) (fun (u : (Int)) => [(g0, .inr (5, [.ref h0, .ref p0, .ref k0, .ref u0, .ref r0])), (h0, .inr (0, [.ref a1, .ref a2, .ref a3, .ref a4, .int (nI N), .int (nI K)])), (a1, .inl (cI, 8, .inl (fun z_ => nI (T z_)))), (a2, .inl (cI, 16, .inl (fun z_ => nI (F z_)))), (a3, .inl (cI, 16, .inl (fun z_ => nI (G z_)))), (a4, .inl (cI, 16, .inl (fun z_ => nI (C z_)))), (p0, .inr (1, [.ref h0, .ref p1, .ref p2, .ref p3, .int (nI mn), .ref p4, .int (nI ns)])), (p1, .inl (cI, 5088, .inl (fun z_ => nI (RW z_)))), (p2, .inl (cI, 636, .inl (fun z_ => nI (LE z_)))), (p3, .inl (cI, 8, .inl (fun z_ => nI (PA z_)))), (p4, .inl (cI, 16, .inl (fun z_ => nI (NC z_))))]) (va_A [(g0, .inr (5, [.ref h0, .ref p0, .ref k0, .ref u0, .ref r0])), (h0, .inr (0, [.ref a1, .ref a2, .ref a3, .ref a4, .int (nI N), .int (nI K)])), (a1, .inl (cI, 8, .inl (fun z_ => nI (T z_)))), (a2, .inl (cI, 16, .inl (fun z_ => nI (F z_)))), (a3, .inl (cI, 16, .inl (fun z_ => nI (G z_)))), (a4, .inl (cI, 16, .inl (fun z_ => nI (C z_)))), (p0, .inr (1, [.ref h0, .ref p1, .ref p2, .ref p3, .int (nI mn), .ref p4, .int (nI ns)])), (p1, .inl (cI, 5088, .inl (fun z_ => nI (RW z_)))), (p2, .inl (cI, 636, .inl (fun z_ => nI (LE z_)))), (p3, .inl (cI, 8, .inl (fun z_ => nI (PA z_)))), (p4, .inl (cI, 16, .inl (fun z_ => nI (NC z_))))] sz)) (va_A [(g0, .inr (5, [.ref h0, .ref p0, .ref k0, .ref u0, .ref r0])), (h0, .inr (0, [.ref a1, .ref a2, .ref a3, .ref a4, .int (nI N), .int (nI K)])), (a1, .inl (cI, 8, .inl (fun z_ => nI (T z_)))), (a2, .inl (cI, 16, .inl (fun z_ => nI (F z_)))), (a3, .inl (cI, 16, .inl (fun z_ => nI (G z_)))), (a4, .inl (cI, 16, .inl (fun z_ => nI (C z_)))), (p0, .inr (1, [.ref h0, .ref p1, .ref p2, .ref p3, .int (nI mn), .ref p4, .int (nI ns)])), (p1, .inl (cI, 5088, .inl (fun z_ => nI (RW z_)))), (p2, .inl (cI, 636, .inl (fun z_ => nI (LE z_)))), (p3, .inl (cI, 8, .inl (fun z_ => nI (PA z_)))), (p4, .inl (cI, 16, .inl (fun z_ => nI (NC z_))))] sz)) 0 0 (va_A [(g0, .inr (5, [.ref h0, .ref p0, .ref k0, .ref u0, .ref r0])), (h0, .inr (0, [.ref a1, .ref a2, .ref a3, .ref a4, .int (nI N), .int (nI K)])), (a1, .inl (cI, 8, .inl (fun z_ => nI (T z_)))), (a2, .inl (cI, 16, .inl (fun z_ => nI (F z_)))), (a3, .inl (cI, 16, .inl (fun z_ => nI (G z_)))), (a4, .inl (cI, 16, .inl (fun z_ => nI (C z_)))), (p0, .inr (1, [.ref h0, .ref p1, .ref p2, .ref p3, .int (nI mn), .ref p4, .int (nI ns)])), (p1, .inl (cI, 5088, .inl (fun z_ => nI (RW z_)))), (p2, .inl (cI, 636, .inl (fun z_ => nI (LE z_)))), (p3, .inl (cI, 8, .inl (fun z_ => nI (PA z_)))), (p4, .inl (cI, 16, .inl (fun z_ => nI (NC z_))))] sz) := by
  refine z_met_l (cc := cX5_pace) (maxL := 4) (by decide) rfl (Nat.le_of_ble_eq_true rfl) ?_
  intro p e s m args below meth c Q A ls hx hb hml hown hts hin hA hK hP hD hN hl hRET
  have hown : s.vm.findClass RX5 = some m.cls := hown
  obtain ⟨H, eH⟩ : ∃ H : Heap, H = s.heap := ⟨_, rfl⟩
  rw [← eH] at hP
  obtain ⟨locs, eL⟩ : ∃ z : List Loc, z = [] := ⟨_, rfl⟩
  rw [← eH, ← eL]
  have hS : va_S A s.heap H locs := by rw [eH, eL]; exact va_S.rf
  have hl : lv_has ls 4 [(0, .ref g0), (1, .int (nI uu))] := hl
  have w21 := hts (.fieldLink RX5 21 "PullCards" "loops" "LPullCards$Loops;") (by decide +kernel)
  have uX5 : ∀ w ∈ wsX50, w ∈ wsX5_pace := by decide +kernel
  have w10 := hts (.fieldLink RX5 10 "PullCards" "line" "LPullCards$Line;") (by decide +kernel)
  have w82 := hts (.fieldLink RX5 82 "PullCards$Line" "cards" "[I") (by decide +kernel)
  have uX0 : ∀ w ∈ wsX00, w ∈ wsX5_pace := by decide +kernel
  have hlen := hh.1
  refine lv_aload_n hx hb dX5_pace_0 rfl (lv_at hl 0 rfl) ?_
  refine z_get (D := (dC, dI)) (ci := 5) (v := .ref p0) (C := RX5) (T := TX5) (N := 5) hx hb hts uX5 hown hK hP 0 rfl rfl 1 (by decide) w21 rfl rfl dX5_pace_1 ?_
  refine z_callVi (As := []) (rest := []) (wr := [(g0, .inr (5, [.ref h0, .ref p0, .ref k0, .ref u0, .ref r0]))]) ⟨hx, hb, hml, hown, hts⟩ (c_X1_findSlowest l dC dI cI cJ H.size p0 p1 p2 p3 p4 h0 RW LE PA NC mn ns a1 a2 a3 a4 N K T F G C (by first | assumption | omega) (by first | assumption | omega) (by first | assumption | omega) (by first | assumption | omega) (by first | assumption | omega) (by first | assumption | omega)) (cwV 0 hts gX5_pace_X1_findSlowest rfl rfl rfl (by decide +kernel) ⟨Nat.le_of_ble_eq_true rfl, Nat.le_of_ble_eq_true rfl⟩) hA hK hP hD hS [6, 7, 8, 9, 10, 1, 2, 3, 4, 5] [0] [0, 6, 7, 8, 9, 10, 1, 2, 3, 4, 5] rfl rfl (by decide) (by decide) (by decide) nwA_ok hN (ci := 1) rfl rfl 6 rfl hl.1 (Nat.le_of_ble_eq_true rfl) ⟨Nat.le_refl _, Nat.le_refl _⟩ rfl rfl dX5_pace_4 (fun (u : (Int)) => [(g0, .inr (5, [.ref h0, .ref p0, .ref k0, .ref u0, .ref r0])), (h0, .inr (0, [.ref a1, .ref a2, .ref a3, .ref a4, .int (nI N), .int (nI K)])), (a1, .inl (cI, 8, .inl (fun z_ => nI (T z_)))), (a2, .inl (cI, 16, .inl (fun z_ => nI (F z_)))), (a3, .inl (cI, 16, .inl (fun z_ => nI (G z_)))), (a4, .inl (cI, 16, .inl (fun z_ => nI (C z_)))), (p0, .inr (1, [.ref h0, .ref p1, .ref p2, .ref p3, .int (nI mn), .ref p4, .int (nI ns)])), (p1, .inl (cI, 5088, .inl (fun z_ => nI (RW z_)))), (p2, .inl (cI, 636, .inl (fun z_ => nI (LE z_)))), (p3, .inl (cI, 8, .inl (fun z_ => nI (PA z_)))), (p4, .inl (cI, 16, .inl (fun z_ => nI (NC z_))))]) (fun u => rfl) (by decide) (fun r_4 u H locs hw hP hD hS => ?_)
  obtain ⟨rv_4, eu⟩ : ∃ z, z = u := ⟨_, rfl⟩
  subst eu
  have hP : va_P (dC, dI) vwCl [(g0, .inr (5, [.ref h0, .ref p0, .ref k0, .ref u0, .ref r0])), (h0, .inr (0, [.ref a1, .ref a2, .ref a3, .ref a4, .int (nI N), .int (nI K)])), (a1, .inl (cI, 8, .inl (fun z_ => nI (T z_)))), (a2, .inl (cI, 16, .inl (fun z_ => nI (F z_)))), (a3, .inl (cI, 16, .inl (fun z_ => nI (G z_)))), (a4, .inl (cI, 16, .inl (fun z_ => nI (C z_)))), (p0, .inr (1, [.ref h0, .ref p1, .ref p2, .ref p3, .int (nI mn), .ref p4, .int (nI ns)])), (p1, .inl (cI, 5088, .inl (fun z_ => nI (RW z_)))), (p2, .inl (cI, 636, .inl (fun z_ => nI (LE z_)))), (p3, .inl (cI, 8, .inl (fun z_ => nI (PA z_)))), (p4, .inl (cI, 16, .inl (fun z_ => nI (NC z_))))] H := hP
  have hD : va_D A [(g0, .inr (5, [.ref h0, .ref p0, .ref k0, .ref u0, .ref r0])), (h0, .inr (0, [.ref a1, .ref a2, .ref a3, .ref a4, .int (nI N), .int (nI K)])), (a1, .inl (cI, 8, .inl (fun z_ => nI (T z_)))), (a2, .inl (cI, 16, .inl (fun z_ => nI (F z_)))), (a3, .inl (cI, 16, .inl (fun z_ => nI (G z_)))), (a4, .inl (cI, 16, .inl (fun z_ => nI (C z_)))), (p0, .inr (1, [.ref h0, .ref p1, .ref p2, .ref p3, .int (nI mn), .ref p4, .int (nI ns)])), (p1, .inl (cI, 5088, .inl (fun z_ => nI (RW z_)))), (p2, .inl (cI, 636, .inl (fun z_ => nI (LE z_)))), (p3, .inl (cI, 8, .inl (fun z_ => nI (PA z_)))), (p4, .inl (cI, 16, .inl (fun z_ => nI (NC z_))))] := hD
  obtain ⟨er, p4_0⟩ := hw
  have p4_0 : rv_4 = (sp_sl (sp_tm T F RW LE) (sp_cd C RW LE) mn).1 := p4_0
  have er : r_4 = (iI rv_4) := er
  subst er
  have hsl : rv_4 = sp_slow T F C LS := by rw [p4_0]; unfold sp_slow; rw [← hlen, sp_sl_cong mn (fun q hq => sp_tm_L hh hq) (fun q hq => sp_cd_L hh hq)]
  have hsr := sp_sl_rng (tm := sp_tm T F RW LE) (cd := sp_cd C RW LE) mn
  rw [← p4_0] at hsr
  refine lv_istore_n (lv' := [(2, .int (iI rv_4)), (0, .ref g0), (1, .int (nI uu))]) hx hb dX5_pace_7 rfl hl (by decide) rfl (fun ls hl => ?_)
  refine lv_aload_n hx hb dX5_pace_8 rfl (lv_at hl 1 rfl) ?_
  refine z_get (D := (dC, dI)) (ci := 5) (v := .ref p0) (C := RX5) (T := TX5) (N := 5) hx hb hts uX5 hown hK hP 0 rfl rfl 1 (by decide) w21 rfl rfl dX5_pace_9 ?_
  refine lv_iload_n hx hb dX5_pace_12 rfl (lv_at hl 0 rfl) ?_
  refine z_callVi (As := [.int (iI rv_4)]) (rest := []) (wr := [(g0, .inr (5, [.ref h0, .ref p0, .ref k0, .ref u0, .ref r0])), (h0, .inr (0, [.ref a1, .ref a2, .ref a3, .ref a4, .int (nI N), .int (nI K)])), (a1, .inl (cI, 8, .inl (fun z_ => nI (T z_)))), (a2, .inl (cI, 16, .inl (fun z_ => nI (F z_)))), (a3, .inl (cI, 16, .inl (fun z_ => nI (G z_)))), (a4, .inl (cI, 16, .inl (fun z_ => nI (C z_)))), (p1, .inl (cI, 5088, .inl (fun z_ => nI (RW z_)))), (p2, .inl (cI, 636, .inl (fun z_ => nI (LE z_)))), (p3, .inl (cI, 8, .inl (fun z_ => nI (PA z_)))), (p4, .inl (cI, 16, .inl (fun z_ => nI (NC z_))))]) ⟨hx, hb, hml, hown, hts⟩ (c_X1_has l dC dI cI cJ H.size p0 p1 p2 p3 p4 h0 mn ns rv_4 (by first | assumption | omega) (by first | assumption | omega)) (cwV 1 hts gX5_pace_X1_has rfl rfl rfl (by decide +kernel) ⟨Nat.le_of_ble_eq_true rfl, Nat.le_of_ble_eq_true rfl⟩) hA hK hP hD hS [6] [0, 1, 2, 3, 4, 5, 7, 8, 9, 10] [0, 1, 2, 3, 4, 5, 10, 6, 7, 8, 9] rfl rfl (by decide) (by decide) (by decide) nwA_ok hN (ci := 1) rfl rfl 6 rfl hl.1 (Nat.le_of_ble_eq_true rfl) ⟨Nat.le_refl _, Nat.le_refl _⟩ rfl rfl dX5_pace_13 (fun (u : (Nat)) => [(g0, .inr (5, [.ref h0, .ref p0, .ref k0, .ref u0, .ref r0])), (h0, .inr (0, [.ref a1, .ref a2, .ref a3, .ref a4, .int (nI N), .int (nI K)])), (a1, .inl (cI, 8, .inl (fun z_ => nI (T z_)))), (a2, .inl (cI, 16, .inl (fun z_ => nI (F z_)))), (a3, .inl (cI, 16, .inl (fun z_ => nI (G z_)))), (a4, .inl (cI, 16, .inl (fun z_ => nI (C z_)))), (p0, .inr (1, [.ref h0, .ref p1, .ref p2, .ref p3, .int (nI mn), .ref p4, .int (nI ns)])), (p1, .inl (cI, 5088, .inl (fun z_ => nI (RW z_)))), (p2, .inl (cI, 636, .inl (fun z_ => nI (LE z_)))), (p3, .inl (cI, 8, .inl (fun z_ => nI (PA z_)))), (p4, .inl (cI, 16, .inl (fun z_ => nI (NC z_))))]) (fun u => rfl) (by decide) (fun r_13 u H locs hw hP hD hS => ?_)
  obtain ⟨rv_13, eu⟩ : ∃ z, z = u := ⟨_, rfl⟩
  subst eu
  have hP : va_P (dC, dI) vwCl [(g0, .inr (5, [.ref h0, .ref p0, .ref k0, .ref u0, .ref r0])), (h0, .inr (0, [.ref a1, .ref a2, .ref a3, .ref a4, .int (nI N), .int (nI K)])), (a1, .inl (cI, 8, .inl (fun z_ => nI (T z_)))), (a2, .inl (cI, 16, .inl (fun z_ => nI (F z_)))), (a3, .inl (cI, 16, .inl (fun z_ => nI (G z_)))), (a4, .inl (cI, 16, .inl (fun z_ => nI (C z_)))), (p0, .inr (1, [.ref h0, .ref p1, .ref p2, .ref p3, .int (nI mn), .ref p4, .int (nI ns)])), (p1, .inl (cI, 5088, .inl (fun z_ => nI (RW z_)))), (p2, .inl (cI, 636, .inl (fun z_ => nI (LE z_)))), (p3, .inl (cI, 8, .inl (fun z_ => nI (PA z_)))), (p4, .inl (cI, 16, .inl (fun z_ => nI (NC z_))))] H := hP
  have hD : va_D A [(g0, .inr (5, [.ref h0, .ref p0, .ref k0, .ref u0, .ref r0])), (h0, .inr (0, [.ref a1, .ref a2, .ref a3, .ref a4, .int (nI N), .int (nI K)])), (a1, .inl (cI, 8, .inl (fun z_ => nI (T z_)))), (a2, .inl (cI, 16, .inl (fun z_ => nI (F z_)))), (a3, .inl (cI, 16, .inl (fun z_ => nI (G z_)))), (a4, .inl (cI, 16, .inl (fun z_ => nI (C z_)))), (p0, .inr (1, [.ref h0, .ref p1, .ref p2, .ref p3, .int (nI mn), .ref p4, .int (nI ns)])), (p1, .inl (cI, 5088, .inl (fun z_ => nI (RW z_)))), (p2, .inl (cI, 636, .inl (fun z_ => nI (LE z_)))), (p3, .inl (cI, 8, .inl (fun z_ => nI (PA z_)))), (p4, .inl (cI, 16, .inl (fun z_ => nI (NC z_))))] := hD
  obtain ⟨er, p13_0⟩ := hw
  have p13_0 : (rv_13 = 1 ∧ (0 ≤ rv_4 ∧ rv_4 < (mn : Int))) ∨ (rv_13 = 0 ∧ ¬ (0 ≤ rv_4 ∧ rv_4 < (mn : Int))) := p13_0
  have er : r_13 = (nI rv_13) := er
  subst er
  rcases p13_0 with ⟨h13, c_13⟩ | ⟨h13, c_13⟩
  · skip
    subst h13
    refine lv_if_ne (tgt := 23) hx hb dX5_pace_16 (by decide) (fun _ => ?_) (fun c_x => absurd c_x (by decide))
    refine lv_aload_n hx hb dX5_pace_23 rfl (lv_at hl 1 rfl) ?_
    refine z_get (D := (dC, dI)) (ci := 5) (v := .ref p0) (C := RX5) (T := TX5) (N := 5) hx hb hts uX5 hown hK hP 0 rfl rfl 1 (by decide) w21 rfl rfl dX5_pace_24 ?_
    refine lv_iload_n hx hb dX5_pace_27 rfl (lv_at hl 0 rfl) ?_
    refine lv_aload_n hx hb dX5_pace_28 rfl (lv_at hl 1 rfl) ?_
    refine z_get (D := (dC, dI)) (ci := 5) (v := .ref h0) (C := RX5) (T := TX5) (N := 5) hx hb hts uX5 hown hK hP 0 rfl rfl 0 (by decide) w10 rfl rfl dX5_pace_29 ?_
    refine z_get (D := (dC, dI)) (ci := 0) (v := .ref a4) (C := RX0) (T := TX0) (N := 6) hx hb hts uX0 hown hK hP 1 rfl rfl 3 (by decide) w82 rfl rfl dX5_pace_32 ?_
    refine z_c1 (v := nI rv_4.toNat) (z_ZtoN (by first | assumption | omega)) ?_
    refine z_callVi (As := [.int (nI rv_4.toNat), .ref a4]) (rest := []) (wr := [(g0, .inr (5, [.ref h0, .ref p0, .ref k0, .ref u0, .ref r0])), (h0, .inr (0, [.ref a1, .ref a2, .ref a3, .ref a4, .int (nI N), .int (nI K)])), (a1, .inl (cI, 8, .inl (fun z_ => nI (T z_)))), (a2, .inl (cI, 16, .inl (fun z_ => nI (F z_)))), (a3, .inl (cI, 16, .inl (fun z_ => nI (G z_)))), (p3, .inl (cI, 8, .inl (fun z_ => nI (PA z_)))), (p4, .inl (cI, 16, .inl (fun z_ => nI (NC z_))))]) ⟨hx, hb, hml, hown, hts⟩ (c_X1_cardsOf l dC dI cI cJ H.size p0 p1 p2 p3 p4 h0 RW LE mn ns a4 C rv_4.toNat (by first | assumption | omega) (by first | assumption | omega) (by first | assumption | omega) (by first | assumption | omega)) (cwV 2 hts gX5_pace_X1_cardsOf rfl rfl rfl (by decide +kernel) ⟨Nat.le_of_ble_eq_true rfl, Nat.le_of_ble_eq_true rfl⟩) hA hK hP hD hS [6, 7, 8, 5] [0, 1, 2, 3, 4, 9, 10] [0, 1, 2, 3, 4, 10, 7, 8, 9, 5, 6] rfl rfl (by decide) (by decide) (by decide) nwA_ok hN (ci := 1) rfl rfl 6 rfl hl.1 (Nat.le_of_ble_eq_true rfl) ⟨Nat.le_refl _, Nat.le_refl _⟩ rfl rfl dX5_pace_35 (fun (u : (Nat)) => [(g0, .inr (5, [.ref h0, .ref p0, .ref k0, .ref u0, .ref r0])), (h0, .inr (0, [.ref a1, .ref a2, .ref a3, .ref a4, .int (nI N), .int (nI K)])), (a1, .inl (cI, 8, .inl (fun z_ => nI (T z_)))), (a2, .inl (cI, 16, .inl (fun z_ => nI (F z_)))), (a3, .inl (cI, 16, .inl (fun z_ => nI (G z_)))), (a4, .inl (cI, 16, .inl (fun z_ => nI (C z_)))), (p0, .inr (1, [.ref h0, .ref p1, .ref p2, .ref p3, .int (nI mn), .ref p4, .int (nI ns)])), (p1, .inl (cI, 5088, .inl (fun z_ => nI (RW z_)))), (p2, .inl (cI, 636, .inl (fun z_ => nI (LE z_)))), (p3, .inl (cI, 8, .inl (fun z_ => nI (PA z_)))), (p4, .inl (cI, 16, .inl (fun z_ => nI (NC z_))))]) (fun u => rfl) (by decide) (fun r_35 u H locs hw hP hD hS => ?_)
    obtain ⟨rv_35, eu⟩ : ∃ z, z = u := ⟨_, rfl⟩
    subst eu
    have hP : va_P (dC, dI) vwCl [(g0, .inr (5, [.ref h0, .ref p0, .ref k0, .ref u0, .ref r0])), (h0, .inr (0, [.ref a1, .ref a2, .ref a3, .ref a4, .int (nI N), .int (nI K)])), (a1, .inl (cI, 8, .inl (fun z_ => nI (T z_)))), (a2, .inl (cI, 16, .inl (fun z_ => nI (F z_)))), (a3, .inl (cI, 16, .inl (fun z_ => nI (G z_)))), (a4, .inl (cI, 16, .inl (fun z_ => nI (C z_)))), (p0, .inr (1, [.ref h0, .ref p1, .ref p2, .ref p3, .int (nI mn), .ref p4, .int (nI ns)])), (p1, .inl (cI, 5088, .inl (fun z_ => nI (RW z_)))), (p2, .inl (cI, 636, .inl (fun z_ => nI (LE z_)))), (p3, .inl (cI, 8, .inl (fun z_ => nI (PA z_)))), (p4, .inl (cI, 16, .inl (fun z_ => nI (NC z_))))] H := hP
    have hD : va_D A [(g0, .inr (5, [.ref h0, .ref p0, .ref k0, .ref u0, .ref r0])), (h0, .inr (0, [.ref a1, .ref a2, .ref a3, .ref a4, .int (nI N), .int (nI K)])), (a1, .inl (cI, 8, .inl (fun z_ => nI (T z_)))), (a2, .inl (cI, 16, .inl (fun z_ => nI (F z_)))), (a3, .inl (cI, 16, .inl (fun z_ => nI (G z_)))), (a4, .inl (cI, 16, .inl (fun z_ => nI (C z_)))), (p0, .inr (1, [.ref h0, .ref p1, .ref p2, .ref p3, .int (nI mn), .ref p4, .int (nI ns)])), (p1, .inl (cI, 5088, .inl (fun z_ => nI (RW z_)))), (p2, .inl (cI, 636, .inl (fun z_ => nI (LE z_)))), (p3, .inl (cI, 8, .inl (fun z_ => nI (PA z_)))), (p4, .inl (cI, 16, .inl (fun z_ => nI (NC z_))))] := hD
    obtain ⟨er, p35_0, p35_1⟩ := hw
    have p35_0 : rv_35 = sp_cd C RW LE rv_4.toNat := p35_0
    have p35_1 : rv_35 ≤ 72 := p35_1
    have er : r_35 = (nI rv_35) := er
    subst er
    have hcd := sp_cd_L (C := C) hh (show rv_4.toNat < mn by omega)
    refine lv_istore_n (lv' := [(3, .int (nI rv_35)), (2, .int (iI rv_4)), (0, .ref g0), (1, .int (nI uu))]) hx hb dX5_pace_38 rfl hl (by decide) rfl (fun ls hl => ?_)
    refine lv_iload_n hx hb dX5_pace_39 rfl (lv_at hl 0 rfl) ?_
    refine z_if_ne (tgt := 47) hx hb dX5_pace_40 (by decide) (zcn_eq (a := rv_35) (b := 0) rfl nI_00 (by omega)) (fun c_40 => ?_) (fun c_40 => ?_)
    · skip
      refine lv_aload_n hx hb dX5_pace_47 rfl (lv_at hl 2 rfl) ?_
      refine z_get (D := (dC, dI)) (ci := 5) (v := .ref p0) (C := RX5) (T := TX5) (N := 5) hx hb hts uX5 hown hK hP 0 rfl rfl 1 (by decide) w21 rfl rfl dX5_pace_48 ?_
      refine lv_iload_n hx hb dX5_pace_51 rfl (lv_at hl 1 rfl) ?_
      refine z_c0 (v := nI rv_4.toNat) (z_ZtoN (by first | assumption | omega)) ?_
      refine z_callVi (As := [.int (nI rv_4.toNat)]) (rest := []) (wr := [(g0, .inr (5, [.ref h0, .ref p0, .ref k0, .ref u0, .ref r0]))]) ⟨hx, hb, hml, hown, hts⟩ (c_X1_timeOf l dC dI cI cJ H.size p0 p1 p2 p3 p4 h0 RW LE PA NC mn ns a1 a2 a3 a4 N K T F G C rv_4.toNat (by first | assumption | omega) (by first | assumption | omega) (by first | assumption | omega) (by first | assumption | omega) (by first | assumption | omega)) (cwV 1 hts gX5_pace_X1_timeOf rfl rfl rfl (by decide +kernel) ⟨Nat.le_of_ble_eq_true rfl, Nat.le_of_ble_eq_true rfl⟩) hA hK hP hD hS [6, 7, 8, 9, 10, 1, 2, 3, 4, 5] [0] [0, 6, 7, 8, 9, 10, 1, 2, 3, 4, 5] rfl rfl (by decide) (by decide) (by decide) nwA_ok hN (ci := 1) rfl rfl 6 rfl hl.1 (Nat.le_of_ble_eq_true rfl) ⟨Nat.le_refl _, Nat.le_refl _⟩ rfl rfl dX5_pace_52 (fun (u : (Nat)) => [(g0, .inr (5, [.ref h0, .ref p0, .ref k0, .ref u0, .ref r0])), (h0, .inr (0, [.ref a1, .ref a2, .ref a3, .ref a4, .int (nI N), .int (nI K)])), (a1, .inl (cI, 8, .inl (fun z_ => nI (T z_)))), (a2, .inl (cI, 16, .inl (fun z_ => nI (F z_)))), (a3, .inl (cI, 16, .inl (fun z_ => nI (G z_)))), (a4, .inl (cI, 16, .inl (fun z_ => nI (C z_)))), (p0, .inr (1, [.ref h0, .ref p1, .ref p2, .ref p3, .int (nI mn), .ref p4, .int (nI ns)])), (p1, .inl (cI, 5088, .inl (fun z_ => nI (RW z_)))), (p2, .inl (cI, 636, .inl (fun z_ => nI (LE z_)))), (p3, .inl (cI, 8, .inl (fun z_ => nI (PA z_)))), (p4, .inl (cI, 16, .inl (fun z_ => nI (NC z_))))]) (fun u => rfl) (by decide) (fun r_52 u H locs hw hP hD hS => ?_)
      obtain ⟨rv_52, eu⟩ : ∃ z, z = u := ⟨_, rfl⟩
      subst eu
      have hP : va_P (dC, dI) vwCl [(g0, .inr (5, [.ref h0, .ref p0, .ref k0, .ref u0, .ref r0])), (h0, .inr (0, [.ref a1, .ref a2, .ref a3, .ref a4, .int (nI N), .int (nI K)])), (a1, .inl (cI, 8, .inl (fun z_ => nI (T z_)))), (a2, .inl (cI, 16, .inl (fun z_ => nI (F z_)))), (a3, .inl (cI, 16, .inl (fun z_ => nI (G z_)))), (a4, .inl (cI, 16, .inl (fun z_ => nI (C z_)))), (p0, .inr (1, [.ref h0, .ref p1, .ref p2, .ref p3, .int (nI mn), .ref p4, .int (nI ns)])), (p1, .inl (cI, 5088, .inl (fun z_ => nI (RW z_)))), (p2, .inl (cI, 636, .inl (fun z_ => nI (LE z_)))), (p3, .inl (cI, 8, .inl (fun z_ => nI (PA z_)))), (p4, .inl (cI, 16, .inl (fun z_ => nI (NC z_))))] H := hP
      have hD : va_D A [(g0, .inr (5, [.ref h0, .ref p0, .ref k0, .ref u0, .ref r0])), (h0, .inr (0, [.ref a1, .ref a2, .ref a3, .ref a4, .int (nI N), .int (nI K)])), (a1, .inl (cI, 8, .inl (fun z_ => nI (T z_)))), (a2, .inl (cI, 16, .inl (fun z_ => nI (F z_)))), (a3, .inl (cI, 16, .inl (fun z_ => nI (G z_)))), (a4, .inl (cI, 16, .inl (fun z_ => nI (C z_)))), (p0, .inr (1, [.ref h0, .ref p1, .ref p2, .ref p3, .int (nI mn), .ref p4, .int (nI ns)])), (p1, .inl (cI, 5088, .inl (fun z_ => nI (RW z_)))), (p2, .inl (cI, 636, .inl (fun z_ => nI (LE z_)))), (p3, .inl (cI, 8, .inl (fun z_ => nI (PA z_)))), (p4, .inl (cI, 16, .inl (fun z_ => nI (NC z_))))] := hD
      obtain ⟨er, p52_0, p52_1⟩ := hw
      have p52_0 : rv_52 = sp_tm T F RW LE rv_4.toNat := p52_0
      have p52_1 : rv_52 ≤ 160 := p52_1
      have er : r_52 = (nI rv_52) := er
      subst er
      have htm := sp_tm_L (T := T) (F := F) hh (show rv_4.toNat < mn by omega)
      refine lv_i2l (v := (lN rv_52)) hx hb dX5_pace_55 (zl_i2lN rfl (by omega)) ?_
      refine lv_iload_n hx hb dX5_pace_56 rfl (lv_at hl 0 rfl) ?_
      refine lv_i2l (v := (lN rv_35)) hx hb dX5_pace_57 (zl_i2lN rfl (by omega)) ?_
      refine lv_iload_n hx hb dX5_pace_58 rfl (lv_at hl 3 rfl) ?_
      refine z_callSl (As := [.long (lN rv_52), .long (lN rv_35), .int (nI uu)]) (rest := []) (wr := [(g0, .inr (5, [.ref h0, .ref p0, .ref k0, .ref u0, .ref r0])), (h0, .inr (0, [.ref a1, .ref a2, .ref a3, .ref a4, .int (nI N), .int (nI K)])), (a1, .inl (cI, 8, .inl (fun z_ => nI (T z_)))), (a2, .inl (cI, 16, .inl (fun z_ => nI (F z_)))), (a3, .inl (cI, 16, .inl (fun z_ => nI (G z_)))), (a4, .inl (cI, 16, .inl (fun z_ => nI (C z_)))), (p0, .inr (1, [.ref h0, .ref p1, .ref p2, .ref p3, .int (nI mn), .ref p4, .int (nI ns)])), (p1, .inl (cI, 5088, .inl (fun z_ => nI (RW z_)))), (p2, .inl (cI, 636, .inl (fun z_ => nI (LE z_)))), (p3, .inl (cI, 8, .inl (fun z_ => nI (PA z_)))), (p4, .inl (cI, 16, .inl (fun z_ => nI (NC z_))))]) ⟨hx, hb, hml, hown, hts⟩ (c_X5_inLeastTerms l dC dI cI cJ H.size rv_52 rv_35 uu (by first | assumption | omega) (by first | assumption | omega) (by first | assumption | omega)) (va_cwS 3 hts gX5_pace_X5_inLeastTerms rfl rfl rfl (by decide +kernel) ⟨Nat.le_of_ble_eq_true rfl, Nat.le_of_ble_eq_true rfl⟩) hA hK hP hD hS [] [0, 1, 2, 3, 4, 5, 6, 7, 8, 9, 10] [0, 1, 2, 3, 4, 5, 6, 7, 8, 9, 10] rfl rfl (by decide) (by decide) (by decide) nwA_ok hN hl.1 (Nat.le_of_ble_eq_true rfl) ⟨Nat.le_refl _, Nat.le_refl _⟩ rfl rfl dX5_pace_59 (fun (u : (Nat)) => [(g0, .inr (5, [.ref h0, .ref p0, .ref k0, .ref u0, .ref r0])), (h0, .inr (0, [.ref a1, .ref a2, .ref a3, .ref a4, .int (nI N), .int (nI K)])), (a1, .inl (cI, 8, .inl (fun z_ => nI (T z_)))), (a2, .inl (cI, 16, .inl (fun z_ => nI (F z_)))), (a3, .inl (cI, 16, .inl (fun z_ => nI (G z_)))), (a4, .inl (cI, 16, .inl (fun z_ => nI (C z_)))), (p0, .inr (1, [.ref h0, .ref p1, .ref p2, .ref p3, .int (nI mn), .ref p4, .int (nI ns)])), (p1, .inl (cI, 5088, .inl (fun z_ => nI (RW z_)))), (p2, .inl (cI, 636, .inl (fun z_ => nI (LE z_)))), (p3, .inl (cI, 8, .inl (fun z_ => nI (PA z_)))), (p4, .inl (cI, 16, .inl (fun z_ => nI (NC z_))))]) (fun u => rfl) (by decide) (fun r_59 u H locs hw hP hD hS => ?_)
      obtain ⟨rv_59, eu⟩ : ∃ z, z = u := ⟨_, rfl⟩
      subst eu
      have hP : va_P (dC, dI) vwCl [(g0, .inr (5, [.ref h0, .ref p0, .ref k0, .ref u0, .ref r0])), (h0, .inr (0, [.ref a1, .ref a2, .ref a3, .ref a4, .int (nI N), .int (nI K)])), (a1, .inl (cI, 8, .inl (fun z_ => nI (T z_)))), (a2, .inl (cI, 16, .inl (fun z_ => nI (F z_)))), (a3, .inl (cI, 16, .inl (fun z_ => nI (G z_)))), (a4, .inl (cI, 16, .inl (fun z_ => nI (C z_)))), (p0, .inr (1, [.ref h0, .ref p1, .ref p2, .ref p3, .int (nI mn), .ref p4, .int (nI ns)])), (p1, .inl (cI, 5088, .inl (fun z_ => nI (RW z_)))), (p2, .inl (cI, 636, .inl (fun z_ => nI (LE z_)))), (p3, .inl (cI, 8, .inl (fun z_ => nI (PA z_)))), (p4, .inl (cI, 16, .inl (fun z_ => nI (NC z_))))] H := hP
      have hD : va_D A [(g0, .inr (5, [.ref h0, .ref p0, .ref k0, .ref u0, .ref r0])), (h0, .inr (0, [.ref a1, .ref a2, .ref a3, .ref a4, .int (nI N), .int (nI K)])), (a1, .inl (cI, 8, .inl (fun z_ => nI (T z_)))), (a2, .inl (cI, 16, .inl (fun z_ => nI (F z_)))), (a3, .inl (cI, 16, .inl (fun z_ => nI (G z_)))), (a4, .inl (cI, 16, .inl (fun z_ => nI (C z_)))), (p0, .inr (1, [.ref h0, .ref p1, .ref p2, .ref p3, .int (nI mn), .ref p4, .int (nI ns)])), (p1, .inl (cI, 5088, .inl (fun z_ => nI (RW z_)))), (p2, .inl (cI, 636, .inl (fun z_ => nI (LE z_)))), (p3, .inl (cI, 8, .inl (fun z_ => nI (PA z_)))), (p4, .inl (cI, 16, .inl (fun z_ => nI (NC z_))))] := hD
      obtain ⟨er, p59_0⟩ := hw
      have p59_0 : rv_59 = sp_fr rv_52 rv_35 uu := p59_0
      have er : r_59 = (lN rv_59) := er
      subst er
      refine z_l0 (v := lI ((rv_59 : Nat) : Int)) (lI_N _) ?_
      have q_0 : ((rv_59 : Nat) : Int) = sp_pace T F C LS uu := by unfold sp_pace; rw [← hsl, ← hcd, ← htm, ← p35_0, ← p52_0, if_neg (by omega), p59_0]
      exact hRET _ ls H locs ((lI ((rv_59 : Nat) : Int))) (((rv_59 : Nat) : Int)) dX5_pace_62 ⟨rfl, q_0⟩ hP hD hS
    · skip
      refine lv_ldc2 (v := (-9 : Int64)) hx hb hown (hts (.constantLong RX5 125 (-9)) (by decide +kernel)) dX5_pace_43 ?_
      refine z_l0 (v := (lI (-9))) (by decide) ?_
      have q_0 : (-9 : Int) = sp_pace T F C LS uu := by unfold sp_pace; rw [← hsl, ← hcd, ← p35_0, if_pos (Or.inr c_40)]
      exact hRET _ ls H locs ((lI (-9))) ((-9 : Int)) dX5_pace_46 ⟨rfl, q_0⟩ hP hD hS
  · skip
    subst h13
    refine lv_if_ne (tgt := 23) hx hb dX5_pace_16 (by decide) (fun c_x => absurd c_x (by decide)) (fun _ => ?_)
    refine lv_ldc2 (v := (-9 : Int64)) hx hb hown (hts (.constantLong RX5 125 (-9)) (by decide +kernel)) dX5_pace_19 ?_
    refine z_l0 (v := (lI (-9))) (by decide) ?_
    have q_0 : (-9 : Int) = sp_pace T F C LS uu := by unfold sp_pace; rw [← hsl, if_pos (Or.inl (by omega))]
    exact hRET _ ls H locs ((lI (-9))) ((-9 : Int)) dX5_pace_22 ⟨rfl, q_0⟩ hP hD hS

set_option maxHeartbeats 4000000 in
set_option maxRecDepth 100000 in
theorem c_X5_begins (l : Launch) (dC : Nat → ClassId) (dI : Nat → Nat → Nat) (cI cJ : ClassId) (sz : Nat) (g0 : Nat) (h0 : Nat) (p0 : Nat) (k0 : Nat) (u0 : Nat) (r0 : Nat) (a1 : Nat) (a2 : Nat) (a3 : Nat) (a4 : Nat) (N : Nat) (K : Nat) (T : Nat → Nat) (F : Nat → Nat) (G : Nat → Nat) (C : Nat → Nat) (k1 : Nat) (k2 : Nat) (BE : Nat → Int) (OR : Nat → Nat) (od : Nat) (ab : Nat) (z : Int) (k : Int) (bN : N ≤ 8) (bK : K ≤ 16) (bC : ∀ a, C a ≤ 9) (bF : ∀ a, F a < 8) (bG : ∀ a, G a < 8) (bT : ∀ i, T i ≤ 20) (bOR : ∀ i, OR i < 16) (bFN : ∀ a, a < K → F a < N ∧ G a < N) (bz : -2147483648 ≤ z ∧ z < 2147483648) (bk : -2147483648 ≤ k ∧ k < 2147483648) : Met l yX5_begins wsX5_begins (zR 4 0 0 94) (va_Pc [.ref g0, .int (iI z), .int (iI k)] (zP (dC, dI) [(cI, .int), (cJ, .long)] [(g0, .inr (5, [.ref h0, .ref p0, .ref k0, .ref u0, .ref r0])), (h0, .inr (0, [.ref a1, .ref a2, .ref a3, .ref a4, .int (nI N), .int (nI K)])), (a1, .inl (cI, 8, .inl (fun z_ => nI (T z_)))), (a2, .inl (cI, 16, .inl (fun z_ => nI (F z_)))), (a3, .inl (cI, 16, .inl (fun z_ => nI (G z_)))), (a4, .inl (cI, 16, .inl (fun z_ => nI (C z_)))), (k0, .inr (4, [.ref h0, .ref k1, .ref k2, .int (nI od), .int (nI ab)])), (k1, .inl (cI, 488, .inl (fun z_ => iI (BE z_)))), (k2, .inl (cI, 16, .inl (fun z_ => nI (OR z_))))] sz nwA)) (va_Qi (fun (r : Int32) (u : (Int) × (Nat → Int) × (Nat → Nat) × (Nat) × (Nat)) => r = (iI u.1) ∧ (u.1 = if 0 ≤ z ∧ z < (N : Int) then (if 0 ≤ k ∧ k ≤ 60 then sp_V N K T F G C k.toNat z.toNat else -2) else -1) ∧ (∀ i, u.2.2.1 i < 16)) (zB (dC, dI) (fun (u : (Int) × (Nat → Int) × (Nat → Nat) × (Nat) × (Nat)) => [(g0, .inr (5, [.ref h0, .ref p0, .ref k0, .ref u0, .ref r0])), (h0, .inr (0, [.ref a1, .ref a2, .ref a3, .ref a4, .int (nI N), .int (nI K)])), (a1, .inl (cI, 8, .inl (fun z_ => nI (T z_)))), (a2, .inl (cI, 16, .inl (fun z_ => nI (F z_)))), (a3, .inl (cI, 16, .inl (fun z_ => nI (G z_)))), (a4, .inl (cI, 16, .inl (fun z_ => nI (C z_)))), (k0, .inr (4, [.ref h0, .ref k1, .ref k2, .int (nI u.2.2.2.1), .int (nI u.2.2.2.2)])), (k1, .inl (cI, 488, .inl (fun z_ => iI (u.2.1 z_)))), (k2, .inl (cI, 16, .inl (fun z_ => nI (u.2.2.1 z_))))]) (va_A [(g0, .inr (5, [.ref h0, .ref p0, .ref k0, .ref u0, .ref r0])), (h0, .inr (0, [.ref a1, .ref a2, .ref a3, .ref a4, .int (nI N), .int (nI K)])), (a1, .inl (cI, 8, .inl (fun z_ => nI (T z_)))), (a2, .inl (cI, 16, .inl (fun z_ => nI (F z_)))), (a3, .inl (cI, 16, .inl (fun z_ => nI (G z_)))), (a4, .inl (cI, 16, .inl (fun z_ => nI (C z_)))), (k0, .inr (4, [.ref h0, .ref k1, .ref k2, .int (nI od), .int (nI ab)])), (k1, .inl (cI, 488, .inl (fun z_ => iI (BE z_)))), (k2, .inl (cI, 16, .inl (fun z_ => nI (OR z_))))] sz)) (va_A [(g0, .inr (5, [.ref h0, .ref p0, .ref k0, .ref u0, .ref r0])), (h0, .inr (0, [.ref a1, .ref a2, .ref a3, .ref a4, .int (nI N), .int (nI K)])), (a1, .inl (cI, 8, .inl (fun z_ => nI (T z_)))), (a2, .inl (cI, 16, .inl (fun z_ => nI (F z_)))), (a3, .inl (cI, 16, .inl (fun z_ => nI (G z_)))), (a4, .inl (cI, 16, .inl (fun z_ => nI (C z_)))), (k0, .inr (4, [.ref h0, .ref k1, .ref k2, .int (nI od), .int (nI ab)])), (k1, .inl (cI, 488, .inl (fun z_ => iI (BE z_)))), (k2, .inl (cI, 16, .inl (fun z_ => nI (OR z_))))] sz)) 0 0 (va_A [(g0, .inr (5, [.ref h0, .ref p0, .ref k0, .ref u0, .ref r0])), (h0, .inr (0, [.ref a1, .ref a2, .ref a3, .ref a4, .int (nI N), .int (nI K)])), (a1, .inl (cI, 8, .inl (fun z_ => nI (T z_)))), (a2, .inl (cI, 16, .inl (fun z_ => nI (F z_)))), (a3, .inl (cI, 16, .inl (fun z_ => nI (G z_)))), (a4, .inl (cI, 16, .inl (fun z_ => nI (C z_)))), (k0, .inr (4, [.ref h0, .ref k1, .ref k2, .int (nI od), .int (nI ab)])), (k1, .inl (cI, 488, .inl (fun z_ => iI (BE z_)))), (k2, .inl (cI, 16, .inl (fun z_ => nI (OR z_))))] sz) := by
  refine z_met_i (cc := cX5_begins) (maxL := 3) (by decide) rfl (Nat.le_of_ble_eq_true rfl) ?_
  intro p e s m args below meth c Q A ls hx hb hml hown hts hin hA hK hP hD hN hl hRET
  have hown : s.vm.findClass RX5 = some m.cls := hown
  obtain ⟨H, eH⟩ : ∃ H : Heap, H = s.heap := ⟨_, rfl⟩
  rw [← eH] at hP
  obtain ⟨locs, eL⟩ : ∃ z : List Loc, z = [] := ⟨_, rfl⟩
  rw [← eH, ← eL]
  have hS : va_S A s.heap H locs := by rw [eH, eL]; exact va_S.rf
  have hl : lv_has ls 3 [(0, .ref g0), (1, .int (iI z)), (2, .int (iI k))] := hl
  have w10 := hts (.fieldLink RX5 10 "PullCards" "line" "LPullCards$Line;") (by decide +kernel)
  have uX5 : ∀ w ∈ wsX50, w ∈ wsX5_begins := by decide +kernel
  have w28 := hts (.fieldLink RX5 28 "PullCards" "works" "LPullCards$Works;") (by decide +kernel)
  refine lv_aload_n hx hb dX5_begins_0 rfl (lv_at hl 0 rfl) ?_
  refine z_get (D := (dC, dI)) (ci := 5) (v := .ref h0) (C := RX5) (T := TX5) (N := 5) hx hb hts uX5 hown hK hP 0 rfl rfl 0 (by decide) w10 rfl rfl dX5_begins_1 ?_
  refine lv_iload_n hx hb dX5_begins_4 rfl (lv_at hl 1 rfl) ?_
  refine z_callVi (As := [.int (iI z)]) (rest := []) (wr := [(g0, .inr (5, [.ref h0, .ref p0, .ref k0, .ref u0, .ref r0])), (k0, .inr (4, [.ref h0, .ref k1, .ref k2, .int (nI od), .int (nI ab)])), (k1, .inl (cI, 488, .inl (fun z_ => iI (BE z_)))), (k2, .inl (cI, 16, .inl (fun z_ => nI (OR z_))))]) ⟨hx, hb, hml, hown, hts⟩ (c_X0_hasStation l dC dI cI cJ H.size h0 a1 a2 a3 a4 N K T F G C z (by first | assumption | omega) (by first | assumption | omega) (by first | assumption | omega)) (cwV 1 hts gX5_begins_X0_hasStation rfl rfl rfl (by decide +kernel) ⟨Nat.le_of_ble_eq_true rfl, Nat.le_of_ble_eq_true rfl⟩) hA hK hP hD hS [1, 2, 3, 4, 5] [0, 6, 7, 8] [0, 4, 5, 6, 7, 8, 1, 2, 3] rfl rfl (by decide) (by decide) (by decide) nwA_ok hN (ci := 0) rfl rfl 1 rfl hl.1 (Nat.le_of_ble_eq_true rfl) ⟨Nat.le_refl _, Nat.le_refl _⟩ rfl rfl dX5_begins_5 (fun (u : (Nat)) => [(g0, .inr (5, [.ref h0, .ref p0, .ref k0, .ref u0, .ref r0])), (h0, .inr (0, [.ref a1, .ref a2, .ref a3, .ref a4, .int (nI N), .int (nI K)])), (a1, .inl (cI, 8, .inl (fun z_ => nI (T z_)))), (a2, .inl (cI, 16, .inl (fun z_ => nI (F z_)))), (a3, .inl (cI, 16, .inl (fun z_ => nI (G z_)))), (a4, .inl (cI, 16, .inl (fun z_ => nI (C z_)))), (k0, .inr (4, [.ref h0, .ref k1, .ref k2, .int (nI od), .int (nI ab)])), (k1, .inl (cI, 488, .inl (fun z_ => iI (BE z_)))), (k2, .inl (cI, 16, .inl (fun z_ => nI (OR z_))))]) (fun u => rfl) (by decide) (fun r_5 u H locs hw hP hD hS => ?_)
  obtain ⟨rv_5, eu⟩ : ∃ z, z = u := ⟨_, rfl⟩
  subst eu
  have hP : va_P (dC, dI) vwCl [(g0, .inr (5, [.ref h0, .ref p0, .ref k0, .ref u0, .ref r0])), (h0, .inr (0, [.ref a1, .ref a2, .ref a3, .ref a4, .int (nI N), .int (nI K)])), (a1, .inl (cI, 8, .inl (fun z_ => nI (T z_)))), (a2, .inl (cI, 16, .inl (fun z_ => nI (F z_)))), (a3, .inl (cI, 16, .inl (fun z_ => nI (G z_)))), (a4, .inl (cI, 16, .inl (fun z_ => nI (C z_)))), (k0, .inr (4, [.ref h0, .ref k1, .ref k2, .int (nI od), .int (nI ab)])), (k1, .inl (cI, 488, .inl (fun z_ => iI (BE z_)))), (k2, .inl (cI, 16, .inl (fun z_ => nI (OR z_))))] H := hP
  have hD : va_D A [(g0, .inr (5, [.ref h0, .ref p0, .ref k0, .ref u0, .ref r0])), (h0, .inr (0, [.ref a1, .ref a2, .ref a3, .ref a4, .int (nI N), .int (nI K)])), (a1, .inl (cI, 8, .inl (fun z_ => nI (T z_)))), (a2, .inl (cI, 16, .inl (fun z_ => nI (F z_)))), (a3, .inl (cI, 16, .inl (fun z_ => nI (G z_)))), (a4, .inl (cI, 16, .inl (fun z_ => nI (C z_)))), (k0, .inr (4, [.ref h0, .ref k1, .ref k2, .int (nI od), .int (nI ab)])), (k1, .inl (cI, 488, .inl (fun z_ => iI (BE z_)))), (k2, .inl (cI, 16, .inl (fun z_ => nI (OR z_))))] := hD
  obtain ⟨er, p5_0⟩ := hw
  have p5_0 : (rv_5 = 1 ∧ (0 ≤ z ∧ z < (N : Int))) ∨ (rv_5 = 0 ∧ ¬ (0 ≤ z ∧ z < (N : Int))) := p5_0
  have er : r_5 = (nI rv_5) := er
  subst er
  rcases p5_0 with ⟨h5, c_5⟩ | ⟨h5, c_5⟩
  · skip
    subst h5
    refine lv_if_ne (tgt := 13) hx hb dX5_begins_8 (by decide) (fun _ => ?_) (fun c_x => absurd c_x (by decide))
    refine lv_iload_n hx hb dX5_begins_13 rfl (lv_at hl 2 rfl) ?_
    refine lv_iconst (v := nI 0) hx hb dX5_begins_14 (by decide) ?_
    refine lv_bipush (v := nI 60) hx hb dX5_begins_15 (by decide) ?_
    refine z_c0 (v := iI 60) (by decide) ?_
    refine z_c1 (v := iI 0) (by decide) ?_
    refine z_callSi (As := [.int (iI k), .int (iI 0), .int (iI 60)]) (rest := []) (wr := [(g0, .inr (5, [.ref h0, .ref p0, .ref k0, .ref u0, .ref r0])), (h0, .inr (0, [.ref a1, .ref a2, .ref a3, .ref a4, .int (nI N), .int (nI K)])), (a1, .inl (cI, 8, .inl (fun z_ => nI (T z_)))), (a2, .inl (cI, 16, .inl (fun z_ => nI (F z_)))), (a3, .inl (cI, 16, .inl (fun z_ => nI (G z_)))), (a4, .inl (cI, 16, .inl (fun z_ => nI (C z_)))), (k0, .inr (4, [.ref h0, .ref k1, .ref k2, .int (nI od), .int (nI ab)])), (k1, .inl (cI, 488, .inl (fun z_ => iI (BE z_)))), (k2, .inl (cI, 16, .inl (fun z_ => nI (OR z_))))]) ⟨hx, hb, hml, hown, hts⟩ (c_X5_within l dC dI cI cJ H.size k (0 : Int) (60 : Int) (by first | assumption | omega) (by first | assumption | omega) (by first | assumption | omega)) (va_cwS 3 hts gX5_begins_X5_within rfl rfl rfl (by decide +kernel) ⟨Nat.le_of_ble_eq_true rfl, Nat.le_of_ble_eq_true rfl⟩) hA hK hP hD hS [] [0, 1, 2, 3, 4, 5, 6, 7, 8] [0, 1, 2, 3, 4, 5, 6, 7, 8] rfl rfl (by decide) (by decide) (by decide) nwA_ok hN hl.1 (Nat.le_of_ble_eq_true rfl) ⟨Nat.le_refl _, Nat.le_refl _⟩ rfl rfl dX5_begins_17 (fun (u : (Nat)) => [(g0, .inr (5, [.ref h0, .ref p0, .ref k0, .ref u0, .ref r0])), (h0, .inr (0, [.ref a1, .ref a2, .ref a3, .ref a4, .int (nI N), .int (nI K)])), (a1, .inl (cI, 8, .inl (fun z_ => nI (T z_)))), (a2, .inl (cI, 16, .inl (fun z_ => nI (F z_)))), (a3, .inl (cI, 16, .inl (fun z_ => nI (G z_)))), (a4, .inl (cI, 16, .inl (fun z_ => nI (C z_)))), (k0, .inr (4, [.ref h0, .ref k1, .ref k2, .int (nI od), .int (nI ab)])), (k1, .inl (cI, 488, .inl (fun z_ => iI (BE z_)))), (k2, .inl (cI, 16, .inl (fun z_ => nI (OR z_))))]) (fun u => rfl) (by decide) (fun r_17 u H locs hw hP hD hS => ?_)
    obtain ⟨rv_17, eu⟩ : ∃ z, z = u := ⟨_, rfl⟩
    subst eu
    have hP : va_P (dC, dI) vwCl [(g0, .inr (5, [.ref h0, .ref p0, .ref k0, .ref u0, .ref r0])), (h0, .inr (0, [.ref a1, .ref a2, .ref a3, .ref a4, .int (nI N), .int (nI K)])), (a1, .inl (cI, 8, .inl (fun z_ => nI (T z_)))), (a2, .inl (cI, 16, .inl (fun z_ => nI (F z_)))), (a3, .inl (cI, 16, .inl (fun z_ => nI (G z_)))), (a4, .inl (cI, 16, .inl (fun z_ => nI (C z_)))), (k0, .inr (4, [.ref h0, .ref k1, .ref k2, .int (nI od), .int (nI ab)])), (k1, .inl (cI, 488, .inl (fun z_ => iI (BE z_)))), (k2, .inl (cI, 16, .inl (fun z_ => nI (OR z_))))] H := hP
    have hD : va_D A [(g0, .inr (5, [.ref h0, .ref p0, .ref k0, .ref u0, .ref r0])), (h0, .inr (0, [.ref a1, .ref a2, .ref a3, .ref a4, .int (nI N), .int (nI K)])), (a1, .inl (cI, 8, .inl (fun z_ => nI (T z_)))), (a2, .inl (cI, 16, .inl (fun z_ => nI (F z_)))), (a3, .inl (cI, 16, .inl (fun z_ => nI (G z_)))), (a4, .inl (cI, 16, .inl (fun z_ => nI (C z_)))), (k0, .inr (4, [.ref h0, .ref k1, .ref k2, .int (nI od), .int (nI ab)])), (k1, .inl (cI, 488, .inl (fun z_ => iI (BE z_)))), (k2, .inl (cI, 16, .inl (fun z_ => nI (OR z_))))] := hD
    obtain ⟨er, p17_0⟩ := hw
    have p17_0 : (rv_17 = 1 ∧ ((0 : Int) ≤ k ∧ k ≤ (60 : Int))) ∨ (rv_17 = 0 ∧ ¬ ((0 : Int) ≤ k ∧ k ≤ (60 : Int))) := p17_0
    have er : r_17 = (nI rv_17) := er
    subst er
    rcases p17_0 with ⟨h17, c_17⟩ | ⟨h17, c_17⟩
    · skip
      subst h17
      refine lv_if_ne (tgt := 26) hx hb dX5_begins_20 (by decide) (fun _ => ?_) (fun c_x => absurd c_x (by decide))
      refine lv_aload_n hx hb dX5_begins_26 rfl (lv_at hl 0 rfl) ?_
      refine z_get (D := (dC, dI)) (ci := 5) (v := .ref k0) (C := RX5) (T := TX5) (N := 5) hx hb hts uX5 hown hK hP 0 rfl rfl 2 (by decide) w28 rfl rfl dX5_begins_27 ?_
      refine lv_iload_n hx hb dX5_begins_30 rfl (lv_at hl 1 rfl) ?_
      refine lv_iload_n hx hb dX5_begins_31 rfl (lv_at hl 2 rfl) ?_
      refine z_c0 (v := nI k.toNat) (z_ZtoN (by first | assumption | omega)) ?_
      refine z_c1 (v := nI z.toNat) (z_ZtoN (by first | assumption | omega)) ?_
      refine z_callVi (As := [.int (nI z.toNat), .int (nI k.toNat)]) (rest := []) (wr := [(g0, .inr (5, [.ref h0, .ref p0, .ref k0, .ref u0, .ref r0]))]) ⟨hx, hb, hml, hown, hts⟩ (c_X4_beginning l dC dI cI cJ H.size k0 k1 k2 BE OR od ab h0 a1 a2 a3 a4 N K T F G C z.toNat k.toNat (by first | assumption | omega) (by first | assumption | omega) (by first | assumption | omega) (by first | assumption | omega) (by first | assumption | omega) (by first | assumption | omega) (by first | assumption | omega) (by first | assumption | omega) (by first | assumption | omega) (by first | assumption | omega)) (cwV 2 hts gX5_begins_X4_beginning rfl rfl rfl (by decide +kernel) ⟨Nat.le_of_ble_eq_true rfl, Nat.le_of_ble_eq_true rfl⟩) hA hK hP hD hS [6, 7, 8, 1, 2, 3, 4, 5] [0] [0, 4, 5, 6, 7, 8, 1, 2, 3] rfl rfl (by decide) (by decide) (by decide) nwA_ok hN (ci := 4) rfl rfl 6 rfl hl.1 (Nat.le_of_ble_eq_true rfl) ⟨Nat.le_refl _, Nat.le_refl _⟩ rfl rfl dX5_begins_32 (fun (u : (Int) × (Nat → Int) × (Nat → Nat) × (Nat) × (Nat)) => [(g0, .inr (5, [.ref h0, .ref p0, .ref k0, .ref u0, .ref r0])), (h0, .inr (0, [.ref a1, .ref a2, .ref a3, .ref a4, .int (nI N), .int (nI K)])), (a1, .inl (cI, 8, .inl (fun z_ => nI (T z_)))), (a2, .inl (cI, 16, .inl (fun z_ => nI (F z_)))), (a3, .inl (cI, 16, .inl (fun z_ => nI (G z_)))), (a4, .inl (cI, 16, .inl (fun z_ => nI (C z_)))), (k0, .inr (4, [.ref h0, .ref k1, .ref k2, .int (nI u.2.2.2.1), .int (nI u.2.2.2.2)])), (k1, .inl (cI, 488, .inl (fun z_ => iI (u.2.1 z_)))), (k2, .inl (cI, 16, .inl (fun z_ => nI (u.2.2.1 z_))))]) (fun u => rfl) (by decide) (fun r_32 u H locs hw hP hD hS => ?_)
      obtain ⟨rv_32, BE2_32, OR2_32, od2_32, ab2_32⟩ := u
      have hP : va_P (dC, dI) vwCl [(g0, .inr (5, [.ref h0, .ref p0, .ref k0, .ref u0, .ref r0])), (h0, .inr (0, [.ref a1, .ref a2, .ref a3, .ref a4, .int (nI N), .int (nI K)])), (a1, .inl (cI, 8, .inl (fun z_ => nI (T z_)))), (a2, .inl (cI, 16, .inl (fun z_ => nI (F z_)))), (a3, .inl (cI, 16, .inl (fun z_ => nI (G z_)))), (a4, .inl (cI, 16, .inl (fun z_ => nI (C z_)))), (k0, .inr (4, [.ref h0, .ref k1, .ref k2, .int (nI od2_32), .int (nI ab2_32)])), (k1, .inl (cI, 488, .inl (fun z_ => iI (BE2_32 z_)))), (k2, .inl (cI, 16, .inl (fun z_ => nI (OR2_32 z_))))] H := hP
      have hD : va_D A [(g0, .inr (5, [.ref h0, .ref p0, .ref k0, .ref u0, .ref r0])), (h0, .inr (0, [.ref a1, .ref a2, .ref a3, .ref a4, .int (nI N), .int (nI K)])), (a1, .inl (cI, 8, .inl (fun z_ => nI (T z_)))), (a2, .inl (cI, 16, .inl (fun z_ => nI (F z_)))), (a3, .inl (cI, 16, .inl (fun z_ => nI (G z_)))), (a4, .inl (cI, 16, .inl (fun z_ => nI (C z_)))), (k0, .inr (4, [.ref h0, .ref k1, .ref k2, .int (nI od2_32), .int (nI ab2_32)])), (k1, .inl (cI, 488, .inl (fun z_ => iI (BE2_32 z_)))), (k2, .inl (cI, 16, .inl (fun z_ => nI (OR2_32 z_))))] := hD
      obtain ⟨er, p32_0, p32_1⟩ := hw
      have p32_0 : rv_32 = (sp_V N K T F G C) k.toNat z.toNat := p32_0
      have p32_1 : ∀ i, OR2_32 i < 16 := p32_1
      have er : r_32 = (iI rv_32) := er
      subst er
      have q_0 : rv_32 = if 0 ≤ z ∧ z < (N : Int) then (if 0 ≤ k ∧ k ≤ 60 then sp_V N K T F G C k.toNat z.toNat else -2) else -1 := by rw [if_pos (by omega), if_pos (by omega)]; exact p32_0
      have q_1 : ∀ i, OR2_32 i < 16 := by first | assumption | omega
      exact hRET _ ls H locs ((iI rv_32)) (rv_32, BE2_32, OR2_32, od2_32, ab2_32) dX5_begins_35 ⟨rfl, q_0, q_1⟩ hP hD hS
    · skip
      subst h17
      refine lv_if_ne (tgt := 26) hx hb dX5_begins_20 (by decide) (fun c_x => absurd c_x (by decide)) (fun _ => ?_)
      refine lv_bipush (v := iI (-2)) hx hb dX5_begins_23 (by decide) ?_
      have q_0 : (-2 : Int) = if 0 ≤ z ∧ z < (N : Int) then (if 0 ≤ k ∧ k ≤ 60 then sp_V N K T F G C k.toNat z.toNat else -2) else -1 := by repeat (first | rw [if_pos (by omega)] | rw [if_neg (by omega)])
      have q_1 : ∀ i, OR i < 16 := by first | assumption | omega
      exact hRET _ ls H locs ((iI (-2))) ((-2 : Int), BE, OR, od, ab) dX5_begins_25 ⟨rfl, q_0, q_1⟩ hP hD hS
  · skip
    subst h5
    refine lv_if_ne (tgt := 13) hx hb dX5_begins_8 (by decide) (fun c_x => absurd c_x (by decide)) (fun _ => ?_)
    refine lv_iconst (v := iI (-1)) hx hb dX5_begins_11 (by decide) ?_
    have q_0 : (-1 : Int) = if 0 ≤ z ∧ z < (N : Int) then (if 0 ≤ k ∧ k ≤ 60 then sp_V N K T F G C k.toNat z.toNat else -2) else -1 := by repeat (first | rw [if_pos (by omega)] | rw [if_neg (by omega)])
    have q_1 : ∀ i, OR i < 16 := by first | assumption | omega
    exact hRET _ ls H locs ((iI (-1))) ((-1 : Int), BE, OR, od, ab) dX5_begins_12 ⟨rfl, q_0, q_1⟩ hP hD hS

set_option maxHeartbeats 4000000 in
set_option maxRecDepth 100000 in
theorem c_X5_note (l : Launch) (dC : Nat → ClassId) (dI : Nat → Nat → Nat) (cI cJ : ClassId) (sz : Nat) (g0 : Nat) (h0 : Nat) (p0 : Nat) (k0 : Nat) (u0 : Nat) (r0 : Nat) (a1 : Nat) (a2 : Nat) (a3 : Nat) (a4 : Nat) (N : Nat) (K : Nat) (T : Nat → Nat) (F : Nat → Nat) (G : Nat → Nat) (C : Nat → Nat) (p1 : Nat) (p2 : Nat) (p3 : Nat) (p4 : Nat) (RW : Nat → Nat) (LE : Nat → Nat) (PA : Nat → Nat) (NC : Nat → Nat) (mn : Nat) (ns : Nat) (LS : List (List Nat)) (hh : sp_hold LS mn RW LE) : Met l yX5_note wsX5_note (zR 2 0 0 80) (va_Pc [.ref g0] (zP (dC, dI) [(cI, .int), (cJ, .long)] [(g0, .inr (5, [.ref h0, .ref p0, .ref k0, .ref u0, .ref r0])), (h0, .inr (0, [.ref a1, .ref a2, .ref a3, .ref a4, .int (nI N), .int (nI K)])), (a1, .inl (cI, 8, .inl (fun z_ => nI (T z_)))), (a2, .inl (cI, 16, .inl (fun z_ => nI (F z_)))), (a3, .inl (cI, 16, .inl (fun z_ => nI (G z_)))), (a4, .inl (cI, 16, .inl (fun z_ => nI (C z_)))), (p0, .inr (1, [.ref h0, .ref p1, .ref p2, .ref p3, .int (nI mn), .ref p4, .int (nI ns)])), (p1, .inl (cI, 5088, .inl (fun z_ => nI (RW z_)))), (p2, .inl (cI, 636, .inl (fun z_ => nI (LE z_)))), (p3, .inl (cI, 8, .inl (fun z_ => nI (PA z_)))), (p4, .inl (cI, 16, .inl (fun z_ => nI (NC z_))))] sz nwA)) (va_Qi (fun (r : Int32) (u : Unit) => r = (nI mn) ∧ (mn = LS.length)) (zB (dC, dI) (fun (u : Unit) => [(g0, .inr (5, [.ref h0, .ref p0, .ref k0, .ref u0, .ref r0])), (h0, .inr (0, [.ref a1, .ref a2, .ref a3, .ref a4, .int (nI N), .int (nI K)])), (a1, .inl (cI, 8, .inl (fun z_ => nI (T z_)))), (a2, .inl (cI, 16, .inl (fun z_ => nI (F z_)))), (a3, .inl (cI, 16, .inl (fun z_ => nI (G z_)))), (a4, .inl (cI, 16, .inl (fun z_ => nI (C z_)))), (p0, .inr (1, [.ref h0, .ref p1, .ref p2, .ref p3, .int (nI mn), .ref p4, .int (nI 1)])), (p1, .inl (cI, 5088, .inl (fun z_ => nI (RW z_)))), (p2, .inl (cI, 636, .inl (fun z_ => nI (LE z_)))), (p3, .inl (cI, 8, .inl (fun z_ => nI (PA z_)))), (p4, .inl (cI, 16, .inl (fun z_ => nI ((sp_cpy 16 C NC) z_))))]) (va_A [(g0, .inr (5, [.ref h0, .ref p0, .ref k0, .ref u0, .ref r0])), (h0, .inr (0, [.ref a1, .ref a2, .ref a3, .ref a4, .int (nI N), .int (nI K)])), (a1, .inl (cI, 8, .inl (fun z_ => nI (T z_)))), (a2, .inl (cI, 16, .inl (fun z_ => nI (F z_)))), (a3, .inl (cI, 16, .inl (fun z_ => nI (G z_)))), (a4, .inl (cI, 16, .inl (fun z_ => nI (C z_)))), (p0, .inr (1, [.ref h0, .ref p1, .ref p2, .ref p3, .int (nI mn), .ref p4, .int (nI ns)])), (p1, .inl (cI, 5088, .inl (fun z_ => nI (RW z_)))), (p2, .inl (cI, 636, .inl (fun z_ => nI (LE z_)))), (p3, .inl (cI, 8, .inl (fun z_ => nI (PA z_)))), (p4, .inl (cI, 16, .inl (fun z_ => nI (NC z_))))] sz)) (va_A [(g0, .inr (5, [.ref h0, .ref p0, .ref k0, .ref u0, .ref r0])), (h0, .inr (0, [.ref a1, .ref a2, .ref a3, .ref a4, .int (nI N), .int (nI K)])), (a1, .inl (cI, 8, .inl (fun z_ => nI (T z_)))), (a2, .inl (cI, 16, .inl (fun z_ => nI (F z_)))), (a3, .inl (cI, 16, .inl (fun z_ => nI (G z_)))), (a4, .inl (cI, 16, .inl (fun z_ => nI (C z_)))), (p0, .inr (1, [.ref h0, .ref p1, .ref p2, .ref p3, .int (nI mn), .ref p4, .int (nI ns)])), (p1, .inl (cI, 5088, .inl (fun z_ => nI (RW z_)))), (p2, .inl (cI, 636, .inl (fun z_ => nI (LE z_)))), (p3, .inl (cI, 8, .inl (fun z_ => nI (PA z_)))), (p4, .inl (cI, 16, .inl (fun z_ => nI (NC z_))))] sz)) 0 0 (va_A [(g0, .inr (5, [.ref h0, .ref p0, .ref k0, .ref u0, .ref r0])), (h0, .inr (0, [.ref a1, .ref a2, .ref a3, .ref a4, .int (nI N), .int (nI K)])), (a1, .inl (cI, 8, .inl (fun z_ => nI (T z_)))), (a2, .inl (cI, 16, .inl (fun z_ => nI (F z_)))), (a3, .inl (cI, 16, .inl (fun z_ => nI (G z_)))), (a4, .inl (cI, 16, .inl (fun z_ => nI (C z_)))), (p0, .inr (1, [.ref h0, .ref p1, .ref p2, .ref p3, .int (nI mn), .ref p4, .int (nI ns)])), (p1, .inl (cI, 5088, .inl (fun z_ => nI (RW z_)))), (p2, .inl (cI, 636, .inl (fun z_ => nI (LE z_)))), (p3, .inl (cI, 8, .inl (fun z_ => nI (PA z_)))), (p4, .inl (cI, 16, .inl (fun z_ => nI (NC z_))))] sz) := by
  refine z_met_i (cc := cX5_note) (maxL := 1) (by decide) rfl (Nat.le_of_ble_eq_true rfl) ?_
  intro p e s m args below meth c Q A ls hx hb hml hown hts hin hA hK hP hD hN hl hRET
  have hown : s.vm.findClass RX5 = some m.cls := hown
  obtain ⟨H, eH⟩ : ∃ H : Heap, H = s.heap := ⟨_, rfl⟩
  rw [← eH] at hP
  obtain ⟨locs, eL⟩ : ∃ z : List Loc, z = [] := ⟨_, rfl⟩
  rw [← eH, ← eL]
  have hS : va_S A s.heap H locs := by rw [eH, eL]; exact va_S.rf
  have hl : lv_has ls 1 [(0, .ref g0)] := hl
  have w21 := hts (.fieldLink RX5 21 "PullCards" "loops" "LPullCards$Loops;") (by decide +kernel)
  have uX5 : ∀ w ∈ wsX50, w ∈ wsX5_note := by decide +kernel
  have w105 := hts (.fieldLink RX5 105 "PullCards$Loops" "many" "I") (by decide +kernel)
  have uX1 : ∀ w ∈ wsX10, w ∈ wsX5_note := by decide +kernel
  refine lv_aload_n hx hb dX5_note_0 rfl (lv_at hl 0 rfl) ?_
  refine z_get (D := (dC, dI)) (ci := 5) (v := .ref p0) (C := RX5) (T := TX5) (N := 5) hx hb hts uX5 hown hK hP 0 rfl rfl 1 (by decide) w21 rfl rfl dX5_note_1 ?_
  refine z_callVv (As := []) (rest := []) (wr := [(g0, .inr (5, [.ref h0, .ref p0, .ref k0, .ref u0, .ref r0]))]) ⟨hx, hb, hml, hown, hts⟩ (c_X1_takeNote l dC dI cI cJ H.size p0 p1 p2 p3 p4 h0 RW LE PA NC mn ns a1 a2 a3 a4 N K T F G C ) (cwV 0 hts gX5_note_X1_takeNote rfl rfl rfl (by decide +kernel) ⟨Nat.le_of_ble_eq_true rfl, Nat.le_of_ble_eq_true rfl⟩) hA hK hP hD hS [6, 7, 8, 9, 10, 1, 2, 3, 4, 5] [0] [0, 6, 7, 8, 9, 10, 1, 2, 3, 4, 5] rfl rfl (by decide) (by decide) (by decide) nwA_ok hN (ci := 1) rfl rfl 6 rfl hl.1 (Nat.le_of_ble_eq_true rfl) ⟨Nat.le_refl _, Nat.le_refl _⟩ rfl rfl dX5_note_4 (fun (u : Unit) => [(g0, .inr (5, [.ref h0, .ref p0, .ref k0, .ref u0, .ref r0])), (h0, .inr (0, [.ref a1, .ref a2, .ref a3, .ref a4, .int (nI N), .int (nI K)])), (a1, .inl (cI, 8, .inl (fun z_ => nI (T z_)))), (a2, .inl (cI, 16, .inl (fun z_ => nI (F z_)))), (a3, .inl (cI, 16, .inl (fun z_ => nI (G z_)))), (a4, .inl (cI, 16, .inl (fun z_ => nI (C z_)))), (p0, .inr (1, [.ref h0, .ref p1, .ref p2, .ref p3, .int (nI mn), .ref p4, .int (nI 1)])), (p1, .inl (cI, 5088, .inl (fun z_ => nI (RW z_)))), (p2, .inl (cI, 636, .inl (fun z_ => nI (LE z_)))), (p3, .inl (cI, 8, .inl (fun z_ => nI (PA z_)))), (p4, .inl (cI, 16, .inl (fun z_ => nI ((sp_cpy 16 C NC) z_))))]) (fun u => rfl) (by decide) (fun u H locs hw hP hD hS => ?_)
  have hP : va_P (dC, dI) vwCl [(g0, .inr (5, [.ref h0, .ref p0, .ref k0, .ref u0, .ref r0])), (h0, .inr (0, [.ref a1, .ref a2, .ref a3, .ref a4, .int (nI N), .int (nI K)])), (a1, .inl (cI, 8, .inl (fun z_ => nI (T z_)))), (a2, .inl (cI, 16, .inl (fun z_ => nI (F z_)))), (a3, .inl (cI, 16, .inl (fun z_ => nI (G z_)))), (a4, .inl (cI, 16, .inl (fun z_ => nI (C z_)))), (p0, .inr (1, [.ref h0, .ref p1, .ref p2, .ref p3, .int (nI mn), .ref p4, .int (nI 1)])), (p1, .inl (cI, 5088, .inl (fun z_ => nI (RW z_)))), (p2, .inl (cI, 636, .inl (fun z_ => nI (LE z_)))), (p3, .inl (cI, 8, .inl (fun z_ => nI (PA z_)))), (p4, .inl (cI, 16, .inl (fun z_ => nI ((sp_cpy 16 C NC) z_))))] H := hP
  have hD : va_D A [(g0, .inr (5, [.ref h0, .ref p0, .ref k0, .ref u0, .ref r0])), (h0, .inr (0, [.ref a1, .ref a2, .ref a3, .ref a4, .int (nI N), .int (nI K)])), (a1, .inl (cI, 8, .inl (fun z_ => nI (T z_)))), (a2, .inl (cI, 16, .inl (fun z_ => nI (F z_)))), (a3, .inl (cI, 16, .inl (fun z_ => nI (G z_)))), (a4, .inl (cI, 16, .inl (fun z_ => nI (C z_)))), (p0, .inr (1, [.ref h0, .ref p1, .ref p2, .ref p3, .int (nI mn), .ref p4, .int (nI 1)])), (p1, .inl (cI, 5088, .inl (fun z_ => nI (RW z_)))), (p2, .inl (cI, 636, .inl (fun z_ => nI (LE z_)))), (p3, .inl (cI, 8, .inl (fun z_ => nI (PA z_)))), (p4, .inl (cI, 16, .inl (fun z_ => nI ((sp_cpy 16 C NC) z_))))] := hD
  refine lv_aload_n hx hb dX5_note_7 rfl (lv_at hl 0 rfl) ?_
  refine z_get (D := (dC, dI)) (ci := 5) (v := .ref p0) (C := RX5) (T := TX5) (N := 5) hx hb hts uX5 hown hK hP 0 rfl rfl 1 (by decide) w21 rfl rfl dX5_note_8 ?_
  refine z_get (D := (dC, dI)) (ci := 1) (v := .int (nI mn)) (C := RX1) (T := TX1) (N := 7) hx hb hts uX1 hown hK hP 6 rfl rfl 4 (by decide) w105 rfl rfl dX5_note_11 ?_
  have q_0 : mn = LS.length := by exact hh.1
  exact hRET _ ls H locs ((nI mn)) () dX5_note_14 ⟨rfl, q_0⟩ hP hD hS

set_option maxHeartbeats 4000000 in
set_option maxRecDepth 100000 in
theorem c_X5_audit (l : Launch) (dC : Nat → ClassId) (dI : Nat → Nat → Nat) (cI cJ : ClassId) (sz : Nat) (g0 : Nat) (h0 : Nat) (p0 : Nat) (k0 : Nat) (u0 : Nat) (r0 : Nat) (a1 : Nat) (a2 : Nat) (a3 : Nat) (a4 : Nat) (N : Nat) (K : Nat) (T : Nat → Nat) (F : Nat → Nat) (G : Nat → Nat) (C : Nat → Nat) (p1 : Nat) (p2 : Nat) (p3 : Nat) (p4 : Nat) (RW : Nat → Nat) (LE : Nat → Nat) (PA : Nat → Nat) (NC : Nat → Nat) (mn : Nat) (ns : Nat) (LS : List (List Nat)) (lt : Nat) (bmn : mn ≤ 636) (hh : sp_hold LS mn RW LE) (bRW : ∀ i, RW i < 16) (bLE : ∀ i, LE i ≤ 8) (bC : ∀ a, C a ≤ 9) (bNC : ∀ a, NC a ≤ 9) (blt : lt ≤ 1) (bns : ns ≤ 1) : Met l yX5_audit wsX5_audit (zR 2 0 0 48) (va_Pc [.ref g0, .int (nI lt)] (zP (dC, dI) [(cI, .int), (cJ, .long)] [(g0, .inr (5, [.ref h0, .ref p0, .ref k0, .ref u0, .ref r0])), (h0, .inr (0, [.ref a1, .ref a2, .ref a3, .ref a4, .int (nI N), .int (nI K)])), (a1, .inl (cI, 8, .inl (fun z_ => nI (T z_)))), (a2, .inl (cI, 16, .inl (fun z_ => nI (F z_)))), (a3, .inl (cI, 16, .inl (fun z_ => nI (G z_)))), (a4, .inl (cI, 16, .inl (fun z_ => nI (C z_)))), (p0, .inr (1, [.ref h0, .ref p1, .ref p2, .ref p3, .int (nI mn), .ref p4, .int (nI ns)])), (p1, .inl (cI, 5088, .inl (fun z_ => nI (RW z_)))), (p2, .inl (cI, 636, .inl (fun z_ => nI (LE z_)))), (p3, .inl (cI, 8, .inl (fun z_ => nI (PA z_)))), (p4, .inl (cI, 16, .inl (fun z_ => nI (NC z_))))] sz nwA)) (va_Qi (fun (r : Int32) (u : (Int)) => r = (iI u) ∧ (u = if ns = 0 then -3 else (sp_adt lt C NC LS : Int))) (zB (dC, dI) (fun (u : (Int)) => [(g0, .inr (5, [.ref h0, .ref p0, .ref k0, .ref u0, .ref r0])), (h0, .inr (0, [.ref a1, .ref a2, .ref a3, .ref a4, .int (nI N), .int (nI K)])), (a1, .inl (cI, 8, .inl (fun z_ => nI (T z_)))), (a2, .inl (cI, 16, .inl (fun z_ => nI (F z_)))), (a3, .inl (cI, 16, .inl (fun z_ => nI (G z_)))), (a4, .inl (cI, 16, .inl (fun z_ => nI (C z_)))), (p0, .inr (1, [.ref h0, .ref p1, .ref p2, .ref p3, .int (nI mn), .ref p4, .int (nI ns)])), (p1, .inl (cI, 5088, .inl (fun z_ => nI (RW z_)))), (p2, .inl (cI, 636, .inl (fun z_ => nI (LE z_)))), (p3, .inl (cI, 8, .inl (fun z_ => nI (PA z_)))), (p4, .inl (cI, 16, .inl (fun z_ => nI (NC z_))))]) (va_A [(g0, .inr (5, [.ref h0, .ref p0, .ref k0, .ref u0, .ref r0])), (h0, .inr (0, [.ref a1, .ref a2, .ref a3, .ref a4, .int (nI N), .int (nI K)])), (a1, .inl (cI, 8, .inl (fun z_ => nI (T z_)))), (a2, .inl (cI, 16, .inl (fun z_ => nI (F z_)))), (a3, .inl (cI, 16, .inl (fun z_ => nI (G z_)))), (a4, .inl (cI, 16, .inl (fun z_ => nI (C z_)))), (p0, .inr (1, [.ref h0, .ref p1, .ref p2, .ref p3, .int (nI mn), .ref p4, .int (nI ns)])), (p1, .inl (cI, 5088, .inl (fun z_ => nI (RW z_)))), (p2, .inl (cI, 636, .inl (fun z_ => nI (LE z_)))), (p3, .inl (cI, 8, .inl (fun z_ => nI (PA z_)))), (p4, .inl (cI, 16, .inl (fun z_ => nI (NC z_))))] sz)) (va_A [(g0, .inr (5, [.ref h0, .ref p0, .ref k0, .ref u0, .ref r0])), (h0, .inr (0, [.ref a1, .ref a2, .ref a3, .ref a4, .int (nI N), .int (nI K)])), (a1, .inl (cI, 8, .inl (fun z_ => nI (T z_)))), (a2, .inl (cI, 16, .inl (fun z_ => nI (F z_)))), (a3, .inl (cI, 16, .inl (fun z_ => nI (G z_)))), (a4, .inl (cI, 16, .inl (fun z_ => nI (C z_)))), (p0, .inr (1, [.ref h0, .ref p1, .ref p2, .ref p3, .int (nI mn), .ref p4, .int (nI ns)])), (p1, .inl (cI, 5088, .inl (fun z_ => nI (RW z_)))), (p2, .inl (cI, 636, .inl (fun z_ => nI (LE z_)))), (p3, .inl (cI, 8, .inl (fun z_ => nI (PA z_)))), (p4, .inl (cI, 16, .inl (fun z_ => nI (NC z_))))] sz)) 0 0 (va_A [(g0, .inr (5, [.ref h0, .ref p0, .ref k0, .ref u0, .ref r0])), (h0, .inr (0, [.ref a1, .ref a2, .ref a3, .ref a4, .int (nI N), .int (nI K)])), (a1, .inl (cI, 8, .inl (fun z_ => nI (T z_)))), (a2, .inl (cI, 16, .inl (fun z_ => nI (F z_)))), (a3, .inl (cI, 16, .inl (fun z_ => nI (G z_)))), (a4, .inl (cI, 16, .inl (fun z_ => nI (C z_)))), (p0, .inr (1, [.ref h0, .ref p1, .ref p2, .ref p3, .int (nI mn), .ref p4, .int (nI ns)])), (p1, .inl (cI, 5088, .inl (fun z_ => nI (RW z_)))), (p2, .inl (cI, 636, .inl (fun z_ => nI (LE z_)))), (p3, .inl (cI, 8, .inl (fun z_ => nI (PA z_)))), (p4, .inl (cI, 16, .inl (fun z_ => nI (NC z_))))] sz) := by
  refine z_met_i (cc := cX5_audit) (maxL := 2) (by decide) rfl (Nat.le_of_ble_eq_true rfl) ?_
  intro p e s m args below meth c Q A ls hx hb hml hown hts hin hA hK hP hD hN hl hRET
  have hown : s.vm.findClass RX5 = some m.cls := hown
  obtain ⟨H, eH⟩ : ∃ H : Heap, H = s.heap := ⟨_, rfl⟩
  rw [← eH] at hP
  obtain ⟨locs, eL⟩ : ∃ z : List Loc, z = [] := ⟨_, rfl⟩
  rw [← eH, ← eL]
  have hS : va_S A s.heap H locs := by rw [eH, eL]; exact va_S.rf
  have hl : lv_has ls 2 [(0, .ref g0), (1, .int (nI lt))] := hl
  have w21 := hts (.fieldLink RX5 21 "PullCards" "loops" "LPullCards$Loops;") (by decide +kernel)
  have uX5 : ∀ w ∈ wsX50, w ∈ wsX5_audit := by decide +kernel
  have w137 := hts (.fieldLink RX5 137 "PullCards$Loops" "noteStands" "Z") (by decide +kernel)
  have uX1 : ∀ w ∈ wsX10, w ∈ wsX5_audit := by decide +kernel
  refine lv_aload_n hx hb dX5_audit_0 rfl (lv_at hl 0 rfl) ?_
  refine z_get (D := (dC, dI)) (ci := 5) (v := .ref p0) (C := RX5) (T := TX5) (N := 5) hx hb hts uX5 hown hK hP 0 rfl rfl 1 (by decide) w21 rfl rfl dX5_audit_1 ?_
  refine z_get (D := (dC, dI)) (ci := 1) (v := .int (nI ns)) (C := RX1) (T := TX1) (N := 7) hx hb hts uX1 hown hK hP 6 rfl rfl 6 (by decide) w137 rfl rfl dX5_audit_4 ?_
  refine z_if_ne (tgt := 13) hx hb dX5_audit_7 (by decide) (zcn_eq (a := ns) (b := 0) rfl nI_00 (by omega)) (fun c_7 => ?_) (fun c_7 => ?_)
  · skip
    refine lv_aload_n hx hb dX5_audit_13 rfl (lv_at hl 0 rfl) ?_
    refine z_get (D := (dC, dI)) (ci := 5) (v := .ref p0) (C := RX5) (T := TX5) (N := 5) hx hb hts uX5 hown hK hP 0 rfl rfl 1 (by decide) w21 rfl rfl dX5_audit_14 ?_
    refine lv_iload_n hx hb dX5_audit_17 rfl (lv_at hl 1 rfl) ?_
    refine z_callVi (As := [.int (nI lt)]) (rest := []) (wr := [(g0, .inr (5, [.ref h0, .ref p0, .ref k0, .ref u0, .ref r0]))]) ⟨hx, hb, hml, hown, hts⟩ (c_X1_countChanged l dC dI cI cJ H.size p0 p1 p2 p3 p4 h0 RW LE PA NC mn ns a1 a2 a3 a4 N K T F G C lt (by first | assumption | omega) (by first | assumption | omega) (by first | assumption | omega) (by first | assumption | omega) (by first | assumption | omega) (by first | assumption | omega)) (cwV 1 hts gX5_audit_X1_countChanged rfl rfl rfl (by decide +kernel) ⟨Nat.le_of_ble_eq_true rfl, Nat.le_of_ble_eq_true rfl⟩) hA hK hP hD hS [6, 7, 8, 9, 10, 1, 2, 3, 4, 5] [0] [0, 6, 7, 8, 9, 10, 1, 2, 3, 4, 5] rfl rfl (by decide) (by decide) (by decide) nwA_ok hN (ci := 1) rfl rfl 6 rfl hl.1 (Nat.le_of_ble_eq_true rfl) ⟨Nat.le_refl _, Nat.le_refl _⟩ rfl rfl dX5_audit_18 (fun (u : (Nat)) => [(g0, .inr (5, [.ref h0, .ref p0, .ref k0, .ref u0, .ref r0])), (h0, .inr (0, [.ref a1, .ref a2, .ref a3, .ref a4, .int (nI N), .int (nI K)])), (a1, .inl (cI, 8, .inl (fun z_ => nI (T z_)))), (a2, .inl (cI, 16, .inl (fun z_ => nI (F z_)))), (a3, .inl (cI, 16, .inl (fun z_ => nI (G z_)))), (a4, .inl (cI, 16, .inl (fun z_ => nI (C z_)))), (p0, .inr (1, [.ref h0, .ref p1, .ref p2, .ref p3, .int (nI mn), .ref p4, .int (nI ns)])), (p1, .inl (cI, 5088, .inl (fun z_ => nI (RW z_)))), (p2, .inl (cI, 636, .inl (fun z_ => nI (LE z_)))), (p3, .inl (cI, 8, .inl (fun z_ => nI (PA z_)))), (p4, .inl (cI, 16, .inl (fun z_ => nI (NC z_))))]) (fun u => rfl) (by decide) (fun r_18 u H locs hw hP hD hS => ?_)
    obtain ⟨rv_18, eu⟩ : ∃ z, z = u := ⟨_, rfl⟩
    subst eu
    have hP : va_P (dC, dI) vwCl [(g0, .inr (5, [.ref h0, .ref p0, .ref k0, .ref u0, .ref r0])), (h0, .inr (0, [.ref a1, .ref a2, .ref a3, .ref a4, .int (nI N), .int (nI K)])), (a1, .inl (cI, 8, .inl (fun z_ => nI (T z_)))), (a2, .inl (cI, 16, .inl (fun z_ => nI (F z_)))), (a3, .inl (cI, 16, .inl (fun z_ => nI (G z_)))), (a4, .inl (cI, 16, .inl (fun z_ => nI (C z_)))), (p0, .inr (1, [.ref h0, .ref p1, .ref p2, .ref p3, .int (nI mn), .ref p4, .int (nI ns)])), (p1, .inl (cI, 5088, .inl (fun z_ => nI (RW z_)))), (p2, .inl (cI, 636, .inl (fun z_ => nI (LE z_)))), (p3, .inl (cI, 8, .inl (fun z_ => nI (PA z_)))), (p4, .inl (cI, 16, .inl (fun z_ => nI (NC z_))))] H := hP
    have hD : va_D A [(g0, .inr (5, [.ref h0, .ref p0, .ref k0, .ref u0, .ref r0])), (h0, .inr (0, [.ref a1, .ref a2, .ref a3, .ref a4, .int (nI N), .int (nI K)])), (a1, .inl (cI, 8, .inl (fun z_ => nI (T z_)))), (a2, .inl (cI, 16, .inl (fun z_ => nI (F z_)))), (a3, .inl (cI, 16, .inl (fun z_ => nI (G z_)))), (a4, .inl (cI, 16, .inl (fun z_ => nI (C z_)))), (p0, .inr (1, [.ref h0, .ref p1, .ref p2, .ref p3, .int (nI mn), .ref p4, .int (nI ns)])), (p1, .inl (cI, 5088, .inl (fun z_ => nI (RW z_)))), (p2, .inl (cI, 636, .inl (fun z_ => nI (LE z_)))), (p3, .inl (cI, 8, .inl (fun z_ => nI (PA z_)))), (p4, .inl (cI, 16, .inl (fun z_ => nI (NC z_))))] := hD
    obtain ⟨er, p18_0⟩ := hw
    have p18_0 : rv_18 = fb_ct (sp_chg lt (sp_cd C RW LE) (sp_cd NC RW LE)) mn := p18_0
    have er : r_18 = (nI rv_18) := er
    subst er
    refine z_c0 (v := iI ((rv_18 : Nat) : Int)) (iI_N _) ?_
    have q_0 : ((rv_18 : Nat) : Int) = if ns = 0 then -3 else (sp_adt lt C NC LS : Int) := by rw [if_neg c_7, p18_0]; unfold sp_adt; rw [← hh.1]; exact congrArg (fun q : Nat => (q : Int)) (fb_ct_cong (fun q hq => by unfold sp_chg; rw [sp_cd_L hh hq, sp_cd_L hh hq]))
    exact hRET _ ls H locs ((iI ((rv_18 : Nat) : Int))) (((rv_18 : Nat) : Int)) dX5_audit_21 ⟨rfl, q_0⟩ hP hD hS
  · skip
    refine lv_bipush (v := iI (-3)) hx hb dX5_audit_10 (by decide) ?_
    have q_0 : (-3 : Int) = if ns = 0 then -3 else (sp_adt lt C NC LS : Int) := by rw [if_pos c_7]
    exact hRET _ ls H locs ((iI (-3))) ((-3 : Int)) dX5_audit_12 ⟨rfl, q_0⟩ hP hD hS

set_option maxHeartbeats 4000000 in
set_option maxRecDepth 100000 in
theorem c_X5_cards (l : Launch) (dC : Nat → ClassId) (dI : Nat → Nat → Nat) (cI cJ : ClassId) (sz : Nat) (g0 : Nat) (h0 : Nat) (p0 : Nat) (k0 : Nat) (u0 : Nat) (r0 : Nat) (a1 : Nat) (a2 : Nat) (a3 : Nat) (a4 : Nat) (N : Nat) (K : Nat) (T : Nat → Nat) (F : Nat → Nat) (G : Nat → Nat) (C : Nat → Nat) (p1 : Nat) (p2 : Nat) (p3 : Nat) (p4 : Nat) (RW : Nat → Nat) (LE : Nat → Nat) (PA : Nat → Nat) (NC : Nat → Nat) (mn : Nat) (ns : Nat) (LS : List (List Nat)) (z : Int) (ab : Int) (be : Int) (bmn : mn ≤ 636) (hh : sp_hold LS mn RW LE) (bRW : ∀ i, RW i < 16) (bLE : ∀ i, LE i ≤ 8) (bF : ∀ a, F a < 8) (bT : ∀ i, T i ≤ 20) (bC : ∀ a, C a ≤ 9) (bN : N ≤ 8) (bK : K ≤ 16) (bz : -2147483648 ≤ z ∧ z < 2147483648) (bab : -2147483648 ≤ ab ∧ ab < 2147483648) (bbe : -2147483648 ≤ be ∧ be < 2147483648) : Met l yX5_cards wsX5_cards (zR 2 0 0 52) (va_Pc [.ref g0, .int (iI z), .int (iI ab), .int (iI be)] (zP (dC, dI) [(cI, .int), (cJ, .long)] [(g0, .inr (5, [.ref h0, .ref p0, .ref k0, .ref u0, .ref r0])), (h0, .inr (0, [.ref a1, .ref a2, .ref a3, .ref a4, .int (nI N), .int (nI K)])), (a1, .inl (cI, 8, .inl (fun z_ => nI (T z_)))), (a2, .inl (cI, 16, .inl (fun z_ => nI (F z_)))), (a3, .inl (cI, 16, .inl (fun z_ => nI (G z_)))), (a4, .inl (cI, 16, .inl (fun z_ => nI (C z_)))), (p0, .inr (1, [.ref h0, .ref p1, .ref p2, .ref p3, .int (nI mn), .ref p4, .int (nI ns)])), (p1, .inl (cI, 5088, .inl (fun z_ => nI (RW z_)))), (p2, .inl (cI, 636, .inl (fun z_ => nI (LE z_)))), (p3, .inl (cI, 8, .inl (fun z_ => nI (PA z_)))), (p4, .inl (cI, 16, .inl (fun z_ => nI (NC z_))))] sz nwA)) (va_Qi (fun (r : Int32) (u : (Int)) => r = (iI u) ∧ ((¬ (0 ≤ z ∧ z < (K : Int)) ∧ u = -1) ∨ ((0 ≤ z ∧ z < (K : Int)) ∧ ¬ ((1 ≤ ab ∧ ab ≤ 1000) ∧ (1 ≤ be ∧ be ≤ 1000)) ∧ u = -2) ∨ ((0 ≤ z ∧ z < (K : Int)) ∧ ((1 ≤ ab ∧ ab ≤ 1000) ∧ (1 ≤ be ∧ be ≤ 1000)) ∧ sp_rch T F C LS z.toNat ab.toNat be.toNat u))) (zB (dC, dI) (fun (u : (Int)) => [(g0, .inr (5, [.ref h0, .ref p0, .ref k0, .ref u0, .ref r0])), (h0, .inr (0, [.ref a1, .ref a2, .ref a3, .ref a4, .int (nI N), .int (nI K)])), (a1, .inl (cI, 8, .inl (fun z_ => nI (T z_)))), (a2, .inl (cI, 16, .inl (fun z_ => nI (F z_)))), (a3, .inl (cI, 16, .inl (fun z_ => nI (G z_)))), (a4, .inl (cI, 16, .inl (fun z_ => nI (C z_)))), (p0, .inr (1, [.ref h0, .ref p1, .ref p2, .ref p3, .int (nI mn), .ref p4, .int (nI ns)])), (p1, .inl (cI, 5088, .inl (fun z_ => nI (RW z_)))), (p2, .inl (cI, 636, .inl (fun z_ => nI (LE z_)))), (p3, .inl (cI, 8, .inl (fun z_ => nI (PA z_)))), (p4, .inl (cI, 16, .inl (fun z_ => nI (NC z_))))]) (va_A [(g0, .inr (5, [.ref h0, .ref p0, .ref k0, .ref u0, .ref r0])), (h0, .inr (0, [.ref a1, .ref a2, .ref a3, .ref a4, .int (nI N), .int (nI K)])), (a1, .inl (cI, 8, .inl (fun z_ => nI (T z_)))), (a2, .inl (cI, 16, .inl (fun z_ => nI (F z_)))), (a3, .inl (cI, 16, .inl (fun z_ => nI (G z_)))), (a4, .inl (cI, 16, .inl (fun z_ => nI (C z_)))), (p0, .inr (1, [.ref h0, .ref p1, .ref p2, .ref p3, .int (nI mn), .ref p4, .int (nI ns)])), (p1, .inl (cI, 5088, .inl (fun z_ => nI (RW z_)))), (p2, .inl (cI, 636, .inl (fun z_ => nI (LE z_)))), (p3, .inl (cI, 8, .inl (fun z_ => nI (PA z_)))), (p4, .inl (cI, 16, .inl (fun z_ => nI (NC z_))))] sz)) (va_A [(g0, .inr (5, [.ref h0, .ref p0, .ref k0, .ref u0, .ref r0])), (h0, .inr (0, [.ref a1, .ref a2, .ref a3, .ref a4, .int (nI N), .int (nI K)])), (a1, .inl (cI, 8, .inl (fun z_ => nI (T z_)))), (a2, .inl (cI, 16, .inl (fun z_ => nI (F z_)))), (a3, .inl (cI, 16, .inl (fun z_ => nI (G z_)))), (a4, .inl (cI, 16, .inl (fun z_ => nI (C z_)))), (p0, .inr (1, [.ref h0, .ref p1, .ref p2, .ref p3, .int (nI mn), .ref p4, .int (nI ns)])), (p1, .inl (cI, 5088, .inl (fun z_ => nI (RW z_)))), (p2, .inl (cI, 636, .inl (fun z_ => nI (LE z_)))), (p3, .inl (cI, 8, .inl (fun z_ => nI (PA z_)))), (p4, .inl (cI, 16, .inl (fun z_ => nI (NC z_))))] sz)) 0 0 (va_A [(g0, .inr (5, [.ref h0, .ref p0, .ref k0, .ref u0, .ref r0])), (h0, .inr (0, [.ref a1, .ref a2, .ref a3, .ref a4, .int (nI N), .int (nI K)])), (a1, .inl (cI, 8, .inl (fun z_ => nI (T z_)))), (a2, .inl (cI, 16, .inl (fun z_ => nI (F z_)))), (a3, .inl (cI, 16, .inl (fun z_ => nI (G z_)))), (a4, .inl (cI, 16, .inl (fun z_ => nI (C z_)))), (p0, .inr (1, [.ref h0, .ref p1, .ref p2, .ref p3, .int (nI mn), .ref p4, .int (nI ns)])), (p1, .inl (cI, 5088, .inl (fun z_ => nI (RW z_)))), (p2, .inl (cI, 636, .inl (fun z_ => nI (LE z_)))), (p3, .inl (cI, 8, .inl (fun z_ => nI (PA z_)))), (p4, .inl (cI, 16, .inl (fun z_ => nI (NC z_))))] sz) := by
  refine z_met_i (cc := cX5_cards) (maxL := 4) (by decide) rfl (Nat.le_of_ble_eq_true rfl) ?_
  intro p e s m args below meth c Q A ls hx hb hml hown hts hin hA hK hP hD hN hl hRET
  have hown : s.vm.findClass RX5 = some m.cls := hown
  obtain ⟨H, eH⟩ : ∃ H : Heap, H = s.heap := ⟨_, rfl⟩
  rw [← eH] at hP
  obtain ⟨locs, eL⟩ : ∃ z : List Loc, z = [] := ⟨_, rfl⟩
  rw [← eH, ← eL]
  have hS : va_S A s.heap H locs := by rw [eH, eL]; exact va_S.rf
  have hl : lv_has ls 4 [(0, .ref g0), (1, .int (iI z)), (2, .int (iI ab)), (3, .int (iI be))] := hl
  have w10 := hts (.fieldLink RX5 10 "PullCards" "line" "LPullCards$Line;") (by decide +kernel)
  have uX5 : ∀ w ∈ wsX50, w ∈ wsX5_cards := by decide +kernel
  have w21 := hts (.fieldLink RX5 21 "PullCards" "loops" "LPullCards$Loops;") (by decide +kernel)
  refine lv_aload_n hx hb dX5_cards_0 rfl (lv_at hl 0 rfl) ?_
  refine z_get (D := (dC, dI)) (ci := 5) (v := .ref h0) (C := RX5) (T := TX5) (N := 5) hx hb hts uX5 hown hK hP 0 rfl rfl 0 (by decide) w10 rfl rfl dX5_cards_1 ?_
  refine lv_iload_n hx hb dX5_cards_4 rfl (lv_at hl 1 rfl) ?_
  refine z_callVi (As := [.int (iI z)]) (rest := []) (wr := [(g0, .inr (5, [.ref h0, .ref p0, .ref k0, .ref u0, .ref r0])), (p0, .inr (1, [.ref h0, .ref p1, .ref p2, .ref p3, .int (nI mn), .ref p4, .int (nI ns)])), (p1, .inl (cI, 5088, .inl (fun z_ => nI (RW z_)))), (p2, .inl (cI, 636, .inl (fun z_ => nI (LE z_)))), (p3, .inl (cI, 8, .inl (fun z_ => nI (PA z_)))), (p4, .inl (cI, 16, .inl (fun z_ => nI (NC z_))))]) ⟨hx, hb, hml, hown, hts⟩ (c_X0_hasArc l dC dI cI cJ H.size h0 a1 a2 a3 a4 N K T F G C z (by first | assumption | omega) (by first | assumption | omega) (by first | assumption | omega)) (cwV 1 hts gX5_cards_X0_hasArc rfl rfl rfl (by decide +kernel) ⟨Nat.le_of_ble_eq_true rfl, Nat.le_of_ble_eq_true rfl⟩) hA hK hP hD hS [1, 2, 3, 4, 5] [0, 6, 7, 8, 9, 10] [0, 6, 7, 8, 9, 10, 1, 2, 3, 4, 5] rfl rfl (by decide) (by decide) (by decide) nwA_ok hN (ci := 0) rfl rfl 1 rfl hl.1 (Nat.le_of_ble_eq_true rfl) ⟨Nat.le_refl _, Nat.le_refl _⟩ rfl rfl dX5_cards_5 (fun (u : (Nat)) => [(g0, .inr (5, [.ref h0, .ref p0, .ref k0, .ref u0, .ref r0])), (h0, .inr (0, [.ref a1, .ref a2, .ref a3, .ref a4, .int (nI N), .int (nI K)])), (a1, .inl (cI, 8, .inl (fun z_ => nI (T z_)))), (a2, .inl (cI, 16, .inl (fun z_ => nI (F z_)))), (a3, .inl (cI, 16, .inl (fun z_ => nI (G z_)))), (a4, .inl (cI, 16, .inl (fun z_ => nI (C z_)))), (p0, .inr (1, [.ref h0, .ref p1, .ref p2, .ref p3, .int (nI mn), .ref p4, .int (nI ns)])), (p1, .inl (cI, 5088, .inl (fun z_ => nI (RW z_)))), (p2, .inl (cI, 636, .inl (fun z_ => nI (LE z_)))), (p3, .inl (cI, 8, .inl (fun z_ => nI (PA z_)))), (p4, .inl (cI, 16, .inl (fun z_ => nI (NC z_))))]) (fun u => rfl) (by decide) (fun r_5 u H locs hw hP hD hS => ?_)
  obtain ⟨rv_5, eu⟩ : ∃ z, z = u := ⟨_, rfl⟩
  subst eu
  have hP : va_P (dC, dI) vwCl [(g0, .inr (5, [.ref h0, .ref p0, .ref k0, .ref u0, .ref r0])), (h0, .inr (0, [.ref a1, .ref a2, .ref a3, .ref a4, .int (nI N), .int (nI K)])), (a1, .inl (cI, 8, .inl (fun z_ => nI (T z_)))), (a2, .inl (cI, 16, .inl (fun z_ => nI (F z_)))), (a3, .inl (cI, 16, .inl (fun z_ => nI (G z_)))), (a4, .inl (cI, 16, .inl (fun z_ => nI (C z_)))), (p0, .inr (1, [.ref h0, .ref p1, .ref p2, .ref p3, .int (nI mn), .ref p4, .int (nI ns)])), (p1, .inl (cI, 5088, .inl (fun z_ => nI (RW z_)))), (p2, .inl (cI, 636, .inl (fun z_ => nI (LE z_)))), (p3, .inl (cI, 8, .inl (fun z_ => nI (PA z_)))), (p4, .inl (cI, 16, .inl (fun z_ => nI (NC z_))))] H := hP
  have hD : va_D A [(g0, .inr (5, [.ref h0, .ref p0, .ref k0, .ref u0, .ref r0])), (h0, .inr (0, [.ref a1, .ref a2, .ref a3, .ref a4, .int (nI N), .int (nI K)])), (a1, .inl (cI, 8, .inl (fun z_ => nI (T z_)))), (a2, .inl (cI, 16, .inl (fun z_ => nI (F z_)))), (a3, .inl (cI, 16, .inl (fun z_ => nI (G z_)))), (a4, .inl (cI, 16, .inl (fun z_ => nI (C z_)))), (p0, .inr (1, [.ref h0, .ref p1, .ref p2, .ref p3, .int (nI mn), .ref p4, .int (nI ns)])), (p1, .inl (cI, 5088, .inl (fun z_ => nI (RW z_)))), (p2, .inl (cI, 636, .inl (fun z_ => nI (LE z_)))), (p3, .inl (cI, 8, .inl (fun z_ => nI (PA z_)))), (p4, .inl (cI, 16, .inl (fun z_ => nI (NC z_))))] := hD
  obtain ⟨er, p5_0⟩ := hw
  have p5_0 : (rv_5 = 1 ∧ (0 ≤ z ∧ z < (K : Int))) ∨ (rv_5 = 0 ∧ ¬ (0 ≤ z ∧ z < (K : Int))) := p5_0
  have er : r_5 = (nI rv_5) := er
  subst er
  rcases p5_0 with ⟨h5, c_5⟩ | ⟨h5, c_5⟩
  · skip
    subst h5
    refine lv_if_ne (tgt := 13) hx hb dX5_cards_8 (by decide) (fun _ => ?_) (fun c_x => absurd c_x (by decide))
    refine lv_iload_n hx hb dX5_cards_13 rfl (lv_at hl 2 rfl) ?_
    refine lv_iconst (v := nI 1) hx hb dX5_cards_14 (by decide) ?_
    refine lv_sipush (v := nI 1000) hx hb dX5_cards_15 (by decide) ?_
    refine z_c0 (v := iI 1000) (by decide) ?_
    refine z_c1 (v := iI 1) (by decide) ?_
    refine z_callSi (As := [.int (iI ab), .int (iI 1), .int (iI 1000)]) (rest := []) (wr := [(g0, .inr (5, [.ref h0, .ref p0, .ref k0, .ref u0, .ref r0])), (h0, .inr (0, [.ref a1, .ref a2, .ref a3, .ref a4, .int (nI N), .int (nI K)])), (a1, .inl (cI, 8, .inl (fun z_ => nI (T z_)))), (a2, .inl (cI, 16, .inl (fun z_ => nI (F z_)))), (a3, .inl (cI, 16, .inl (fun z_ => nI (G z_)))), (a4, .inl (cI, 16, .inl (fun z_ => nI (C z_)))), (p0, .inr (1, [.ref h0, .ref p1, .ref p2, .ref p3, .int (nI mn), .ref p4, .int (nI ns)])), (p1, .inl (cI, 5088, .inl (fun z_ => nI (RW z_)))), (p2, .inl (cI, 636, .inl (fun z_ => nI (LE z_)))), (p3, .inl (cI, 8, .inl (fun z_ => nI (PA z_)))), (p4, .inl (cI, 16, .inl (fun z_ => nI (NC z_))))]) ⟨hx, hb, hml, hown, hts⟩ (c_X5_within l dC dI cI cJ H.size ab (1 : Int) (1000 : Int) (by first | assumption | omega) (by first | assumption | omega) (by first | assumption | omega)) (va_cwS 3 hts gX5_cards_X5_within rfl rfl rfl (by decide +kernel) ⟨Nat.le_of_ble_eq_true rfl, Nat.le_of_ble_eq_true rfl⟩) hA hK hP hD hS [] [0, 1, 2, 3, 4, 5, 6, 7, 8, 9, 10] [0, 1, 2, 3, 4, 5, 6, 7, 8, 9, 10] rfl rfl (by decide) (by decide) (by decide) nwA_ok hN hl.1 (Nat.le_of_ble_eq_true rfl) ⟨Nat.le_refl _, Nat.le_refl _⟩ rfl rfl dX5_cards_18 (fun (u : (Nat)) => [(g0, .inr (5, [.ref h0, .ref p0, .ref k0, .ref u0, .ref r0])), (h0, .inr (0, [.ref a1, .ref a2, .ref a3, .ref a4, .int (nI N), .int (nI K)])), (a1, .inl (cI, 8, .inl (fun z_ => nI (T z_)))), (a2, .inl (cI, 16, .inl (fun z_ => nI (F z_)))), (a3, .inl (cI, 16, .inl (fun z_ => nI (G z_)))), (a4, .inl (cI, 16, .inl (fun z_ => nI (C z_)))), (p0, .inr (1, [.ref h0, .ref p1, .ref p2, .ref p3, .int (nI mn), .ref p4, .int (nI ns)])), (p1, .inl (cI, 5088, .inl (fun z_ => nI (RW z_)))), (p2, .inl (cI, 636, .inl (fun z_ => nI (LE z_)))), (p3, .inl (cI, 8, .inl (fun z_ => nI (PA z_)))), (p4, .inl (cI, 16, .inl (fun z_ => nI (NC z_))))]) (fun u => rfl) (by decide) (fun r_18 u H locs hw hP hD hS => ?_)
    obtain ⟨rv_18, eu⟩ : ∃ z, z = u := ⟨_, rfl⟩
    subst eu
    have hP : va_P (dC, dI) vwCl [(g0, .inr (5, [.ref h0, .ref p0, .ref k0, .ref u0, .ref r0])), (h0, .inr (0, [.ref a1, .ref a2, .ref a3, .ref a4, .int (nI N), .int (nI K)])), (a1, .inl (cI, 8, .inl (fun z_ => nI (T z_)))), (a2, .inl (cI, 16, .inl (fun z_ => nI (F z_)))), (a3, .inl (cI, 16, .inl (fun z_ => nI (G z_)))), (a4, .inl (cI, 16, .inl (fun z_ => nI (C z_)))), (p0, .inr (1, [.ref h0, .ref p1, .ref p2, .ref p3, .int (nI mn), .ref p4, .int (nI ns)])), (p1, .inl (cI, 5088, .inl (fun z_ => nI (RW z_)))), (p2, .inl (cI, 636, .inl (fun z_ => nI (LE z_)))), (p3, .inl (cI, 8, .inl (fun z_ => nI (PA z_)))), (p4, .inl (cI, 16, .inl (fun z_ => nI (NC z_))))] H := hP
    have hD : va_D A [(g0, .inr (5, [.ref h0, .ref p0, .ref k0, .ref u0, .ref r0])), (h0, .inr (0, [.ref a1, .ref a2, .ref a3, .ref a4, .int (nI N), .int (nI K)])), (a1, .inl (cI, 8, .inl (fun z_ => nI (T z_)))), (a2, .inl (cI, 16, .inl (fun z_ => nI (F z_)))), (a3, .inl (cI, 16, .inl (fun z_ => nI (G z_)))), (a4, .inl (cI, 16, .inl (fun z_ => nI (C z_)))), (p0, .inr (1, [.ref h0, .ref p1, .ref p2, .ref p3, .int (nI mn), .ref p4, .int (nI ns)])), (p1, .inl (cI, 5088, .inl (fun z_ => nI (RW z_)))), (p2, .inl (cI, 636, .inl (fun z_ => nI (LE z_)))), (p3, .inl (cI, 8, .inl (fun z_ => nI (PA z_)))), (p4, .inl (cI, 16, .inl (fun z_ => nI (NC z_))))] := hD
    obtain ⟨er, p18_0⟩ := hw
    have p18_0 : (rv_18 = 1 ∧ ((1 : Int) ≤ ab ∧ ab ≤ (1000 : Int))) ∨ (rv_18 = 0 ∧ ¬ ((1 : Int) ≤ ab ∧ ab ≤ (1000 : Int))) := p18_0
    have er : r_18 = (nI rv_18) := er
    subst er
    rcases p18_0 with ⟨h18, c_18⟩ | ⟨h18, c_18⟩
    · skip
      subst h18
      refine lv_if_eq (tgt := 35) hx hb dX5_cards_21 (by decide) (fun c_x => absurd c_x (by decide)) (fun _ => ?_)
      refine lv_iload_n hx hb dX5_cards_24 rfl (lv_at hl 3 rfl) ?_
      refine lv_iconst (v := nI 1) hx hb dX5_cards_25 (by decide) ?_
      refine lv_sipush (v := nI 1000) hx hb dX5_cards_26 (by decide) ?_
      refine z_c0 (v := iI 1000) (by decide) ?_
      refine z_c1 (v := iI 1) (by decide) ?_
      refine z_callSi (As := [.int (iI be), .int (iI 1), .int (iI 1000)]) (rest := []) (wr := [(g0, .inr (5, [.ref h0, .ref p0, .ref k0, .ref u0, .ref r0])), (h0, .inr (0, [.ref a1, .ref a2, .ref a3, .ref a4, .int (nI N), .int (nI K)])), (a1, .inl (cI, 8, .inl (fun z_ => nI (T z_)))), (a2, .inl (cI, 16, .inl (fun z_ => nI (F z_)))), (a3, .inl (cI, 16, .inl (fun z_ => nI (G z_)))), (a4, .inl (cI, 16, .inl (fun z_ => nI (C z_)))), (p0, .inr (1, [.ref h0, .ref p1, .ref p2, .ref p3, .int (nI mn), .ref p4, .int (nI ns)])), (p1, .inl (cI, 5088, .inl (fun z_ => nI (RW z_)))), (p2, .inl (cI, 636, .inl (fun z_ => nI (LE z_)))), (p3, .inl (cI, 8, .inl (fun z_ => nI (PA z_)))), (p4, .inl (cI, 16, .inl (fun z_ => nI (NC z_))))]) ⟨hx, hb, hml, hown, hts⟩ (c_X5_within l dC dI cI cJ H.size be (1 : Int) (1000 : Int) (by first | assumption | omega) (by first | assumption | omega) (by first | assumption | omega)) (va_cwS 3 hts gX5_cards_X5_within rfl rfl rfl (by decide +kernel) ⟨Nat.le_of_ble_eq_true rfl, Nat.le_of_ble_eq_true rfl⟩) hA hK hP hD hS [] [0, 1, 2, 3, 4, 5, 6, 7, 8, 9, 10] [0, 1, 2, 3, 4, 5, 6, 7, 8, 9, 10] rfl rfl (by decide) (by decide) (by decide) nwA_ok hN hl.1 (Nat.le_of_ble_eq_true rfl) ⟨Nat.le_refl _, Nat.le_refl _⟩ rfl rfl dX5_cards_29 (fun (u : (Nat)) => [(g0, .inr (5, [.ref h0, .ref p0, .ref k0, .ref u0, .ref r0])), (h0, .inr (0, [.ref a1, .ref a2, .ref a3, .ref a4, .int (nI N), .int (nI K)])), (a1, .inl (cI, 8, .inl (fun z_ => nI (T z_)))), (a2, .inl (cI, 16, .inl (fun z_ => nI (F z_)))), (a3, .inl (cI, 16, .inl (fun z_ => nI (G z_)))), (a4, .inl (cI, 16, .inl (fun z_ => nI (C z_)))), (p0, .inr (1, [.ref h0, .ref p1, .ref p2, .ref p3, .int (nI mn), .ref p4, .int (nI ns)])), (p1, .inl (cI, 5088, .inl (fun z_ => nI (RW z_)))), (p2, .inl (cI, 636, .inl (fun z_ => nI (LE z_)))), (p3, .inl (cI, 8, .inl (fun z_ => nI (PA z_)))), (p4, .inl (cI, 16, .inl (fun z_ => nI (NC z_))))]) (fun u => rfl) (by decide) (fun r_29 u H locs hw hP hD hS => ?_)
      obtain ⟨rv_29, eu⟩ : ∃ z, z = u := ⟨_, rfl⟩
      subst eu
      have hP : va_P (dC, dI) vwCl [(g0, .inr (5, [.ref h0, .ref p0, .ref k0, .ref u0, .ref r0])), (h0, .inr (0, [.ref a1, .ref a2, .ref a3, .ref a4, .int (nI N), .int (nI K)])), (a1, .inl (cI, 8, .inl (fun z_ => nI (T z_)))), (a2, .inl (cI, 16, .inl (fun z_ => nI (F z_)))), (a3, .inl (cI, 16, .inl (fun z_ => nI (G z_)))), (a4, .inl (cI, 16, .inl (fun z_ => nI (C z_)))), (p0, .inr (1, [.ref h0, .ref p1, .ref p2, .ref p3, .int (nI mn), .ref p4, .int (nI ns)])), (p1, .inl (cI, 5088, .inl (fun z_ => nI (RW z_)))), (p2, .inl (cI, 636, .inl (fun z_ => nI (LE z_)))), (p3, .inl (cI, 8, .inl (fun z_ => nI (PA z_)))), (p4, .inl (cI, 16, .inl (fun z_ => nI (NC z_))))] H := hP
      have hD : va_D A [(g0, .inr (5, [.ref h0, .ref p0, .ref k0, .ref u0, .ref r0])), (h0, .inr (0, [.ref a1, .ref a2, .ref a3, .ref a4, .int (nI N), .int (nI K)])), (a1, .inl (cI, 8, .inl (fun z_ => nI (T z_)))), (a2, .inl (cI, 16, .inl (fun z_ => nI (F z_)))), (a3, .inl (cI, 16, .inl (fun z_ => nI (G z_)))), (a4, .inl (cI, 16, .inl (fun z_ => nI (C z_)))), (p0, .inr (1, [.ref h0, .ref p1, .ref p2, .ref p3, .int (nI mn), .ref p4, .int (nI ns)])), (p1, .inl (cI, 5088, .inl (fun z_ => nI (RW z_)))), (p2, .inl (cI, 636, .inl (fun z_ => nI (LE z_)))), (p3, .inl (cI, 8, .inl (fun z_ => nI (PA z_)))), (p4, .inl (cI, 16, .inl (fun z_ => nI (NC z_))))] := hD
      obtain ⟨er, p29_0⟩ := hw
      have p29_0 : (rv_29 = 1 ∧ ((1 : Int) ≤ be ∧ be ≤ (1000 : Int))) ∨ (rv_29 = 0 ∧ ¬ ((1 : Int) ≤ be ∧ be ≤ (1000 : Int))) := p29_0
      have er : r_29 = (nI rv_29) := er
      subst er
      rcases p29_0 with ⟨h29, c_29⟩ | ⟨h29, c_29⟩
      · skip
        subst h29
        refine lv_if_ne (tgt := 38) hx hb dX5_cards_32 (by decide) (fun _ => ?_) (fun c_x => absurd c_x (by decide))
        refine lv_aload_n hx hb dX5_cards_38 rfl (lv_at hl 0 rfl) ?_
        refine z_get (D := (dC, dI)) (ci := 5) (v := .ref p0) (C := RX5) (T := TX5) (N := 5) hx hb hts uX5 hown hK hP 0 rfl rfl 1 (by decide) w21 rfl rfl dX5_cards_39 ?_
        refine lv_iload_n hx hb dX5_cards_42 rfl (lv_at hl 1 rfl) ?_
        refine lv_iload_n hx hb dX5_cards_43 rfl (lv_at hl 2 rfl) ?_
        refine lv_iload_n hx hb dX5_cards_44 rfl (lv_at hl 3 rfl) ?_
        refine z_c0 (v := nI be.toNat) (z_ZtoN (by first | assumption | omega)) ?_
        refine z_c1 (v := nI ab.toNat) (z_ZtoN (by first | assumption | omega)) ?_
        refine z_c2 (v := nI z.toNat) (z_ZtoN (by first | assumption | omega)) ?_
        refine z_callVi (As := [.int (nI z.toNat), .int (nI ab.toNat), .int (nI be.toNat)]) (rest := []) (wr := [(g0, .inr (5, [.ref h0, .ref p0, .ref k0, .ref u0, .ref r0]))]) ⟨hx, hb, hml, hown, hts⟩ (c_X1_cardsToReach l dC dI cI cJ H.size p0 p1 p2 p3 p4 h0 RW LE PA NC mn ns a1 a2 a3 a4 N K T F G C z.toNat ab.toNat be.toNat (by first | assumption | omega) (by first | assumption | omega) (by first | assumption | omega) (by first | assumption | omega) (by first | assumption | omega) (by first | assumption | omega) (by first | assumption | omega) (by first | assumption | omega) (by first | assumption | omega)) (cwV 3 hts gX5_cards_X1_cardsToReach rfl rfl rfl (by decide +kernel) ⟨Nat.le_of_ble_eq_true rfl, Nat.le_of_ble_eq_true rfl⟩) hA hK hP hD hS [6, 7, 8, 9, 10, 1, 2, 3, 4, 5] [0] [0, 6, 7, 8, 9, 10, 1, 2, 3, 4, 5] rfl rfl (by decide) (by decide) (by decide) nwA_ok hN (ci := 1) rfl rfl 6 rfl hl.1 (Nat.le_of_ble_eq_true rfl) ⟨Nat.le_refl _, Nat.le_refl _⟩ rfl rfl dX5_cards_45 (fun (u : (Int)) => [(g0, .inr (5, [.ref h0, .ref p0, .ref k0, .ref u0, .ref r0])), (h0, .inr (0, [.ref a1, .ref a2, .ref a3, .ref a4, .int (nI N), .int (nI K)])), (a1, .inl (cI, 8, .inl (fun z_ => nI (T z_)))), (a2, .inl (cI, 16, .inl (fun z_ => nI (F z_)))), (a3, .inl (cI, 16, .inl (fun z_ => nI (G z_)))), (a4, .inl (cI, 16, .inl (fun z_ => nI (C z_)))), (p0, .inr (1, [.ref h0, .ref p1, .ref p2, .ref p3, .int (nI mn), .ref p4, .int (nI ns)])), (p1, .inl (cI, 5088, .inl (fun z_ => nI (RW z_)))), (p2, .inl (cI, 636, .inl (fun z_ => nI (LE z_)))), (p3, .inl (cI, 8, .inl (fun z_ => nI (PA z_)))), (p4, .inl (cI, 16, .inl (fun z_ => nI (NC z_))))]) (fun u => rfl) (by decide) (fun r_45 u H locs hw hP hD hS => ?_)
        obtain ⟨rv_45, eu⟩ : ∃ z, z = u := ⟨_, rfl⟩
        subst eu
        have hP : va_P (dC, dI) vwCl [(g0, .inr (5, [.ref h0, .ref p0, .ref k0, .ref u0, .ref r0])), (h0, .inr (0, [.ref a1, .ref a2, .ref a3, .ref a4, .int (nI N), .int (nI K)])), (a1, .inl (cI, 8, .inl (fun z_ => nI (T z_)))), (a2, .inl (cI, 16, .inl (fun z_ => nI (F z_)))), (a3, .inl (cI, 16, .inl (fun z_ => nI (G z_)))), (a4, .inl (cI, 16, .inl (fun z_ => nI (C z_)))), (p0, .inr (1, [.ref h0, .ref p1, .ref p2, .ref p3, .int (nI mn), .ref p4, .int (nI ns)])), (p1, .inl (cI, 5088, .inl (fun z_ => nI (RW z_)))), (p2, .inl (cI, 636, .inl (fun z_ => nI (LE z_)))), (p3, .inl (cI, 8, .inl (fun z_ => nI (PA z_)))), (p4, .inl (cI, 16, .inl (fun z_ => nI (NC z_))))] H := hP
        have hD : va_D A [(g0, .inr (5, [.ref h0, .ref p0, .ref k0, .ref u0, .ref r0])), (h0, .inr (0, [.ref a1, .ref a2, .ref a3, .ref a4, .int (nI N), .int (nI K)])), (a1, .inl (cI, 8, .inl (fun z_ => nI (T z_)))), (a2, .inl (cI, 16, .inl (fun z_ => nI (F z_)))), (a3, .inl (cI, 16, .inl (fun z_ => nI (G z_)))), (a4, .inl (cI, 16, .inl (fun z_ => nI (C z_)))), (p0, .inr (1, [.ref h0, .ref p1, .ref p2, .ref p3, .int (nI mn), .ref p4, .int (nI ns)])), (p1, .inl (cI, 5088, .inl (fun z_ => nI (RW z_)))), (p2, .inl (cI, 636, .inl (fun z_ => nI (LE z_)))), (p3, .inl (cI, 8, .inl (fun z_ => nI (PA z_)))), (p4, .inl (cI, 16, .inl (fun z_ => nI (NC z_))))] := hD
        obtain ⟨er, p45_0⟩ := hw
        have p45_0 : (rv_45 = -9 ∧ ((∃ q, q < mn ∧ 0 < sp_nd (sp_tm T F RW LE) (sp_cd C RW LE) ab.toNat be.toNat q ∧ sp_ps RW LE q z.toNat = false) ∨ 9 < (C z.toNat : Int) + sp_mx (sp_nd (sp_tm T F RW LE) (sp_cd C RW LE) ab.toNat be.toNat) mn)) ∨ (rv_45 = sp_mx (sp_nd (sp_tm T F RW LE) (sp_cd C RW LE) ab.toNat be.toNat) mn ∧ (∀ q, q < mn → 0 < sp_nd (sp_tm T F RW LE) (sp_cd C RW LE) ab.toNat be.toNat q → sp_ps RW LE q z.toNat = true) ∧ (C z.toNat : Int) + sp_mx (sp_nd (sp_tm T F RW LE) (sp_cd C RW LE) ab.toNat be.toNat) mn ≤ 9) := p45_0
        have er : r_45 = (iI rv_45) := er
        subst er
        have q_0 : (¬ (0 ≤ z ∧ z < (K : Int)) ∧ rv_45 = -1) ∨ ((0 ≤ z ∧ z < (K : Int)) ∧ ¬ ((1 ≤ ab ∧ ab ≤ 1000) ∧ (1 ≤ be ∧ be ≤ 1000)) ∧ rv_45 = -2) ∨ ((0 ≤ z ∧ z < (K : Int)) ∧ ((1 ≤ ab ∧ ab ≤ 1000) ∧ (1 ≤ be ∧ be ≤ 1000)) ∧ sp_rch T F C LS z.toNat ab.toNat be.toNat rv_45) := by first | exact Or.inl ⟨by omega, rfl⟩ | exact Or.inr (Or.inl ⟨by omega, by omega, rfl⟩) | exact Or.inr (Or.inr ⟨by omega, by omega, sp_rch_of hh p45_0⟩)
        exact hRET _ ls H locs ((iI rv_45)) (rv_45) dX5_cards_48 ⟨rfl, q_0⟩ hP hD hS
      · skip
        subst h29
        refine lv_if_ne (tgt := 38) hx hb dX5_cards_32 (by decide) (fun c_x => absurd c_x (by decide)) (fun _ => ?_)
        refine lv_bipush (v := iI (-2)) hx hb dX5_cards_35 (by decide) ?_
        have q_0 : (¬ (0 ≤ z ∧ z < (K : Int)) ∧ (-2 : Int) = -1) ∨ ((0 ≤ z ∧ z < (K : Int)) ∧ ¬ ((1 ≤ ab ∧ ab ≤ 1000) ∧ (1 ≤ be ∧ be ≤ 1000)) ∧ (-2 : Int) = -2) ∨ ((0 ≤ z ∧ z < (K : Int)) ∧ ((1 ≤ ab ∧ ab ≤ 1000) ∧ (1 ≤ be ∧ be ≤ 1000)) ∧ sp_rch T F C LS z.toNat ab.toNat be.toNat (-2 : Int)) := by first | exact Or.inl ⟨by omega, rfl⟩ | exact Or.inr (Or.inl ⟨by omega, by omega, rfl⟩) | exact Or.inr (Or.inr ⟨by omega, by omega, sp_rch_of hh p45_0⟩)
        exact hRET _ ls H locs ((iI (-2))) ((-2 : Int)) dX5_cards_37 ⟨rfl, q_0⟩ hP hD hS
    · skip
      subst h18
      refine lv_if_eq (tgt := 35) hx hb dX5_cards_21 (by decide) (fun _ => ?_) (fun c_x => absurd c_x (by decide))
      refine lv_bipush (v := iI (-2)) hx hb dX5_cards_35 (by decide) ?_
      have q_0 : (¬ (0 ≤ z ∧ z < (K : Int)) ∧ (-2 : Int) = -1) ∨ ((0 ≤ z ∧ z < (K : Int)) ∧ ¬ ((1 ≤ ab ∧ ab ≤ 1000) ∧ (1 ≤ be ∧ be ≤ 1000)) ∧ (-2 : Int) = -2) ∨ ((0 ≤ z ∧ z < (K : Int)) ∧ ((1 ≤ ab ∧ ab ≤ 1000) ∧ (1 ≤ be ∧ be ≤ 1000)) ∧ sp_rch T F C LS z.toNat ab.toNat be.toNat (-2 : Int)) := by first | exact Or.inl ⟨by omega, rfl⟩ | exact Or.inr (Or.inl ⟨by omega, by omega, rfl⟩) | exact Or.inr (Or.inr ⟨by omega, by omega, sp_rch_of hh p45_0⟩)
      exact hRET _ ls H locs ((iI (-2))) ((-2 : Int)) dX5_cards_37 ⟨rfl, q_0⟩ hP hD hS
  · skip
    subst h5
    refine lv_if_ne (tgt := 13) hx hb dX5_cards_8 (by decide) (fun c_x => absurd c_x (by decide)) (fun _ => ?_)
    refine lv_iconst (v := iI (-1)) hx hb dX5_cards_11 (by decide) ?_
    have q_0 : (¬ (0 ≤ z ∧ z < (K : Int)) ∧ (-1 : Int) = -1) ∨ ((0 ≤ z ∧ z < (K : Int)) ∧ ¬ ((1 ≤ ab ∧ ab ≤ 1000) ∧ (1 ≤ be ∧ be ≤ 1000)) ∧ (-1 : Int) = -2) ∨ ((0 ≤ z ∧ z < (K : Int)) ∧ ((1 ≤ ab ∧ ab ≤ 1000) ∧ (1 ≤ be ∧ be ≤ 1000)) ∧ sp_rch T F C LS z.toNat ab.toNat be.toNat (-1 : Int)) := by first | exact Or.inl ⟨by omega, rfl⟩ | exact Or.inr (Or.inl ⟨by omega, by omega, rfl⟩) | exact Or.inr (Or.inr ⟨by omega, by omega, sp_rch_of hh p45_0⟩)
    exact hRET _ ls H locs ((iI (-1))) ((-1 : Int)) dX5_cards_12 ⟨rfl, q_0⟩ hP hD hS

set_option maxHeartbeats 4000000 in
set_option maxRecDepth 100000 in
theorem c_X5_machine (l : Launch) (dC : Nat → ClassId) (dI : Nat → Nat → Nat) (cI cJ : ClassId) (sz : Nat) (g0 : Nat) (h0 : Nat) (p0 : Nat) (k0 : Nat) (u0 : Nat) (r0 : Nat) (u1 : Nat) (u2 : Nat) (u3 : Nat) (ua : Nat) (ub : Nat) (BR : Nat → Nat) (RP : Nat → Nat) (rm : Nat) (z : Int) (b : Int) (rr : Int) (bBR : ∀ i, BR i ≤ 4) (bRP : ∀ i, RP i ≤ 4) (bz : -2147483648 ≤ z ∧ z < 2147483648) (bb : -2147483648 ≤ b ∧ b < 2147483648) (br : -2147483648 ≤ rr ∧ rr < 2147483648) : Met l yX5_machine wsX5_machine (zR 1 0 0 22) (va_Pc [.ref g0, .int (iI z), .int (iI b), .int (iI rr)] (zP (dC, dI) [(cI, .int), (cJ, .long)] [(g0, .inr (5, [.ref h0, .ref p0, .ref k0, .ref u0, .ref r0])), (u0, .inr (2, [.ref u1, .ref u2, .int (nI rm), .ref u3, .ref ua, .ref ub])), (u1, .inl (cI, 2, .inl (fun z_ => nI (BR z_)))), (u2, .inl (cI, 2, .inl (fun z_ => nI (RP z_))))] sz nwA)) (va_Qi (fun (r : Int32) (u : (Int) × (Nat → Nat) × (Nat → Nat)) => r = (iI u.1) ∧ (u.1 = if 0 ≤ z ∧ z ≤ 1 then (if (0 ≤ b ∧ b ≤ 4) ∧ (0 ≤ rr ∧ rr ≤ 4) then ((10 * BR z.toNat + RP z.toNat : Nat) : Int) else -2) else -1) ∧ (u.2.1 = if ((0 ≤ z ∧ z ≤ 1) ∧ ((0 ≤ b ∧ b ≤ 4) ∧ (0 ≤ rr ∧ rr ≤ 4))) then up BR z.toNat b.toNat else BR) ∧ (u.2.2 = if ((0 ≤ z ∧ z ≤ 1) ∧ ((0 ≤ b ∧ b ≤ 4) ∧ (0 ≤ rr ∧ rr ≤ 4))) then up RP z.toNat rr.toNat else RP)) (zB (dC, dI) (fun (u : (Int) × (Nat → Nat) × (Nat → Nat)) => [(g0, .inr (5, [.ref h0, .ref p0, .ref k0, .ref u0, .ref r0])), (u0, .inr (2, [.ref u1, .ref u2, .int (nI rm), .ref u3, .ref ua, .ref ub])), (u1, .inl (cI, 2, .inl (fun z_ => nI (u.2.1 z_)))), (u2, .inl (cI, 2, .inl (fun z_ => nI (u.2.2 z_))))]) (va_A [(g0, .inr (5, [.ref h0, .ref p0, .ref k0, .ref u0, .ref r0])), (u0, .inr (2, [.ref u1, .ref u2, .int (nI rm), .ref u3, .ref ua, .ref ub])), (u1, .inl (cI, 2, .inl (fun z_ => nI (BR z_)))), (u2, .inl (cI, 2, .inl (fun z_ => nI (RP z_))))] sz)) (va_A [(g0, .inr (5, [.ref h0, .ref p0, .ref k0, .ref u0, .ref r0])), (u0, .inr (2, [.ref u1, .ref u2, .int (nI rm), .ref u3, .ref ua, .ref ub])), (u1, .inl (cI, 2, .inl (fun z_ => nI (BR z_)))), (u2, .inl (cI, 2, .inl (fun z_ => nI (RP z_))))] sz)) 0 0 (va_A [(g0, .inr (5, [.ref h0, .ref p0, .ref k0, .ref u0, .ref r0])), (u0, .inr (2, [.ref u1, .ref u2, .int (nI rm), .ref u3, .ref ua, .ref ub])), (u1, .inl (cI, 2, .inl (fun z_ => nI (BR z_)))), (u2, .inl (cI, 2, .inl (fun z_ => nI (RP z_))))] sz) := by
  refine z_met_i (cc := cX5_machine) (maxL := 5) (by decide) rfl (Nat.le_of_ble_eq_true rfl) ?_
  intro p e s m args below meth c Q A ls hx hb hml hown hts hin hA hK hP hD hN hl hRET
  have hown : s.vm.findClass RX5 = some m.cls := hown
  obtain ⟨H, eH⟩ : ∃ H : Heap, H = s.heap := ⟨_, rfl⟩
  rw [← eH] at hP
  obtain ⟨locs, eL⟩ : ∃ z : List Loc, z = [] := ⟨_, rfl⟩
  rw [← eH, ← eL]
  have hS : va_S A s.heap H locs := by rw [eH, eL]; exact va_S.rf
  have hl : lv_has ls 5 [(0, .ref g0), (1, .int (iI z)), (2, .int (iI b)), (3, .int (iI rr))] := hl
  have w35 := hts (.fieldLink RX5 35 "PullCards" "pair" "LPullCards$Pair;") (by decide +kernel)
  have uX5 : ∀ w ∈ wsX50, w ∈ wsX5_machine := by decide +kernel
  have w148 := hts (.fieldLink RX5 148 "PullCards$Pair" "breaks" "[I") (by decide +kernel)
  have uX2 : ∀ w ∈ wsX20, w ∈ wsX5_machine := by decide +kernel
  have w151 := hts (.fieldLink RX5 151 "PullCards$Pair" "repairs" "[I") (by decide +kernel)
  refine lv_iload_n hx hb dX5_machine_0 rfl (lv_at hl 1 rfl) ?_
  refine lv_iconst (v := nI 0) hx hb dX5_machine_1 (by decide) ?_
  refine lv_iconst (v := nI 1) hx hb dX5_machine_2 (by decide) ?_
  refine z_c0 (v := iI 1) (by decide) ?_
  refine z_c1 (v := iI 0) (by decide) ?_
  refine z_callSi (As := [.int (iI z), .int (iI 0), .int (iI 1)]) (rest := []) (wr := [(g0, .inr (5, [.ref h0, .ref p0, .ref k0, .ref u0, .ref r0])), (u0, .inr (2, [.ref u1, .ref u2, .int (nI rm), .ref u3, .ref ua, .ref ub])), (u1, .inl (cI, 2, .inl (fun z_ => nI (BR z_)))), (u2, .inl (cI, 2, .inl (fun z_ => nI (RP z_))))]) ⟨hx, hb, hml, hown, hts⟩ (c_X5_within l dC dI cI cJ H.size z (0 : Int) (1 : Int) (by first | assumption | omega) (by first | assumption | omega) (by first | assumption | omega)) (va_cwS 3 hts gX5_machine_X5_within rfl rfl rfl (by decide +kernel) ⟨Nat.le_of_ble_eq_true rfl, Nat.le_of_ble_eq_true rfl⟩) hA hK hP hD hS [] [0, 1, 2, 3] [0, 1, 2, 3] rfl rfl (by decide) (by decide) (by decide) nwA_ok hN hl.1 (Nat.le_of_ble_eq_true rfl) ⟨Nat.le_refl _, Nat.le_refl _⟩ rfl rfl dX5_machine_3 (fun (u : (Nat)) => [(g0, .inr (5, [.ref h0, .ref p0, .ref k0, .ref u0, .ref r0])), (u0, .inr (2, [.ref u1, .ref u2, .int (nI rm), .ref u3, .ref ua, .ref ub])), (u1, .inl (cI, 2, .inl (fun z_ => nI (BR z_)))), (u2, .inl (cI, 2, .inl (fun z_ => nI (RP z_))))]) (fun u => rfl) (by decide) (fun r_3 u H locs hw hP hD hS => ?_)
  obtain ⟨rv_3, eu⟩ : ∃ z, z = u := ⟨_, rfl⟩
  subst eu
  have hP : va_P (dC, dI) vwCl [(g0, .inr (5, [.ref h0, .ref p0, .ref k0, .ref u0, .ref r0])), (u0, .inr (2, [.ref u1, .ref u2, .int (nI rm), .ref u3, .ref ua, .ref ub])), (u1, .inl (cI, 2, .inl (fun z_ => nI (BR z_)))), (u2, .inl (cI, 2, .inl (fun z_ => nI (RP z_))))] H := hP
  have hD : va_D A [(g0, .inr (5, [.ref h0, .ref p0, .ref k0, .ref u0, .ref r0])), (u0, .inr (2, [.ref u1, .ref u2, .int (nI rm), .ref u3, .ref ua, .ref ub])), (u1, .inl (cI, 2, .inl (fun z_ => nI (BR z_)))), (u2, .inl (cI, 2, .inl (fun z_ => nI (RP z_))))] := hD
  obtain ⟨er, p3_0⟩ := hw
  have p3_0 : (rv_3 = 1 ∧ ((0 : Int) ≤ z ∧ z ≤ (1 : Int))) ∨ (rv_3 = 0 ∧ ¬ ((0 : Int) ≤ z ∧ z ≤ (1 : Int))) := p3_0
  have er : r_3 = (nI rv_3) := er
  subst er
  rcases p3_0 with ⟨h3, c_3⟩ | ⟨h3, c_3⟩
  · skip
    subst h3
    refine lv_if_ne (tgt := 11) hx hb dX5_machine_6 (by decide) (fun _ => ?_) (fun c_x => absurd c_x (by decide))
    refine lv_iload_n hx hb dX5_machine_11 rfl (lv_at hl 2 rfl) ?_
    refine lv_iconst (v := nI 0) hx hb dX5_machine_12 (by decide) ?_
    refine lv_iconst (v := nI 4) hx hb dX5_machine_13 (by decide) ?_
    refine z_c0 (v := iI 4) (by decide) ?_
    refine z_c1 (v := iI 0) (by decide) ?_
    refine z_callSi (As := [.int (iI b), .int (iI 0), .int (iI 4)]) (rest := []) (wr := [(g0, .inr (5, [.ref h0, .ref p0, .ref k0, .ref u0, .ref r0])), (u0, .inr (2, [.ref u1, .ref u2, .int (nI rm), .ref u3, .ref ua, .ref ub])), (u1, .inl (cI, 2, .inl (fun z_ => nI (BR z_)))), (u2, .inl (cI, 2, .inl (fun z_ => nI (RP z_))))]) ⟨hx, hb, hml, hown, hts⟩ (c_X5_within l dC dI cI cJ H.size b (0 : Int) (4 : Int) (by first | assumption | omega) (by first | assumption | omega) (by first | assumption | omega)) (va_cwS 3 hts gX5_machine_X5_within rfl rfl rfl (by decide +kernel) ⟨Nat.le_of_ble_eq_true rfl, Nat.le_of_ble_eq_true rfl⟩) hA hK hP hD hS [] [0, 1, 2, 3] [0, 1, 2, 3] rfl rfl (by decide) (by decide) (by decide) nwA_ok hN hl.1 (Nat.le_of_ble_eq_true rfl) ⟨Nat.le_refl _, Nat.le_refl _⟩ rfl rfl dX5_machine_14 (fun (u : (Nat)) => [(g0, .inr (5, [.ref h0, .ref p0, .ref k0, .ref u0, .ref r0])), (u0, .inr (2, [.ref u1, .ref u2, .int (nI rm), .ref u3, .ref ua, .ref ub])), (u1, .inl (cI, 2, .inl (fun z_ => nI (BR z_)))), (u2, .inl (cI, 2, .inl (fun z_ => nI (RP z_))))]) (fun u => rfl) (by decide) (fun r_14 u H locs hw hP hD hS => ?_)
    obtain ⟨rv_14, eu⟩ : ∃ z, z = u := ⟨_, rfl⟩
    subst eu
    have hP : va_P (dC, dI) vwCl [(g0, .inr (5, [.ref h0, .ref p0, .ref k0, .ref u0, .ref r0])), (u0, .inr (2, [.ref u1, .ref u2, .int (nI rm), .ref u3, .ref ua, .ref ub])), (u1, .inl (cI, 2, .inl (fun z_ => nI (BR z_)))), (u2, .inl (cI, 2, .inl (fun z_ => nI (RP z_))))] H := hP
    have hD : va_D A [(g0, .inr (5, [.ref h0, .ref p0, .ref k0, .ref u0, .ref r0])), (u0, .inr (2, [.ref u1, .ref u2, .int (nI rm), .ref u3, .ref ua, .ref ub])), (u1, .inl (cI, 2, .inl (fun z_ => nI (BR z_)))), (u2, .inl (cI, 2, .inl (fun z_ => nI (RP z_))))] := hD
    obtain ⟨er, p14_0⟩ := hw
    have p14_0 : (rv_14 = 1 ∧ ((0 : Int) ≤ b ∧ b ≤ (4 : Int))) ∨ (rv_14 = 0 ∧ ¬ ((0 : Int) ≤ b ∧ b ≤ (4 : Int))) := p14_0
    have er : r_14 = (nI rv_14) := er
    subst er
    rcases p14_0 with ⟨h14, c_14⟩ | ⟨h14, c_14⟩
    · skip
      subst h14
      refine lv_if_eq (tgt := 29) hx hb dX5_machine_17 (by decide) (fun c_x => absurd c_x (by decide)) (fun _ => ?_)
      refine lv_iload_n hx hb dX5_machine_20 rfl (lv_at hl 3 rfl) ?_
      refine lv_iconst (v := nI 0) hx hb dX5_machine_21 (by decide) ?_
      refine lv_iconst (v := nI 4) hx hb dX5_machine_22 (by decide) ?_
      refine z_c0 (v := iI 4) (by decide) ?_
      refine z_c1 (v := iI 0) (by decide) ?_
      refine z_callSi (As := [.int (iI rr), .int (iI 0), .int (iI 4)]) (rest := []) (wr := [(g0, .inr (5, [.ref h0, .ref p0, .ref k0, .ref u0, .ref r0])), (u0, .inr (2, [.ref u1, .ref u2, .int (nI rm), .ref u3, .ref ua, .ref ub])), (u1, .inl (cI, 2, .inl (fun z_ => nI (BR z_)))), (u2, .inl (cI, 2, .inl (fun z_ => nI (RP z_))))]) ⟨hx, hb, hml, hown, hts⟩ (c_X5_within l dC dI cI cJ H.size rr (0 : Int) (4 : Int) (by first | assumption | omega) (by first | assumption | omega) (by first | assumption | omega)) (va_cwS 3 hts gX5_machine_X5_within rfl rfl rfl (by decide +kernel) ⟨Nat.le_of_ble_eq_true rfl, Nat.le_of_ble_eq_true rfl⟩) hA hK hP hD hS [] [0, 1, 2, 3] [0, 1, 2, 3] rfl rfl (by decide) (by decide) (by decide) nwA_ok hN hl.1 (Nat.le_of_ble_eq_true rfl) ⟨Nat.le_refl _, Nat.le_refl _⟩ rfl rfl dX5_machine_23 (fun (u : (Nat)) => [(g0, .inr (5, [.ref h0, .ref p0, .ref k0, .ref u0, .ref r0])), (u0, .inr (2, [.ref u1, .ref u2, .int (nI rm), .ref u3, .ref ua, .ref ub])), (u1, .inl (cI, 2, .inl (fun z_ => nI (BR z_)))), (u2, .inl (cI, 2, .inl (fun z_ => nI (RP z_))))]) (fun u => rfl) (by decide) (fun r_23 u H locs hw hP hD hS => ?_)
      obtain ⟨rv_23, eu⟩ : ∃ z, z = u := ⟨_, rfl⟩
      subst eu
      have hP : va_P (dC, dI) vwCl [(g0, .inr (5, [.ref h0, .ref p0, .ref k0, .ref u0, .ref r0])), (u0, .inr (2, [.ref u1, .ref u2, .int (nI rm), .ref u3, .ref ua, .ref ub])), (u1, .inl (cI, 2, .inl (fun z_ => nI (BR z_)))), (u2, .inl (cI, 2, .inl (fun z_ => nI (RP z_))))] H := hP
      have hD : va_D A [(g0, .inr (5, [.ref h0, .ref p0, .ref k0, .ref u0, .ref r0])), (u0, .inr (2, [.ref u1, .ref u2, .int (nI rm), .ref u3, .ref ua, .ref ub])), (u1, .inl (cI, 2, .inl (fun z_ => nI (BR z_)))), (u2, .inl (cI, 2, .inl (fun z_ => nI (RP z_))))] := hD
      obtain ⟨er, p23_0⟩ := hw
      have p23_0 : (rv_23 = 1 ∧ ((0 : Int) ≤ rr ∧ rr ≤ (4 : Int))) ∨ (rv_23 = 0 ∧ ¬ ((0 : Int) ≤ rr ∧ rr ≤ (4 : Int))) := p23_0
      have er : r_23 = (nI rv_23) := er
      subst er
      rcases p23_0 with ⟨h23, c_23⟩ | ⟨h23, c_23⟩
      · skip
        subst h23
        refine lv_if_ne (tgt := 32) hx hb dX5_machine_26 (by decide) (fun _ => ?_) (fun c_x => absurd c_x (by decide))
        refine lv_bipush (v := nI 10) hx hb dX5_machine_32 (by decide) ?_
        refine lv_aload_n hx hb dX5_machine_34 rfl (lv_at hl 0 rfl) ?_
        refine z_get (D := (dC, dI)) (ci := 5) (v := .ref u0) (C := RX5) (T := TX5) (N := 5) hx hb hts uX5 hown hK hP 0 rfl rfl 3 (by decide) w35 rfl rfl dX5_machine_35 ?_
        refine z_get (D := (dC, dI)) (ci := 2) (v := .ref u1) (C := RX2) (T := TX2) (N := 6) hx hb hts uX2 hown hK hP 1 rfl rfl 0 (by decide) w148 rfl rfl dX5_machine_38 ?_
        refine lv_iload_n hx hb dX5_machine_41 rfl (lv_at hl 1 rfl) ?_
        refine z_c0 (v := nI z.toNat) (z_ZtoN (by first | assumption | omega)) ?_
        refine z_iald (v := (nI (BR z.toNat))) hx hb hK hP 2 0 rfl rfl z.toNat rfl (by omega) rfl dX5_machine_42 ?_
        refine z_imul (v := (nI (10 * (BR z.toNat)))) hx hb dX5_machine_43 (pk_mul _ _) ?_
        refine lv_aload_n hx hb dX5_machine_44 rfl (lv_at hl 0 rfl) ?_
        refine z_get (D := (dC, dI)) (ci := 5) (v := .ref u0) (C := RX5) (T := TX5) (N := 5) hx hb hts uX5 hown hK hP 0 rfl rfl 3 (by decide) w35 rfl rfl dX5_machine_45 ?_
        refine z_get (D := (dC, dI)) (ci := 2) (v := .ref u2) (C := RX2) (T := TX2) (N := 6) hx hb hts uX2 hown hK hP 1 rfl rfl 1 (by decide) w151 rfl rfl dX5_machine_48 ?_
        refine lv_iload_n hx hb dX5_machine_51 rfl (lv_at hl 1 rfl) ?_
        refine z_c0 (v := nI z.toNat) (z_ZtoN (by first | assumption | omega)) ?_
        refine z_iald (v := (nI (RP z.toNat))) hx hb hK hP 3 0 rfl rfl z.toNat rfl (by omega) rfl dX5_machine_52 ?_
        refine z_iadd (v := (nI ((10 * (BR z.toNat)) + (RP z.toNat)))) hx hb dX5_machine_53 (nI_add _ _) ?_
        refine lv_istore (lv' := [(4, .int (nI ((10 * (BR z.toNat)) + (RP z.toNat)))), (0, .ref g0), (1, .int (iI z)), (2, .int (iI b)), (3, .int (iI rr))]) hx hb dX5_machine_54 hl (by decide) rfl (fun ls hl => ?_)
        refine lv_aload_n hx hb dX5_machine_56 rfl (lv_at hl 1 rfl) ?_
        refine z_get (D := (dC, dI)) (ci := 5) (v := .ref u0) (C := RX5) (T := TX5) (N := 5) hx hb hts uX5 hown hK hP 0 rfl rfl 3 (by decide) w35 rfl rfl dX5_machine_57 ?_
        refine z_get (D := (dC, dI)) (ci := 2) (v := .ref u1) (C := RX2) (T := TX2) (N := 6) hx hb hts uX2 hown hK hP 1 rfl rfl 0 (by decide) w148 rfl rfl dX5_machine_60 ?_
        refine lv_iload_n hx hb dX5_machine_63 rfl (lv_at hl 2 rfl) ?_
        refine lv_iload_n hx hb dX5_machine_64 rfl (lv_at hl 3 rfl) ?_
        refine z_c0 (v := nI b.toNat) (z_ZtoN (by first | assumption | omega)) ?_
        refine z_c1 (v := nI z.toNat) (z_ZtoN (by first | assumption | omega)) ?_
        refine z_iast hx hb hK hP hD hS 2 0 rfl rfl z.toNat rfl (by omega) (upd_N BR z.toNat b.toNat) [(g0, .inr (5, [.ref h0, .ref p0, .ref k0, .ref u0, .ref r0])), (u0, .inr (2, [.ref u1, .ref u2, .int (nI rm), .ref u3, .ref ua, .ref ub])), (u1, .inl (cI, 2, .inl (fun z_ => nI ((up BR z.toNat b.toNat) z_)))), (u2, .inl (cI, 2, .inl (fun z_ => nI (RP z_))))] rfl dX5_machine_65 (fun H locs hP hD hS => ?_)
        refine lv_aload_n hx hb dX5_machine_66 rfl (lv_at hl 1 rfl) ?_
        refine z_get (D := (dC, dI)) (ci := 5) (v := .ref u0) (C := RX5) (T := TX5) (N := 5) hx hb hts uX5 hown hK hP 0 rfl rfl 3 (by decide) w35 rfl rfl dX5_machine_67 ?_
        refine z_get (D := (dC, dI)) (ci := 2) (v := .ref u2) (C := RX2) (T := TX2) (N := 6) hx hb hts uX2 hown hK hP 1 rfl rfl 1 (by decide) w151 rfl rfl dX5_machine_70 ?_
        refine lv_iload_n hx hb dX5_machine_73 rfl (lv_at hl 2 rfl) ?_
        refine lv_iload_n hx hb dX5_machine_74 rfl (lv_at hl 4 rfl) ?_
        refine z_c0 (v := nI rr.toNat) (z_ZtoN (by first | assumption | omega)) ?_
        refine z_c1 (v := nI z.toNat) (z_ZtoN (by first | assumption | omega)) ?_
        refine z_iast hx hb hK hP hD hS 3 0 rfl rfl z.toNat rfl (by omega) (upd_N RP z.toNat rr.toNat) [(g0, .inr (5, [.ref h0, .ref p0, .ref k0, .ref u0, .ref r0])), (u0, .inr (2, [.ref u1, .ref u2, .int (nI rm), .ref u3, .ref ua, .ref ub])), (u1, .inl (cI, 2, .inl (fun z_ => nI ((up BR z.toNat b.toNat) z_)))), (u2, .inl (cI, 2, .inl (fun z_ => nI ((up RP z.toNat rr.toNat) z_))))] rfl dX5_machine_75 (fun H locs hP hD hS => ?_)
        refine lv_iload hx hb dX5_machine_76 (lv_at hl 0 rfl) ?_
        refine z_c0 (v := iI (((10 * (BR z.toNat)) + (RP z.toNat) : Nat) : Int)) (iI_N _) ?_
        have q_0 : (((10 * (BR z.toNat)) + (RP z.toNat) : Nat) : Int) = if 0 ≤ z ∧ z ≤ 1 then (if (0 ≤ b ∧ b ≤ 4) ∧ (0 ≤ rr ∧ rr ≤ 4) then ((10 * BR z.toNat + RP z.toNat : Nat) : Int) else -2) else -1 := by repeat (first | rw [if_pos (by omega)] | rw [if_neg (by omega)])
        have q_1 : (up BR z.toNat b.toNat) = if ((0 ≤ z ∧ z ≤ 1) ∧ ((0 ≤ b ∧ b ≤ 4) ∧ (0 ≤ rr ∧ rr ≤ 4))) then up BR z.toNat b.toNat else BR := by repeat (first | rw [if_pos (by omega)] | rw [if_neg (by omega)])
        have q_2 : (up RP z.toNat rr.toNat) = if ((0 ≤ z ∧ z ≤ 1) ∧ ((0 ≤ b ∧ b ≤ 4) ∧ (0 ≤ rr ∧ rr ≤ 4))) then up RP z.toNat rr.toNat else RP := by repeat (first | rw [if_pos (by omega)] | rw [if_neg (by omega)])
        exact hRET _ ls H locs ((iI (((10 * (BR z.toNat)) + (RP z.toNat) : Nat) : Int))) ((((10 * (BR z.toNat)) + (RP z.toNat) : Nat) : Int), up BR z.toNat b.toNat, up RP z.toNat rr.toNat) dX5_machine_78 ⟨rfl, q_0, q_1, q_2⟩ hP hD hS
      · skip
        subst h23
        refine lv_if_ne (tgt := 32) hx hb dX5_machine_26 (by decide) (fun c_x => absurd c_x (by decide)) (fun _ => ?_)
        refine lv_bipush (v := iI (-2)) hx hb dX5_machine_29 (by decide) ?_
        have q_0 : (-2 : Int) = if 0 ≤ z ∧ z ≤ 1 then (if (0 ≤ b ∧ b ≤ 4) ∧ (0 ≤ rr ∧ rr ≤ 4) then ((10 * BR z.toNat + RP z.toNat : Nat) : Int) else -2) else -1 := by repeat (first | rw [if_pos (by omega)] | rw [if_neg (by omega)])
        have q_1 : BR = if ((0 ≤ z ∧ z ≤ 1) ∧ ((0 ≤ b ∧ b ≤ 4) ∧ (0 ≤ rr ∧ rr ≤ 4))) then up BR z.toNat b.toNat else BR := by repeat (first | rw [if_pos (by omega)] | rw [if_neg (by omega)])
        have q_2 : RP = if ((0 ≤ z ∧ z ≤ 1) ∧ ((0 ≤ b ∧ b ≤ 4) ∧ (0 ≤ rr ∧ rr ≤ 4))) then up RP z.toNat rr.toNat else RP := by repeat (first | rw [if_pos (by omega)] | rw [if_neg (by omega)])
        exact hRET _ ls H locs ((iI (-2))) ((-2 : Int), BR, RP) dX5_machine_31 ⟨rfl, q_0, q_1, q_2⟩ hP hD hS
    · skip
      subst h14
      refine lv_if_eq (tgt := 29) hx hb dX5_machine_17 (by decide) (fun _ => ?_) (fun c_x => absurd c_x (by decide))
      refine lv_bipush (v := iI (-2)) hx hb dX5_machine_29 (by decide) ?_
      have q_0 : (-2 : Int) = if 0 ≤ z ∧ z ≤ 1 then (if (0 ≤ b ∧ b ≤ 4) ∧ (0 ≤ rr ∧ rr ≤ 4) then ((10 * BR z.toNat + RP z.toNat : Nat) : Int) else -2) else -1 := by repeat (first | rw [if_pos (by omega)] | rw [if_neg (by omega)])
      have q_1 : BR = if ((0 ≤ z ∧ z ≤ 1) ∧ ((0 ≤ b ∧ b ≤ 4) ∧ (0 ≤ rr ∧ rr ≤ 4))) then up BR z.toNat b.toNat else BR := by repeat (first | rw [if_pos (by omega)] | rw [if_neg (by omega)])
      have q_2 : RP = if ((0 ≤ z ∧ z ≤ 1) ∧ ((0 ≤ b ∧ b ≤ 4) ∧ (0 ≤ rr ∧ rr ≤ 4))) then up RP z.toNat rr.toNat else RP := by repeat (first | rw [if_pos (by omega)] | rw [if_neg (by omega)])
      exact hRET _ ls H locs ((iI (-2))) ((-2 : Int), BR, RP) dX5_machine_31 ⟨rfl, q_0, q_1, q_2⟩ hP hD hS
  · skip
    subst h3
    refine lv_if_ne (tgt := 11) hx hb dX5_machine_6 (by decide) (fun c_x => absurd c_x (by decide)) (fun _ => ?_)
    refine lv_iconst (v := iI (-1)) hx hb dX5_machine_9 (by decide) ?_
    have q_0 : (-1 : Int) = if 0 ≤ z ∧ z ≤ 1 then (if (0 ≤ b ∧ b ≤ 4) ∧ (0 ≤ rr ∧ rr ≤ 4) then ((10 * BR z.toNat + RP z.toNat : Nat) : Int) else -2) else -1 := by repeat (first | rw [if_pos (by omega)] | rw [if_neg (by omega)])
    have q_1 : BR = if ((0 ≤ z ∧ z ≤ 1) ∧ ((0 ≤ b ∧ b ≤ 4) ∧ (0 ≤ rr ∧ rr ≤ 4))) then up BR z.toNat b.toNat else BR := by repeat (first | rw [if_pos (by omega)] | rw [if_neg (by omega)])
    have q_2 : RP = if ((0 ≤ z ∧ z ≤ 1) ∧ ((0 ≤ b ∧ b ≤ 4) ∧ (0 ≤ rr ∧ rr ≤ 4))) then up RP z.toNat rr.toNat else RP := by repeat (first | rw [if_pos (by omega)] | rw [if_neg (by omega)])
    exact hRET _ ls H locs ((iI (-1))) ((-1 : Int), BR, RP) dX5_machine_10 ⟨rfl, q_0, q_1, q_2⟩ hP hD hS

set_option maxHeartbeats 4000000 in
set_option maxRecDepth 100000 in
theorem c_X5_store (l : Launch) (dC : Nat → ClassId) (dI : Nat → Nat → Nat) (cI cJ : ClassId) (sz : Nat) (g0 : Nat) (h0 : Nat) (p0 : Nat) (k0 : Nat) (u0 : Nat) (r0 : Nat) (u1 : Nat) (u2 : Nat) (u3 : Nat) (ua : Nat) (ub : Nat) (rm : Nat) (b : Int) (bb : -2147483648 ≤ b ∧ b < 2147483648) : Met l yX5_store wsX5_store (zR 1 0 0 22) (va_Pc [.ref g0, .int (iI b)] (zP (dC, dI) [(cI, .int), (cJ, .long)] [(g0, .inr (5, [.ref h0, .ref p0, .ref k0, .ref u0, .ref r0])), (u0, .inr (2, [.ref u1, .ref u2, .int (nI rm), .ref u3, .ref ua, .ref ub]))] sz nwA)) (va_Qi (fun (r : Int32) (u : (Int) × (Nat)) => r = (iI u.1) ∧ (u.1 = if 0 ≤ b ∧ b ≤ 6 then (rm : Int) else -2) ∧ (u.2 = if 0 ≤ b ∧ b ≤ 6 then b.toNat else rm)) (zB (dC, dI) (fun (u : (Int) × (Nat)) => [(g0, .inr (5, [.ref h0, .ref p0, .ref k0, .ref u0, .ref r0])), (u0, .inr (2, [.ref u1, .ref u2, .int (nI u.2), .ref u3, .ref ua, .ref ub]))]) (va_A [(g0, .inr (5, [.ref h0, .ref p0, .ref k0, .ref u0, .ref r0])), (u0, .inr (2, [.ref u1, .ref u2, .int (nI rm), .ref u3, .ref ua, .ref ub]))] sz)) (va_A [(g0, .inr (5, [.ref h0, .ref p0, .ref k0, .ref u0, .ref r0])), (u0, .inr (2, [.ref u1, .ref u2, .int (nI rm), .ref u3, .ref ua, .ref ub]))] sz)) 0 0 (va_A [(g0, .inr (5, [.ref h0, .ref p0, .ref k0, .ref u0, .ref r0])), (u0, .inr (2, [.ref u1, .ref u2, .int (nI rm), .ref u3, .ref ua, .ref ub]))] sz) := by
  refine z_met_i (cc := cX5_store) (maxL := 3) (by decide) rfl (Nat.le_of_ble_eq_true rfl) ?_
  intro p e s m args below meth c Q A ls hx hb hml hown hts hin hA hK hP hD hN hl hRET
  have hown : s.vm.findClass RX5 = some m.cls := hown
  obtain ⟨H, eH⟩ : ∃ H : Heap, H = s.heap := ⟨_, rfl⟩
  rw [← eH] at hP
  obtain ⟨locs, eL⟩ : ∃ z : List Loc, z = [] := ⟨_, rfl⟩
  rw [← eH, ← eL]
  have hS : va_S A s.heap H locs := by rw [eH, eL]; exact va_S.rf
  have hl : lv_has ls 3 [(0, .ref g0), (1, .int (iI b))] := hl
  have w35 := hts (.fieldLink RX5 35 "PullCards" "pair" "LPullCards$Pair;") (by decide +kernel)
  have uX5 : ∀ w ∈ wsX50, w ∈ wsX5_store := by decide +kernel
  have w154 := hts (.fieldLink RX5 154 "PullCards$Pair" "room" "I") (by decide +kernel)
  have uX2 : ∀ w ∈ wsX20, w ∈ wsX5_store := by decide +kernel
  refine lv_iload_n hx hb dX5_store_0 rfl (lv_at hl 1 rfl) ?_
  refine lv_iconst (v := nI 0) hx hb dX5_store_1 (by decide) ?_
  refine lv_bipush (v := nI 6) hx hb dX5_store_2 (by decide) ?_
  refine z_c0 (v := iI 6) (by decide) ?_
  refine z_c1 (v := iI 0) (by decide) ?_
  refine z_callSi (As := [.int (iI b), .int (iI 0), .int (iI 6)]) (rest := []) (wr := [(g0, .inr (5, [.ref h0, .ref p0, .ref k0, .ref u0, .ref r0])), (u0, .inr (2, [.ref u1, .ref u2, .int (nI rm), .ref u3, .ref ua, .ref ub]))]) ⟨hx, hb, hml, hown, hts⟩ (c_X5_within l dC dI cI cJ H.size b (0 : Int) (6 : Int) (by first | assumption | omega) (by first | assumption | omega) (by first | assumption | omega)) (va_cwS 3 hts gX5_store_X5_within rfl rfl rfl (by decide +kernel) ⟨Nat.le_of_ble_eq_true rfl, Nat.le_of_ble_eq_true rfl⟩) hA hK hP hD hS [] [0, 1] [0, 1] rfl rfl (by decide) (by decide) (by decide) nwA_ok hN hl.1 (Nat.le_of_ble_eq_true rfl) ⟨Nat.le_refl _, Nat.le_refl _⟩ rfl rfl dX5_store_4 (fun (u : (Nat)) => [(g0, .inr (5, [.ref h0, .ref p0, .ref k0, .ref u0, .ref r0])), (u0, .inr (2, [.ref u1, .ref u2, .int (nI rm), .ref u3, .ref ua, .ref ub]))]) (fun u => rfl) (by decide) (fun r_4 u H locs hw hP hD hS => ?_)
  obtain ⟨rv_4, eu⟩ : ∃ z, z = u := ⟨_, rfl⟩
  subst eu
  have hP : va_P (dC, dI) vwCl [(g0, .inr (5, [.ref h0, .ref p0, .ref k0, .ref u0, .ref r0])), (u0, .inr (2, [.ref u1, .ref u2, .int (nI rm), .ref u3, .ref ua, .ref ub]))] H := hP
  have hD : va_D A [(g0, .inr (5, [.ref h0, .ref p0, .ref k0, .ref u0, .ref r0])), (u0, .inr (2, [.ref u1, .ref u2, .int (nI rm), .ref u3, .ref ua, .ref ub]))] := hD
  obtain ⟨er, p4_0⟩ := hw
  have p4_0 : (rv_4 = 1 ∧ ((0 : Int) ≤ b ∧ b ≤ (6 : Int))) ∨ (rv_4 = 0 ∧ ¬ ((0 : Int) ≤ b ∧ b ≤ (6 : Int))) := p4_0
  have er : r_4 = (nI rv_4) := er
  subst er
  rcases p4_0 with ⟨h4, c_4⟩ | ⟨h4, c_4⟩
  · skip
    subst h4
    refine lv_if_ne (tgt := 13) hx hb dX5_store_7 (by decide) (fun _ => ?_) (fun c_x => absurd c_x (by decide))
    refine lv_aload_n hx hb dX5_store_13 rfl (lv_at hl 0 rfl) ?_
    refine z_get (D := (dC, dI)) (ci := 5) (v := .ref u0) (C := RX5) (T := TX5) (N := 5) hx hb hts uX5 hown hK hP 0 rfl rfl 3 (by decide) w35 rfl rfl dX5_store_14 ?_
    refine z_get (D := (dC, dI)) (ci := 2) (v := .int (nI rm)) (C := RX2) (T := TX2) (N := 6) hx hb hts uX2 hown hK hP 1 rfl rfl 2 (by decide) w154 rfl rfl dX5_store_17 ?_
    refine lv_istore_n (lv' := [(2, .int (nI rm)), (0, .ref g0), (1, .int (iI b))]) hx hb dX5_store_20 rfl hl (by decide) rfl (fun ls hl => ?_)
    refine lv_aload_n hx hb dX5_store_21 rfl (lv_at hl 1 rfl) ?_
    refine z_get (D := (dC, dI)) (ci := 5) (v := .ref u0) (C := RX5) (T := TX5) (N := 5) hx hb hts uX5 hown hK hP 0 rfl rfl 3 (by decide) w35 rfl rfl dX5_store_22 ?_
    refine lv_iload_n hx hb dX5_store_25 rfl (lv_at hl 2 rfl) ?_
    refine z_c0 (v := nI b.toNat) (z_ZtoN (by first | assumption | omega)) ?_
    refine z_put (D := (dC, dI)) (ci := 2) (v := .int (nI b.toNat)) (C := RX2) (T := TX2) (N := 6) hx hb hts uX2 tyX2 tyX2_ok nmX2 hown hK hP hD hS 1 rfl rfl 2 (by decide) w154 rfl rfl rfl rfl (Nat.le_of_ble_eq_true rfl) [(g0, .inr (5, [.ref h0, .ref p0, .ref k0, .ref u0, .ref r0])), (u0, .inr (2, [.ref u1, .ref u2, .int (nI b.toNat), .ref u3, .ref ua, .ref ub]))] rfl dX5_store_26 (fun H locs hP hD hS => ?_)
    refine lv_iload_n hx hb dX5_store_29 rfl (lv_at hl 0 rfl) ?_
    refine z_c0 (v := iI ((rm : Nat) : Int)) (iI_N _) ?_
    have q_0 : ((rm : Nat) : Int) = if 0 ≤ b ∧ b ≤ 6 then (rm : Int) else -2 := by repeat (first | rw [if_pos (by omega)] | rw [if_neg (by omega)])
    have q_1 : b.toNat = if 0 ≤ b ∧ b ≤ 6 then b.toNat else rm := by repeat (first | rw [if_pos (by omega)] | rw [if_neg (by omega)])
    exact hRET _ ls H locs ((iI ((rm : Nat) : Int))) (((rm : Nat) : Int), b.toNat) dX5_store_30 ⟨rfl, q_0, q_1⟩ hP hD hS
  · skip
    subst h4
    refine lv_if_ne (tgt := 13) hx hb dX5_store_7 (by decide) (fun c_x => absurd c_x (by decide)) (fun _ => ?_)
    refine lv_bipush (v := iI (-2)) hx hb dX5_store_10 (by decide) ?_
    have q_0 : (-2 : Int) = if 0 ≤ b ∧ b ≤ 6 then (rm : Int) else -2 := by repeat (first | rw [if_pos (by omega)] | rw [if_neg (by omega)])
    have q_1 : rm = if 0 ≤ b ∧ b ≤ 6 then b.toNat else rm := by repeat (first | rw [if_pos (by omega)] | rw [if_neg (by omega)])
    exact hRET _ ls H locs ((iI (-2))) ((-2 : Int), rm) dX5_store_12 ⟨rfl, q_0, q_1⟩ hP hD hS

set_option maxHeartbeats 4000000 in
set_option maxRecDepth 100000 in
theorem c_X5_given (l : Launch) (dC : Nat → ClassId) (dI : Nat → Nat → Nat) (cI cJ : ClassId) (sz : Nat) (g0 : Nat) (h0 : Nat) (p0 : Nat) (k0 : Nat) (u0 : Nat) (r0 : Nat) (u1 : Nat) (u2 : Nat) (u3 : Nat) (ua : Nat) (ub : Nat) (BR : Nat → Nat) (RP : Nat → Nat) (CW : Nat → Nat) (WA : Nat → Nat) (XB : Nat → Nat) (rm : Nat) (tk : Int) (uu : Nat) (bBR : ∀ i, BR i ≤ 4) (bRP : ∀ i, RP i ≤ 4) (brm : rm ≤ 6) (bt : -2147483648 ≤ tk ∧ tk < 2147483648) (bu : uu ≤ 1) : Met l yX5_given wsX5_given (zR 5 0 0 135) (va_Pc [.ref g0, .int (iI tk), .int (nI uu)] (zP (dC, dI) [(cI, .int), (cJ, .long)] [(g0, .inr (5, [.ref h0, .ref p0, .ref k0, .ref u0, .ref r0])), (u0, .inr (2, [.ref u1, .ref u2, .int (nI rm), .ref u3, .ref ua, .ref ub])), (u1, .inl (cI, 2, .inl (fun z_ => nI (BR z_)))), (u2, .inl (cI, 2, .inl (fun z_ => nI (RP z_)))), (u3, .inl (cI, 16, .inl (fun z_ => nI (CW z_)))), (ua, .inl (cJ, 308, .inr (.inl (fun z_ => lN (WA z_))))), (ub, .inl (cJ, 308, .inr (.inl (fun z_ => lN (XB z_)))))] sz nwA)) (va_Ql (fun (r : Int64) (u : (Int) × (Nat → Nat) × (Nat → Nat) × (Nat → Nat) × (Nat) × (Nat)) => r = (lI u.1) ∧ (u.1 = if 1 ≤ tk ∧ tk ≤ 10 then ((sp_fr (sp_mn (sp_cw BR RP) rm tk.toNat) (1 * 2 ^ (4 * tk.toNat)) uu : Nat) : Int) else -2)) (zB (dC, dI) (fun (u : (Int) × (Nat → Nat) × (Nat → Nat) × (Nat → Nat) × (Nat) × (Nat)) => [(g0, .inr (5, [.ref h0, .ref p0, .ref k0, .ref u0, .ref r0])), (u0, .inr (2, [.ref u1, .ref u2, .int (nI rm), .ref u3, .ref u.2.2.2.2.1, .ref u.2.2.2.2.2])), (u1, .inl (cI, 2, .inl (fun z_ => nI (BR z_)))), (u2, .inl (cI, 2, .inl (fun z_ => nI (RP z_)))), (u3, .inl (cI, 16, .inl (fun z_ => nI (u.2.1 z_)))), (u.2.2.2.2.1, .inl (cJ, 308, .inr (.inl (fun z_ => lN (u.2.2.1 z_))))), (u.2.2.2.2.2, .inl (cJ, 308, .inr (.inl (fun z_ => lN (u.2.2.2.1 z_)))))]) (va_A [(g0, .inr (5, [.ref h0, .ref p0, .ref k0, .ref u0, .ref r0])), (u0, .inr (2, [.ref u1, .ref u2, .int (nI rm), .ref u3, .ref ua, .ref ub])), (u1, .inl (cI, 2, .inl (fun z_ => nI (BR z_)))), (u2, .inl (cI, 2, .inl (fun z_ => nI (RP z_)))), (u3, .inl (cI, 16, .inl (fun z_ => nI (CW z_)))), (ua, .inl (cJ, 308, .inr (.inl (fun z_ => lN (WA z_))))), (ub, .inl (cJ, 308, .inr (.inl (fun z_ => lN (XB z_)))))] sz)) (va_A [(g0, .inr (5, [.ref h0, .ref p0, .ref k0, .ref u0, .ref r0])), (u0, .inr (2, [.ref u1, .ref u2, .int (nI rm), .ref u3, .ref ua, .ref ub])), (u1, .inl (cI, 2, .inl (fun z_ => nI (BR z_)))), (u2, .inl (cI, 2, .inl (fun z_ => nI (RP z_)))), (u3, .inl (cI, 16, .inl (fun z_ => nI (CW z_)))), (ua, .inl (cJ, 308, .inr (.inl (fun z_ => lN (WA z_))))), (ub, .inl (cJ, 308, .inr (.inl (fun z_ => lN (XB z_)))))] sz)) 0 0 (va_A [(g0, .inr (5, [.ref h0, .ref p0, .ref k0, .ref u0, .ref r0])), (u0, .inr (2, [.ref u1, .ref u2, .int (nI rm), .ref u3, .ref ua, .ref ub])), (u1, .inl (cI, 2, .inl (fun z_ => nI (BR z_)))), (u2, .inl (cI, 2, .inl (fun z_ => nI (RP z_)))), (u3, .inl (cI, 16, .inl (fun z_ => nI (CW z_)))), (ua, .inl (cJ, 308, .inr (.inl (fun z_ => lN (WA z_))))), (ub, .inl (cJ, 308, .inr (.inl (fun z_ => lN (XB z_)))))] sz) := by
  refine z_met_l (cc := cX5_given) (maxL := 3) (by decide) rfl (Nat.le_of_ble_eq_true rfl) ?_
  intro p e s m args below meth c Q A ls hx hb hml hown hts hin hA hK hP hD hN hl hRET
  have hown : s.vm.findClass RX5 = some m.cls := hown
  obtain ⟨H, eH⟩ : ∃ H : Heap, H = s.heap := ⟨_, rfl⟩
  rw [← eH] at hP
  obtain ⟨locs, eL⟩ : ∃ z : List Loc, z = [] := ⟨_, rfl⟩
  rw [← eH, ← eL]
  have hS : va_S A s.heap H locs := by rw [eH, eL]; exact va_S.rf
  have hl : lv_has ls 3 [(0, .ref g0), (1, .int (iI tk)), (2, .int (nI uu))] := hl
  have w35 := hts (.fieldLink RX5 35 "PullCards" "pair" "LPullCards$Pair;") (by decide +kernel)
  have uX5 : ∀ w ∈ wsX50, w ∈ wsX5_given := by decide +kernel
  have w154 := hts (.fieldLink RX5 154 "PullCards$Pair" "room" "I") (by decide +kernel)
  have uX2 : ∀ w ∈ wsX20, w ∈ wsX5_given := by decide +kernel
  refine lv_iload_n hx hb dX5_given_0 rfl (lv_at hl 1 rfl) ?_
  refine lv_iconst (v := nI 1) hx hb dX5_given_1 (by decide) ?_
  refine lv_bipush (v := nI 10) hx hb dX5_given_2 (by decide) ?_
  refine z_c0 (v := iI 10) (by decide) ?_
  refine z_c1 (v := iI 1) (by decide) ?_
  refine z_callSi (As := [.int (iI tk), .int (iI 1), .int (iI 10)]) (rest := []) (wr := [(g0, .inr (5, [.ref h0, .ref p0, .ref k0, .ref u0, .ref r0])), (u0, .inr (2, [.ref u1, .ref u2, .int (nI rm), .ref u3, .ref ua, .ref ub])), (u1, .inl (cI, 2, .inl (fun z_ => nI (BR z_)))), (u2, .inl (cI, 2, .inl (fun z_ => nI (RP z_)))), (u3, .inl (cI, 16, .inl (fun z_ => nI (CW z_)))), (ua, .inl (cJ, 308, .inr (.inl (fun z_ => lN (WA z_))))), (ub, .inl (cJ, 308, .inr (.inl (fun z_ => lN (XB z_)))))]) ⟨hx, hb, hml, hown, hts⟩ (c_X5_within l dC dI cI cJ H.size tk (1 : Int) (10 : Int) (by first | assumption | omega) (by first | assumption | omega) (by first | assumption | omega)) (va_cwS 3 hts gX5_given_X5_within rfl rfl rfl (by decide +kernel) ⟨Nat.le_of_ble_eq_true rfl, Nat.le_of_ble_eq_true rfl⟩) hA hK hP hD hS [] [0, 1, 2, 3, 4, 5, 6] [0, 1, 2, 3, 4, 5, 6] rfl rfl (by decide) (by decide) (by decide) nwA_ok hN hl.1 (Nat.le_of_ble_eq_true rfl) ⟨Nat.le_refl _, Nat.le_refl _⟩ rfl rfl dX5_given_4 (fun (u : (Nat)) => [(g0, .inr (5, [.ref h0, .ref p0, .ref k0, .ref u0, .ref r0])), (u0, .inr (2, [.ref u1, .ref u2, .int (nI rm), .ref u3, .ref ua, .ref ub])), (u1, .inl (cI, 2, .inl (fun z_ => nI (BR z_)))), (u2, .inl (cI, 2, .inl (fun z_ => nI (RP z_)))), (u3, .inl (cI, 16, .inl (fun z_ => nI (CW z_)))), (ua, .inl (cJ, 308, .inr (.inl (fun z_ => lN (WA z_))))), (ub, .inl (cJ, 308, .inr (.inl (fun z_ => lN (XB z_)))))]) (fun u => rfl) (by decide) (fun r_4 u H locs hw hP hD hS => ?_)
  obtain ⟨rv_4, eu⟩ : ∃ z, z = u := ⟨_, rfl⟩
  subst eu
  have hP : va_P (dC, dI) vwCl [(g0, .inr (5, [.ref h0, .ref p0, .ref k0, .ref u0, .ref r0])), (u0, .inr (2, [.ref u1, .ref u2, .int (nI rm), .ref u3, .ref ua, .ref ub])), (u1, .inl (cI, 2, .inl (fun z_ => nI (BR z_)))), (u2, .inl (cI, 2, .inl (fun z_ => nI (RP z_)))), (u3, .inl (cI, 16, .inl (fun z_ => nI (CW z_)))), (ua, .inl (cJ, 308, .inr (.inl (fun z_ => lN (WA z_))))), (ub, .inl (cJ, 308, .inr (.inl (fun z_ => lN (XB z_)))))] H := hP
  have hD : va_D A [(g0, .inr (5, [.ref h0, .ref p0, .ref k0, .ref u0, .ref r0])), (u0, .inr (2, [.ref u1, .ref u2, .int (nI rm), .ref u3, .ref ua, .ref ub])), (u1, .inl (cI, 2, .inl (fun z_ => nI (BR z_)))), (u2, .inl (cI, 2, .inl (fun z_ => nI (RP z_)))), (u3, .inl (cI, 16, .inl (fun z_ => nI (CW z_)))), (ua, .inl (cJ, 308, .inr (.inl (fun z_ => lN (WA z_))))), (ub, .inl (cJ, 308, .inr (.inl (fun z_ => lN (XB z_)))))] := hD
  obtain ⟨er, p4_0⟩ := hw
  have p4_0 : (rv_4 = 1 ∧ ((1 : Int) ≤ tk ∧ tk ≤ (10 : Int))) ∨ (rv_4 = 0 ∧ ¬ ((1 : Int) ≤ tk ∧ tk ≤ (10 : Int))) := p4_0
  have er : r_4 = (nI rv_4) := er
  subst er
  rcases p4_0 with ⟨h4, c_4⟩ | ⟨h4, c_4⟩
  · skip
    subst h4
    refine lv_if_ne (tgt := 14) hx hb dX5_given_7 (by decide) (fun _ => ?_) (fun c_x => absurd c_x (by decide))
    refine lv_aload_n hx hb dX5_given_14 rfl (lv_at hl 0 rfl) ?_
    refine z_get (D := (dC, dI)) (ci := 5) (v := .ref u0) (C := RX5) (T := TX5) (N := 5) hx hb hts uX5 hown hK hP 0 rfl rfl 3 (by decide) w35 rfl rfl dX5_given_15 ?_
    refine lv_iload_n hx hb dX5_given_18 rfl (lv_at hl 1 rfl) ?_
    refine lv_aload_n hx hb dX5_given_19 rfl (lv_at hl 0 rfl) ?_
    refine z_get (D := (dC, dI)) (ci := 5) (v := .ref u0) (C := RX5) (T := TX5) (N := 5) hx hb hts uX5 hown hK hP 0 rfl rfl 3 (by decide) w35 rfl rfl dX5_given_20 ?_
    refine z_get (D := (dC, dI)) (ci := 2) (v := .int (nI rm)) (C := RX2) (T := TX2) (N := 6) hx hb hts uX2 hown hK hP 1 rfl rfl 2 (by decide) w154 rfl rfl dX5_given_23 ?_
    refine z_c1 (v := nI tk.toNat) (z_ZtoN (by first | assumption | omega)) ?_
    refine z_callVl (As := [.int (nI tk.toNat), .int (nI rm)]) (rest := []) (wr := [(g0, .inr (5, [.ref h0, .ref p0, .ref k0, .ref u0, .ref r0]))]) ⟨hx, hb, hml, hown, hts⟩ (c_X2_weighMean l dC dI cI cJ H.size u0 u1 u2 u3 ua ub BR RP CW WA XB rm tk.toNat rm (by first | assumption | omega) (by first | assumption | omega) (by first | assumption | omega) (by first | assumption | omega)) (cwV 2 hts gX5_given_X2_weighMean rfl rfl rfl (by decide +kernel) ⟨Nat.le_of_ble_eq_true rfl, Nat.le_of_ble_eq_true rfl⟩) hA hK hP hD hS [1, 2, 3, 4, 5, 6] [0] [0, 1, 2, 3, 4, 5, 6] rfl rfl (by decide) (by decide) (by decide) nwA_ok hN (ci := 2) rfl rfl 1 rfl hl.1 (Nat.le_of_ble_eq_true rfl) ⟨Nat.le_refl _, Nat.le_refl _⟩ rfl rfl dX5_given_26 (fun (u : (Nat) × (Nat → Nat) × (Nat → Nat) × (Nat → Nat) × (Nat) × (Nat)) => [(g0, .inr (5, [.ref h0, .ref p0, .ref k0, .ref u0, .ref r0])), (u0, .inr (2, [.ref u1, .ref u2, .int (nI rm), .ref u3, .ref u.2.2.2.2.1, .ref u.2.2.2.2.2])), (u1, .inl (cI, 2, .inl (fun z_ => nI (BR z_)))), (u2, .inl (cI, 2, .inl (fun z_ => nI (RP z_)))), (u3, .inl (cI, 16, .inl (fun z_ => nI (u.2.1 z_)))), (u.2.2.2.2.1, .inl (cJ, 308, .inr (.inl (fun z_ => lN (u.2.2.1 z_))))), (u.2.2.2.2.2, .inl (cJ, 308, .inr (.inl (fun z_ => lN (u.2.2.2.1 z_)))))]) (fun u => rfl) (by decide) (fun r_26 u H locs hw hP hD hS => ?_)
    obtain ⟨rv_26, CW2_26, W2_26, X2_26, qa2_26, qb2_26⟩ := u
    have hP : va_P (dC, dI) vwCl [(g0, .inr (5, [.ref h0, .ref p0, .ref k0, .ref u0, .ref r0])), (u0, .inr (2, [.ref u1, .ref u2, .int (nI rm), .ref u3, .ref qa2_26, .ref qb2_26])), (u1, .inl (cI, 2, .inl (fun z_ => nI (BR z_)))), (u2, .inl (cI, 2, .inl (fun z_ => nI (RP z_)))), (u3, .inl (cI, 16, .inl (fun z_ => nI (CW2_26 z_)))), (qa2_26, .inl (cJ, 308, .inr (.inl (fun z_ => lN (W2_26 z_))))), (qb2_26, .inl (cJ, 308, .inr (.inl (fun z_ => lN (X2_26 z_)))))] H := hP
    have hD : va_D A [(g0, .inr (5, [.ref h0, .ref p0, .ref k0, .ref u0, .ref r0])), (u0, .inr (2, [.ref u1, .ref u2, .int (nI rm), .ref u3, .ref qa2_26, .ref qb2_26])), (u1, .inl (cI, 2, .inl (fun z_ => nI (BR z_)))), (u2, .inl (cI, 2, .inl (fun z_ => nI (RP z_)))), (u3, .inl (cI, 16, .inl (fun z_ => nI (CW2_26 z_)))), (qa2_26, .inl (cJ, 308, .inr (.inl (fun z_ => lN (W2_26 z_))))), (qb2_26, .inl (cJ, 308, .inr (.inl (fun z_ => lN (X2_26 z_)))))] := hD
    obtain ⟨er, p26_0⟩ := hw
    have p26_0 : rv_26 = sp_mn (sp_cw BR RP) rm tk.toNat := p26_0
    have er : r_26 = (lN rv_26) := er
    subst er
    subst p26_0
    refine lv_iload_n hx hb dX5_given_29 rfl (lv_at hl 1 rfl) ?_
    refine z_c0 (v := nI tk.toNat) (z_ZtoN (by first | assumption | omega)) ?_
    refine z_callSl (As := [.int (nI tk.toNat)]) (rest := [.long (lN (sp_mn (sp_cw BR RP) rm tk.toNat))]) (wr := [(g0, .inr (5, [.ref h0, .ref p0, .ref k0, .ref u0, .ref r0])), (u0, .inr (2, [.ref u1, .ref u2, .int (nI rm), .ref u3, .ref qa2_26, .ref qb2_26])), (u1, .inl (cI, 2, .inl (fun z_ => nI (BR z_)))), (u2, .inl (cI, 2, .inl (fun z_ => nI (RP z_)))), (u3, .inl (cI, 16, .inl (fun z_ => nI (CW2_26 z_)))), (qa2_26, .inl (cJ, 308, .inr (.inl (fun z_ => lN (W2_26 z_))))), (qb2_26, .inl (cJ, 308, .inr (.inl (fun z_ => lN (X2_26 z_)))))]) ⟨hx, hb, hml, hown, hts⟩ (c_X2_weightInAll l dC dI cI cJ H.size tk.toNat (by first | assumption | omega)) (va_cwS 1 hts gX5_given_X2_weightInAll rfl rfl rfl (by decide +kernel) ⟨Nat.le_of_ble_eq_true rfl, Nat.le_of_ble_eq_true rfl⟩) hA hK hP hD hS [] [0, 1, 2, 3, 4, 5, 6] [0, 1, 2, 3, 4, 5, 6] rfl rfl (by decide) (by decide) (by decide) nwA_ok hN hl.1 (Nat.le_of_ble_eq_true rfl) ⟨Nat.le_refl _, Nat.le_refl _⟩ rfl rfl dX5_given_30 (fun (u : Unit) => [(g0, .inr (5, [.ref h0, .ref p0, .ref k0, .ref u0, .ref r0])), (u0, .inr (2, [.ref u1, .ref u2, .int (nI rm), .ref u3, .ref qa2_26, .ref qb2_26])), (u1, .inl (cI, 2, .inl (fun z_ => nI (BR z_)))), (u2, .inl (cI, 2, .inl (fun z_ => nI (RP z_)))), (u3, .inl (cI, 16, .inl (fun z_ => nI (CW2_26 z_)))), (qa2_26, .inl (cJ, 308, .inr (.inl (fun z_ => lN (W2_26 z_))))), (qb2_26, .inl (cJ, 308, .inr (.inl (fun z_ => lN (X2_26 z_)))))]) (fun u => rfl) (by decide) (fun r_30 u H locs hw hP hD hS => ?_)
    have hP : va_P (dC, dI) vwCl [(g0, .inr (5, [.ref h0, .ref p0, .ref k0, .ref u0, .ref r0])), (u0, .inr (2, [.ref u1, .ref u2, .int (nI rm), .ref u3, .ref qa2_26, .ref qb2_26])), (u1, .inl (cI, 2, .inl (fun z_ => nI (BR z_)))), (u2, .inl (cI, 2, .inl (fun z_ => nI (RP z_)))), (u3, .inl (cI, 16, .inl (fun z_ => nI (CW2_26 z_)))), (qa2_26, .inl (cJ, 308, .inr (.inl (fun z_ => lN (W2_26 z_))))), (qb2_26, .inl (cJ, 308, .inr (.inl (fun z_ => lN (X2_26 z_)))))] H := hP
    have hD : va_D A [(g0, .inr (5, [.ref h0, .ref p0, .ref k0, .ref u0, .ref r0])), (u0, .inr (2, [.ref u1, .ref u2, .int (nI rm), .ref u3, .ref qa2_26, .ref qb2_26])), (u1, .inl (cI, 2, .inl (fun z_ => nI (BR z_)))), (u2, .inl (cI, 2, .inl (fun z_ => nI (RP z_)))), (u3, .inl (cI, 16, .inl (fun z_ => nI (CW2_26 z_)))), (qa2_26, .inl (cJ, 308, .inr (.inl (fun z_ => lN (W2_26 z_))))), (qb2_26, .inl (cJ, 308, .inr (.inl (fun z_ => lN (X2_26 z_)))))] := hD
    have er := hw
    have er : r_30 = (lN (1 * 2 ^ (4 * tk.toNat))) := er
    subst er
    refine lv_iload_n hx hb dX5_given_33 rfl (lv_at hl 2 rfl) ?_
    have hb1 := sp_mn_b bBR bRP brm (show tk.toNat ≤ 10 by omega)
    have hb2 := pow16_le (show tk.toNat ≤ 10 by omega)
    have hb3 := pow16_pos tk.toNat
    rw [← pow24] at hb2 hb3
    refine z_callSl (As := [.long (lN (sp_mn (sp_cw BR RP) rm tk.toNat)), .long (lN (1 * 2 ^ (4 * tk.toNat))), .int (nI uu)]) (rest := []) (wr := [(g0, .inr (5, [.ref h0, .ref p0, .ref k0, .ref u0, .ref r0])), (u0, .inr (2, [.ref u1, .ref u2, .int (nI rm), .ref u3, .ref qa2_26, .ref qb2_26])), (u1, .inl (cI, 2, .inl (fun z_ => nI (BR z_)))), (u2, .inl (cI, 2, .inl (fun z_ => nI (RP z_)))), (u3, .inl (cI, 16, .inl (fun z_ => nI (CW2_26 z_)))), (qa2_26, .inl (cJ, 308, .inr (.inl (fun z_ => lN (W2_26 z_))))), (qb2_26, .inl (cJ, 308, .inr (.inl (fun z_ => lN (X2_26 z_)))))]) ⟨hx, hb, hml, hown, hts⟩ (c_X5_inLeastTerms l dC dI cI cJ H.size (sp_mn (sp_cw BR RP) rm tk.toNat) (1 * 2 ^ (4 * tk.toNat)) uu (by first | assumption | omega) (by first | assumption | omega) (by first | assumption | omega)) (va_cwS 3 hts gX5_given_X5_inLeastTerms rfl rfl rfl (by decide +kernel) ⟨Nat.le_of_ble_eq_true rfl, Nat.le_of_ble_eq_true rfl⟩) hA hK hP hD hS [] [0, 1, 2, 3, 4, 5, 6] [0, 1, 2, 3, 4, 5, 6] rfl rfl (by decide) (by decide) (by decide) nwA_ok hN hl.1 (Nat.le_of_ble_eq_true rfl) ⟨Nat.le_refl _, Nat.le_refl _⟩ rfl rfl dX5_given_34 (fun (u : (Nat)) => [(g0, .inr (5, [.ref h0, .ref p0, .ref k0, .ref u0, .ref r0])), (u0, .inr (2, [.ref u1, .ref u2, .int (nI rm), .ref u3, .ref qa2_26, .ref qb2_26])), (u1, .inl (cI, 2, .inl (fun z_ => nI (BR z_)))), (u2, .inl (cI, 2, .inl (fun z_ => nI (RP z_)))), (u3, .inl (cI, 16, .inl (fun z_ => nI (CW2_26 z_)))), (qa2_26, .inl (cJ, 308, .inr (.inl (fun z_ => lN (W2_26 z_))))), (qb2_26, .inl (cJ, 308, .inr (.inl (fun z_ => lN (X2_26 z_)))))]) (fun u => rfl) (by decide) (fun r_34 u H locs hw hP hD hS => ?_)
    obtain ⟨rv_34, eu⟩ : ∃ z, z = u := ⟨_, rfl⟩
    subst eu
    have hP : va_P (dC, dI) vwCl [(g0, .inr (5, [.ref h0, .ref p0, .ref k0, .ref u0, .ref r0])), (u0, .inr (2, [.ref u1, .ref u2, .int (nI rm), .ref u3, .ref qa2_26, .ref qb2_26])), (u1, .inl (cI, 2, .inl (fun z_ => nI (BR z_)))), (u2, .inl (cI, 2, .inl (fun z_ => nI (RP z_)))), (u3, .inl (cI, 16, .inl (fun z_ => nI (CW2_26 z_)))), (qa2_26, .inl (cJ, 308, .inr (.inl (fun z_ => lN (W2_26 z_))))), (qb2_26, .inl (cJ, 308, .inr (.inl (fun z_ => lN (X2_26 z_)))))] H := hP
    have hD : va_D A [(g0, .inr (5, [.ref h0, .ref p0, .ref k0, .ref u0, .ref r0])), (u0, .inr (2, [.ref u1, .ref u2, .int (nI rm), .ref u3, .ref qa2_26, .ref qb2_26])), (u1, .inl (cI, 2, .inl (fun z_ => nI (BR z_)))), (u2, .inl (cI, 2, .inl (fun z_ => nI (RP z_)))), (u3, .inl (cI, 16, .inl (fun z_ => nI (CW2_26 z_)))), (qa2_26, .inl (cJ, 308, .inr (.inl (fun z_ => lN (W2_26 z_))))), (qb2_26, .inl (cJ, 308, .inr (.inl (fun z_ => lN (X2_26 z_)))))] := hD
    obtain ⟨er, p34_0⟩ := hw
    have p34_0 : rv_34 = sp_fr (sp_mn (sp_cw BR RP) rm tk.toNat) (1 * 2 ^ (4 * tk.toNat)) uu := p34_0
    have er : r_34 = (lN rv_34) := er
    subst er
    refine z_l0 (v := lI ((rv_34 : Nat) : Int)) (lI_N _) ?_
    have q_0 : ((rv_34 : Nat) : Int) = if 1 ≤ tk ∧ tk ≤ 10 then ((sp_fr (sp_mn (sp_cw BR RP) rm tk.toNat) (1 * 2 ^ (4 * tk.toNat)) uu : Nat) : Int) else -2 := by rw [if_pos (by omega), p34_0]
    exact hRET _ ls H locs ((lI ((rv_34 : Nat) : Int))) (((rv_34 : Nat) : Int), CW2_26, W2_26, X2_26, qa2_26, qb2_26) dX5_given_37 ⟨rfl, q_0⟩ hP hD hS
  · skip
    subst h4
    refine lv_if_ne (tgt := 14) hx hb dX5_given_7 (by decide) (fun c_x => absurd c_x (by decide)) (fun _ => ?_)
    refine lv_ldc2 (v := (-2 : Int64)) hx hb hown (hts (.constantLong RX5 157 (-2)) (by decide +kernel)) dX5_given_10 ?_
    refine z_l0 (v := (lI (-2))) (by decide) ?_
    have q_0 : (-2 : Int) = if 1 ≤ tk ∧ tk ≤ 10 then ((sp_fr (sp_mn (sp_cw BR RP) rm tk.toNat) (1 * 2 ^ (4 * tk.toNat)) uu : Nat) : Int) else -2 := by rw [if_neg (by omega)]
    exact hRET _ ls H locs ((lI (-2))) ((-2 : Int), CW, WA, XB, ua, ub) dX5_given_13 ⟨rfl, q_0⟩ hP hD hS

set_option maxHeartbeats 4000000 in
set_option maxRecDepth 100000 in
theorem c_X5_just (l : Launch) (dC : Nat → ClassId) (dI : Nat → Nat → Nat) (cI cJ : ClassId) (sz : Nat) (g0 : Nat) (h0 : Nat) (p0 : Nat) (k0 : Nat) (u0 : Nat) (r0 : Nat) (u1 : Nat) (u2 : Nat) (u3 : Nat) (ua : Nat) (ub : Nat) (BR : Nat → Nat) (RP : Nat → Nat) (CW : Nat → Nat) (WA : Nat → Nat) (XB : Nat → Nat) (rm : Nat) (tk : Int) (mg : Int) (uu : Nat) (bBR : ∀ i, BR i ≤ 4) (bRP : ∀ i, RP i ≤ 4) (brm : rm ≤ 6) (bt : -2147483648 ≤ tk ∧ tk < 2147483648) (bg : -2147483648 ≤ mg ∧ mg < 2147483648) (bu : uu ≤ 1) : Met l yX5_just wsX5_just (zR 5 0 0 136) (va_Pc [.ref g0, .int (iI tk), .int (iI mg), .int (nI uu)] (zP (dC, dI) [(cI, .int), (cJ, .long)] [(g0, .inr (5, [.ref h0, .ref p0, .ref k0, .ref u0, .ref r0])), (u0, .inr (2, [.ref u1, .ref u2, .int (nI rm), .ref u3, .ref ua, .ref ub])), (u1, .inl (cI, 2, .inl (fun z_ => nI (BR z_)))), (u2, .inl (cI, 2, .inl (fun z_ => nI (RP z_)))), (u3, .inl (cI, 16, .inl (fun z_ => nI (CW z_)))), (ua, .inl (cJ, 308, .inr (.inl (fun z_ => lN (WA z_))))), (ub, .inl (cJ, 308, .inr (.inl (fun z_ => lN (XB z_)))))] sz nwA)) (va_Ql (fun (r : Int64) (u : (Int) × (Nat → Nat) × (Nat → Nat) × (Nat → Nat) × (Nat) × (Nat)) => r = (lI u.1) ∧ (u.1 = if (1 ≤ tk ∧ tk ≤ 10) ∧ (0 ≤ mg ∧ mg ≤ 10) then ((sp_fr (sp_js (sp_cw BR RP) rm mg.toNat tk.toNat) (1 * 2 ^ (4 * tk.toNat)) uu : Nat) : Int) else -2)) (zB (dC, dI) (fun (u : (Int) × (Nat → Nat) × (Nat → Nat) × (Nat → Nat) × (Nat) × (Nat)) => [(g0, .inr (5, [.ref h0, .ref p0, .ref k0, .ref u0, .ref r0])), (u0, .inr (2, [.ref u1, .ref u2, .int (nI rm), .ref u3, .ref u.2.2.2.2.1, .ref u.2.2.2.2.2])), (u1, .inl (cI, 2, .inl (fun z_ => nI (BR z_)))), (u2, .inl (cI, 2, .inl (fun z_ => nI (RP z_)))), (u3, .inl (cI, 16, .inl (fun z_ => nI (u.2.1 z_)))), (u.2.2.2.2.1, .inl (cJ, 308, .inr (.inl (fun z_ => lN (u.2.2.1 z_))))), (u.2.2.2.2.2, .inl (cJ, 308, .inr (.inl (fun z_ => lN (u.2.2.2.1 z_)))))]) (va_A [(g0, .inr (5, [.ref h0, .ref p0, .ref k0, .ref u0, .ref r0])), (u0, .inr (2, [.ref u1, .ref u2, .int (nI rm), .ref u3, .ref ua, .ref ub])), (u1, .inl (cI, 2, .inl (fun z_ => nI (BR z_)))), (u2, .inl (cI, 2, .inl (fun z_ => nI (RP z_)))), (u3, .inl (cI, 16, .inl (fun z_ => nI (CW z_)))), (ua, .inl (cJ, 308, .inr (.inl (fun z_ => lN (WA z_))))), (ub, .inl (cJ, 308, .inr (.inl (fun z_ => lN (XB z_)))))] sz)) (va_A [(g0, .inr (5, [.ref h0, .ref p0, .ref k0, .ref u0, .ref r0])), (u0, .inr (2, [.ref u1, .ref u2, .int (nI rm), .ref u3, .ref ua, .ref ub])), (u1, .inl (cI, 2, .inl (fun z_ => nI (BR z_)))), (u2, .inl (cI, 2, .inl (fun z_ => nI (RP z_)))), (u3, .inl (cI, 16, .inl (fun z_ => nI (CW z_)))), (ua, .inl (cJ, 308, .inr (.inl (fun z_ => lN (WA z_))))), (ub, .inl (cJ, 308, .inr (.inl (fun z_ => lN (XB z_)))))] sz)) 0 0 (va_A [(g0, .inr (5, [.ref h0, .ref p0, .ref k0, .ref u0, .ref r0])), (u0, .inr (2, [.ref u1, .ref u2, .int (nI rm), .ref u3, .ref ua, .ref ub])), (u1, .inl (cI, 2, .inl (fun z_ => nI (BR z_)))), (u2, .inl (cI, 2, .inl (fun z_ => nI (RP z_)))), (u3, .inl (cI, 16, .inl (fun z_ => nI (CW z_)))), (ua, .inl (cJ, 308, .inr (.inl (fun z_ => lN (WA z_))))), (ub, .inl (cJ, 308, .inr (.inl (fun z_ => lN (XB z_)))))] sz) := by
  refine z_met_l (cc := cX5_just) (maxL := 4) (by decide) rfl (Nat.le_of_ble_eq_true rfl) ?_
  intro p e s m args below meth c Q A ls hx hb hml hown hts hin hA hK hP hD hN hl hRET
  have hown : s.vm.findClass RX5 = some m.cls := hown
  obtain ⟨H, eH⟩ : ∃ H : Heap, H = s.heap := ⟨_, rfl⟩
  rw [← eH] at hP
  obtain ⟨locs, eL⟩ : ∃ z : List Loc, z = [] := ⟨_, rfl⟩
  rw [← eH, ← eL]
  have hS : va_S A s.heap H locs := by rw [eH, eL]; exact va_S.rf
  have hl : lv_has ls 4 [(0, .ref g0), (1, .int (iI tk)), (2, .int (iI mg)), (3, .int (nI uu))] := hl
  have w35 := hts (.fieldLink RX5 35 "PullCards" "pair" "LPullCards$Pair;") (by decide +kernel)
  have uX5 : ∀ w ∈ wsX50, w ∈ wsX5_just := by decide +kernel
  refine lv_iload_n hx hb dX5_just_0 rfl (lv_at hl 1 rfl) ?_
  refine lv_iconst (v := nI 1) hx hb dX5_just_1 (by decide) ?_
  refine lv_bipush (v := nI 10) hx hb dX5_just_2 (by decide) ?_
  refine z_c0 (v := iI 10) (by decide) ?_
  refine z_c1 (v := iI 1) (by decide) ?_
  refine z_callSi (As := [.int (iI tk), .int (iI 1), .int (iI 10)]) (rest := []) (wr := [(g0, .inr (5, [.ref h0, .ref p0, .ref k0, .ref u0, .ref r0])), (u0, .inr (2, [.ref u1, .ref u2, .int (nI rm), .ref u3, .ref ua, .ref ub])), (u1, .inl (cI, 2, .inl (fun z_ => nI (BR z_)))), (u2, .inl (cI, 2, .inl (fun z_ => nI (RP z_)))), (u3, .inl (cI, 16, .inl (fun z_ => nI (CW z_)))), (ua, .inl (cJ, 308, .inr (.inl (fun z_ => lN (WA z_))))), (ub, .inl (cJ, 308, .inr (.inl (fun z_ => lN (XB z_)))))]) ⟨hx, hb, hml, hown, hts⟩ (c_X5_within l dC dI cI cJ H.size tk (1 : Int) (10 : Int) (by first | assumption | omega) (by first | assumption | omega) (by first | assumption | omega)) (va_cwS 3 hts gX5_just_X5_within rfl rfl rfl (by decide +kernel) ⟨Nat.le_of_ble_eq_true rfl, Nat.le_of_ble_eq_true rfl⟩) hA hK hP hD hS [] [0, 1, 2, 3, 4, 5, 6] [0, 1, 2, 3, 4, 5, 6] rfl rfl (by decide) (by decide) (by decide) nwA_ok hN hl.1 (Nat.le_of_ble_eq_true rfl) ⟨Nat.le_refl _, Nat.le_refl _⟩ rfl rfl dX5_just_4 (fun (u : (Nat)) => [(g0, .inr (5, [.ref h0, .ref p0, .ref k0, .ref u0, .ref r0])), (u0, .inr (2, [.ref u1, .ref u2, .int (nI rm), .ref u3, .ref ua, .ref ub])), (u1, .inl (cI, 2, .inl (fun z_ => nI (BR z_)))), (u2, .inl (cI, 2, .inl (fun z_ => nI (RP z_)))), (u3, .inl (cI, 16, .inl (fun z_ => nI (CW z_)))), (ua, .inl (cJ, 308, .inr (.inl (fun z_ => lN (WA z_))))), (ub, .inl (cJ, 308, .inr (.inl (fun z_ => lN (XB z_)))))]) (fun u => rfl) (by decide) (fun r_4 u H locs hw hP hD hS => ?_)
  obtain ⟨rv_4, eu⟩ : ∃ z, z = u := ⟨_, rfl⟩
  subst eu
  have hP : va_P (dC, dI) vwCl [(g0, .inr (5, [.ref h0, .ref p0, .ref k0, .ref u0, .ref r0])), (u0, .inr (2, [.ref u1, .ref u2, .int (nI rm), .ref u3, .ref ua, .ref ub])), (u1, .inl (cI, 2, .inl (fun z_ => nI (BR z_)))), (u2, .inl (cI, 2, .inl (fun z_ => nI (RP z_)))), (u3, .inl (cI, 16, .inl (fun z_ => nI (CW z_)))), (ua, .inl (cJ, 308, .inr (.inl (fun z_ => lN (WA z_))))), (ub, .inl (cJ, 308, .inr (.inl (fun z_ => lN (XB z_)))))] H := hP
  have hD : va_D A [(g0, .inr (5, [.ref h0, .ref p0, .ref k0, .ref u0, .ref r0])), (u0, .inr (2, [.ref u1, .ref u2, .int (nI rm), .ref u3, .ref ua, .ref ub])), (u1, .inl (cI, 2, .inl (fun z_ => nI (BR z_)))), (u2, .inl (cI, 2, .inl (fun z_ => nI (RP z_)))), (u3, .inl (cI, 16, .inl (fun z_ => nI (CW z_)))), (ua, .inl (cJ, 308, .inr (.inl (fun z_ => lN (WA z_))))), (ub, .inl (cJ, 308, .inr (.inl (fun z_ => lN (XB z_)))))] := hD
  obtain ⟨er, p4_0⟩ := hw
  have p4_0 : (rv_4 = 1 ∧ ((1 : Int) ≤ tk ∧ tk ≤ (10 : Int))) ∨ (rv_4 = 0 ∧ ¬ ((1 : Int) ≤ tk ∧ tk ≤ (10 : Int))) := p4_0
  have er : r_4 = (nI rv_4) := er
  subst er
  rcases p4_0 with ⟨h4, c_4⟩ | ⟨h4, c_4⟩
  · skip
    subst h4
    refine lv_if_eq (tgt := 20) hx hb dX5_just_7 (by decide) (fun c_x => absurd c_x (by decide)) (fun _ => ?_)
    refine lv_iload_n hx hb dX5_just_10 rfl (lv_at hl 2 rfl) ?_
    refine lv_iconst (v := nI 0) hx hb dX5_just_11 (by decide) ?_
    refine lv_bipush (v := nI 10) hx hb dX5_just_12 (by decide) ?_
    refine z_c0 (v := iI 10) (by decide) ?_
    refine z_c1 (v := iI 0) (by decide) ?_
    refine z_callSi (As := [.int (iI mg), .int (iI 0), .int (iI 10)]) (rest := []) (wr := [(g0, .inr (5, [.ref h0, .ref p0, .ref k0, .ref u0, .ref r0])), (u0, .inr (2, [.ref u1, .ref u2, .int (nI rm), .ref u3, .ref ua, .ref ub])), (u1, .inl (cI, 2, .inl (fun z_ => nI (BR z_)))), (u2, .inl (cI, 2, .inl (fun z_ => nI (RP z_)))), (u3, .inl (cI, 16, .inl (fun z_ => nI (CW z_)))), (ua, .inl (cJ, 308, .inr (.inl (fun z_ => lN (WA z_))))), (ub, .inl (cJ, 308, .inr (.inl (fun z_ => lN (XB z_)))))]) ⟨hx, hb, hml, hown, hts⟩ (c_X5_within l dC dI cI cJ H.size mg (0 : Int) (10 : Int) (by first | assumption | omega) (by first | assumption | omega) (by first | assumption | omega)) (va_cwS 3 hts gX5_just_X5_within rfl rfl rfl (by decide +kernel) ⟨Nat.le_of_ble_eq_true rfl, Nat.le_of_ble_eq_true rfl⟩) hA hK hP hD hS [] [0, 1, 2, 3, 4, 5, 6] [0, 1, 2, 3, 4, 5, 6] rfl rfl (by decide) (by decide) (by decide) nwA_ok hN hl.1 (Nat.le_of_ble_eq_true rfl) ⟨Nat.le_refl _, Nat.le_refl _⟩ rfl rfl dX5_just_14 (fun (u : (Nat)) => [(g0, .inr (5, [.ref h0, .ref p0, .ref k0, .ref u0, .ref r0])), (u0, .inr (2, [.ref u1, .ref u2, .int (nI rm), .ref u3, .ref ua, .ref ub])), (u1, .inl (cI, 2, .inl (fun z_ => nI (BR z_)))), (u2, .inl (cI, 2, .inl (fun z_ => nI (RP z_)))), (u3, .inl (cI, 16, .inl (fun z_ => nI (CW z_)))), (ua, .inl (cJ, 308, .inr (.inl (fun z_ => lN (WA z_))))), (ub, .inl (cJ, 308, .inr (.inl (fun z_ => lN (XB z_)))))]) (fun u => rfl) (by decide) (fun r_14 u H locs hw hP hD hS => ?_)
    obtain ⟨rv_14, eu⟩ : ∃ z, z = u := ⟨_, rfl⟩
    subst eu
    have hP : va_P (dC, dI) vwCl [(g0, .inr (5, [.ref h0, .ref p0, .ref k0, .ref u0, .ref r0])), (u0, .inr (2, [.ref u1, .ref u2, .int (nI rm), .ref u3, .ref ua, .ref ub])), (u1, .inl (cI, 2, .inl (fun z_ => nI (BR z_)))), (u2, .inl (cI, 2, .inl (fun z_ => nI (RP z_)))), (u3, .inl (cI, 16, .inl (fun z_ => nI (CW z_)))), (ua, .inl (cJ, 308, .inr (.inl (fun z_ => lN (WA z_))))), (ub, .inl (cJ, 308, .inr (.inl (fun z_ => lN (XB z_)))))] H := hP
    have hD : va_D A [(g0, .inr (5, [.ref h0, .ref p0, .ref k0, .ref u0, .ref r0])), (u0, .inr (2, [.ref u1, .ref u2, .int (nI rm), .ref u3, .ref ua, .ref ub])), (u1, .inl (cI, 2, .inl (fun z_ => nI (BR z_)))), (u2, .inl (cI, 2, .inl (fun z_ => nI (RP z_)))), (u3, .inl (cI, 16, .inl (fun z_ => nI (CW z_)))), (ua, .inl (cJ, 308, .inr (.inl (fun z_ => lN (WA z_))))), (ub, .inl (cJ, 308, .inr (.inl (fun z_ => lN (XB z_)))))] := hD
    obtain ⟨er, p14_0⟩ := hw
    have p14_0 : (rv_14 = 1 ∧ ((0 : Int) ≤ mg ∧ mg ≤ (10 : Int))) ∨ (rv_14 = 0 ∧ ¬ ((0 : Int) ≤ mg ∧ mg ≤ (10 : Int))) := p14_0
    have er : r_14 = (nI rv_14) := er
    subst er
    rcases p14_0 with ⟨h14, c_14⟩ | ⟨h14, c_14⟩
    · skip
      subst h14
      refine lv_if_ne (tgt := 24) hx hb dX5_just_17 (by decide) (fun _ => ?_) (fun c_x => absurd c_x (by decide))
      refine lv_aload_n hx hb dX5_just_24 rfl (lv_at hl 0 rfl) ?_
      refine z_get (D := (dC, dI)) (ci := 5) (v := .ref u0) (C := RX5) (T := TX5) (N := 5) hx hb hts uX5 hown hK hP 0 rfl rfl 3 (by decide) w35 rfl rfl dX5_just_25 ?_
      refine lv_iload_n hx hb dX5_just_28 rfl (lv_at hl 1 rfl) ?_
      refine lv_iload_n hx hb dX5_just_29 rfl (lv_at hl 2 rfl) ?_
      refine z_c0 (v := nI mg.toNat) (z_ZtoN (by first | assumption | omega)) ?_
      refine z_c1 (v := nI tk.toNat) (z_ZtoN (by first | assumption | omega)) ?_
      refine z_callVl (As := [.int (nI tk.toNat), .int (nI mg.toNat)]) (rest := []) (wr := [(g0, .inr (5, [.ref h0, .ref p0, .ref k0, .ref u0, .ref r0]))]) ⟨hx, hb, hml, hown, hts⟩ (c_X2_weighCount l dC dI cI cJ H.size u0 u1 u2 u3 ua ub BR RP CW WA XB rm tk.toNat mg.toNat (by first | assumption | omega) (by first | assumption | omega) (by first | assumption | omega) (by first | assumption | omega) (by first | assumption | omega)) (cwV 2 hts gX5_just_X2_weighCount rfl rfl rfl (by decide +kernel) ⟨Nat.le_of_ble_eq_true rfl, Nat.le_of_ble_eq_true rfl⟩) hA hK hP hD hS [1, 2, 3, 4, 5, 6] [0] [0, 1, 2, 3, 4, 5, 6] rfl rfl (by decide) (by decide) (by decide) nwA_ok hN (ci := 2) rfl rfl 1 rfl hl.1 (Nat.le_of_ble_eq_true rfl) ⟨Nat.le_refl _, Nat.le_refl _⟩ rfl rfl dX5_just_30 (fun (u : (Nat) × (Nat → Nat) × (Nat → Nat) × (Nat → Nat) × (Nat) × (Nat)) => [(g0, .inr (5, [.ref h0, .ref p0, .ref k0, .ref u0, .ref r0])), (u0, .inr (2, [.ref u1, .ref u2, .int (nI rm), .ref u3, .ref u.2.2.2.2.1, .ref u.2.2.2.2.2])), (u1, .inl (cI, 2, .inl (fun z_ => nI (BR z_)))), (u2, .inl (cI, 2, .inl (fun z_ => nI (RP z_)))), (u3, .inl (cI, 16, .inl (fun z_ => nI (u.2.1 z_)))), (u.2.2.2.2.1, .inl (cJ, 308, .inr (.inl (fun z_ => lN (u.2.2.1 z_))))), (u.2.2.2.2.2, .inl (cJ, 308, .inr (.inl (fun z_ => lN (u.2.2.2.1 z_)))))]) (fun u => rfl) (by decide) (fun r_30 u H locs hw hP hD hS => ?_)
      obtain ⟨rv_30, CW2_30, W2_30, X2_30, qa2_30, qb2_30⟩ := u
      have hP : va_P (dC, dI) vwCl [(g0, .inr (5, [.ref h0, .ref p0, .ref k0, .ref u0, .ref r0])), (u0, .inr (2, [.ref u1, .ref u2, .int (nI rm), .ref u3, .ref qa2_30, .ref qb2_30])), (u1, .inl (cI, 2, .inl (fun z_ => nI (BR z_)))), (u2, .inl (cI, 2, .inl (fun z_ => nI (RP z_)))), (u3, .inl (cI, 16, .inl (fun z_ => nI (CW2_30 z_)))), (qa2_30, .inl (cJ, 308, .inr (.inl (fun z_ => lN (W2_30 z_))))), (qb2_30, .inl (cJ, 308, .inr (.inl (fun z_ => lN (X2_30 z_)))))] H := hP
      have hD : va_D A [(g0, .inr (5, [.ref h0, .ref p0, .ref k0, .ref u0, .ref r0])), (u0, .inr (2, [.ref u1, .ref u2, .int (nI rm), .ref u3, .ref qa2_30, .ref qb2_30])), (u1, .inl (cI, 2, .inl (fun z_ => nI (BR z_)))), (u2, .inl (cI, 2, .inl (fun z_ => nI (RP z_)))), (u3, .inl (cI, 16, .inl (fun z_ => nI (CW2_30 z_)))), (qa2_30, .inl (cJ, 308, .inr (.inl (fun z_ => lN (W2_30 z_))))), (qb2_30, .inl (cJ, 308, .inr (.inl (fun z_ => lN (X2_30 z_)))))] := hD
      obtain ⟨er, p30_0⟩ := hw
      have p30_0 : rv_30 = sp_js (sp_cw BR RP) rm mg.toNat tk.toNat := p30_0
      have er : r_30 = (lN rv_30) := er
      subst er
      subst p30_0
      refine lv_iload_n hx hb dX5_just_33 rfl (lv_at hl 1 rfl) ?_
      refine z_c0 (v := nI tk.toNat) (z_ZtoN (by first | assumption | omega)) ?_
      refine z_callSl (As := [.int (nI tk.toNat)]) (rest := [.long (lN (sp_js (sp_cw BR RP) rm mg.toNat tk.toNat))]) (wr := [(g0, .inr (5, [.ref h0, .ref p0, .ref k0, .ref u0, .ref r0])), (u0, .inr (2, [.ref u1, .ref u2, .int (nI rm), .ref u3, .ref qa2_30, .ref qb2_30])), (u1, .inl (cI, 2, .inl (fun z_ => nI (BR z_)))), (u2, .inl (cI, 2, .inl (fun z_ => nI (RP z_)))), (u3, .inl (cI, 16, .inl (fun z_ => nI (CW2_30 z_)))), (qa2_30, .inl (cJ, 308, .inr (.inl (fun z_ => lN (W2_30 z_))))), (qb2_30, .inl (cJ, 308, .inr (.inl (fun z_ => lN (X2_30 z_)))))]) ⟨hx, hb, hml, hown, hts⟩ (c_X2_weightInAll l dC dI cI cJ H.size tk.toNat (by first | assumption | omega)) (va_cwS 1 hts gX5_just_X2_weightInAll rfl rfl rfl (by decide +kernel) ⟨Nat.le_of_ble_eq_true rfl, Nat.le_of_ble_eq_true rfl⟩) hA hK hP hD hS [] [0, 1, 2, 3, 4, 5, 6] [0, 1, 2, 3, 4, 5, 6] rfl rfl (by decide) (by decide) (by decide) nwA_ok hN hl.1 (Nat.le_of_ble_eq_true rfl) ⟨Nat.le_refl _, Nat.le_refl _⟩ rfl rfl dX5_just_34 (fun (u : Unit) => [(g0, .inr (5, [.ref h0, .ref p0, .ref k0, .ref u0, .ref r0])), (u0, .inr (2, [.ref u1, .ref u2, .int (nI rm), .ref u3, .ref qa2_30, .ref qb2_30])), (u1, .inl (cI, 2, .inl (fun z_ => nI (BR z_)))), (u2, .inl (cI, 2, .inl (fun z_ => nI (RP z_)))), (u3, .inl (cI, 16, .inl (fun z_ => nI (CW2_30 z_)))), (qa2_30, .inl (cJ, 308, .inr (.inl (fun z_ => lN (W2_30 z_))))), (qb2_30, .inl (cJ, 308, .inr (.inl (fun z_ => lN (X2_30 z_)))))]) (fun u => rfl) (by decide) (fun r_34 u H locs hw hP hD hS => ?_)
      have hP : va_P (dC, dI) vwCl [(g0, .inr (5, [.ref h0, .ref p0, .ref k0, .ref u0, .ref r0])), (u0, .inr (2, [.ref u1, .ref u2, .int (nI rm), .ref u3, .ref qa2_30, .ref qb2_30])), (u1, .inl (cI, 2, .inl (fun z_ => nI (BR z_)))), (u2, .inl (cI, 2, .inl (fun z_ => nI (RP z_)))), (u3, .inl (cI, 16, .inl (fun z_ => nI (CW2_30 z_)))), (qa2_30, .inl (cJ, 308, .inr (.inl (fun z_ => lN (W2_30 z_))))), (qb2_30, .inl (cJ, 308, .inr (.inl (fun z_ => lN (X2_30 z_)))))] H := hP
      have hD : va_D A [(g0, .inr (5, [.ref h0, .ref p0, .ref k0, .ref u0, .ref r0])), (u0, .inr (2, [.ref u1, .ref u2, .int (nI rm), .ref u3, .ref qa2_30, .ref qb2_30])), (u1, .inl (cI, 2, .inl (fun z_ => nI (BR z_)))), (u2, .inl (cI, 2, .inl (fun z_ => nI (RP z_)))), (u3, .inl (cI, 16, .inl (fun z_ => nI (CW2_30 z_)))), (qa2_30, .inl (cJ, 308, .inr (.inl (fun z_ => lN (W2_30 z_))))), (qb2_30, .inl (cJ, 308, .inr (.inl (fun z_ => lN (X2_30 z_)))))] := hD
      have er := hw
      have er : r_34 = (lN (1 * 2 ^ (4 * tk.toNat))) := er
      subst er
      refine lv_iload_n hx hb dX5_just_37 rfl (lv_at hl 3 rfl) ?_
      have hb1 := sp_js_b bBR bRP brm (show mg.toNat ≤ 10 by omega) (show tk.toNat ≤ 10 by omega)
      have hb2 := pow16_le (show tk.toNat ≤ 10 by omega)
      have hb3 := pow16_pos tk.toNat
      rw [← pow24] at hb2 hb3
      refine z_callSl (As := [.long (lN (sp_js (sp_cw BR RP) rm mg.toNat tk.toNat)), .long (lN (1 * 2 ^ (4 * tk.toNat))), .int (nI uu)]) (rest := []) (wr := [(g0, .inr (5, [.ref h0, .ref p0, .ref k0, .ref u0, .ref r0])), (u0, .inr (2, [.ref u1, .ref u2, .int (nI rm), .ref u3, .ref qa2_30, .ref qb2_30])), (u1, .inl (cI, 2, .inl (fun z_ => nI (BR z_)))), (u2, .inl (cI, 2, .inl (fun z_ => nI (RP z_)))), (u3, .inl (cI, 16, .inl (fun z_ => nI (CW2_30 z_)))), (qa2_30, .inl (cJ, 308, .inr (.inl (fun z_ => lN (W2_30 z_))))), (qb2_30, .inl (cJ, 308, .inr (.inl (fun z_ => lN (X2_30 z_)))))]) ⟨hx, hb, hml, hown, hts⟩ (c_X5_inLeastTerms l dC dI cI cJ H.size (sp_js (sp_cw BR RP) rm mg.toNat tk.toNat) (1 * 2 ^ (4 * tk.toNat)) uu (by first | assumption | omega) (by first | assumption | omega) (by first | assumption | omega)) (va_cwS 3 hts gX5_just_X5_inLeastTerms rfl rfl rfl (by decide +kernel) ⟨Nat.le_of_ble_eq_true rfl, Nat.le_of_ble_eq_true rfl⟩) hA hK hP hD hS [] [0, 1, 2, 3, 4, 5, 6] [0, 1, 2, 3, 4, 5, 6] rfl rfl (by decide) (by decide) (by decide) nwA_ok hN hl.1 (Nat.le_of_ble_eq_true rfl) ⟨Nat.le_refl _, Nat.le_refl _⟩ rfl rfl dX5_just_38 (fun (u : (Nat)) => [(g0, .inr (5, [.ref h0, .ref p0, .ref k0, .ref u0, .ref r0])), (u0, .inr (2, [.ref u1, .ref u2, .int (nI rm), .ref u3, .ref qa2_30, .ref qb2_30])), (u1, .inl (cI, 2, .inl (fun z_ => nI (BR z_)))), (u2, .inl (cI, 2, .inl (fun z_ => nI (RP z_)))), (u3, .inl (cI, 16, .inl (fun z_ => nI (CW2_30 z_)))), (qa2_30, .inl (cJ, 308, .inr (.inl (fun z_ => lN (W2_30 z_))))), (qb2_30, .inl (cJ, 308, .inr (.inl (fun z_ => lN (X2_30 z_)))))]) (fun u => rfl) (by decide) (fun r_38 u H locs hw hP hD hS => ?_)
      obtain ⟨rv_38, eu⟩ : ∃ z, z = u := ⟨_, rfl⟩
      subst eu
      have hP : va_P (dC, dI) vwCl [(g0, .inr (5, [.ref h0, .ref p0, .ref k0, .ref u0, .ref r0])), (u0, .inr (2, [.ref u1, .ref u2, .int (nI rm), .ref u3, .ref qa2_30, .ref qb2_30])), (u1, .inl (cI, 2, .inl (fun z_ => nI (BR z_)))), (u2, .inl (cI, 2, .inl (fun z_ => nI (RP z_)))), (u3, .inl (cI, 16, .inl (fun z_ => nI (CW2_30 z_)))), (qa2_30, .inl (cJ, 308, .inr (.inl (fun z_ => lN (W2_30 z_))))), (qb2_30, .inl (cJ, 308, .inr (.inl (fun z_ => lN (X2_30 z_)))))] H := hP
      have hD : va_D A [(g0, .inr (5, [.ref h0, .ref p0, .ref k0, .ref u0, .ref r0])), (u0, .inr (2, [.ref u1, .ref u2, .int (nI rm), .ref u3, .ref qa2_30, .ref qb2_30])), (u1, .inl (cI, 2, .inl (fun z_ => nI (BR z_)))), (u2, .inl (cI, 2, .inl (fun z_ => nI (RP z_)))), (u3, .inl (cI, 16, .inl (fun z_ => nI (CW2_30 z_)))), (qa2_30, .inl (cJ, 308, .inr (.inl (fun z_ => lN (W2_30 z_))))), (qb2_30, .inl (cJ, 308, .inr (.inl (fun z_ => lN (X2_30 z_)))))] := hD
      obtain ⟨er, p38_0⟩ := hw
      have p38_0 : rv_38 = sp_fr (sp_js (sp_cw BR RP) rm mg.toNat tk.toNat) (1 * 2 ^ (4 * tk.toNat)) uu := p38_0
      have er : r_38 = (lN rv_38) := er
      subst er
      refine z_l0 (v := lI ((rv_38 : Nat) : Int)) (lI_N _) ?_
      have q_0 : ((rv_38 : Nat) : Int) = if (1 ≤ tk ∧ tk ≤ 10) ∧ (0 ≤ mg ∧ mg ≤ 10) then ((sp_fr (sp_js (sp_cw BR RP) rm mg.toNat tk.toNat) (1 * 2 ^ (4 * tk.toNat)) uu : Nat) : Int) else -2 := by rw [if_pos (by omega), p38_0]
      exact hRET _ ls H locs ((lI ((rv_38 : Nat) : Int))) (((rv_38 : Nat) : Int), CW2_30, W2_30, X2_30, qa2_30, qb2_30) dX5_just_41 ⟨rfl, q_0⟩ hP hD hS
    · skip
      subst h14
      refine lv_if_ne (tgt := 24) hx hb dX5_just_17 (by decide) (fun c_x => absurd c_x (by decide)) (fun _ => ?_)
      refine lv_ldc2 (v := (-2 : Int64)) hx hb hown (hts (.constantLong RX5 157 (-2)) (by decide +kernel)) dX5_just_20 ?_
      refine z_l0 (v := (lI (-2))) (by decide) ?_
      have q_0 : (-2 : Int) = if (1 ≤ tk ∧ tk ≤ 10) ∧ (0 ≤ mg ∧ mg ≤ 10) then ((sp_fr (sp_js (sp_cw BR RP) rm mg.toNat tk.toNat) (1 * 2 ^ (4 * tk.toNat)) uu : Nat) : Int) else -2 := by rw [if_neg (by omega)]
      exact hRET _ ls H locs ((lI (-2))) ((-2 : Int), CW, WA, XB, ua, ub) dX5_just_23 ⟨rfl, q_0⟩ hP hD hS
  · skip
    subst h4
    refine lv_if_eq (tgt := 20) hx hb dX5_just_7 (by decide) (fun _ => ?_) (fun c_x => absurd c_x (by decide))
    refine lv_ldc2 (v := (-2 : Int64)) hx hb hown (hts (.constantLong RX5 157 (-2)) (by decide +kernel)) dX5_just_20 ?_
    refine z_l0 (v := (lI (-2))) (by decide) ?_
    have q_0 : (-2 : Int) = if (1 ≤ tk ∧ tk ≤ 10) ∧ (0 ≤ mg ∧ mg ≤ 10) then ((sp_fr (sp_js (sp_cw BR RP) rm mg.toNat tk.toNat) (1 * 2 ^ (4 * tk.toNat)) uu : Nat) : Int) else -2 := by rw [if_neg (by omega)]
    exact hRET _ ls H locs ((lI (-2))) ((-2 : Int), CW, WA, XB, ua, ub) dX5_just_23 ⟨rfl, q_0⟩ hP hD hS

set_option maxHeartbeats 4000000 in
set_option maxRecDepth 100000 in
theorem c_X5_least (l : Launch) (dC : Nat → ClassId) (dI : Nat → Nat → Nat) (cI cJ : ClassId) (sz : Nat) (g0 : Nat) (h0 : Nat) (p0 : Nat) (k0 : Nat) (u0 : Nat) (r0 : Nat) (u1 : Nat) (u2 : Nat) (u3 : Nat) (ua : Nat) (ub : Nat) (BR : Nat → Nat) (RP : Nat → Nat) (CW : Nat → Nat) (WA : Nat → Nat) (XB : Nat → Nat) (rm : Nat) (tk : Int) (ab : Int) (be : Int) (bBR : ∀ i, BR i ≤ 4) (bRP : ∀ i, RP i ≤ 4) (bt : -2147483648 ≤ tk ∧ tk < 2147483648) (bab : -2147483648 ≤ ab ∧ ab < 2147483648) (bbe : -2147483648 ≤ be ∧ be < 2147483648) : Met l yX5_least wsX5_least (zR 5 0 0 135) (va_Pc [.ref g0, .int (iI tk), .int (iI ab), .int (iI be)] (zP (dC, dI) [(cI, .int), (cJ, .long)] [(g0, .inr (5, [.ref h0, .ref p0, .ref k0, .ref u0, .ref r0])), (u0, .inr (2, [.ref u1, .ref u2, .int (nI rm), .ref u3, .ref ua, .ref ub])), (u1, .inl (cI, 2, .inl (fun z_ => nI (BR z_)))), (u2, .inl (cI, 2, .inl (fun z_ => nI (RP z_)))), (u3, .inl (cI, 16, .inl (fun z_ => nI (CW z_)))), (ua, .inl (cJ, 308, .inr (.inl (fun z_ => lN (WA z_))))), (ub, .inl (cJ, 308, .inr (.inl (fun z_ => lN (XB z_)))))] sz nwA)) (va_Qi (fun (r : Int32) (u : (Int) × (Nat → Nat) × (Nat → Nat) × (Nat → Nat) × (Nat) × (Nat)) => r = (iI u.1) ∧ (u.1 = if (1 ≤ tk ∧ tk ≤ 10) ∧ ((1 ≤ ab ∧ ab ≤ 1000) ∧ (1 ≤ be ∧ be ≤ 1000)) then sp_lst (sp_lok BR RP tk.toNat ab.toNat be.toNat) else -2)) (zB (dC, dI) (fun (u : (Int) × (Nat → Nat) × (Nat → Nat) × (Nat → Nat) × (Nat) × (Nat)) => [(g0, .inr (5, [.ref h0, .ref p0, .ref k0, .ref u0, .ref r0])), (u0, .inr (2, [.ref u1, .ref u2, .int (nI rm), .ref u3, .ref u.2.2.2.2.1, .ref u.2.2.2.2.2])), (u1, .inl (cI, 2, .inl (fun z_ => nI (BR z_)))), (u2, .inl (cI, 2, .inl (fun z_ => nI (RP z_)))), (u3, .inl (cI, 16, .inl (fun z_ => nI (u.2.1 z_)))), (u.2.2.2.2.1, .inl (cJ, 308, .inr (.inl (fun z_ => lN (u.2.2.1 z_))))), (u.2.2.2.2.2, .inl (cJ, 308, .inr (.inl (fun z_ => lN (u.2.2.2.1 z_)))))]) (va_A [(g0, .inr (5, [.ref h0, .ref p0, .ref k0, .ref u0, .ref r0])), (u0, .inr (2, [.ref u1, .ref u2, .int (nI rm), .ref u3, .ref ua, .ref ub])), (u1, .inl (cI, 2, .inl (fun z_ => nI (BR z_)))), (u2, .inl (cI, 2, .inl (fun z_ => nI (RP z_)))), (u3, .inl (cI, 16, .inl (fun z_ => nI (CW z_)))), (ua, .inl (cJ, 308, .inr (.inl (fun z_ => lN (WA z_))))), (ub, .inl (cJ, 308, .inr (.inl (fun z_ => lN (XB z_)))))] sz)) (va_A [(g0, .inr (5, [.ref h0, .ref p0, .ref k0, .ref u0, .ref r0])), (u0, .inr (2, [.ref u1, .ref u2, .int (nI rm), .ref u3, .ref ua, .ref ub])), (u1, .inl (cI, 2, .inl (fun z_ => nI (BR z_)))), (u2, .inl (cI, 2, .inl (fun z_ => nI (RP z_)))), (u3, .inl (cI, 16, .inl (fun z_ => nI (CW z_)))), (ua, .inl (cJ, 308, .inr (.inl (fun z_ => lN (WA z_))))), (ub, .inl (cJ, 308, .inr (.inl (fun z_ => lN (XB z_)))))] sz)) 0 0 (va_A [(g0, .inr (5, [.ref h0, .ref p0, .ref k0, .ref u0, .ref r0])), (u0, .inr (2, [.ref u1, .ref u2, .int (nI rm), .ref u3, .ref ua, .ref ub])), (u1, .inl (cI, 2, .inl (fun z_ => nI (BR z_)))), (u2, .inl (cI, 2, .inl (fun z_ => nI (RP z_)))), (u3, .inl (cI, 16, .inl (fun z_ => nI (CW z_)))), (ua, .inl (cJ, 308, .inr (.inl (fun z_ => lN (WA z_))))), (ub, .inl (cJ, 308, .inr (.inl (fun z_ => lN (XB z_)))))] sz) := by
  refine z_met_i (cc := cX5_least) (maxL := 7) (by decide) rfl (Nat.le_of_ble_eq_true rfl) ?_
  intro p e s m args below meth c Q A ls hx hb hml hown hts hin hA hK hP hD hN hl hRET
  have hown : s.vm.findClass RX5 = some m.cls := hown
  obtain ⟨H, eH⟩ : ∃ H : Heap, H = s.heap := ⟨_, rfl⟩
  rw [← eH] at hP
  obtain ⟨locs, eL⟩ : ∃ z : List Loc, z = [] := ⟨_, rfl⟩
  rw [← eH, ← eL]
  have hS : va_S A s.heap H locs := by rw [eH, eL]; exact va_S.rf
  have hl : lv_has ls 7 [(0, .ref g0), (1, .int (iI tk)), (2, .int (iI ab)), (3, .int (iI be))] := hl
  have w35 := hts (.fieldLink RX5 35 "PullCards" "pair" "LPullCards$Pair;") (by decide +kernel)
  have uX5 : ∀ w ∈ wsX50, w ∈ wsX5_least := by decide +kernel
  refine lv_iload_n hx hb dX5_least_0 rfl (lv_at hl 1 rfl) ?_
  refine lv_iconst (v := nI 1) hx hb dX5_least_1 (by decide) ?_
  refine lv_bipush (v := nI 10) hx hb dX5_least_2 (by decide) ?_
  refine z_c0 (v := iI 10) (by decide) ?_
  refine z_c1 (v := iI 1) (by decide) ?_
  refine z_callSi (As := [.int (iI tk), .int (iI 1), .int (iI 10)]) (rest := []) (wr := [(g0, .inr (5, [.ref h0, .ref p0, .ref k0, .ref u0, .ref r0])), (u0, .inr (2, [.ref u1, .ref u2, .int (nI rm), .ref u3, .ref ua, .ref ub])), (u1, .inl (cI, 2, .inl (fun z_ => nI (BR z_)))), (u2, .inl (cI, 2, .inl (fun z_ => nI (RP z_)))), (u3, .inl (cI, 16, .inl (fun z_ => nI (CW z_)))), (ua, .inl (cJ, 308, .inr (.inl (fun z_ => lN (WA z_))))), (ub, .inl (cJ, 308, .inr (.inl (fun z_ => lN (XB z_)))))]) ⟨hx, hb, hml, hown, hts⟩ (c_X5_within l dC dI cI cJ H.size tk (1 : Int) (10 : Int) (by first | assumption | omega) (by first | assumption | omega) (by first | assumption | omega)) (va_cwS 3 hts gX5_least_X5_within rfl rfl rfl (by decide +kernel) ⟨Nat.le_of_ble_eq_true rfl, Nat.le_of_ble_eq_true rfl⟩) hA hK hP hD hS [] [0, 1, 2, 3, 4, 5, 6] [0, 1, 2, 3, 4, 5, 6] rfl rfl (by decide) (by decide) (by decide) nwA_ok hN hl.1 (Nat.le_of_ble_eq_true rfl) ⟨Nat.le_refl _, Nat.le_refl _⟩ rfl rfl dX5_least_4 (fun (u : (Nat)) => [(g0, .inr (5, [.ref h0, .ref p0, .ref k0, .ref u0, .ref r0])), (u0, .inr (2, [.ref u1, .ref u2, .int (nI rm), .ref u3, .ref ua, .ref ub])), (u1, .inl (cI, 2, .inl (fun z_ => nI (BR z_)))), (u2, .inl (cI, 2, .inl (fun z_ => nI (RP z_)))), (u3, .inl (cI, 16, .inl (fun z_ => nI (CW z_)))), (ua, .inl (cJ, 308, .inr (.inl (fun z_ => lN (WA z_))))), (ub, .inl (cJ, 308, .inr (.inl (fun z_ => lN (XB z_)))))]) (fun u => rfl) (by decide) (fun r_4 u H locs hw hP hD hS => ?_)
  obtain ⟨rv_4, eu⟩ : ∃ z, z = u := ⟨_, rfl⟩
  subst eu
  have hP : va_P (dC, dI) vwCl [(g0, .inr (5, [.ref h0, .ref p0, .ref k0, .ref u0, .ref r0])), (u0, .inr (2, [.ref u1, .ref u2, .int (nI rm), .ref u3, .ref ua, .ref ub])), (u1, .inl (cI, 2, .inl (fun z_ => nI (BR z_)))), (u2, .inl (cI, 2, .inl (fun z_ => nI (RP z_)))), (u3, .inl (cI, 16, .inl (fun z_ => nI (CW z_)))), (ua, .inl (cJ, 308, .inr (.inl (fun z_ => lN (WA z_))))), (ub, .inl (cJ, 308, .inr (.inl (fun z_ => lN (XB z_)))))] H := hP
  have hD : va_D A [(g0, .inr (5, [.ref h0, .ref p0, .ref k0, .ref u0, .ref r0])), (u0, .inr (2, [.ref u1, .ref u2, .int (nI rm), .ref u3, .ref ua, .ref ub])), (u1, .inl (cI, 2, .inl (fun z_ => nI (BR z_)))), (u2, .inl (cI, 2, .inl (fun z_ => nI (RP z_)))), (u3, .inl (cI, 16, .inl (fun z_ => nI (CW z_)))), (ua, .inl (cJ, 308, .inr (.inl (fun z_ => lN (WA z_))))), (ub, .inl (cJ, 308, .inr (.inl (fun z_ => lN (XB z_)))))] := hD
  obtain ⟨er, p4_0⟩ := hw
  have p4_0 : (rv_4 = 1 ∧ ((1 : Int) ≤ tk ∧ tk ≤ (10 : Int))) ∨ (rv_4 = 0 ∧ ¬ ((1 : Int) ≤ tk ∧ tk ≤ (10 : Int))) := p4_0
  have er : r_4 = (nI rv_4) := er
  subst er
  rcases p4_0 with ⟨h4, c_4⟩ | ⟨h4, c_4⟩
  · skip
    subst h4
    refine lv_if_ne (tgt := 13) hx hb dX5_least_7 (by decide) (fun _ => ?_) (fun c_x => absurd c_x (by decide))
    refine lv_iload_n hx hb dX5_least_13 rfl (lv_at hl 2 rfl) ?_
    refine lv_iconst (v := nI 1) hx hb dX5_least_14 (by decide) ?_
    refine lv_sipush (v := nI 1000) hx hb dX5_least_15 (by decide) ?_
    refine z_c0 (v := iI 1000) (by decide) ?_
    refine z_c1 (v := iI 1) (by decide) ?_
    refine z_callSi (As := [.int (iI ab), .int (iI 1), .int (iI 1000)]) (rest := []) (wr := [(g0, .inr (5, [.ref h0, .ref p0, .ref k0, .ref u0, .ref r0])), (u0, .inr (2, [.ref u1, .ref u2, .int (nI rm), .ref u3, .ref ua, .ref ub])), (u1, .inl (cI, 2, .inl (fun z_ => nI (BR z_)))), (u2, .inl (cI, 2, .inl (fun z_ => nI (RP z_)))), (u3, .inl (cI, 16, .inl (fun z_ => nI (CW z_)))), (ua, .inl (cJ, 308, .inr (.inl (fun z_ => lN (WA z_))))), (ub, .inl (cJ, 308, .inr (.inl (fun z_ => lN (XB z_)))))]) ⟨hx, hb, hml, hown, hts⟩ (c_X5_within l dC dI cI cJ H.size ab (1 : Int) (1000 : Int) (by first | assumption | omega) (by first | assumption | omega) (by first | assumption | omega)) (va_cwS 3 hts gX5_least_X5_within rfl rfl rfl (by decide +kernel) ⟨Nat.le_of_ble_eq_true rfl, Nat.le_of_ble_eq_true rfl⟩) hA hK hP hD hS [] [0, 1, 2, 3, 4, 5, 6] [0, 1, 2, 3, 4, 5, 6] rfl rfl (by decide) (by decide) (by decide) nwA_ok hN hl.1 (Nat.le_of_ble_eq_true rfl) ⟨Nat.le_refl _, Nat.le_refl _⟩ rfl rfl dX5_least_18 (fun (u : (Nat)) => [(g0, .inr (5, [.ref h0, .ref p0, .ref k0, .ref u0, .ref r0])), (u0, .inr (2, [.ref u1, .ref u2, .int (nI rm), .ref u3, .ref ua, .ref ub])), (u1, .inl (cI, 2, .inl (fun z_ => nI (BR z_)))), (u2, .inl (cI, 2, .inl (fun z_ => nI (RP z_)))), (u3, .inl (cI, 16, .inl (fun z_ => nI (CW z_)))), (ua, .inl (cJ, 308, .inr (.inl (fun z_ => lN (WA z_))))), (ub, .inl (cJ, 308, .inr (.inl (fun z_ => lN (XB z_)))))]) (fun u => rfl) (by decide) (fun r_18 u H locs hw hP hD hS => ?_)
    obtain ⟨rv_18, eu⟩ : ∃ z, z = u := ⟨_, rfl⟩
    subst eu
    have hP : va_P (dC, dI) vwCl [(g0, .inr (5, [.ref h0, .ref p0, .ref k0, .ref u0, .ref r0])), (u0, .inr (2, [.ref u1, .ref u2, .int (nI rm), .ref u3, .ref ua, .ref ub])), (u1, .inl (cI, 2, .inl (fun z_ => nI (BR z_)))), (u2, .inl (cI, 2, .inl (fun z_ => nI (RP z_)))), (u3, .inl (cI, 16, .inl (fun z_ => nI (CW z_)))), (ua, .inl (cJ, 308, .inr (.inl (fun z_ => lN (WA z_))))), (ub, .inl (cJ, 308, .inr (.inl (fun z_ => lN (XB z_)))))] H := hP
    have hD : va_D A [(g0, .inr (5, [.ref h0, .ref p0, .ref k0, .ref u0, .ref r0])), (u0, .inr (2, [.ref u1, .ref u2, .int (nI rm), .ref u3, .ref ua, .ref ub])), (u1, .inl (cI, 2, .inl (fun z_ => nI (BR z_)))), (u2, .inl (cI, 2, .inl (fun z_ => nI (RP z_)))), (u3, .inl (cI, 16, .inl (fun z_ => nI (CW z_)))), (ua, .inl (cJ, 308, .inr (.inl (fun z_ => lN (WA z_))))), (ub, .inl (cJ, 308, .inr (.inl (fun z_ => lN (XB z_)))))] := hD
    obtain ⟨er, p18_0⟩ := hw
    have p18_0 : (rv_18 = 1 ∧ ((1 : Int) ≤ ab ∧ ab ≤ (1000 : Int))) ∨ (rv_18 = 0 ∧ ¬ ((1 : Int) ≤ ab ∧ ab ≤ (1000 : Int))) := p18_0
    have er : r_18 = (nI rv_18) := er
    subst er
    rcases p18_0 with ⟨h18, c_18⟩ | ⟨h18, c_18⟩
    · skip
      subst h18
      refine lv_if_eq (tgt := 35) hx hb dX5_least_21 (by decide) (fun c_x => absurd c_x (by decide)) (fun _ => ?_)
      refine lv_iload_n hx hb dX5_least_24 rfl (lv_at hl 3 rfl) ?_
      refine lv_iconst (v := nI 1) hx hb dX5_least_25 (by decide) ?_
      refine lv_sipush (v := nI 1000) hx hb dX5_least_26 (by decide) ?_
      refine z_c0 (v := iI 1000) (by decide) ?_
      refine z_c1 (v := iI 1) (by decide) ?_
      refine z_callSi (As := [.int (iI be), .int (iI 1), .int (iI 1000)]) (rest := []) (wr := [(g0, .inr (5, [.ref h0, .ref p0, .ref k0, .ref u0, .ref r0])), (u0, .inr (2, [.ref u1, .ref u2, .int (nI rm), .ref u3, .ref ua, .ref ub])), (u1, .inl (cI, 2, .inl (fun z_ => nI (BR z_)))), (u2, .inl (cI, 2, .inl (fun z_ => nI (RP z_)))), (u3, .inl (cI, 16, .inl (fun z_ => nI (CW z_)))), (ua, .inl (cJ, 308, .inr (.inl (fun z_ => lN (WA z_))))), (ub, .inl (cJ, 308, .inr (.inl (fun z_ => lN (XB z_)))))]) ⟨hx, hb, hml, hown, hts⟩ (c_X5_within l dC dI cI cJ H.size be (1 : Int) (1000 : Int) (by first | assumption | omega) (by first | assumption | omega) (by first | assumption | omega)) (va_cwS 3 hts gX5_least_X5_within rfl rfl rfl (by decide +kernel) ⟨Nat.le_of_ble_eq_true rfl, Nat.le_of_ble_eq_true rfl⟩) hA hK hP hD hS [] [0, 1, 2, 3, 4, 5, 6] [0, 1, 2, 3, 4, 5, 6] rfl rfl (by decide) (by decide) (by decide) nwA_ok hN hl.1 (Nat.le_of_ble_eq_true rfl) ⟨Nat.le_refl _, Nat.le_refl _⟩ rfl rfl dX5_least_29 (fun (u : (Nat)) => [(g0, .inr (5, [.ref h0, .ref p0, .ref k0, .ref u0, .ref r0])), (u0, .inr (2, [.ref u1, .ref u2, .int (nI rm), .ref u3, .ref ua, .ref ub])), (u1, .inl (cI, 2, .inl (fun z_ => nI (BR z_)))), (u2, .inl (cI, 2, .inl (fun z_ => nI (RP z_)))), (u3, .inl (cI, 16, .inl (fun z_ => nI (CW z_)))), (ua, .inl (cJ, 308, .inr (.inl (fun z_ => lN (WA z_))))), (ub, .inl (cJ, 308, .inr (.inl (fun z_ => lN (XB z_)))))]) (fun u => rfl) (by decide) (fun r_29 u H locs hw hP hD hS => ?_)
      obtain ⟨rv_29, eu⟩ : ∃ z, z = u := ⟨_, rfl⟩
      subst eu
      have hP : va_P (dC, dI) vwCl [(g0, .inr (5, [.ref h0, .ref p0, .ref k0, .ref u0, .ref r0])), (u0, .inr (2, [.ref u1, .ref u2, .int (nI rm), .ref u3, .ref ua, .ref ub])), (u1, .inl (cI, 2, .inl (fun z_ => nI (BR z_)))), (u2, .inl (cI, 2, .inl (fun z_ => nI (RP z_)))), (u3, .inl (cI, 16, .inl (fun z_ => nI (CW z_)))), (ua, .inl (cJ, 308, .inr (.inl (fun z_ => lN (WA z_))))), (ub, .inl (cJ, 308, .inr (.inl (fun z_ => lN (XB z_)))))] H := hP
      have hD : va_D A [(g0, .inr (5, [.ref h0, .ref p0, .ref k0, .ref u0, .ref r0])), (u0, .inr (2, [.ref u1, .ref u2, .int (nI rm), .ref u3, .ref ua, .ref ub])), (u1, .inl (cI, 2, .inl (fun z_ => nI (BR z_)))), (u2, .inl (cI, 2, .inl (fun z_ => nI (RP z_)))), (u3, .inl (cI, 16, .inl (fun z_ => nI (CW z_)))), (ua, .inl (cJ, 308, .inr (.inl (fun z_ => lN (WA z_))))), (ub, .inl (cJ, 308, .inr (.inl (fun z_ => lN (XB z_)))))] := hD
      obtain ⟨er, p29_0⟩ := hw
      have p29_0 : (rv_29 = 1 ∧ ((1 : Int) ≤ be ∧ be ≤ (1000 : Int))) ∨ (rv_29 = 0 ∧ ¬ ((1 : Int) ≤ be ∧ be ≤ (1000 : Int))) := p29_0
      have er : r_29 = (nI rv_29) := er
      subst er
      rcases p29_0 with ⟨h29, c_29⟩ | ⟨h29, c_29⟩
      · skip
        subst h29
        refine lv_if_ne (tgt := 38) hx hb dX5_least_32 (by decide) (fun _ => ?_) (fun c_x => absurd c_x (by decide))
        refine lv_iload_n hx hb dX5_least_38 rfl (lv_at hl 2 rfl) ?_
        refine z_c0 (v := nI ab.toNat) (z_ZtoN (by first | assumption | omega)) ?_
        refine lv_i2l (v := (lN ab.toNat)) hx hb dX5_least_39 (zl_i2lN rfl (by omega)) ?_
        refine lv_iload_n hx hb dX5_least_40 rfl (lv_at hl 1 rfl) ?_
        refine z_c0 (v := nI tk.toNat) (z_ZtoN (by first | assumption | omega)) ?_
        refine z_callSl (As := [.int (nI tk.toNat)]) (rest := [.long (lN ab.toNat)]) (wr := [(g0, .inr (5, [.ref h0, .ref p0, .ref k0, .ref u0, .ref r0])), (u0, .inr (2, [.ref u1, .ref u2, .int (nI rm), .ref u3, .ref ua, .ref ub])), (u1, .inl (cI, 2, .inl (fun z_ => nI (BR z_)))), (u2, .inl (cI, 2, .inl (fun z_ => nI (RP z_)))), (u3, .inl (cI, 16, .inl (fun z_ => nI (CW z_)))), (ua, .inl (cJ, 308, .inr (.inl (fun z_ => lN (WA z_))))), (ub, .inl (cJ, 308, .inr (.inl (fun z_ => lN (XB z_)))))]) ⟨hx, hb, hml, hown, hts⟩ (c_X2_weightInAll l dC dI cI cJ H.size tk.toNat (by first | assumption | omega)) (va_cwS 1 hts gX5_least_X2_weightInAll rfl rfl rfl (by decide +kernel) ⟨Nat.le_of_ble_eq_true rfl, Nat.le_of_ble_eq_true rfl⟩) hA hK hP hD hS [] [0, 1, 2, 3, 4, 5, 6] [0, 1, 2, 3, 4, 5, 6] rfl rfl (by decide) (by decide) (by decide) nwA_ok hN hl.1 (Nat.le_of_ble_eq_true rfl) ⟨Nat.le_refl _, Nat.le_refl _⟩ rfl rfl dX5_least_41 (fun (u : Unit) => [(g0, .inr (5, [.ref h0, .ref p0, .ref k0, .ref u0, .ref r0])), (u0, .inr (2, [.ref u1, .ref u2, .int (nI rm), .ref u3, .ref ua, .ref ub])), (u1, .inl (cI, 2, .inl (fun z_ => nI (BR z_)))), (u2, .inl (cI, 2, .inl (fun z_ => nI (RP z_)))), (u3, .inl (cI, 16, .inl (fun z_ => nI (CW z_)))), (ua, .inl (cJ, 308, .inr (.inl (fun z_ => lN (WA z_))))), (ub, .inl (cJ, 308, .inr (.inl (fun z_ => lN (XB z_)))))]) (fun u => rfl) (by decide) (fun r_41 u H locs hw hP hD hS => ?_)
        have hP : va_P (dC, dI) vwCl [(g0, .inr (5, [.ref h0, .ref p0, .ref k0, .ref u0, .ref r0])), (u0, .inr (2, [.ref u1, .ref u2, .int (nI rm), .ref u3, .ref ua, .ref ub])), (u1, .inl (cI, 2, .inl (fun z_ => nI (BR z_)))), (u2, .inl (cI, 2, .inl (fun z_ => nI (RP z_)))), (u3, .inl (cI, 16, .inl (fun z_ => nI (CW z_)))), (ua, .inl (cJ, 308, .inr (.inl (fun z_ => lN (WA z_))))), (ub, .inl (cJ, 308, .inr (.inl (fun z_ => lN (XB z_)))))] H := hP
        have hD : va_D A [(g0, .inr (5, [.ref h0, .ref p0, .ref k0, .ref u0, .ref r0])), (u0, .inr (2, [.ref u1, .ref u2, .int (nI rm), .ref u3, .ref ua, .ref ub])), (u1, .inl (cI, 2, .inl (fun z_ => nI (BR z_)))), (u2, .inl (cI, 2, .inl (fun z_ => nI (RP z_)))), (u3, .inl (cI, 16, .inl (fun z_ => nI (CW z_)))), (ua, .inl (cJ, 308, .inr (.inl (fun z_ => lN (WA z_))))), (ub, .inl (cJ, 308, .inr (.inl (fun z_ => lN (XB z_)))))] := hD
        have er := hw
        have er : r_41 = (lN (1 * 2 ^ (4 * tk.toNat))) := er
        subst er
        refine z_lmul (v := (lN (ab.toNat * (1 * 2 ^ (4 * tk.toNat))))) hx hb dX5_least_44 (lN_mul _ _) ?_
        refine lv_lstore (lv' := [(4, .long (lN (ab.toNat * (1 * 2 ^ (4 * tk.toNat))))), (0, .ref g0), (1, .int (iI tk)), (2, .int (iI ab)), (3, .int (iI be))]) hx hb dX5_least_45 hl (by decide) rfl (fun ls hl => ?_)
        refine lv_iconst (v := nI 0) hx hb dX5_least_47 (by decide) ?_
        refine lv_istore (lv' := [(6, .int (nI 0)), (4, .long (lN (ab.toNat * (1 * 2 ^ (4 * tk.toNat))))), (0, .ref g0), (1, .int (iI tk)), (2, .int (iI ab)), (3, .int (iI be))]) hx hb dX5_least_48 hl (by decide) rfl (fun ls hl => ?_)
        have L50 : ∀ (n50 : Nat) (b : Nat) (CW1 : Nat → Nat) (W1 : Nat → Nat) (X1 : Nat → Nat) (qa : Nat) (qb : Nat), (7 - b) < n50 → (b ≤ 7) → (∀ i, i < b → sp_lok BR RP tk.toNat ab.toNat be.toNat i = false) → ∀ (H : Heap) (locs : List Loc), va_P (dC, dI) vwCl [(g0, .inr (5, [.ref h0, .ref p0, .ref k0, .ref u0, .ref r0])), (u0, .inr (2, [.ref u1, .ref u2, .int (nI rm), .ref u3, .ref qa, .ref qb])), (u1, .inl (cI, 2, .inl (fun z_ => nI (BR z_)))), (u2, .inl (cI, 2, .inl (fun z_ => nI (RP z_)))), (u3, .inl (cI, 16, .inl (fun z_ => nI (CW1 z_)))), (qa, .inl (cJ, 308, .inr (.inl (fun z_ => lN (W1 z_))))), (qb, .inl (cJ, 308, .inr (.inl (fun z_ => lN (X1 z_)))))] H → va_D A [(g0, .inr (5, [.ref h0, .ref p0, .ref k0, .ref u0, .ref r0])), (u0, .inr (2, [.ref u1, .ref u2, .int (nI rm), .ref u3, .ref qa, .ref qb])), (u1, .inl (cI, 2, .inl (fun z_ => nI (BR z_)))), (u2, .inl (cI, 2, .inl (fun z_ => nI (RP z_)))), (u3, .inl (cI, 16, .inl (fun z_ => nI (CW1 z_)))), (qa, .inl (cJ, 308, .inr (.inl (fun z_ => lN (W1 z_))))), (qb, .inl (cJ, 308, .inr (.inl (fun z_ => lN (X1 z_)))))] → va_S A s.heap H locs → ∀ (ls : Array Slot), lv_has ls 7 [(0, .ref g0), (1, .int (iI tk)), (2, .int (iI ab)), (3, .int (iI be)), (4, .long (lN (ab.toNat * (1 * 2 ^ (4 * tk.toNat))))), (6, .int (nI b))] → W p l e (zR 5 0 0 135) s m args below meth c H locs 0 0 Q (F0 m 50 ls []) := by
          intro n50
          induction n50 with
          | zero => intro b CW1 W1 X1 qa qb hn; exact absurd hn (Nat.not_lt_zero _)
          | succ n50 ih =>
            intro b CW1 W1 X1 qa qb hn i1 i2 H locs hP hD hS ls hl
            have ih50 := ih
            have hn50 := hn
            clear ih hn
            refine lv_iload hx hb dX5_least_50 (lv_at hl 5 rfl) ?_
            refine lv_bipush (v := nI 6) hx hb dX5_least_52 (by decide) ?_
            refine z_icmp_gt (tgt := 85) hx hb dX5_least_54 (by decide) (zcn_lt (a := 6) (b := b) rfl rfl (by omega)) (fun c_54 => ?_) (fun c_54 => ?_)
            · skip
              refine lv_bipush (v := iI (-9)) hx hb dX5_least_85 (by decide) ?_
              have q_0 : (-9 : Int) = if (1 ≤ tk ∧ tk ≤ 10) ∧ ((1 ≤ ab ∧ ab ≤ 1000) ∧ (1 ≤ be ∧ be ≤ 1000)) then sp_lst (sp_lok BR RP tk.toNat ab.toNat be.toNat) else -2 := by rw [if_pos (by omega)]; exact (sp_lst_n (fun i hi => i2 i (by omega))).symm
              exact hRET _ ls H locs ((iI (-9))) ((-9 : Int), CW1, W1, X1, qa, qb) dX5_least_87 ⟨rfl, q_0⟩ hP hD hS
            · skip
              refine lv_aload_n hx hb dX5_least_57 rfl (lv_at hl 0 rfl) ?_
              refine z_get (D := (dC, dI)) (ci := 5) (v := .ref u0) (C := RX5) (T := TX5) (N := 5) hx hb hts uX5 hown hK hP 0 rfl rfl 3 (by decide) w35 rfl rfl dX5_least_58 ?_
              refine lv_iload_n hx hb dX5_least_61 rfl (lv_at hl 1 rfl) ?_
              refine lv_iload hx hb dX5_least_62 (lv_at hl 5 rfl) ?_
              refine z_c1 (v := nI tk.toNat) (z_ZtoN (by first | assumption | omega)) ?_
              refine z_callVl (As := [.int (nI tk.toNat), .int (nI b)]) (rest := []) (wr := [(g0, .inr (5, [.ref h0, .ref p0, .ref k0, .ref u0, .ref r0]))]) ⟨hx, hb, hml, hown, hts⟩ (c_X2_weighMean l dC dI cI cJ H.size u0 u1 u2 u3 qa qb BR RP CW1 W1 X1 rm tk.toNat b (by first | assumption | omega) (by first | assumption | omega) (by first | assumption | omega) (by first | assumption | omega)) (cwV 2 hts gX5_least_X2_weighMean rfl rfl rfl (by decide +kernel) ⟨Nat.le_of_ble_eq_true rfl, Nat.le_of_ble_eq_true rfl⟩) hA hK hP hD hS [1, 2, 3, 4, 5, 6] [0] [0, 1, 2, 3, 4, 5, 6] rfl rfl (by decide) (by decide) (by decide) nwA_ok hN (ci := 2) rfl rfl 1 rfl hl.1 (Nat.le_of_ble_eq_true rfl) ⟨Nat.le_refl _, Nat.le_refl _⟩ rfl rfl dX5_least_64 (fun (u : (Nat) × (Nat → Nat) × (Nat → Nat) × (Nat → Nat) × (Nat) × (Nat)) => [(g0, .inr (5, [.ref h0, .ref p0, .ref k0, .ref u0, .ref r0])), (u0, .inr (2, [.ref u1, .ref u2, .int (nI rm), .ref u3, .ref u.2.2.2.2.1, .ref u.2.2.2.2.2])), (u1, .inl (cI, 2, .inl (fun z_ => nI (BR z_)))), (u2, .inl (cI, 2, .inl (fun z_ => nI (RP z_)))), (u3, .inl (cI, 16, .inl (fun z_ => nI (u.2.1 z_)))), (u.2.2.2.2.1, .inl (cJ, 308, .inr (.inl (fun z_ => lN (u.2.2.1 z_))))), (u.2.2.2.2.2, .inl (cJ, 308, .inr (.inl (fun z_ => lN (u.2.2.2.1 z_)))))]) (fun u => rfl) (by decide) (fun r_64 u H locs hw hP hD hS => ?_)
              obtain ⟨rv_64, CW2_64, W2_64, X2_64, qa2_64, qb2_64⟩ := u
              have hP : va_P (dC, dI) vwCl [(g0, .inr (5, [.ref h0, .ref p0, .ref k0, .ref u0, .ref r0])), (u0, .inr (2, [.ref u1, .ref u2, .int (nI rm), .ref u3, .ref qa2_64, .ref qb2_64])), (u1, .inl (cI, 2, .inl (fun z_ => nI (BR z_)))), (u2, .inl (cI, 2, .inl (fun z_ => nI (RP z_)))), (u3, .inl (cI, 16, .inl (fun z_ => nI (CW2_64 z_)))), (qa2_64, .inl (cJ, 308, .inr (.inl (fun z_ => lN (W2_64 z_))))), (qb2_64, .inl (cJ, 308, .inr (.inl (fun z_ => lN (X2_64 z_)))))] H := hP
              have hD : va_D A [(g0, .inr (5, [.ref h0, .ref p0, .ref k0, .ref u0, .ref r0])), (u0, .inr (2, [.ref u1, .ref u2, .int (nI rm), .ref u3, .ref qa2_64, .ref qb2_64])), (u1, .inl (cI, 2, .inl (fun z_ => nI (BR z_)))), (u2, .inl (cI, 2, .inl (fun z_ => nI (RP z_)))), (u3, .inl (cI, 16, .inl (fun z_ => nI (CW2_64 z_)))), (qa2_64, .inl (cJ, 308, .inr (.inl (fun z_ => lN (W2_64 z_))))), (qb2_64, .inl (cJ, 308, .inr (.inl (fun z_ => lN (X2_64 z_)))))] := hD
              obtain ⟨er, p64_0⟩ := hw
              have p64_0 : rv_64 = sp_mn (sp_cw BR RP) b tk.toNat := p64_0
              have er : r_64 = (lN rv_64) := er
              subst er
              subst p64_0
              refine lv_iload_n hx hb dX5_least_67 rfl (lv_at hl 3 rfl) ?_
              refine z_c0 (v := nI be.toNat) (z_ZtoN (by first | assumption | omega)) ?_
              refine lv_i2l (v := (lN be.toNat)) hx hb dX5_least_68 (zl_i2lN rfl (by omega)) ?_
              refine z_lmul (v := (lN ((sp_mn (sp_cw BR RP) b tk.toNat) * be.toNat))) hx hb dX5_least_69 (lN_mul _ _) ?_
              refine lv_lload hx hb dX5_least_70 (lv_at hl 4 rfl) ?_
              have hb1 := sp_mn_b bBR bRP (show b ≤ 6 by omega) (show tk.toNat ≤ 10 by omega)
              have hb2 := pow16_le (show tk.toNat ≤ 10 by omega)
              rw [← pow24] at hb2
              have hm1 := Nat.mul_le_mul hb1 (show be.toNat ≤ 1000 by omega)
              have hm2 := Nat.mul_le_mul (show ab.toNat ≤ 1000 by omega) hb2
              refine W.lcmp hx hb dX5_least_72 ?_
              refine z_if_lt (tgt := 79) hx hb dX5_least_73 (by decide) ((zm_lt _ _).trans (zl_lt (a := (((sp_mn (sp_cw BR RP) b tk.toNat) * be.toNat : Nat) : Int)) (b := ((ab.toNat * (1 * 2 ^ (4 * tk.toNat)) : Nat) : Int)) (lI_N _) (lI_N _) (by omega))) (fun c_73 => ?_) (fun c_73 => ?_)
              · skip
                refine lv_iinc (v := (nI (b + 1))) (lv' := [(6, .int (nI (b + 1))), (0, .ref g0), (1, .int (iI tk)), (2, .int (iI ab)), (3, .int (iI be)), (4, .long (lN (ab.toNat * (1 * 2 ^ (4 * tk.toNat)))))]) hx hb dX5_least_79 hl (k := 5) rfl (z_incN b 1 (by decide)) (by decide) rfl (fun ls hl => ?_)
                refine lv_goto (tgt := 50) hx hb dX5_least_82 (by decide) ?_
                have o_i1 : (b + 1) ≤ 7 := by first | assumption | omega
                have o_i2 : ∀ i, i < (b + 1) → sp_lok BR RP tk.toNat ab.toNat be.toNat i = false := by exact lt_s i2 (sp_lok_f (by omega))
                have o_mu : (7 - (b + 1)) < n50 := by omega
                exact ih50 (b + 1) CW2_64 W2_64 X2_64 qa2_64 qb2_64 o_mu o_i1 o_i2 H locs hP hD hS ls (lv_sub hl [1, 2, 3, 4, 5, 0] rfl)
              · skip
                refine lv_iload hx hb dX5_least_76 (lv_at hl 5 rfl) ?_
                refine z_c0 (v := iI ((b : Nat) : Int)) (iI_N _) ?_
                have q_0 : ((b : Nat) : Int) = if (1 ≤ tk ∧ tk ≤ 10) ∧ ((1 ≤ ab ∧ ab ≤ 1000) ∧ (1 ≤ be ∧ be ≤ 1000)) then sp_lst (sp_lok BR RP tk.toNat ab.toNat be.toNat) else -2 := by rw [if_pos (by omega)]; exact (sp_lst_y i2 (sp_lok_t (by omega)) (by omega)).symm
                exact hRET _ ls H locs ((iI ((b : Nat) : Int))) (((b : Nat) : Int), CW2_64, W2_64, X2_64, qa2_64, qb2_64) dX5_least_78 ⟨rfl, q_0⟩ hP hD hS
        have o_i1 : 0 ≤ 7 := by first | assumption | omega
        have o_i2 : ∀ i, i < 0 → sp_lok BR RP tk.toNat ab.toNat be.toNat i = false := by intro i h; omega
        exact L50 ((7 - 0) + 1) 0 CW WA XB ua ub (Nat.lt_succ_self _) o_i1 o_i2 H locs hP hD hS ls (lv_sub hl [2, 3, 4, 5, 1, 0] rfl)
      · skip
        subst h29
        refine lv_if_ne (tgt := 38) hx hb dX5_least_32 (by decide) (fun c_x => absurd c_x (by decide)) (fun _ => ?_)
        refine lv_bipush (v := iI (-2)) hx hb dX5_least_35 (by decide) ?_
        have q_0 : (-2 : Int) = if (1 ≤ tk ∧ tk ≤ 10) ∧ ((1 ≤ ab ∧ ab ≤ 1000) ∧ (1 ≤ be ∧ be ≤ 1000)) then sp_lst (sp_lok BR RP tk.toNat ab.toNat be.toNat) else -2 := by rw [if_neg (by omega)]
        exact hRET _ ls H locs ((iI (-2))) ((-2 : Int), CW, WA, XB, ua, ub) dX5_least_37 ⟨rfl, q_0⟩ hP hD hS
    · skip
      subst h18
      refine lv_if_eq (tgt := 35) hx hb dX5_least_21 (by decide) (fun _ => ?_) (fun c_x => absurd c_x (by decide))
      refine lv_bipush (v := iI (-2)) hx hb dX5_least_35 (by decide) ?_
      have q_0 : (-2 : Int) = if (1 ≤ tk ∧ tk ≤ 10) ∧ ((1 ≤ ab ∧ ab ≤ 1000) ∧ (1 ≤ be ∧ be ≤ 1000)) then sp_lst (sp_lok BR RP tk.toNat ab.toNat be.toNat) else -2 := by rw [if_neg (by omega)]
      exact hRET _ ls H locs ((iI (-2))) ((-2 : Int), CW, WA, XB, ua, ub) dX5_least_37 ⟨rfl, q_0⟩ hP hD hS
  · skip
    subst h4
    refine lv_if_ne (tgt := 13) hx hb dX5_least_7 (by decide) (fun c_x => absurd c_x (by decide)) (fun _ => ?_)
    refine lv_bipush (v := iI (-2)) hx hb dX5_least_10 (by decide) ?_
    have q_0 : (-2 : Int) = if (1 ≤ tk ∧ tk ≤ 10) ∧ ((1 ≤ ab ∧ ab ≤ 1000) ∧ (1 ≤ be ∧ be ≤ 1000)) then sp_lst (sp_lok BR RP tk.toNat ab.toNat be.toNat) else -2 := by rw [if_neg (by omega)]
    exact hRET _ ls H locs ((iI (-2))) ((-2 : Int), CW, WA, XB, ua, ub) dX5_least_12 ⟨rfl, q_0⟩ hP hD hS

set_option maxHeartbeats 4000000 in
set_option maxRecDepth 100000 in
theorem c_X5_demand (l : Launch) (dC : Nat → ClassId) (dI : Nat → Nat → Nat) (cI cJ : ClassId) (sz : Nat) (g0 : Nat) (h0 : Nat) (p0 : Nat) (k0 : Nat) (u0 : Nat) (r0 : Nat) (r1 : Nat) (r2 : Nat) (r3 : Nat) (DM : Nat → Nat) (CM : Nat → Nat) (KD : Nat → Nat) (ln : Nat) (fa : Nat) (tn : Nat) (z : Int) (n : Int) (bDM : ∀ k, DM k ≤ 20) (hro : sp_rowok DM KD ln fa tn) (bz : -2147483648 ≤ z ∧ z < 2147483648) (bn : -2147483648 ≤ n ∧ n < 2147483648) : Met l yX5_demand wsX5_demand (zR 3 0 0 70) (va_Pc [.ref g0, .int (iI z), .int (iI n)] (zP (dC, dI) [(cI, .int), (cJ, .long)] [(g0, .inr (5, [.ref h0, .ref p0, .ref k0, .ref u0, .ref r0])), (r0, .inr (3, [.ref r1, .ref r2, .ref r3, .int (nI ln), .int (nI fa), .int (nI tn)])), (r1, .inl (cI, 6, .inl (fun z_ => nI (DM z_)))), (r2, .inl (cI, 6, .inl (fun z_ => nI (CM z_)))), (r3, .inl (cI, 120, .inl (fun z_ => nI (KD z_))))] sz nwA)) (va_Qi (fun (r : Int32) (u : (Int) × (Nat → Nat) × (Nat → Nat) × (Nat → Nat) × (Nat) × (Nat) × (Nat)) => r = (iI u.1) ∧ (u.1 = if 0 ≤ z ∧ z ≤ 5 then (if 0 ≤ n ∧ n ≤ 20 then (DM z.toNat : Int) else -2) else -1) ∧ (u.2.1 = if ((0 ≤ z ∧ z ≤ 5) ∧ (0 ≤ n ∧ n ≤ 20)) then up DM z.toNat n.toNat else DM) ∧ (sp_rowok u.2.1 u.2.2.2.1 u.2.2.2.2.1 u.2.2.2.2.2.1 u.2.2.2.2.2.2)) (zB (dC, dI) (fun (u : (Int) × (Nat → Nat) × (Nat → Nat) × (Nat → Nat) × (Nat) × (Nat) × (Nat)) => [(g0, .inr (5, [.ref h0, .ref p0, .ref k0, .ref u0, .ref r0])), (r0, .inr (3, [.ref r1, .ref r2, .ref r3, .int (nI u.2.2.2.2.1), .int (nI u.2.2.2.2.2.1), .int (nI u.2.2.2.2.2.2)])), (r1, .inl (cI, 6, .inl (fun z_ => nI (u.2.1 z_)))), (r2, .inl (cI, 6, .inl (fun z_ => nI (u.2.2.1 z_)))), (r3, .inl (cI, 120, .inl (fun z_ => nI (u.2.2.2.1 z_))))]) (va_A [(g0, .inr (5, [.ref h0, .ref p0, .ref k0, .ref u0, .ref r0])), (r0, .inr (3, [.ref r1, .ref r2, .ref r3, .int (nI ln), .int (nI fa), .int (nI tn)])), (r1, .inl (cI, 6, .inl (fun z_ => nI (DM z_)))), (r2, .inl (cI, 6, .inl (fun z_ => nI (CM z_)))), (r3, .inl (cI, 120, .inl (fun z_ => nI (KD z_))))] sz)) (va_A [(g0, .inr (5, [.ref h0, .ref p0, .ref k0, .ref u0, .ref r0])), (r0, .inr (3, [.ref r1, .ref r2, .ref r3, .int (nI ln), .int (nI fa), .int (nI tn)])), (r1, .inl (cI, 6, .inl (fun z_ => nI (DM z_)))), (r2, .inl (cI, 6, .inl (fun z_ => nI (CM z_)))), (r3, .inl (cI, 120, .inl (fun z_ => nI (KD z_))))] sz)) 0 0 (va_A [(g0, .inr (5, [.ref h0, .ref p0, .ref k0, .ref u0, .ref r0])), (r0, .inr (3, [.ref r1, .ref r2, .ref r3, .int (nI ln), .int (nI fa), .int (nI tn)])), (r1, .inl (cI, 6, .inl (fun z_ => nI (DM z_)))), (r2, .inl (cI, 6, .inl (fun z_ => nI (CM z_)))), (r3, .inl (cI, 120, .inl (fun z_ => nI (KD z_))))] sz) := by
  refine z_met_i (cc := cX5_demand) (maxL := 4) (by decide) rfl (Nat.le_of_ble_eq_true rfl) ?_
  intro p e s m args below meth c Q A ls hx hb hml hown hts hin hA hK hP hD hN hl hRET
  have hown : s.vm.findClass RX5 = some m.cls := hown
  obtain ⟨H, eH⟩ : ∃ H : Heap, H = s.heap := ⟨_, rfl⟩
  rw [← eH] at hP
  obtain ⟨locs, eL⟩ : ∃ z : List Loc, z = [] := ⟨_, rfl⟩
  rw [← eH, ← eL]
  have hS : va_S A s.heap H locs := by rw [eH, eL]; exact va_S.rf
  have hl : lv_has ls 4 [(0, .ref g0), (1, .int (iI z)), (2, .int (iI n))] := hl
  have w42 := hts (.fieldLink RX5 42 "PullCards" "row" "LPullCards$Row;") (by decide +kernel)
  have uX5 : ∀ w ∈ wsX50, w ∈ wsX5_demand := by decide +kernel
  have w170 := hts (.fieldLink RX5 170 "PullCards$Row" "demands" "[I") (by decide +kernel)
  have uX3 : ∀ w ∈ wsX30, w ∈ wsX5_demand := by decide +kernel
  refine lv_iload_n hx hb dX5_demand_0 rfl (lv_at hl 1 rfl) ?_
  refine lv_iconst (v := nI 0) hx hb dX5_demand_1 (by decide) ?_
  refine lv_iconst (v := nI 5) hx hb dX5_demand_2 (by decide) ?_
  refine z_c0 (v := iI 5) (by decide) ?_
  refine z_c1 (v := iI 0) (by decide) ?_
  refine z_callSi (As := [.int (iI z), .int (iI 0), .int (iI 5)]) (rest := []) (wr := [(g0, .inr (5, [.ref h0, .ref p0, .ref k0, .ref u0, .ref r0])), (r0, .inr (3, [.ref r1, .ref r2, .ref r3, .int (nI ln), .int (nI fa), .int (nI tn)])), (r1, .inl (cI, 6, .inl (fun z_ => nI (DM z_)))), (r2, .inl (cI, 6, .inl (fun z_ => nI (CM z_)))), (r3, .inl (cI, 120, .inl (fun z_ => nI (KD z_))))]) ⟨hx, hb, hml, hown, hts⟩ (c_X5_within l dC dI cI cJ H.size z (0 : Int) (5 : Int) (by first | assumption | omega) (by first | assumption | omega) (by first | assumption | omega)) (va_cwS 3 hts gX5_demand_X5_within rfl rfl rfl (by decide +kernel) ⟨Nat.le_of_ble_eq_true rfl, Nat.le_of_ble_eq_true rfl⟩) hA hK hP hD hS [] [0, 1, 2, 3, 4] [0, 1, 2, 3, 4] rfl rfl (by decide) (by decide) (by decide) nwA_ok hN hl.1 (Nat.le_of_ble_eq_true rfl) ⟨Nat.le_refl _, Nat.le_refl _⟩ rfl rfl dX5_demand_3 (fun (u : (Nat)) => [(g0, .inr (5, [.ref h0, .ref p0, .ref k0, .ref u0, .ref r0])), (r0, .inr (3, [.ref r1, .ref r2, .ref r3, .int (nI ln), .int (nI fa), .int (nI tn)])), (r1, .inl (cI, 6, .inl (fun z_ => nI (DM z_)))), (r2, .inl (cI, 6, .inl (fun z_ => nI (CM z_)))), (r3, .inl (cI, 120, .inl (fun z_ => nI (KD z_))))]) (fun u => rfl) (by decide) (fun r_3 u H locs hw hP hD hS => ?_)
  obtain ⟨rv_3, eu⟩ : ∃ z, z = u := ⟨_, rfl⟩
  subst eu
  have hP : va_P (dC, dI) vwCl [(g0, .inr (5, [.ref h0, .ref p0, .ref k0, .ref u0, .ref r0])), (r0, .inr (3, [.ref r1, .ref r2, .ref r3, .int (nI ln), .int (nI fa), .int (nI tn)])), (r1, .inl (cI, 6, .inl (fun z_ => nI (DM z_)))), (r2, .inl (cI, 6, .inl (fun z_ => nI (CM z_)))), (r3, .inl (cI, 120, .inl (fun z_ => nI (KD z_))))] H := hP
  have hD : va_D A [(g0, .inr (5, [.ref h0, .ref p0, .ref k0, .ref u0, .ref r0])), (r0, .inr (3, [.ref r1, .ref r2, .ref r3, .int (nI ln), .int (nI fa), .int (nI tn)])), (r1, .inl (cI, 6, .inl (fun z_ => nI (DM z_)))), (r2, .inl (cI, 6, .inl (fun z_ => nI (CM z_)))), (r3, .inl (cI, 120, .inl (fun z_ => nI (KD z_))))] := hD
  obtain ⟨er, p3_0⟩ := hw
  have p3_0 : (rv_3 = 1 ∧ ((0 : Int) ≤ z ∧ z ≤ (5 : Int))) ∨ (rv_3 = 0 ∧ ¬ ((0 : Int) ≤ z ∧ z ≤ (5 : Int))) := p3_0
  have er : r_3 = (nI rv_3) := er
  subst er
  rcases p3_0 with ⟨h3, c_3⟩ | ⟨h3, c_3⟩
  · skip
    subst h3
    refine lv_if_ne (tgt := 11) hx hb dX5_demand_6 (by decide) (fun _ => ?_) (fun c_x => absurd c_x (by decide))
    refine lv_iload_n hx hb dX5_demand_11 rfl (lv_at hl 2 rfl) ?_
    refine lv_iconst (v := nI 0) hx hb dX5_demand_12 (by decide) ?_
    refine lv_bipush (v := nI 20) hx hb dX5_demand_13 (by decide) ?_
    refine z_c0 (v := iI 20) (by decide) ?_
    refine z_c1 (v := iI 0) (by decide) ?_
    refine z_callSi (As := [.int (iI n), .int (iI 0), .int (iI 20)]) (rest := []) (wr := [(g0, .inr (5, [.ref h0, .ref p0, .ref k0, .ref u0, .ref r0])), (r0, .inr (3, [.ref r1, .ref r2, .ref r3, .int (nI ln), .int (nI fa), .int (nI tn)])), (r1, .inl (cI, 6, .inl (fun z_ => nI (DM z_)))), (r2, .inl (cI, 6, .inl (fun z_ => nI (CM z_)))), (r3, .inl (cI, 120, .inl (fun z_ => nI (KD z_))))]) ⟨hx, hb, hml, hown, hts⟩ (c_X5_within l dC dI cI cJ H.size n (0 : Int) (20 : Int) (by first | assumption | omega) (by first | assumption | omega) (by first | assumption | omega)) (va_cwS 3 hts gX5_demand_X5_within rfl rfl rfl (by decide +kernel) ⟨Nat.le_of_ble_eq_true rfl, Nat.le_of_ble_eq_true rfl⟩) hA hK hP hD hS [] [0, 1, 2, 3, 4] [0, 1, 2, 3, 4] rfl rfl (by decide) (by decide) (by decide) nwA_ok hN hl.1 (Nat.le_of_ble_eq_true rfl) ⟨Nat.le_refl _, Nat.le_refl _⟩ rfl rfl dX5_demand_15 (fun (u : (Nat)) => [(g0, .inr (5, [.ref h0, .ref p0, .ref k0, .ref u0, .ref r0])), (r0, .inr (3, [.ref r1, .ref r2, .ref r3, .int (nI ln), .int (nI fa), .int (nI tn)])), (r1, .inl (cI, 6, .inl (fun z_ => nI (DM z_)))), (r2, .inl (cI, 6, .inl (fun z_ => nI (CM z_)))), (r3, .inl (cI, 120, .inl (fun z_ => nI (KD z_))))]) (fun u => rfl) (by decide) (fun r_15 u H locs hw hP hD hS => ?_)
    obtain ⟨rv_15, eu⟩ : ∃ z, z = u := ⟨_, rfl⟩
    subst eu
    have hP : va_P (dC, dI) vwCl [(g0, .inr (5, [.ref h0, .ref p0, .ref k0, .ref u0, .ref r0])), (r0, .inr (3, [.ref r1, .ref r2, .ref r3, .int (nI ln), .int (nI fa), .int (nI tn)])), (r1, .inl (cI, 6, .inl (fun z_ => nI (DM z_)))), (r2, .inl (cI, 6, .inl (fun z_ => nI (CM z_)))), (r3, .inl (cI, 120, .inl (fun z_ => nI (KD z_))))] H := hP
    have hD : va_D A [(g0, .inr (5, [.ref h0, .ref p0, .ref k0, .ref u0, .ref r0])), (r0, .inr (3, [.ref r1, .ref r2, .ref r3, .int (nI ln), .int (nI fa), .int (nI tn)])), (r1, .inl (cI, 6, .inl (fun z_ => nI (DM z_)))), (r2, .inl (cI, 6, .inl (fun z_ => nI (CM z_)))), (r3, .inl (cI, 120, .inl (fun z_ => nI (KD z_))))] := hD
    obtain ⟨er, p15_0⟩ := hw
    have p15_0 : (rv_15 = 1 ∧ ((0 : Int) ≤ n ∧ n ≤ (20 : Int))) ∨ (rv_15 = 0 ∧ ¬ ((0 : Int) ≤ n ∧ n ≤ (20 : Int))) := p15_0
    have er : r_15 = (nI rv_15) := er
    subst er
    rcases p15_0 with ⟨h15, c_15⟩ | ⟨h15, c_15⟩
    · skip
      subst h15
      refine lv_if_ne (tgt := 24) hx hb dX5_demand_18 (by decide) (fun _ => ?_) (fun c_x => absurd c_x (by decide))
      refine lv_aload_n hx hb dX5_demand_24 rfl (lv_at hl 0 rfl) ?_
      refine z_get (D := (dC, dI)) (ci := 5) (v := .ref r0) (C := RX5) (T := TX5) (N := 5) hx hb hts uX5 hown hK hP 0 rfl rfl 4 (by decide) w42 rfl rfl dX5_demand_25 ?_
      refine z_get (D := (dC, dI)) (ci := 3) (v := .ref r1) (C := RX3) (T := TX3) (N := 6) hx hb hts uX3 hown hK hP 1 rfl rfl 0 (by decide) w170 rfl rfl dX5_demand_28 ?_
      refine lv_iload_n hx hb dX5_demand_31 rfl (lv_at hl 1 rfl) ?_
      refine z_c0 (v := nI z.toNat) (z_ZtoN (by first | assumption | omega)) ?_
      refine z_iald (v := (nI (DM z.toNat))) hx hb hK hP 2 0 rfl rfl z.toNat rfl (by omega) rfl dX5_demand_32 ?_
      refine lv_istore_n (lv' := [(3, .int (nI (DM z.toNat))), (0, .ref g0), (1, .int (iI z)), (2, .int (iI n))]) hx hb dX5_demand_33 rfl hl (by decide) rfl (fun ls hl => ?_)
      refine lv_aload_n hx hb dX5_demand_34 rfl (lv_at hl 1 rfl) ?_
      refine z_get (D := (dC, dI)) (ci := 5) (v := .ref r0) (C := RX5) (T := TX5) (N := 5) hx hb hts uX5 hown hK hP 0 rfl rfl 4 (by decide) w42 rfl rfl dX5_demand_35 ?_
      refine z_get (D := (dC, dI)) (ci := 3) (v := .ref r1) (C := RX3) (T := TX3) (N := 6) hx hb hts uX3 hown hK hP 1 rfl rfl 0 (by decide) w170 rfl rfl dX5_demand_38 ?_
      refine lv_iload_n hx hb dX5_demand_41 rfl (lv_at hl 2 rfl) ?_
      refine lv_iload_n hx hb dX5_demand_42 rfl (lv_at hl 3 rfl) ?_
      refine z_c0 (v := nI n.toNat) (z_ZtoN (by first | assumption | omega)) ?_
      refine z_c1 (v := nI z.toNat) (z_ZtoN (by first | assumption | omega)) ?_
      refine z_iast hx hb hK hP hD hS 2 0 rfl rfl z.toNat rfl (by omega) (upd_N DM z.toNat n.toNat) [(g0, .inr (5, [.ref h0, .ref p0, .ref k0, .ref u0, .ref r0])), (r0, .inr (3, [.ref r1, .ref r2, .ref r3, .int (nI ln), .int (nI fa), .int (nI tn)])), (r1, .inl (cI, 6, .inl (fun z_ => nI ((up DM z.toNat n.toNat) z_)))), (r2, .inl (cI, 6, .inl (fun z_ => nI (CM z_)))), (r3, .inl (cI, 120, .inl (fun z_ => nI (KD z_))))] rfl dX5_demand_43 (fun H locs hP hD hS => ?_)
      refine lv_aload_n hx hb dX5_demand_44 rfl (lv_at hl 1 rfl) ?_
      refine z_get (D := (dC, dI)) (ci := 5) (v := .ref r0) (C := RX5) (T := TX5) (N := 5) hx hb hts uX5 hown hK hP 0 rfl rfl 4 (by decide) w42 rfl rfl dX5_demand_45 ?_
      refine z_callVv (As := []) (rest := []) (wr := [(g0, .inr (5, [.ref h0, .ref p0, .ref k0, .ref u0, .ref r0]))]) ⟨hx, hb, hml, hown, hts⟩ (c_X3_lay l dC dI cI cJ H.size r0 r1 r2 r3 (up DM z.toNat n.toNat) CM KD ln fa tn (by intro k; rw [up_e]; split; omega; exact bDM k)) (cwV 0 hts gX5_demand_X3_lay rfl rfl rfl (by decide +kernel) ⟨Nat.le_of_ble_eq_true rfl, Nat.le_of_ble_eq_true rfl⟩) hA hK hP hD hS [1, 2, 3, 4] [0] [0, 1, 2, 3, 4] rfl rfl (by decide) (by decide) (by decide) nwA_ok hN (ci := 3) rfl rfl 1 rfl hl.1 (Nat.le_of_ble_eq_true rfl) ⟨Nat.le_refl _, Nat.le_refl _⟩ rfl rfl dX5_demand_48 (fun (u : (Nat → Nat) × (Nat → Nat) × (Nat) × (Nat) × (Nat)) => [(g0, .inr (5, [.ref h0, .ref p0, .ref k0, .ref u0, .ref r0])), (r0, .inr (3, [.ref r1, .ref r2, .ref r3, .int (nI u.2.2.1), .int (nI u.2.2.2.1), .int (nI u.2.2.2.2)])), (r1, .inl (cI, 6, .inl (fun z_ => nI ((up DM z.toNat n.toNat) z_)))), (r2, .inl (cI, 6, .inl (fun z_ => nI (u.1 z_)))), (r3, .inl (cI, 120, .inl (fun z_ => nI (u.2.1 z_))))]) (fun u => rfl) (by decide) (fun u H locs hw hP hD hS => ?_)
      obtain ⟨CM2_48, KD2_48, ln2_48, fa2_48, tn2_48⟩ := u
      have hP : va_P (dC, dI) vwCl [(g0, .inr (5, [.ref h0, .ref p0, .ref k0, .ref u0, .ref r0])), (r0, .inr (3, [.ref r1, .ref r2, .ref r3, .int (nI ln2_48), .int (nI fa2_48), .int (nI tn2_48)])), (r1, .inl (cI, 6, .inl (fun z_ => nI ((up DM z.toNat n.toNat) z_)))), (r2, .inl (cI, 6, .inl (fun z_ => nI (CM2_48 z_)))), (r3, .inl (cI, 120, .inl (fun z_ => nI (KD2_48 z_))))] H := hP
      have hD : va_D A [(g0, .inr (5, [.ref h0, .ref p0, .ref k0, .ref u0, .ref r0])), (r0, .inr (3, [.ref r1, .ref r2, .ref r3, .int (nI ln2_48), .int (nI fa2_48), .int (nI tn2_48)])), (r1, .inl (cI, 6, .inl (fun z_ => nI ((up DM z.toNat n.toNat) z_)))), (r2, .inl (cI, 6, .inl (fun z_ => nI (CM2_48 z_)))), (r3, .inl (cI, 120, .inl (fun z_ => nI (KD2_48 z_))))] := hD
      obtain ⟨p48_0, p48_1, p48_2, p48_3⟩ := hw
      have p48_0 : ln2_48 = fb_sm (up DM z.toNat n.toNat) 6 := p48_0
      have p48_1 : ∀ q, q < ln2_48 → KD2_48 q = sp_kd (up DM z.toNat n.toNat) ln2_48 q := p48_1
      have p48_2 : fa2_48 = sp_rg (up DM z.toNat n.toNat) ln2_48 ln2_48 := p48_2
      have p48_3 : tn2_48 = sp_tn (up DM z.toNat n.toNat) ln2_48 ln2_48 := p48_3
      refine lv_iload_n hx hb dX5_demand_51 rfl (lv_at hl 0 rfl) ?_
      refine z_c0 (v := iI ((DM z.toNat : Nat) : Int)) (iI_N _) ?_
      have q_0 : ((DM z.toNat : Nat) : Int) = if 0 ≤ z ∧ z ≤ 5 then (if 0 ≤ n ∧ n ≤ 20 then (DM z.toNat : Int) else -2) else -1 := by repeat (first | rw [if_pos (by omega)] | rw [if_neg (by omega)])
      have q_1 : (up DM z.toNat n.toNat) = if ((0 ≤ z ∧ z ≤ 5) ∧ (0 ≤ n ∧ n ≤ 20)) then up DM z.toNat n.toNat else DM := by repeat (first | rw [if_pos (by omega)] | rw [if_neg (by omega)])
      have q_2 : sp_rowok (up DM z.toNat n.toNat) KD2_48 ln2_48 fa2_48 tn2_48 := by first | exact hro | exact ⟨p48_0, p48_1, p48_2, p48_3⟩
      exact hRET _ ls H locs ((iI ((DM z.toNat : Nat) : Int))) (((DM z.toNat : Nat) : Int), (up DM z.toNat n.toNat), CM2_48, KD2_48, ln2_48, fa2_48, tn2_48) dX5_demand_52 ⟨rfl, q_0, q_1, q_2⟩ hP hD hS
    · skip
      subst h15
      refine lv_if_ne (tgt := 24) hx hb dX5_demand_18 (by decide) (fun c_x => absurd c_x (by decide)) (fun _ => ?_)
      refine lv_bipush (v := iI (-2)) hx hb dX5_demand_21 (by decide) ?_
      have q_0 : (-2 : Int) = if 0 ≤ z ∧ z ≤ 5 then (if 0 ≤ n ∧ n ≤ 20 then (DM z.toNat : Int) else -2) else -1 := by repeat (first | rw [if_pos (by omega)] | rw [if_neg (by omega)])
      have q_1 : DM = if ((0 ≤ z ∧ z ≤ 5) ∧ (0 ≤ n ∧ n ≤ 20)) then up DM z.toNat n.toNat else DM := by repeat (first | rw [if_pos (by omega)] | rw [if_neg (by omega)])
      have q_2 : sp_rowok DM KD ln fa tn := by first | exact hro | exact ⟨p48_0, p48_1, p48_2, p48_3⟩
      exact hRET _ ls H locs ((iI (-2))) ((-2 : Int), DM, CM, KD, ln, fa, tn) dX5_demand_23 ⟨rfl, q_0, q_1, q_2⟩ hP hD hS
  · skip
    subst h3
    refine lv_if_ne (tgt := 11) hx hb dX5_demand_6 (by decide) (fun c_x => absurd c_x (by decide)) (fun _ => ?_)
    refine lv_iconst (v := iI (-1)) hx hb dX5_demand_9 (by decide) ?_
    have q_0 : (-1 : Int) = if 0 ≤ z ∧ z ≤ 5 then (if 0 ≤ n ∧ n ≤ 20 then (DM z.toNat : Int) else -2) else -1 := by repeat (first | rw [if_pos (by omega)] | rw [if_neg (by omega)])
    have q_1 : DM = if ((0 ≤ z ∧ z ≤ 5) ∧ (0 ≤ n ∧ n ≤ 20)) then up DM z.toNat n.toNat else DM := by repeat (first | rw [if_pos (by omega)] | rw [if_neg (by omega)])
    have q_2 : sp_rowok DM KD ln fa tn := by first | exact hro | exact ⟨p48_0, p48_1, p48_2, p48_3⟩
    exact hRET _ ls H locs ((iI (-1))) ((-1 : Int), DM, CM, KD, ln, fa, tn) dX5_demand_10 ⟨rfl, q_0, q_1, q_2⟩ hP hD hS

set_option maxHeartbeats 4000000 in
set_option maxRecDepth 100000 in
theorem c_X5_at (l : Launch) (dC : Nat → ClassId) (dI : Nat → Nat → Nat) (cI cJ : ClassId) (sz : Nat) (g0 : Nat) (h0 : Nat) (p0 : Nat) (k0 : Nat) (u0 : Nat) (r0 : Nat) (r1 : Nat) (r2 : Nat) (r3 : Nat) (DM : Nat → Nat) (CM : Nat → Nat) (KD : Nat → Nat) (ln : Nat) (fa : Nat) (tn : Nat) (z : Int) (bDM : ∀ k, DM k ≤ 20) (hro : sp_rowok DM KD ln fa tn) (bz : -2147483648 ≤ z ∧ z < 2147483648) : Met l yX5_at wsX5_at (zR 1 0 0 22) (va_Pc [.ref g0, .int (iI z)] (zP (dC, dI) [(cI, .int), (cJ, .long)] [(g0, .inr (5, [.ref h0, .ref p0, .ref k0, .ref u0, .ref r0])), (r0, .inr (3, [.ref r1, .ref r2, .ref r3, .int (nI ln), .int (nI fa), .int (nI tn)])), (r1, .inl (cI, 6, .inl (fun z_ => nI (DM z_)))), (r2, .inl (cI, 6, .inl (fun z_ => nI (CM z_)))), (r3, .inl (cI, 120, .inl (fun z_ => nI (KD z_))))] sz nwA)) (va_Qi (fun (r : Int32) (u : (Int)) => r = (iI u) ∧ (u = if 0 ≤ z ∧ z < (fb_sm DM 6 : Int) then (sp_kd DM (fb_sm DM 6) z.toNat : Int) else -9)) (zB (dC, dI) (fun (u : (Int)) => [(g0, .inr (5, [.ref h0, .ref p0, .ref k0, .ref u0, .ref r0])), (r0, .inr (3, [.ref r1, .ref r2, .ref r3, .int (nI ln), .int (nI fa), .int (nI tn)])), (r1, .inl (cI, 6, .inl (fun z_ => nI (DM z_)))), (r2, .inl (cI, 6, .inl (fun z_ => nI (CM z_)))), (r3, .inl (cI, 120, .inl (fun z_ => nI (KD z_))))]) (va_A [(g0, .inr (5, [.ref h0, .ref p0, .ref k0, .ref u0, .ref r0])), (r0, .inr (3, [.ref r1, .ref r2, .ref r3, .int (nI ln), .int (nI fa), .int (nI tn)])), (r1, .inl (cI, 6, .inl (fun z_ => nI (DM z_)))), (r2, .inl (cI, 6, .inl (fun z_ => nI (CM z_)))), (r3, .inl (cI, 120, .inl (fun z_ => nI (KD z_))))] sz)) (va_A [(g0, .inr (5, [.ref h0, .ref p0, .ref k0, .ref u0, .ref r0])), (r0, .inr (3, [.ref r1, .ref r2, .ref r3, .int (nI ln), .int (nI fa), .int (nI tn)])), (r1, .inl (cI, 6, .inl (fun z_ => nI (DM z_)))), (r2, .inl (cI, 6, .inl (fun z_ => nI (CM z_)))), (r3, .inl (cI, 120, .inl (fun z_ => nI (KD z_))))] sz)) 0 0 (va_A [(g0, .inr (5, [.ref h0, .ref p0, .ref k0, .ref u0, .ref r0])), (r0, .inr (3, [.ref r1, .ref r2, .ref r3, .int (nI ln), .int (nI fa), .int (nI tn)])), (r1, .inl (cI, 6, .inl (fun z_ => nI (DM z_)))), (r2, .inl (cI, 6, .inl (fun z_ => nI (CM z_)))), (r3, .inl (cI, 120, .inl (fun z_ => nI (KD z_))))] sz) := by
  refine z_met_i (cc := cX5_at) (maxL := 2) (by decide) rfl (Nat.le_of_ble_eq_true rfl) ?_
  intro p e s m args below meth c Q A ls hx hb hml hown hts hin hA hK hP hD hN hl hRET
  have hown : s.vm.findClass RX5 = some m.cls := hown
  obtain ⟨H, eH⟩ : ∃ H : Heap, H = s.heap := ⟨_, rfl⟩
  rw [← eH] at hP
  obtain ⟨locs, eL⟩ : ∃ z : List Loc, z = [] := ⟨_, rfl⟩
  rw [← eH, ← eL]
  have hS : va_S A s.heap H locs := by rw [eH, eL]; exact va_S.rf
  have hl : lv_has ls 2 [(0, .ref g0), (1, .int (iI z))] := hl
  have w42 := hts (.fieldLink RX5 42 "PullCards" "row" "LPullCards$Row;") (by decide +kernel)
  have uX5 : ∀ w ∈ wsX50, w ∈ wsX5_at := by decide +kernel
  have w176 := hts (.fieldLink RX5 176 "PullCards$Row" "length" "I") (by decide +kernel)
  have uX3 : ∀ w ∈ wsX30, w ∈ wsX5_at := by decide +kernel
  have w179 := hts (.fieldLink RX5 179 "PullCards$Row" "kinds" "[I") (by decide +kernel)
  have hln : ln ≤ 120 := by rw [hro.1]; exact sp_len_le bDM
  refine lv_iload_n hx hb dX5_at_0 rfl (lv_at hl 1 rfl) ?_
  refine lv_iconst (v := nI 0) hx hb dX5_at_1 (by decide) ?_
  refine lv_aload_n hx hb dX5_at_2 rfl (lv_at hl 0 rfl) ?_
  refine z_get (D := (dC, dI)) (ci := 5) (v := .ref r0) (C := RX5) (T := TX5) (N := 5) hx hb hts uX5 hown hK hP 0 rfl rfl 4 (by decide) w42 rfl rfl dX5_at_3 ?_
  refine z_get (D := (dC, dI)) (ci := 3) (v := .int (nI ln)) (C := RX3) (T := TX3) (N := 6) hx hb hts uX3 hown hK hP 1 rfl rfl 3 (by decide) w176 rfl rfl dX5_at_6 ?_
  refine lv_iconst (v := nI 1) hx hb dX5_at_9 (by decide) ?_
  refine z_isub (v := (iI (((ln : Nat) : Int) - 1))) hx hb dX5_at_10 (za_sub (iI_N _) (iI_N _)) ?_
  refine z_c1 (v := iI 0) (by decide) ?_
  refine z_callSi (As := [.int (iI z), .int (iI 0), .int (iI (((ln : Nat) : Int) - 1))]) (rest := []) (wr := [(g0, .inr (5, [.ref h0, .ref p0, .ref k0, .ref u0, .ref r0])), (r0, .inr (3, [.ref r1, .ref r2, .ref r3, .int (nI ln), .int (nI fa), .int (nI tn)])), (r1, .inl (cI, 6, .inl (fun z_ => nI (DM z_)))), (r2, .inl (cI, 6, .inl (fun z_ => nI (CM z_)))), (r3, .inl (cI, 120, .inl (fun z_ => nI (KD z_))))]) ⟨hx, hb, hml, hown, hts⟩ (c_X5_within l dC dI cI cJ H.size z (0 : Int) (((ln : Nat) : Int) - 1) (by first | assumption | omega) (by first | assumption | omega) (by first | assumption | omega)) (va_cwS 3 hts gX5_at_X5_within rfl rfl rfl (by decide +kernel) ⟨Nat.le_of_ble_eq_true rfl, Nat.le_of_ble_eq_true rfl⟩) hA hK hP hD hS [] [0, 1, 2, 3, 4] [0, 1, 2, 3, 4] rfl rfl (by decide) (by decide) (by decide) nwA_ok hN hl.1 (Nat.le_of_ble_eq_true rfl) ⟨Nat.le_refl _, Nat.le_refl _⟩ rfl rfl dX5_at_11 (fun (u : (Nat)) => [(g0, .inr (5, [.ref h0, .ref p0, .ref k0, .ref u0, .ref r0])), (r0, .inr (3, [.ref r1, .ref r2, .ref r3, .int (nI ln), .int (nI fa), .int (nI tn)])), (r1, .inl (cI, 6, .inl (fun z_ => nI (DM z_)))), (r2, .inl (cI, 6, .inl (fun z_ => nI (CM z_)))), (r3, .inl (cI, 120, .inl (fun z_ => nI (KD z_))))]) (fun u => rfl) (by decide) (fun r_11 u H locs hw hP hD hS => ?_)
  obtain ⟨rv_11, eu⟩ : ∃ z, z = u := ⟨_, rfl⟩
  subst eu
  have hP : va_P (dC, dI) vwCl [(g0, .inr (5, [.ref h0, .ref p0, .ref k0, .ref u0, .ref r0])), (r0, .inr (3, [.ref r1, .ref r2, .ref r3, .int (nI ln), .int (nI fa), .int (nI tn)])), (r1, .inl (cI, 6, .inl (fun z_ => nI (DM z_)))), (r2, .inl (cI, 6, .inl (fun z_ => nI (CM z_)))), (r3, .inl (cI, 120, .inl (fun z_ => nI (KD z_))))] H := hP
  have hD : va_D A [(g0, .inr (5, [.ref h0, .ref p0, .ref k0, .ref u0, .ref r0])), (r0, .inr (3, [.ref r1, .ref r2, .ref r3, .int (nI ln), .int (nI fa), .int (nI tn)])), (r1, .inl (cI, 6, .inl (fun z_ => nI (DM z_)))), (r2, .inl (cI, 6, .inl (fun z_ => nI (CM z_)))), (r3, .inl (cI, 120, .inl (fun z_ => nI (KD z_))))] := hD
  obtain ⟨er, p11_0⟩ := hw
  have p11_0 : (rv_11 = 1 ∧ ((0 : Int) ≤ z ∧ z ≤ (((ln : Nat) : Int) - 1))) ∨ (rv_11 = 0 ∧ ¬ ((0 : Int) ≤ z ∧ z ≤ (((ln : Nat) : Int) - 1))) := p11_0
  have er : r_11 = (nI rv_11) := er
  subst er
  rcases p11_0 with ⟨h11, c_11⟩ | ⟨h11, c_11⟩
  · skip
    subst h11
    refine lv_if_eq (tgt := 29) hx hb dX5_at_14 (by decide) (fun c_x => absurd c_x (by decide)) (fun _ => ?_)
    refine lv_aload_n hx hb dX5_at_17 rfl (lv_at hl 0 rfl) ?_
    refine z_get (D := (dC, dI)) (ci := 5) (v := .ref r0) (C := RX5) (T := TX5) (N := 5) hx hb hts uX5 hown hK hP 0 rfl rfl 4 (by decide) w42 rfl rfl dX5_at_18 ?_
    refine z_get (D := (dC, dI)) (ci := 3) (v := .ref r3) (C := RX3) (T := TX3) (N := 6) hx hb hts uX3 hown hK hP 1 rfl rfl 2 (by decide) w179 rfl rfl dX5_at_21 ?_
    refine lv_iload_n hx hb dX5_at_24 rfl (lv_at hl 1 rfl) ?_
    refine z_c0 (v := nI z.toNat) (z_ZtoN (by first | assumption | omega)) ?_
    refine z_iald (v := (nI (KD z.toNat))) hx hb hK hP 4 0 rfl rfl z.toNat rfl (by omega) rfl dX5_at_25 ?_
    refine lv_goto (tgt := 31) hx hb dX5_at_26 (by decide) ?_
    refine z_c0 (v := iI ((KD z.toNat : Nat) : Int)) (iI_N _) ?_
    have q_0 : ((KD z.toNat : Nat) : Int) = if 0 ≤ z ∧ z < (fb_sm DM 6 : Int) then (sp_kd DM (fb_sm DM 6) z.toNat : Int) else -9 := by first | (rw [← hro.1, if_pos (by omega), hro.2.1 z.toNat (by omega)]; done) | (rw [← hro.1, if_neg (by omega)]; done)
    exact hRET _ ls H locs ((iI ((KD z.toNat : Nat) : Int))) (((KD z.toNat : Nat) : Int)) dX5_at_31 ⟨rfl, q_0⟩ hP hD hS
  · skip
    subst h11
    refine lv_if_eq (tgt := 29) hx hb dX5_at_14 (by decide) (fun _ => ?_) (fun c_x => absurd c_x (by decide))
    refine lv_bipush (v := iI (-9)) hx hb dX5_at_29 (by decide) ?_
    have q_0 : (-9 : Int) = if 0 ≤ z ∧ z < (fb_sm DM 6 : Int) then (sp_kd DM (fb_sm DM 6) z.toNat : Int) else -9 := by first | (rw [← hro.1, if_pos (by omega), hro.2.1 z.toNat (by omega)]; done) | (rw [← hro.1, if_neg (by omega)]; done)
    exact hRET _ ls H locs ((iI (-9))) ((-9 : Int)) dX5_at_31 ⟨rfl, q_0⟩ hP hD hS

set_option maxHeartbeats 4000000 in
set_option maxRecDepth 100000 in
theorem c_X5_rough (l : Launch) (dC : Nat → ClassId) (dI : Nat → Nat → Nat) (cI cJ : ClassId) (sz : Nat) (g0 : Nat) (h0 : Nat) (p0 : Nat) (k0 : Nat) (u0 : Nat) (r0 : Nat) (r1 : Nat) (r2 : Nat) (r3 : Nat) (DM : Nat → Nat) (CM : Nat → Nat) (KD : Nat → Nat) (ln : Nat) (fa : Nat) (tn : Nat) (hro : sp_rowok DM KD ln fa tn) : Met l yX5_rough wsX5_rough (zR 0 0 0 0) (va_Pc [.ref g0] (zP (dC, dI) [(cI, .int), (cJ, .long)] [(g0, .inr (5, [.ref h0, .ref p0, .ref k0, .ref u0, .ref r0])), (r0, .inr (3, [.ref r1, .ref r2, .ref r3, .int (nI ln), .int (nI fa), .int (nI tn)])), (r1, .inl (cI, 6, .inl (fun z_ => nI (DM z_)))), (r2, .inl (cI, 6, .inl (fun z_ => nI (CM z_)))), (r3, .inl (cI, 120, .inl (fun z_ => nI (KD z_))))] sz nwA)) (va_Qi (fun (r : Int32) (u : Unit) => r = (nI fa) ∧ (fa = sp_rg DM (fb_sm DM 6) (fb_sm DM 6))) (zB (dC, dI) (fun (u : Unit) => [(g0, .inr (5, [.ref h0, .ref p0, .ref k0, .ref u0, .ref r0])), (r0, .inr (3, [.ref r1, .ref r2, .ref r3, .int (nI ln), .int (nI fa), .int (nI tn)])), (r1, .inl (cI, 6, .inl (fun z_ => nI (DM z_)))), (r2, .inl (cI, 6, .inl (fun z_ => nI (CM z_)))), (r3, .inl (cI, 120, .inl (fun z_ => nI (KD z_))))]) (va_A [(g0, .inr (5, [.ref h0, .ref p0, .ref k0, .ref u0, .ref r0])), (r0, .inr (3, [.ref r1, .ref r2, .ref r3, .int (nI ln), .int (nI fa), .int (nI tn)])), (r1, .inl (cI, 6, .inl (fun z_ => nI (DM z_)))), (r2, .inl (cI, 6, .inl (fun z_ => nI (CM z_)))), (r3, .inl (cI, 120, .inl (fun z_ => nI (KD z_))))] sz)) (va_A [(g0, .inr (5, [.ref h0, .ref p0, .ref k0, .ref u0, .ref r0])), (r0, .inr (3, [.ref r1, .ref r2, .ref r3, .int (nI ln), .int (nI fa), .int (nI tn)])), (r1, .inl (cI, 6, .inl (fun z_ => nI (DM z_)))), (r2, .inl (cI, 6, .inl (fun z_ => nI (CM z_)))), (r3, .inl (cI, 120, .inl (fun z_ => nI (KD z_))))] sz)) 0 0 (va_A [(g0, .inr (5, [.ref h0, .ref p0, .ref k0, .ref u0, .ref r0])), (r0, .inr (3, [.ref r1, .ref r2, .ref r3, .int (nI ln), .int (nI fa), .int (nI tn)])), (r1, .inl (cI, 6, .inl (fun z_ => nI (DM z_)))), (r2, .inl (cI, 6, .inl (fun z_ => nI (CM z_)))), (r3, .inl (cI, 120, .inl (fun z_ => nI (KD z_))))] sz) := by
  refine z_met_i (cc := cX5_rough) (maxL := 1) (by decide) rfl (Nat.le_of_ble_eq_true rfl) ?_
  intro p e s m args below meth c Q A ls hx hb hml hown hts hin hA hK hP hD hN hl hRET
  have hown : s.vm.findClass RX5 = some m.cls := hown
  obtain ⟨H, eH⟩ : ∃ H : Heap, H = s.heap := ⟨_, rfl⟩
  rw [← eH] at hP
  obtain ⟨locs, eL⟩ : ∃ z : List Loc, z = [] := ⟨_, rfl⟩
  rw [← eH, ← eL]
  have hS : va_S A s.heap H locs := by rw [eH, eL]; exact va_S.rf
  have hl : lv_has ls 1 [(0, .ref g0)] := hl
  have w42 := hts (.fieldLink RX5 42 "PullCards" "row" "LPullCards$Row;") (by decide +kernel)
  have uX5 : ∀ w ∈ wsX50, w ∈ wsX5_rough := by decide +kernel
  have w182 := hts (.fieldLink RX5 182 "PullCards$Row" "farthest" "I") (by decide +kernel)
  have uX3 : ∀ w ∈ wsX30, w ∈ wsX5_rough := by decide +kernel
  refine lv_aload_n hx hb dX5_rough_0 rfl (lv_at hl 0 rfl) ?_
  refine z_get (D := (dC, dI)) (ci := 5) (v := .ref r0) (C := RX5) (T := TX5) (N := 5) hx hb hts uX5 hown hK hP 0 rfl rfl 4 (by decide) w42 rfl rfl dX5_rough_1 ?_
  refine z_get (D := (dC, dI)) (ci := 3) (v := .int (nI fa)) (C := RX3) (T := TX3) (N := 6) hx hb hts uX3 hown hK hP 1 rfl rfl 4 (by decide) w182 rfl rfl dX5_rough_4 ?_
  have q_0 : fa = sp_rg DM (fb_sm DM 6) (fb_sm DM 6) := by rw [← hro.1]; exact hro.2.2.1
  exact hRET _ ls H locs ((nI fa)) () dX5_rough_7 ⟨rfl, q_0⟩ hP hD hS

set_option maxHeartbeats 4000000 in
set_option maxRecDepth 100000 in
theorem c_X5_changes (l : Launch) (dC : Nat → ClassId) (dI : Nat → Nat → Nat) (cI cJ : ClassId) (sz : Nat) (g0 : Nat) (h0 : Nat) (p0 : Nat) (k0 : Nat) (u0 : Nat) (r0 : Nat) (r1 : Nat) (r2 : Nat) (r3 : Nat) (DM : Nat → Nat) (CM : Nat → Nat) (KD : Nat → Nat) (ln : Nat) (fa : Nat) (tn : Nat) (hro : sp_rowok DM KD ln fa tn) : Met l yX5_changes wsX5_changes (zR 0 0 0 0) (va_Pc [.ref g0] (zP (dC, dI) [(cI, .int), (cJ, .long)] [(g0, .inr (5, [.ref h0, .ref p0, .ref k0, .ref u0, .ref r0])), (r0, .inr (3, [.ref r1, .ref r2, .ref r3, .int (nI ln), .int (nI fa), .int (nI tn)])), (r1, .inl (cI, 6, .inl (fun z_ => nI (DM z_)))), (r2, .inl (cI, 6, .inl (fun z_ => nI (CM z_)))), (r3, .inl (cI, 120, .inl (fun z_ => nI (KD z_))))] sz nwA)) (va_Qi (fun (r : Int32) (u : Unit) => r = (nI tn) ∧ (tn = sp_tn DM (fb_sm DM 6) (fb_sm DM 6))) (zB (dC, dI) (fun (u : Unit) => [(g0, .inr (5, [.ref h0, .ref p0, .ref k0, .ref u0, .ref r0])), (r0, .inr (3, [.ref r1, .ref r2, .ref r3, .int (nI ln), .int (nI fa), .int (nI tn)])), (r1, .inl (cI, 6, .inl (fun z_ => nI (DM z_)))), (r2, .inl (cI, 6, .inl (fun z_ => nI (CM z_)))), (r3, .inl (cI, 120, .inl (fun z_ => nI (KD z_))))]) (va_A [(g0, .inr (5, [.ref h0, .ref p0, .ref k0, .ref u0, .ref r0])), (r0, .inr (3, [.ref r1, .ref r2, .ref r3, .int (nI ln), .int (nI fa), .int (nI tn)])), (r1, .inl (cI, 6, .inl (fun z_ => nI (DM z_)))), (r2, .inl (cI, 6, .inl (fun z_ => nI (CM z_)))), (r3, .inl (cI, 120, .inl (fun z_ => nI (KD z_))))] sz)) (va_A [(g0, .inr (5, [.ref h0, .ref p0, .ref k0, .ref u0, .ref r0])), (r0, .inr (3, [.ref r1, .ref r2, .ref r3, .int (nI ln), .int (nI fa), .int (nI tn)])), (r1, .inl (cI, 6, .inl (fun z_ => nI (DM z_)))), (r2, .inl (cI, 6, .inl (fun z_ => nI (CM z_)))), (r3, .inl (cI, 120, .inl (fun z_ => nI (KD z_))))] sz)) 0 0 (va_A [(g0, .inr (5, [.ref h0, .ref p0, .ref k0, .ref u0, .ref r0])), (r0, .inr (3, [.ref r1, .ref r2, .ref r3, .int (nI ln), .int (nI fa), .int (nI tn)])), (r1, .inl (cI, 6, .inl (fun z_ => nI (DM z_)))), (r2, .inl (cI, 6, .inl (fun z_ => nI (CM z_)))), (r3, .inl (cI, 120, .inl (fun z_ => nI (KD z_))))] sz) := by
  refine z_met_i (cc := cX5_changes) (maxL := 1) (by decide) rfl (Nat.le_of_ble_eq_true rfl) ?_
  intro p e s m args below meth c Q A ls hx hb hml hown hts hin hA hK hP hD hN hl hRET
  have hown : s.vm.findClass RX5 = some m.cls := hown
  obtain ⟨H, eH⟩ : ∃ H : Heap, H = s.heap := ⟨_, rfl⟩
  rw [← eH] at hP
  obtain ⟨locs, eL⟩ : ∃ z : List Loc, z = [] := ⟨_, rfl⟩
  rw [← eH, ← eL]
  have hS : va_S A s.heap H locs := by rw [eH, eL]; exact va_S.rf
  have hl : lv_has ls 1 [(0, .ref g0)] := hl
  have w42 := hts (.fieldLink RX5 42 "PullCards" "row" "LPullCards$Row;") (by decide +kernel)
  have uX5 : ∀ w ∈ wsX50, w ∈ wsX5_changes := by decide +kernel
  have w185 := hts (.fieldLink RX5 185 "PullCards$Row" "turns" "I") (by decide +kernel)
  have uX3 : ∀ w ∈ wsX30, w ∈ wsX5_changes := by decide +kernel
  refine lv_aload_n hx hb dX5_changes_0 rfl (lv_at hl 0 rfl) ?_
  refine z_get (D := (dC, dI)) (ci := 5) (v := .ref r0) (C := RX5) (T := TX5) (N := 5) hx hb hts uX5 hown hK hP 0 rfl rfl 4 (by decide) w42 rfl rfl dX5_changes_1 ?_
  refine z_get (D := (dC, dI)) (ci := 3) (v := .int (nI tn)) (C := RX3) (T := TX3) (N := 6) hx hb hts uX3 hown hK hP 1 rfl rfl 5 (by decide) w185 rfl rfl dX5_changes_4 ?_
  have q_0 : tn = sp_tn DM (fb_sm DM 6) (fb_sm DM 6) := by rw [← hro.1]; exact hro.2.2.2
  exact hRET _ ls H locs ((nI tn)) () dX5_changes_7 ⟨rfl, q_0⟩ hP hD hS

set_option maxHeartbeats 4000000 in
set_option maxRecDepth 100000 in
theorem c_X5_total (l : Launch) (dC : Nat → ClassId) (dI : Nat → Nat → Nat) (cI cJ : ClassId) (sz : Nat) (g0 : Nat) (h0 : Nat) (p0 : Nat) (k0 : Nat) (u0 : Nat) (r0 : Nat) (a1 : Nat) (a2 : Nat) (a3 : Nat) (a4 : Nat) (N : Nat) (K : Nat) (T : Nat → Nat) (F : Nat → Nat) (G : Nat → Nat) (C : Nat → Nat) (u1 : Nat) (u2 : Nat) (u3 : Nat) (ua : Nat) (ub : Nat) (rm : Nat) (r1 : Nat) (r2 : Nat) (r3 : Nat) (DM : Nat → Nat) (ln : Nat) (fa : Nat) (tn : Nat) (w : Int) (bN : N ≤ 8) (bK : K ≤ 16) (bC : ∀ a, C a ≤ 9) (bG : ∀ a, G a < 8) (hln : ln = fb_sm DM 6) (bw : -2147483648 ≤ w ∧ w < 2147483648) : Met l yX5_total wsX5_total (zR 2 0 0 44) (va_Pc [.ref g0, .int (iI w)] (zP (dC, dI) [(cI, .int), (cJ, .long)] [(g0, .inr (5, [.ref h0, .ref p0, .ref k0, .ref u0, .ref r0])), (h0, .inr (0, [.ref a1, .ref a2, .ref a3, .ref a4, .int (nI N), .int (nI K)])), (a1, .inl (cI, 8, .inl (fun z_ => nI (T z_)))), (a2, .inl (cI, 16, .inl (fun z_ => nI (F z_)))), (a3, .inl (cI, 16, .inl (fun z_ => nI (G z_)))), (a4, .inl (cI, 16, .inl (fun z_ => nI (C z_)))), (u0, .inr (2, [.ref u1, .ref u2, .int (nI rm), .ref u3, .ref ua, .ref ub])), (r0, .inr (3, [.ref r1, .ref r2, .ref r3, .int (nI ln), .int (nI fa), .int (nI tn)]))] sz nwA)) (va_Qi (fun (r : Int32) (u : (Int)) => r = (iI u) ∧ (u = if w = 0 then (N : Int) else if w = 1 then (K : Int) else if w = 2 then (fb_sm C K : Int) else if w = 3 then (rm : Int) else if w = 4 then (fb_sm DM 6 : Int) else if w = 5 then (sp_cnt N K G C : Int) else -2)) (zB (dC, dI) (fun (u : (Int)) => [(g0, .inr (5, [.ref h0, .ref p0, .ref k0, .ref u0, .ref r0])), (h0, .inr (0, [.ref a1, .ref a2, .ref a3, .ref a4, .int (nI N), .int (nI K)])), (a1, .inl (cI, 8, .inl (fun z_ => nI (T z_)))), (a2, .inl (cI, 16, .inl (fun z_ => nI (F z_)))), (a3, .inl (cI, 16, .inl (fun z_ => nI (G z_)))), (a4, .inl (cI, 16, .inl (fun z_ => nI (C z_)))), (u0, .inr (2, [.ref u1, .ref u2, .int (nI rm), .ref u3, .ref ua, .ref ub])), (r0, .inr (3, [.ref r1, .ref r2, .ref r3, .int (nI ln), .int (nI fa), .int (nI tn)]))]) (va_A [(g0, .inr (5, [.ref h0, .ref p0, .ref k0, .ref u0, .ref r0])), (h0, .inr (0, [.ref a1, .ref a2, .ref a3, .ref a4, .int (nI N), .int (nI K)])), (a1, .inl (cI, 8, .inl (fun z_ => nI (T z_)))), (a2, .inl (cI, 16, .inl (fun z_ => nI (F z_)))), (a3, .inl (cI, 16, .inl (fun z_ => nI (G z_)))), (a4, .inl (cI, 16, .inl (fun z_ => nI (C z_)))), (u0, .inr (2, [.ref u1, .ref u2, .int (nI rm), .ref u3, .ref ua, .ref ub])), (r0, .inr (3, [.ref r1, .ref r2, .ref r3, .int (nI ln), .int (nI fa), .int (nI tn)]))] sz)) (va_A [(g0, .inr (5, [.ref h0, .ref p0, .ref k0, .ref u0, .ref r0])), (h0, .inr (0, [.ref a1, .ref a2, .ref a3, .ref a4, .int (nI N), .int (nI K)])), (a1, .inl (cI, 8, .inl (fun z_ => nI (T z_)))), (a2, .inl (cI, 16, .inl (fun z_ => nI (F z_)))), (a3, .inl (cI, 16, .inl (fun z_ => nI (G z_)))), (a4, .inl (cI, 16, .inl (fun z_ => nI (C z_)))), (u0, .inr (2, [.ref u1, .ref u2, .int (nI rm), .ref u3, .ref ua, .ref ub])), (r0, .inr (3, [.ref r1, .ref r2, .ref r3, .int (nI ln), .int (nI fa), .int (nI tn)]))] sz)) 0 0 (va_A [(g0, .inr (5, [.ref h0, .ref p0, .ref k0, .ref u0, .ref r0])), (h0, .inr (0, [.ref a1, .ref a2, .ref a3, .ref a4, .int (nI N), .int (nI K)])), (a1, .inl (cI, 8, .inl (fun z_ => nI (T z_)))), (a2, .inl (cI, 16, .inl (fun z_ => nI (F z_)))), (a3, .inl (cI, 16, .inl (fun z_ => nI (G z_)))), (a4, .inl (cI, 16, .inl (fun z_ => nI (C z_)))), (u0, .inr (2, [.ref u1, .ref u2, .int (nI rm), .ref u3, .ref ua, .ref ub])), (r0, .inr (3, [.ref r1, .ref r2, .ref r3, .int (nI ln), .int (nI fa), .int (nI tn)]))] sz) := by
  refine z_met_i (cc := cX5_total) (maxL := 2) (by decide) rfl (Nat.le_of_ble_eq_true rfl) ?_
  intro p e s m args below meth c Q A ls hx hb hml hown hts hin hA hK hP hD hN hl hRET
  have hown : s.vm.findClass RX5 = some m.cls := hown
  obtain ⟨H, eH⟩ : ∃ H : Heap, H = s.heap := ⟨_, rfl⟩
  rw [← eH] at hP
  obtain ⟨locs, eL⟩ : ∃ z : List Loc, z = [] := ⟨_, rfl⟩
  rw [← eH, ← eL]
  have hS : va_S A s.heap H locs := by rw [eH, eL]; exact va_S.rf
  have hl : lv_has ls 2 [(0, .ref g0), (1, .int (iI w))] := hl
  have w10 := hts (.fieldLink RX5 10 "PullCards" "line" "LPullCards$Line;") (by decide +kernel)
  have uX5 : ∀ w ∈ wsX50, w ∈ wsX5_total := by decide +kernel
  have w50 := hts (.fieldLink RX5 50 "PullCards$Line" "stations" "I") (by decide +kernel)
  have uX0 : ∀ w ∈ wsX00, w ∈ wsX5_total := by decide +kernel
  have w65 := hts (.fieldLink RX5 65 "PullCards$Line" "arcs" "I") (by decide +kernel)
  have w35 := hts (.fieldLink RX5 35 "PullCards" "pair" "LPullCards$Pair;") (by decide +kernel)
  have w154 := hts (.fieldLink RX5 154 "PullCards$Pair" "room" "I") (by decide +kernel)
  have uX2 : ∀ w ∈ wsX20, w ∈ wsX5_total := by decide +kernel
  have w42 := hts (.fieldLink RX5 42 "PullCards" "row" "LPullCards$Row;") (by decide +kernel)
  have w176 := hts (.fieldLink RX5 176 "PullCards$Row" "length" "I") (by decide +kernel)
  have uX3 : ∀ w ∈ wsX30, w ∈ wsX5_total := by decide +kernel
  refine lv_iload_n hx hb dX5_total_0 rfl (lv_at hl 1 rfl) ?_
  rcases (show (w < 0 ∨ 5 < w) ∨ w = 0 ∨ w = 1 ∨ w = 2 ∨ w = 3 ∨ w = 4 ∨ w = 5 from by omega) with c_1 | c_1 | c_1 | c_1 | c_1 | c_1 | c_1
  · skip
    refine lv_tableOut (tgt := 88) hx hb dX5_total_1 (by rw [iI_t (by omega)]; exact c_1) (by decide) ?_
    refine lv_bipush (v := iI (-2)) hx hb dX5_total_88 (by decide) ?_
    have q_0 : (-2 : Int) = if w = 0 then (N : Int) else if w = 1 then (K : Int) else if w = 2 then (fb_sm C K : Int) else if w = 3 then (rm : Int) else if w = 4 then (fb_sm DM 6 : Int) else if w = 5 then (sp_cnt N K G C : Int) else -2 := by (try rw [hln]); repeat (first | rw [if_pos (by omega)] | rw [if_neg (by omega)])
    exact hRET _ ls H locs ((iI (-2))) ((-2 : Int)) dX5_total_90 ⟨rfl, q_0⟩ hP hD hS
  · skip
    refine lv_tableIn (tgt := 40) hx hb dX5_total_1 (by rw [iI_t (by omega)]; omega) (by rw [iI_t (by omega)]; omega) (by rw [iI_t (by omega), c_1]; rfl) (by decide) ?_
    refine lv_aload_n hx hb dX5_total_40 rfl (lv_at hl 0 rfl) ?_
    refine z_get (D := (dC, dI)) (ci := 5) (v := .ref h0) (C := RX5) (T := TX5) (N := 5) hx hb hts uX5 hown hK hP 0 rfl rfl 0 (by decide) w10 rfl rfl dX5_total_41 ?_
    refine z_get (D := (dC, dI)) (ci := 0) (v := .int (nI N)) (C := RX0) (T := TX0) (N := 6) hx hb hts uX0 hown hK hP 1 rfl rfl 4 (by decide) w50 rfl rfl dX5_total_44 ?_
    refine z_c0 (v := iI ((N : Nat) : Int)) (iI_N _) ?_
    have q_0 : ((N : Nat) : Int) = if w = 0 then (N : Int) else if w = 1 then (K : Int) else if w = 2 then (fb_sm C K : Int) else if w = 3 then (rm : Int) else if w = 4 then (fb_sm DM 6 : Int) else if w = 5 then (sp_cnt N K G C : Int) else -2 := by (try rw [hln]); repeat (first | rw [if_pos (by omega)] | rw [if_neg (by omega)])
    exact hRET _ ls H locs ((iI ((N : Nat) : Int))) (((N : Nat) : Int)) dX5_total_47 ⟨rfl, q_0⟩ hP hD hS
  · skip
    refine lv_tableIn (tgt := 48) hx hb dX5_total_1 (by rw [iI_t (by omega)]; omega) (by rw [iI_t (by omega)]; omega) (by rw [iI_t (by omega), c_1]; rfl) (by decide) ?_
    refine lv_aload_n hx hb dX5_total_48 rfl (lv_at hl 0 rfl) ?_
    refine z_get (D := (dC, dI)) (ci := 5) (v := .ref h0) (C := RX5) (T := TX5) (N := 5) hx hb hts uX5 hown hK hP 0 rfl rfl 0 (by decide) w10 rfl rfl dX5_total_49 ?_
    refine z_get (D := (dC, dI)) (ci := 0) (v := .int (nI K)) (C := RX0) (T := TX0) (N := 6) hx hb hts uX0 hown hK hP 1 rfl rfl 5 (by decide) w65 rfl rfl dX5_total_52 ?_
    refine z_c0 (v := iI ((K : Nat) : Int)) (iI_N _) ?_
    have q_0 : ((K : Nat) : Int) = if w = 0 then (N : Int) else if w = 1 then (K : Int) else if w = 2 then (fb_sm C K : Int) else if w = 3 then (rm : Int) else if w = 4 then (fb_sm DM 6 : Int) else if w = 5 then (sp_cnt N K G C : Int) else -2 := by (try rw [hln]); repeat (first | rw [if_pos (by omega)] | rw [if_neg (by omega)])
    exact hRET _ ls H locs ((iI ((K : Nat) : Int))) (((K : Nat) : Int)) dX5_total_55 ⟨rfl, q_0⟩ hP hD hS
  · skip
    refine lv_tableIn (tgt := 56) hx hb dX5_total_1 (by rw [iI_t (by omega)]; omega) (by rw [iI_t (by omega)]; omega) (by rw [iI_t (by omega), c_1]; rfl) (by decide) ?_
    refine lv_aload_n hx hb dX5_total_56 rfl (lv_at hl 0 rfl) ?_
    refine z_get (D := (dC, dI)) (ci := 5) (v := .ref h0) (C := RX5) (T := TX5) (N := 5) hx hb hts uX5 hown hK hP 0 rfl rfl 0 (by decide) w10 rfl rfl dX5_total_57 ?_
    refine z_callVi (As := []) (rest := []) (wr := [(g0, .inr (5, [.ref h0, .ref p0, .ref k0, .ref u0, .ref r0])), (u0, .inr (2, [.ref u1, .ref u2, .int (nI rm), .ref u3, .ref ua, .ref ub])), (r0, .inr (3, [.ref r1, .ref r2, .ref r3, .int (nI ln), .int (nI fa), .int (nI tn)]))]) ⟨hx, hb, hml, hown, hts⟩ (c_X0_countCards l dC dI cI cJ H.size h0 a1 a2 a3 a4 N K T F G C (by first | assumption | omega) (by first | assumption | omega)) (cwV 0 hts gX5_total_X0_countCards rfl rfl rfl (by decide +kernel) ⟨Nat.le_of_ble_eq_true rfl, Nat.le_of_ble_eq_true rfl⟩) hA hK hP hD hS [1, 2, 3, 4, 5] [0, 6, 7] [0, 3, 4, 5, 6, 7, 1, 2] rfl rfl (by decide) (by decide) (by decide) nwA_ok hN (ci := 0) rfl rfl 1 rfl hl.1 (Nat.le_of_ble_eq_true rfl) ⟨Nat.le_refl _, Nat.le_refl _⟩ rfl rfl dX5_total_60 (fun (u : (Nat)) => [(g0, .inr (5, [.ref h0, .ref p0, .ref k0, .ref u0, .ref r0])), (h0, .inr (0, [.ref a1, .ref a2, .ref a3, .ref a4, .int (nI N), .int (nI K)])), (a1, .inl (cI, 8, .inl (fun z_ => nI (T z_)))), (a2, .inl (cI, 16, .inl (fun z_ => nI (F z_)))), (a3, .inl (cI, 16, .inl (fun z_ => nI (G z_)))), (a4, .inl (cI, 16, .inl (fun z_ => nI (C z_)))), (u0, .inr (2, [.ref u1, .ref u2, .int (nI rm), .ref u3, .ref ua, .ref ub])), (r0, .inr (3, [.ref r1, .ref r2, .ref r3, .int (nI ln), .int (nI fa), .int (nI tn)]))]) (fun u => rfl) (by decide) (fun r_60 u H locs hw hP hD hS => ?_)
    obtain ⟨rv_60, eu⟩ : ∃ z, z = u := ⟨_, rfl⟩
    subst eu
    have hP : va_P (dC, dI) vwCl [(g0, .inr (5, [.ref h0, .ref p0, .ref k0, .ref u0, .ref r0])), (h0, .inr (0, [.ref a1, .ref a2, .ref a3, .ref a4, .int (nI N), .int (nI K)])), (a1, .inl (cI, 8, .inl (fun z_ => nI (T z_)))), (a2, .inl (cI, 16, .inl (fun z_ => nI (F z_)))), (a3, .inl (cI, 16, .inl (fun z_ => nI (G z_)))), (a4, .inl (cI, 16, .inl (fun z_ => nI (C z_)))), (u0, .inr (2, [.ref u1, .ref u2, .int (nI rm), .ref u3, .ref ua, .ref ub])), (r0, .inr (3, [.ref r1, .ref r2, .ref r3, .int (nI ln), .int (nI fa), .int (nI tn)]))] H := hP
    have hD : va_D A [(g0, .inr (5, [.ref h0, .ref p0, .ref k0, .ref u0, .ref r0])), (h0, .inr (0, [.ref a1, .ref a2, .ref a3, .ref a4, .int (nI N), .int (nI K)])), (a1, .inl (cI, 8, .inl (fun z_ => nI (T z_)))), (a2, .inl (cI, 16, .inl (fun z_ => nI (F z_)))), (a3, .inl (cI, 16, .inl (fun z_ => nI (G z_)))), (a4, .inl (cI, 16, .inl (fun z_ => nI (C z_)))), (u0, .inr (2, [.ref u1, .ref u2, .int (nI rm), .ref u3, .ref ua, .ref ub])), (r0, .inr (3, [.ref r1, .ref r2, .ref r3, .int (nI ln), .int (nI fa), .int (nI tn)]))] := hD
    obtain ⟨er, p60_0⟩ := hw
    have p60_0 : rv_60 = fb_sm C K := p60_0
    have er : r_60 = (nI rv_60) := er
    subst er
    subst p60_0
    refine z_c0 (v := iI (((fb_sm C K) : Nat) : Int)) (iI_N _) ?_
    have q_0 : (((fb_sm C K) : Nat) : Int) = if w = 0 then (N : Int) else if w = 1 then (K : Int) else if w = 2 then (fb_sm C K : Int) else if w = 3 then (rm : Int) else if w = 4 then (fb_sm DM 6 : Int) else if w = 5 then (sp_cnt N K G C : Int) else -2 := by (try rw [hln]); repeat (first | rw [if_pos (by omega)] | rw [if_neg (by omega)])
    exact hRET _ ls H locs ((iI (((fb_sm C K) : Nat) : Int))) ((((fb_sm C K) : Nat) : Int)) dX5_total_63 ⟨rfl, q_0⟩ hP hD hS
  · skip
    refine lv_tableIn (tgt := 64) hx hb dX5_total_1 (by rw [iI_t (by omega)]; omega) (by rw [iI_t (by omega)]; omega) (by rw [iI_t (by omega), c_1]; rfl) (by decide) ?_
    refine lv_aload_n hx hb dX5_total_64 rfl (lv_at hl 0 rfl) ?_
    refine z_get (D := (dC, dI)) (ci := 5) (v := .ref u0) (C := RX5) (T := TX5) (N := 5) hx hb hts uX5 hown hK hP 0 rfl rfl 3 (by decide) w35 rfl rfl dX5_total_65 ?_
    refine z_get (D := (dC, dI)) (ci := 2) (v := .int (nI rm)) (C := RX2) (T := TX2) (N := 6) hx hb hts uX2 hown hK hP 6 rfl rfl 2 (by decide) w154 rfl rfl dX5_total_68 ?_
    refine z_c0 (v := iI ((rm : Nat) : Int)) (iI_N _) ?_
    have q_0 : ((rm : Nat) : Int) = if w = 0 then (N : Int) else if w = 1 then (K : Int) else if w = 2 then (fb_sm C K : Int) else if w = 3 then (rm : Int) else if w = 4 then (fb_sm DM 6 : Int) else if w = 5 then (sp_cnt N K G C : Int) else -2 := by (try rw [hln]); repeat (first | rw [if_pos (by omega)] | rw [if_neg (by omega)])
    exact hRET _ ls H locs ((iI ((rm : Nat) : Int))) (((rm : Nat) : Int)) dX5_total_71 ⟨rfl, q_0⟩ hP hD hS
  · skip
    refine lv_tableIn (tgt := 72) hx hb dX5_total_1 (by rw [iI_t (by omega)]; omega) (by rw [iI_t (by omega)]; omega) (by rw [iI_t (by omega), c_1]; rfl) (by decide) ?_
    refine lv_aload_n hx hb dX5_total_72 rfl (lv_at hl 0 rfl) ?_
    refine z_get (D := (dC, dI)) (ci := 5) (v := .ref r0) (C := RX5) (T := TX5) (N := 5) hx hb hts uX5 hown hK hP 0 rfl rfl 4 (by decide) w42 rfl rfl dX5_total_73 ?_
    refine z_get (D := (dC, dI)) (ci := 3) (v := .int (nI ln)) (C := RX3) (T := TX3) (N := 6) hx hb hts uX3 hown hK hP 7 rfl rfl 3 (by decide) w176 rfl rfl dX5_total_76 ?_
    refine z_c0 (v := iI ((ln : Nat) : Int)) (iI_N _) ?_
    have q_0 : ((ln : Nat) : Int) = if w = 0 then (N : Int) else if w = 1 then (K : Int) else if w = 2 then (fb_sm C K : Int) else if w = 3 then (rm : Int) else if w = 4 then (fb_sm DM 6 : Int) else if w = 5 then (sp_cnt N K G C : Int) else -2 := by (try rw [hln]); repeat (first | rw [if_pos (by omega)] | rw [if_neg (by omega)])
    exact hRET _ ls H locs ((iI ((ln : Nat) : Int))) (((ln : Nat) : Int)) dX5_total_79 ⟨rfl, q_0⟩ hP hD hS
  · skip
    refine lv_tableIn (tgt := 80) hx hb dX5_total_1 (by rw [iI_t (by omega)]; omega) (by rw [iI_t (by omega)]; omega) (by rw [iI_t (by omega), c_1]; rfl) (by decide) ?_
    refine lv_aload_n hx hb dX5_total_80 rfl (lv_at hl 0 rfl) ?_
    refine z_get (D := (dC, dI)) (ci := 5) (v := .ref h0) (C := RX5) (T := TX5) (N := 5) hx hb hts uX5 hown hK hP 0 rfl rfl 0 (by decide) w10 rfl rfl dX5_total_81 ?_
    refine z_callVi (As := []) (rest := []) (wr := [(g0, .inr (5, [.ref h0, .ref p0, .ref k0, .ref u0, .ref r0])), (u0, .inr (2, [.ref u1, .ref u2, .int (nI rm), .ref u3, .ref ua, .ref ub])), (r0, .inr (3, [.ref r1, .ref r2, .ref r3, .int (nI ln), .int (nI fa), .int (nI tn)]))]) ⟨hx, hb, hml, hown, hts⟩ (c_X0_countReady l dC dI cI cJ H.size h0 a1 a2 a3 a4 N K T F G C (by first | assumption | omega) (by first | assumption | omega) (by first | assumption | omega) (by first | assumption | omega)) (cwV 0 hts gX5_total_X0_countReady rfl rfl rfl (by decide +kernel) ⟨Nat.le_of_ble_eq_true rfl, Nat.le_of_ble_eq_true rfl⟩) hA hK hP hD hS [1, 2, 3, 4, 5] [0, 6, 7] [0, 3, 4, 5, 6, 7, 1, 2] rfl rfl (by decide) (by decide) (by decide) nwA_ok hN (ci := 0) rfl rfl 1 rfl hl.1 (Nat.le_of_ble_eq_true rfl) ⟨Nat.le_refl _, Nat.le_refl _⟩ rfl rfl dX5_total_84 (fun (u : (Nat)) => [(g0, .inr (5, [.ref h0, .ref p0, .ref k0, .ref u0, .ref r0])), (h0, .inr (0, [.ref a1, .ref a2, .ref a3, .ref a4, .int (nI N), .int (nI K)])), (a1, .inl (cI, 8, .inl (fun z_ => nI (T z_)))), (a2, .inl (cI, 16, .inl (fun z_ => nI (F z_)))), (a3, .inl (cI, 16, .inl (fun z_ => nI (G z_)))), (a4, .inl (cI, 16, .inl (fun z_ => nI (C z_)))), (u0, .inr (2, [.ref u1, .ref u2, .int (nI rm), .ref u3, .ref ua, .ref ub])), (r0, .inr (3, [.ref r1, .ref r2, .ref r3, .int (nI ln), .int (nI fa), .int (nI tn)]))]) (fun u => rfl) (by decide) (fun r_84 u H locs hw hP hD hS => ?_)
    obtain ⟨rv_84, eu⟩ : ∃ z, z = u := ⟨_, rfl⟩
    subst eu
    have hP : va_P (dC, dI) vwCl [(g0, .inr (5, [.ref h0, .ref p0, .ref k0, .ref u0, .ref r0])), (h0, .inr (0, [.ref a1, .ref a2, .ref a3, .ref a4, .int (nI N), .int (nI K)])), (a1, .inl (cI, 8, .inl (fun z_ => nI (T z_)))), (a2, .inl (cI, 16, .inl (fun z_ => nI (F z_)))), (a3, .inl (cI, 16, .inl (fun z_ => nI (G z_)))), (a4, .inl (cI, 16, .inl (fun z_ => nI (C z_)))), (u0, .inr (2, [.ref u1, .ref u2, .int (nI rm), .ref u3, .ref ua, .ref ub])), (r0, .inr (3, [.ref r1, .ref r2, .ref r3, .int (nI ln), .int (nI fa), .int (nI tn)]))] H := hP
    have hD : va_D A [(g0, .inr (5, [.ref h0, .ref p0, .ref k0, .ref u0, .ref r0])), (h0, .inr (0, [.ref a1, .ref a2, .ref a3, .ref a4, .int (nI N), .int (nI K)])), (a1, .inl (cI, 8, .inl (fun z_ => nI (T z_)))), (a2, .inl (cI, 16, .inl (fun z_ => nI (F z_)))), (a3, .inl (cI, 16, .inl (fun z_ => nI (G z_)))), (a4, .inl (cI, 16, .inl (fun z_ => nI (C z_)))), (u0, .inr (2, [.ref u1, .ref u2, .int (nI rm), .ref u3, .ref ua, .ref ub])), (r0, .inr (3, [.ref r1, .ref r2, .ref r3, .int (nI ln), .int (nI fa), .int (nI tn)]))] := hD
    obtain ⟨er, p84_0⟩ := hw
    have p84_0 : rv_84 = sp_cnt N K G C := p84_0
    have er : r_84 = (nI rv_84) := er
    subst er
    subst p84_0
    refine z_c0 (v := iI (((sp_cnt N K G C) : Nat) : Int)) (iI_N _) ?_
    have q_0 : (((sp_cnt N K G C) : Nat) : Int) = if w = 0 then (N : Int) else if w = 1 then (K : Int) else if w = 2 then (fb_sm C K : Int) else if w = 3 then (rm : Int) else if w = 4 then (fb_sm DM 6 : Int) else if w = 5 then (sp_cnt N K G C : Int) else -2 := by (try rw [hln]); repeat (first | rw [if_pos (by omega)] | rw [if_neg (by omega)])
    exact hRET _ ls H locs ((iI (((sp_cnt N K G C) : Nat) : Int))) ((((sp_cnt N K G C) : Nat) : Int)) dX5_total_87 ⟨rfl, q_0⟩ hP hD hS
