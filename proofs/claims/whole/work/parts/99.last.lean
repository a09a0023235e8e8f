set_option maxHeartbeats 4000000 in
set_option maxRecDepth 100000 in
theorem c_X4_later (l : Launch) (dC : Nat → ClassId) (dI : Nat → Nat → Nat) (cI cJ : ClassId) (sz : Nat) (a : Int) (b : Int) (ba : -9 ≤ a ∧ a ≤ 100000) (bb : -9 ≤ b ∧ b ≤ 100000) : Met l yX4_later wsX4_later (zR 1 0 0 25) (va_Pc [.int (iI a), .int (iI b)] (zP (dC, dI) [(cI, .int), (cJ, .long)] [] sz nwA)) (va_Qi (fun (r : Int32) (u : (Int)) => r = (iI u) ∧ (u = sp_lt2 a b)) (zB (dC, dI) (fun (u : (Int)) => []) (va_A [] sz)) (va_A [] sz)) 0 0 (va_A [] sz) := by
  refine z_met_i (cc := cX4_later) (maxL := 2) (by decide) rfl (Nat.le_of_ble_eq_true rfl) ?_
  intro p e s m args below meth c Q A ls hx hb hml hown hts hin hA hK hP hD hN hl hRET
  have hown : s.vm.findClass RX4 = some m.cls := hown
  obtain ⟨H, eH⟩ : ∃ H : Heap, H = s.heap := ⟨_, rfl⟩
  rw [← eH] at hP
  obtain ⟨locs, eL⟩ : ∃ z : List Loc, z = [] := ⟨_, rfl⟩
  rw [← eH, ← eL]
  have hS : va_S A s.heap H locs := by rw [eH, eL]; exact va_S.rf
  have hl : lv_has ls 2 [(0, .int (iI a)), (1, .int (iI b))] := hl
  refine lv_iload_n hx hb dX4_later_0 rfl (lv_at hl 0 rfl) ?_
  refine lv_bipush (v := iI (-9)) hx hb dX4_later_1 (by decide) ?_
  refine z_icmp_eq (tgt := 12) hx hb dX4_later_3 (by decide) (zc_eq (a := a) (b := -9) rfl rfl (by omega)) (fun c_3 => ?_) (fun c_3 => ?_)
  · skip
    refine lv_bipush (v := iI (-9)) hx hb dX4_later_12 (by decide) ?_
    refine lv_goto (tgt := 22) hx hb dX4_later_14 (by decide) ?_
    have q_0 : (-9 : Int) = sp_lt2 a b := by unfold sp_lt2; (first | rw [if_pos (by omega)] | rw [if_neg (by omega)])
    exact hRET _ ls H locs ((iI (-9))) ((-9 : Int)) dX4_later_22 ⟨rfl, q_0⟩ hP hD hS
  · skip
    refine lv_iload_n hx hb dX4_later_6 rfl (lv_at hl 1 rfl) ?_
    refine lv_bipush (v := iI (-9)) hx hb dX4_later_7 (by decide) ?_
    refine z_icmp_ne (tgt := 17) hx hb dX4_later_9 (by decide) (zc_eq (a := b) (b := -9) rfl rfl (by omega)) (fun c_9 => ?_) (fun c_9 => ?_)
    · skip
      refine lv_iload_n hx hb dX4_later_17 rfl (lv_at hl 0 rfl) ?_
      refine lv_iload_n hx hb dX4_later_18 rfl (lv_at hl 1 rfl) ?_
      refine va_mmax hx hb (by rw [hml, hl.1]) hown (hts (.methodLink RX4 70 Lib.Math.max.name) (by decide +kernel)) (hts (.static Lib.Math.max.name) (by decide +kernel)) (hts (.initialized "java/lang/Math") (by decide +kernel)) (hts (.code Lib.Math.max.name Lib.Math.max.code 2 (some .int)) (by decide +kernel)) (Nat.le_of_ble_eq_true rfl) (Nat.le_of_ble_eq_true rfl) (Nat.zero_le _) (Nat.zero_le _) dX4_later_19 ?_
      refine z_c0 (v := iI (max a b)) (za_max rfl rfl (by omega)) ?_
      have q_0 : (max a b) = sp_lt2 a b := by unfold sp_lt2; (first | rw [if_pos (by omega)] | rw [if_neg (by omega)])
      exact hRET _ ls H locs ((iI (max a b))) (max a b) dX4_later_22 ⟨rfl, q_0⟩ hP hD hS
    · skip
      refine lv_bipush (v := iI (-9)) hx hb dX4_later_12 (by decide) ?_
      refine lv_goto (tgt := 22) hx hb dX4_later_14 (by decide) ?_
      have q_0 : (-9 : Int) = sp_lt2 a b := by unfold sp_lt2; (first | rw [if_pos (by omega)] | rw [if_neg (by omega)])
      exact hRET _ ls H locs ((iI (-9))) ((-9 : Int)) dX4_later_22 ⟨rfl, q_0⟩ hP hD hS

set_option maxHeartbeats 4000000 in
set_option maxRecDepth 100000 in
theorem c_X4_waits (l : Launch) (dC : Nat → ClassId) (dI : Nat → Nat → Nat) (cI cJ : ClassId) (sz : Nat) (k0 : Nat) (k1 : Nat) (k2 : Nat) (od : Nat) (ab : Nat) (h0 : Nat) (a1 : Nat) (a2 : Nat) (a3 : Nat) (a4 : Nat) (N : Nat) (K : Nat) (T : Nat → Nat) (F : Nat → Nat) (G : Nat → Nat) (C : Nat → Nat) (v : Nat) (o : List Nat) (bK : K ≤ 16) (bC : ∀ a, C a ≤ 9) (bF : ∀ a, F a < 8) (bG : ∀ a, G a < 8) (bv : v < 8) (hbs : sp_bs o ab) : Met l yX4_waits wsX4_waits (zR 0 0 0 0) (va_Pc [.ref k0, .int (nI v)] (zP (dC, dI) [(cI, .int), (cJ, .long)] [(k0, .inr (4, [.ref h0, .ref k1, .ref k2, .int (nI od), .int (nI ab)])), (h0, .inr (0, [.ref a1, .ref a2, .ref a3, .ref a4, .int (nI N), .int (nI K)])), (a1, .inl (cI, 8, .inl (fun z_ => nI (T z_)))), (a2, .inl (cI, 16, .inl (fun z_ => nI (F z_)))), (a3, .inl (cI, 16, .inl (fun z_ => nI (G z_)))), (a4, .inl (cI, 16, .inl (fun z_ => nI (C z_))))] sz nwA)) (va_Qi (fun (r : Int32) (u : (Nat)) => r = (nI u) ∧ ((u = 1 ∧ sp_wait K F G C o v = true) ∨ (u = 0 ∧ sp_wait K F G C o v = false))) (zB (dC, dI) (fun (u : (Nat)) => [(k0, .inr (4, [.ref h0, .ref k1, .ref k2, .int (nI od), .int (nI ab)])), (h0, .inr (0, [.ref a1, .ref a2, .ref a3, .ref a4, .int (nI N), .int (nI K)])), (a1, .inl (cI, 8, .inl (fun z_ => nI (T z_)))), (a2, .inl (cI, 16, .inl (fun z_ => nI (F z_)))), (a3, .inl (cI, 16, .inl (fun z_ => nI (G z_)))), (a4, .inl (cI, 16, .inl (fun z_ => nI (C z_))))]) (va_A [(k0, .inr (4, [.ref h0, .ref k1, .ref k2, .int (nI od), .int (nI ab)])), (h0, .inr (0, [.ref a1, .ref a2, .ref a3, .ref a4, .int (nI N), .int (nI K)])), (a1, .inl (cI, 8, .inl (fun z_ => nI (T z_)))), (a2, .inl (cI, 16, .inl (fun z_ => nI (F z_)))), (a3, .inl (cI, 16, .inl (fun z_ => nI (G z_)))), (a4, .inl (cI, 16, .inl (fun z_ => nI (C z_))))] sz)) (va_A [(k0, .inr (4, [.ref h0, .ref k1, .ref k2, .int (nI od), .int (nI ab)])), (h0, .inr (0, [.ref a1, .ref a2, .ref a3, .ref a4, .int (nI N), .int (nI K)])), (a1, .inl (cI, 8, .inl (fun z_ => nI (T z_)))), (a2, .inl (cI, 16, .inl (fun z_ => nI (F z_)))), (a3, .inl (cI, 16, .inl (fun z_ => nI (G z_)))), (a4, .inl (cI, 16, .inl (fun z_ => nI (C z_))))] sz)) 0 0 (va_A [(k0, .inr (4, [.ref h0, .ref k1, .ref k2, .int (nI od), .int (nI ab)])), (h0, .inr (0, [.ref a1, .ref a2, .ref a3, .ref a4, .int (nI N), .int (nI K)])), (a1, .inl (cI, 8, .inl (fun z_ => nI (T z_)))), (a2, .inl (cI, 16, .inl (fun z_ => nI (F z_)))), (a3, .inl (cI, 16, .inl (fun z_ => nI (G z_)))), (a4, .inl (cI, 16, .inl (fun z_ => nI (C z_))))] sz) := by
  refine z_met_z (cc := cX4_waits) (maxL := 4) (by decide) rfl (Nat.le_of_ble_eq_true rfl) ?_
  intro p e s m args below meth c Q A ls hx hb hml hown hts hin hA hK hP hD hN hl hRET
  have hown : s.vm.findClass RX4 = some m.cls := hown
  obtain ⟨H, eH⟩ : ∃ H : Heap, H = s.heap := ⟨_, rfl⟩
  rw [← eH] at hP
  obtain ⟨locs, eL⟩ : ∃ z : List Loc, z = [] := ⟨_, rfl⟩
  rw [← eH, ← eL]
  have hS : va_S A s.heap H locs := by rw [eH, eL]; exact va_S.rf
  have hl : lv_has ls 4 [(0, .ref k0), (1, .int (nI v))] := hl
  have w18 := hts (.fieldLink RX4 18 "PullCards$Works" "line" "LPullCards$Line;") (by decide +kernel)
  have uX4 : ∀ w ∈ wsX40, w ∈ wsX4_waits := by decide +kernel
  have w48 := hts (.fieldLink RX4 48 "PullCards$Line" "arcs" "I") (by decide +kernel)
  have uX0 : ∀ w ∈ wsX00, w ∈ wsX4_waits := by decide +kernel
  have w51 := hts (.fieldLink RX4 51 "PullCards$Line" "tos" "[I") (by decide +kernel)
  have w54 := hts (.fieldLink RX4 54 "PullCards$Line" "cards" "[I") (by decide +kernel)
  have w29 := hts (.fieldLink RX4 29 "PullCards$Works" "able" "I") (by decide +kernel)
  have w57 := hts (.fieldLink RX4 57 "PullCards$Line" "froms" "[I") (by decide +kernel)
  have hps := hbs.1
  refine lv_iconst (v := nI 0) hx hb dX4_waits_0 (by decide) ?_
  refine lv_istore_n (lv' := [(2, .int (nI 0)), (0, .ref k0), (1, .int (nI v))]) hx hb dX4_waits_1 rfl hl (by decide) rfl (fun ls hl => ?_)
  have L2 : ∀ (n2 : Nat) (j : Nat), (K - j) < n2 → (j ≤ K) → (∀ a, a < j → G a = v → C a = 0 → F a ∈ o) → ∀ (H : Heap) (locs : List Loc), va_P (dC, dI) vwCl [(k0, .inr (4, [.ref h0, .ref k1, .ref k2, .int (nI od), .int (nI ab)])), (h0, .inr (0, [.ref a1, .ref a2, .ref a3, .ref a4, .int (nI N), .int (nI K)])), (a1, .inl (cI, 8, .inl (fun z_ => nI (T z_)))), (a2, .inl (cI, 16, .inl (fun z_ => nI (F z_)))), (a3, .inl (cI, 16, .inl (fun z_ => nI (G z_)))), (a4, .inl (cI, 16, .inl (fun z_ => nI (C z_))))] H → va_D A [(k0, .inr (4, [.ref h0, .ref k1, .ref k2, .int (nI od), .int (nI ab)])), (h0, .inr (0, [.ref a1, .ref a2, .ref a3, .ref a4, .int (nI N), .int (nI K)])), (a1, .inl (cI, 8, .inl (fun z_ => nI (T z_)))), (a2, .inl (cI, 16, .inl (fun z_ => nI (F z_)))), (a3, .inl (cI, 16, .inl (fun z_ => nI (G z_)))), (a4, .inl (cI, 16, .inl (fun z_ => nI (C z_))))] → va_S A s.heap H locs → ∀ (ls : Array Slot), lv_has ls 4 [(0, .ref k0), (1, .int (nI v)), (2, .int (nI j))] → W p l e (zR 0 0 0 0) s m args below meth c H locs 0 0 Q (F0 m 2 ls []) := by
    intro n2
    induction n2 with
    | zero => intro j hn; exact absurd hn (Nat.not_lt_zero _)
    | succ n2 ih =>
      intro j hn i1 i2 H locs hP hD hS ls hl
      have ih2 := ih
      have hn2 := hn
      clear ih hn
      refine lv_iload_n hx hb dX4_waits_2 rfl (lv_at hl 2 rfl) ?_
      refine lv_aload_n hx hb dX4_waits_3 rfl (lv_at hl 0 rfl) ?_
      refine z_get (D := (dC, dI)) (ci := 4) (v := .ref h0) (C := RX4) (T := TX4) (N := 5) hx hb hts uX4 hown hK hP 0 rfl rfl 0 (by decide) w18 rfl rfl dX4_waits_4 ?_
      refine z_get (D := (dC, dI)) (ci := 0) (v := .int (nI K)) (C := RX0) (T := TX0) (N := 6) hx hb hts uX0 hown hK hP 1 rfl rfl 5 (by decide) w48 rfl rfl dX4_waits_7 ?_
      refine z_icmp_ge (tgt := 75) hx hb dX4_waits_10 (by decide) (zcn_le (a := K) (b := j) rfl rfl (by omega)) (fun c_10 => ?_) (fun c_10 => ?_)
      · skip
        refine lv_iconst (v := nI 0) hx hb dX4_waits_75 (by decide) ?_
        have q_0 : (0 = 1 ∧ sp_wait K F G C o v = true) ∨ (0 = 0 ∧ sp_wait K F G C o v = false) := by exact Or.inr ⟨rfl, sp_wait_f (fun a h => i2 a (by omega))⟩
        exact hRET _ ls H locs ((nI 0)) (0) dX4_waits_76 (by decide) ⟨rfl, q_0⟩ hP hD hS
      · skip
        refine lv_aload_n hx hb dX4_waits_13 rfl (lv_at hl 0 rfl) ?_
        refine z_get (D := (dC, dI)) (ci := 4) (v := .ref h0) (C := RX4) (T := TX4) (N := 5) hx hb hts uX4 hown hK hP 0 rfl rfl 0 (by decide) w18 rfl rfl dX4_waits_14 ?_
        refine z_get (D := (dC, dI)) (ci := 0) (v := .ref a3) (C := RX0) (T := TX0) (N := 6) hx hb hts uX0 hown hK hP 1 rfl rfl 2 (by decide) w51 rfl rfl dX4_waits_17 ?_
        refine lv_iload_n hx hb dX4_waits_20 rfl (lv_at hl 2 rfl) ?_
        refine z_iald (v := (nI (G j))) hx hb hK hP 4 0 rfl rfl j rfl (by omega) rfl dX4_waits_21 ?_
        have f21_0 := bG j
        refine lv_iload_n hx hb dX4_waits_22 rfl (lv_at hl 1 rfl) ?_
        refine z_icmp_ne (tgt := 42) hx hb dX4_waits_23 (by decide) (zcn_eq (a := G j) (b := v) rfl rfl (by omega)) (fun c_23 => ?_) (fun c_23 => ?_)
        · skip
          refine lv_iconst (v := nI 0) hx hb dX4_waits_42 (by decide) ?_
          refine lv_istore_n (lv' := [(3, .int (nI 0)), (0, .ref k0), (1, .int (nI v)), (2, .int (nI j))]) hx hb dX4_waits_43 rfl hl (by decide) rfl (fun ls hl => ?_)
          refine lv_iload_n hx hb dX4_waits_44 rfl (lv_at hl 0 rfl) ?_
          refine lv_if_eq (tgt := 69) hx hb dX4_waits_45 (by decide) (fun _ => ?_) (fun c_x => absurd c_x (by decide))
          refine lv_iinc (v := (nI (j + 1))) (lv' := [(2, .int (nI (j + 1))), (3, .int (nI 0)), (0, .ref k0), (1, .int (nI v))]) hx hb dX4_waits_69 hl (k := 3) rfl (z_incN j 1 (by decide)) (by decide) rfl (fun ls hl => ?_)
          refine lv_goto (tgt := 2) hx hb dX4_waits_72 (by decide) ?_
          have o_i1 : (j + 1) ≤ K := by first | assumption | omega
          have o_i2 : ∀ a, a < (j + 1) → G a = v → C a = 0 → F a ∈ o := by exact lt_s i2 (fun e1 e2 => by first | omega | exact Classical.byContradiction (fun hn => c_64 (hbit.mpr hn)))
          have o_mu : (K - (j + 1)) < n2 := by omega
          exact ih2 (j + 1) o_mu o_i1 o_i2 H locs hP hD hS ls (lv_sub hl [2, 3, 0] rfl)
        · skip
          refine lv_aload_n hx hb dX4_waits_26 rfl (lv_at hl 0 rfl) ?_
          refine z_get (D := (dC, dI)) (ci := 4) (v := .ref h0) (C := RX4) (T := TX4) (N := 5) hx hb hts uX4 hown hK hP 0 rfl rfl 0 (by decide) w18 rfl rfl dX4_waits_27 ?_
          refine z_get (D := (dC, dI)) (ci := 0) (v := .ref a4) (C := RX0) (T := TX0) (N := 6) hx hb hts uX0 hown hK hP 1 rfl rfl 3 (by decide) w54 rfl rfl dX4_waits_30 ?_
          refine lv_iload_n hx hb dX4_waits_33 rfl (lv_at hl 2 rfl) ?_
          refine z_iald (v := (nI (C j))) hx hb hK hP 5 0 rfl rfl j rfl (by omega) rfl dX4_waits_34 ?_
          have f34_0 := bC j
          refine z_if_ne (tgt := 42) hx hb dX4_waits_35 (by decide) (zcn_eq (a := C j) (b := 0) rfl nI_00 (by omega)) (fun c_35 => ?_) (fun c_35 => ?_)
          · skip
            refine lv_iconst (v := nI 0) hx hb dX4_waits_42 (by decide) ?_
            refine lv_istore_n (lv' := [(3, .int (nI 0)), (0, .ref k0), (1, .int (nI v)), (2, .int (nI j))]) hx hb dX4_waits_43 rfl hl (by decide) rfl (fun ls hl => ?_)
            refine lv_iload_n hx hb dX4_waits_44 rfl (lv_at hl 0 rfl) ?_
            refine lv_if_eq (tgt := 69) hx hb dX4_waits_45 (by decide) (fun _ => ?_) (fun c_x => absurd c_x (by decide))
            refine lv_iinc (v := (nI (j + 1))) (lv' := [(2, .int (nI (j + 1))), (3, .int (nI 0)), (0, .ref k0), (1, .int (nI v))]) hx hb dX4_waits_69 hl (k := 3) rfl (z_incN j 1 (by decide)) (by decide) rfl (fun ls hl => ?_)
            refine lv_goto (tgt := 2) hx hb dX4_waits_72 (by decide) ?_
            have o_i1 : (j + 1) ≤ K := by first | assumption | omega
            have o_i2 : ∀ a, a < (j + 1) → G a = v → C a = 0 → F a ∈ o := by exact lt_s i2 (fun e1 e2 => by first | omega | exact Classical.byContradiction (fun hn => c_64 (hbit.mpr hn)))
            have o_mu : (K - (j + 1)) < n2 := by omega
            exact ih2 (j + 1) o_mu o_i1 o_i2 H locs hP hD hS ls (lv_sub hl [2, 3, 0] rfl)
          · skip
            refine lv_iconst (v := nI 1) hx hb dX4_waits_38 (by decide) ?_
            refine lv_goto (tgt := 43) hx hb dX4_waits_39 (by decide) ?_
            refine lv_istore_n (lv' := [(3, .int (nI 1)), (0, .ref k0), (1, .int (nI v)), (2, .int (nI j))]) hx hb dX4_waits_43 rfl hl (by decide) rfl (fun ls hl => ?_)
            refine lv_iload_n hx hb dX4_waits_44 rfl (lv_at hl 0 rfl) ?_
            refine lv_if_eq (tgt := 69) hx hb dX4_waits_45 (by decide) (fun c_x => absurd c_x (by decide)) (fun _ => ?_)
            refine lv_aload_n hx hb dX4_waits_48 rfl (lv_at hl 1 rfl) ?_
            refine z_get (D := (dC, dI)) (ci := 4) (v := .int (nI ab)) (C := RX4) (T := TX4) (N := 5) hx hb hts uX4 hown hK hP 0 rfl rfl 4 (by decide) w29 rfl rfl dX4_waits_49 ?_
            refine lv_aload_n hx hb dX4_waits_52 rfl (lv_at hl 1 rfl) ?_
            refine z_get (D := (dC, dI)) (ci := 4) (v := .ref h0) (C := RX4) (T := TX4) (N := 5) hx hb hts uX4 hown hK hP 0 rfl rfl 0 (by decide) w18 rfl rfl dX4_waits_53 ?_
            refine z_get (D := (dC, dI)) (ci := 0) (v := .ref a2) (C := RX0) (T := TX0) (N := 6) hx hb hts uX0 hown hK hP 1 rfl rfl 1 (by decide) w57 rfl rfl dX4_waits_56 ?_
            refine lv_iload_n hx hb dX4_waits_59 rfl (lv_at hl 3 rfl) ?_
            refine z_iald (v := (nI (F j))) hx hb hK hP 3 0 rfl rfl j rfl (by omega) rfl dX4_waits_60 ?_
            have f60_0 := bF j
            refine z_ishr (v := nI (ab / 2 ^ (F j))) hx hb dX4_waits_61 (zs_shr rfl rfl (by omega) (by omega)) ?_
            refine lv_iconst (v := nI 1) hx hb dX4_waits_62 (by decide) ?_
            refine z_iand (v := nI ((ab / 2 ^ (F j)) &&& 1)) hx hb dX4_waits_63 (zs_and rfl rfl) ?_
            have hq1 : (((ab / 2 ^ (F j)) &&& 1)) ≤ 1 := and1_le _
            have hbit := hbs.2 (F j) (by omega)
            refine z_if_ne (tgt := 69) hx hb dX4_waits_64 (by decide) (zcn_eq (a := (ab / 2 ^ (F j)) &&& 1) (b := 0) rfl nI_00 (by omega)) (fun c_64 => ?_) (fun c_64 => ?_)
            · skip
              refine lv_iinc (v := (nI (j + 1))) (lv' := [(2, .int (nI (j + 1))), (3, .int (nI 1)), (0, .ref k0), (1, .int (nI v))]) hx hb dX4_waits_69 hl (k := 3) rfl (z_incN j 1 (by decide)) (by decide) rfl (fun ls hl => ?_)
              refine lv_goto (tgt := 2) hx hb dX4_waits_72 (by decide) ?_
              have o_i1 : (j + 1) ≤ K := by first | assumption | omega
              have o_i2 : ∀ a, a < (j + 1) → G a = v → C a = 0 → F a ∈ o := by exact lt_s i2 (fun e1 e2 => by first | omega | exact Classical.byContradiction (fun hn => c_64 (hbit.mpr hn)))
              have o_mu : (K - (j + 1)) < n2 := by omega
              exact ih2 (j + 1) o_mu o_i1 o_i2 H locs hP hD hS ls (lv_sub hl [2, 3, 0] rfl)
            · skip
              refine lv_iconst (v := nI 1) hx hb dX4_waits_67 (by decide) ?_
              have q_0 : (1 = 1 ∧ sp_wait K F G C o v = true) ∨ (1 = 0 ∧ sp_wait K F G C o v = false) := by exact Or.inl ⟨rfl, sp_wait_t j (by omega) c_23 c_35 (hbit.mp c_64)⟩
              exact hRET _ ls H locs ((nI 1)) (1) dX4_waits_68 (by decide) ⟨rfl, q_0⟩ hP hD hS
  have o_i1 : 0 ≤ K := by first | assumption | omega
  have o_i2 : ∀ a, a < 0 → G a = v → C a = 0 → F a ∈ o := by intro a h; omega
  exact L2 ((K - 0) + 1) 0 (Nat.lt_succ_self _) o_i1 o_i2 H locs hP hD hS ls (lv_sub hl [1, 2, 0] rfl)

set_option maxHeartbeats 4000000 in
set_option maxRecDepth 100000 in
theorem c_X4_orderArcsTo (l : Launch) (dC : Nat → ClassId) (dI : Nat → Nat → Nat) (cI cJ : ClassId) (sz : Nat) (k0 : Nat) (k1 : Nat) (k2 : Nat) (BE : Nat → Int) (OR : Nat → Nat) (od : Nat) (ab : Nat) (h0 : Nat) (a1 : Nat) (a2 : Nat) (a3 : Nat) (a4 : Nat) (N : Nat) (K : Nat) (T : Nat → Nat) (F : Nat → Nat) (G : Nat → Nat) (C : Nat → Nat) (v : Nat) (AO : List Nat) (bK : K ≤ 16) (bG : ∀ a, G a < 8) (bOR : ∀ i, OR i < 16) (bv : v < 8) (hod : od = AO.length) (hor : ∀ i, i < od → OR i = AO.getD i 0) (hle : od + (sp_to K G v).length ≤ 16) : Met l yX4_orderArcsTo wsX4_orderArcsTo (zR 0 0 0 0) (va_Pc [.ref k0, .int (nI v)] (zP (dC, dI) [(cI, .int), (cJ, .long)] [(k0, .inr (4, [.ref h0, .ref k1, .ref k2, .int (nI od), .int (nI ab)])), (k1, .inl (cI, 488, .inl (fun z_ => iI (BE z_)))), (k2, .inl (cI, 16, .inl (fun z_ => nI (OR z_)))), (h0, .inr (0, [.ref a1, .ref a2, .ref a3, .ref a4, .int (nI N), .int (nI K)])), (a1, .inl (cI, 8, .inl (fun z_ => nI (T z_)))), (a2, .inl (cI, 16, .inl (fun z_ => nI (F z_)))), (a3, .inl (cI, 16, .inl (fun z_ => nI (G z_)))), (a4, .inl (cI, 16, .inl (fun z_ => nI (C z_))))] sz nwA)) (va_Qv (fun (u : (Nat → Nat) × (Nat)) => (u.2 = (AO ++ sp_to K G v).length) ∧ (∀ i, i < u.2 → u.1 i = (AO ++ sp_to K G v).getD i 0) ∧ (∀ i, u.1 i < 16)) (zB (dC, dI) (fun (u : (Nat → Nat) × (Nat)) => [(k0, .inr (4, [.ref h0, .ref k1, .ref k2, .int (nI u.2), .int (nI ab)])), (k1, .inl (cI, 488, .inl (fun z_ => iI (BE z_)))), (k2, .inl (cI, 16, .inl (fun z_ => nI (u.1 z_)))), (h0, .inr (0, [.ref a1, .ref a2, .ref a3, .ref a4, .int (nI N), .int (nI K)])), (a1, .inl (cI, 8, .inl (fun z_ => nI (T z_)))), (a2, .inl (cI, 16, .inl (fun z_ => nI (F z_)))), (a3, .inl (cI, 16, .inl (fun z_ => nI (G z_)))), (a4, .inl (cI, 16, .inl (fun z_ => nI (C z_))))]) (va_A [(k0, .inr (4, [.ref h0, .ref k1, .ref k2, .int (nI od), .int (nI ab)])), (k1, .inl (cI, 488, .inl (fun z_ => iI (BE z_)))), (k2, .inl (cI, 16, .inl (fun z_ => nI (OR z_)))), (h0, .inr (0, [.ref a1, .ref a2, .ref a3, .ref a4, .int (nI N), .int (nI K)])), (a1, .inl (cI, 8, .inl (fun z_ => nI (T z_)))), (a2, .inl (cI, 16, .inl (fun z_ => nI (F z_)))), (a3, .inl (cI, 16, .inl (fun z_ => nI (G z_)))), (a4, .inl (cI, 16, .inl (fun z_ => nI (C z_))))] sz)) (va_A [(k0, .inr (4, [.ref h0, .ref k1, .ref k2, .int (nI od), .int (nI ab)])), (k1, .inl (cI, 488, .inl (fun z_ => iI (BE z_)))), (k2, .inl (cI, 16, .inl (fun z_ => nI (OR z_)))), (h0, .inr (0, [.ref a1, .ref a2, .ref a3, .ref a4, .int (nI N), .int (nI K)])), (a1, .inl (cI, 8, .inl (fun z_ => nI (T z_)))), (a2, .inl (cI, 16, .inl (fun z_ => nI (F z_)))), (a3, .inl (cI, 16, .inl (fun z_ => nI (G z_)))), (a4, .inl (cI, 16, .inl (fun z_ => nI (C z_))))] sz)) 0 0 (va_A [(k0, .inr (4, [.ref h0, .ref k1, .ref k2, .int (nI od), .int (nI ab)])), (k1, .inl (cI, 488, .inl (fun z_ => iI (BE z_)))), (k2, .inl (cI, 16, .inl (fun z_ => nI (OR z_)))), (h0, .inr (0, [.ref a1, .ref a2, .ref a3, .ref a4, .int (nI N), .int (nI K)])), (a1, .inl (cI, 8, .inl (fun z_ => nI (T z_)))), (a2, .inl (cI, 16, .inl (fun z_ => nI (F z_)))), (a3, .inl (cI, 16, .inl (fun z_ => nI (G z_)))), (a4, .inl (cI, 16, .inl (fun z_ => nI (C z_))))] sz) := by
  refine z_met_v (cc := cX4_orderArcsTo) (maxL := 3) (by decide) rfl (Nat.le_of_ble_eq_true rfl) ?_
  intro p e s m args below meth c Q A ls hx hb hml hown hts hin hA hK hP hD hN hl hRET
  have hown : s.vm.findClass RX4 = some m.cls := hown
  obtain ⟨H, eH⟩ : ∃ H : Heap, H = s.heap := ⟨_, rfl⟩
  rw [← eH] at hP
  obtain ⟨locs, eL⟩ : ∃ z : List Loc, z = [] := ⟨_, rfl⟩
  rw [← eH, ← eL]
  have hS : va_S A s.heap H locs := by rw [eH, eL]; exact va_S.rf
  have hl : lv_has ls 3 [(0, .ref k0), (1, .int (nI v))] := hl
  have w18 := hts (.fieldLink RX4 18 "PullCards$Works" "line" "LPullCards$Line;") (by decide +kernel)
  have uX4 : ∀ w ∈ wsX40, w ∈ wsX4_orderArcsTo := by decide +kernel
  have w48 := hts (.fieldLink RX4 48 "PullCards$Line" "arcs" "I") (by decide +kernel)
  have uX0 : ∀ w ∈ wsX00, w ∈ wsX4_orderArcsTo := by decide +kernel
  have w51 := hts (.fieldLink RX4 51 "PullCards$Line" "tos" "[I") (by decide +kernel)
  have w33 := hts (.fieldLink RX4 33 "PullCards$Works" "ordered" "I") (by decide +kernel)
  have w15 := hts (.fieldLink RX4 15 "PullCards$Works" "order" "[I") (by decide +kernel)
  refine lv_iconst (v := nI 0) hx hb dX4_orderArcsTo_0 (by decide) ?_
  refine lv_istore_n (lv' := [(2, .int (nI 0)), (0, .ref k0), (1, .int (nI v))]) hx hb dX4_orderArcsTo_1 rfl hl (by decide) rfl (fun ls hl => ?_)
  have L2 : ∀ (n2 : Nat) (j : Nat) (OR1 : Nat → Nat) (od1 : Nat), (K - j) < n2 → (j ≤ K) → (od1 = (AO ++ sp_to j G v).length) → (∀ i, i < od1 → OR1 i = (AO ++ sp_to j G v).getD i 0) → (∀ i, OR1 i < 16) → ∀ (H : Heap) (locs : List Loc), va_P (dC, dI) vwCl [(k0, .inr (4, [.ref h0, .ref k1, .ref k2, .int (nI od1), .int (nI ab)])), (k1, .inl (cI, 488, .inl (fun z_ => iI (BE z_)))), (k2, .inl (cI, 16, .inl (fun z_ => nI (OR1 z_)))), (h0, .inr (0, [.ref a1, .ref a2, .ref a3, .ref a4, .int (nI N), .int (nI K)])), (a1, .inl (cI, 8, .inl (fun z_ => nI (T z_)))), (a2, .inl (cI, 16, .inl (fun z_ => nI (F z_)))), (a3, .inl (cI, 16, .inl (fun z_ => nI (G z_)))), (a4, .inl (cI, 16, .inl (fun z_ => nI (C z_))))] H → va_D A [(k0, .inr (4, [.ref h0, .ref k1, .ref k2, .int (nI od1), .int (nI ab)])), (k1, .inl (cI, 488, .inl (fun z_ => iI (BE z_)))), (k2, .inl (cI, 16, .inl (fun z_ => nI (OR1 z_)))), (h0, .inr (0, [.ref a1, .ref a2, .ref a3, .ref a4, .int (nI N), .int (nI K)])), (a1, .inl (cI, 8, .inl (fun z_ => nI (T z_)))), (a2, .inl (cI, 16, .inl (fun z_ => nI (F z_)))), (a3, .inl (cI, 16, .inl (fun z_ => nI (G z_)))), (a4, .inl (cI, 16, .inl (fun z_ => nI (C z_))))] → va_S A s.heap H locs → ∀ (ls : Array Slot), lv_has ls 3 [(0, .ref k0), (1, .int (nI v)), (2, .int (nI j))] → W p l e (zR 0 0 0 0) s m args below meth c H locs 0 0 Q (F0 m 2 ls []) := by
    intro n2
    induction n2 with
    | zero => intro j OR1 od1 hn; exact absurd hn (Nat.not_lt_zero _)
    | succ n2 ih =>
      intro j OR1 od1 hn i1 i2 i3 i4 H locs hP hD hS ls hl
      have ih2 := ih
      have hn2 := hn
      clear ih hn
      have hlj := sp_to_le i1 G v
      have i2b := i2
      rw [List.length_append] at i2b
      refine lv_iload_n hx hb dX4_orderArcsTo_2 rfl (lv_at hl 2 rfl) ?_
      refine lv_aload_n hx hb dX4_orderArcsTo_3 rfl (lv_at hl 0 rfl) ?_
      refine z_get (D := (dC, dI)) (ci := 4) (v := .ref h0) (C := RX4) (T := TX4) (N := 5) hx hb hts uX4 hown hK hP 0 rfl rfl 0 (by decide) w18 rfl rfl dX4_orderArcsTo_4 ?_
      refine z_get (D := (dC, dI)) (ci := 0) (v := .int (nI K)) (C := RX0) (T := TX0) (N := 6) hx hb hts uX0 hown hK hP 3 rfl rfl 5 (by decide) w48 rfl rfl dX4_orderArcsTo_7 ?_
      refine z_icmp_ge (tgt := 61) hx hb dX4_orderArcsTo_10 (by decide) (zcn_le (a := K) (b := j) rfl rfl (by omega)) (fun c_10 => ?_) (fun c_10 => ?_)
      · skip
        have q_0 : od1 = (AO ++ sp_to K G v).length := by rw [show K = j from by omega]; exact i2
        have q_1 : ∀ i, i < od1 → OR1 i = (AO ++ sp_to K G v).getD i 0 := by rw [show K = j from by omega]; exact i3
        have q_2 : ∀ i, OR1 i < 16 := by exact i4
        exact hRET _ ls H locs (OR1, od1) dX4_orderArcsTo_61 ⟨q_0, q_1, q_2⟩ hP hD hS
      · skip
        refine lv_aload_n hx hb dX4_orderArcsTo_13 rfl (lv_at hl 0 rfl) ?_
        refine z_get (D := (dC, dI)) (ci := 4) (v := .ref h0) (C := RX4) (T := TX4) (N := 5) hx hb hts uX4 hown hK hP 0 rfl rfl 0 (by decide) w18 rfl rfl dX4_orderArcsTo_14 ?_
        refine z_get (D := (dC, dI)) (ci := 0) (v := .ref a3) (C := RX0) (T := TX0) (N := 6) hx hb hts uX0 hown hK hP 3 rfl rfl 2 (by decide) w51 rfl rfl dX4_orderArcsTo_17 ?_
        refine lv_iload_n hx hb dX4_orderArcsTo_20 rfl (lv_at hl 2 rfl) ?_
        refine z_iald (v := (nI (G j))) hx hb hK hP 6 0 rfl rfl j rfl (by omega) rfl dX4_orderArcsTo_21 ?_
        have f21_0 := bG j
        refine lv_iload_n hx hb dX4_orderArcsTo_22 rfl (lv_at hl 1 rfl) ?_
        refine z_icmp_ne (tgt := 55) hx hb dX4_orderArcsTo_23 (by decide) (zcn_eq (a := G j) (b := v) rfl rfl (by omega)) (fun c_23 => ?_) (fun c_23 => ?_)
        · skip
          have es := sp_to_n (G := G) (v := v) (j := j) c_23
          refine lv_iinc (v := (nI (j + 1))) (lv' := [(2, .int (nI (j + 1))), (0, .ref k0), (1, .int (nI v))]) hx hb dX4_orderArcsTo_55 hl (k := 2) rfl (z_incN j 1 (by decide)) (by decide) rfl (fun ls hl => ?_)
          refine lv_goto (tgt := 2) hx hb dX4_orderArcsTo_58 (by decide) ?_
          have o_i1 : (j + 1) ≤ K := by first | assumption | omega
          have o_i2 : od1 = (AO ++ sp_to (j + 1) G v).length := by rw [es]; (first | exact i2 | (rw [← List.append_assoc, List.length_append, ← i2]; rfl))
          have o_i3 : ∀ i, i < od1 → OR1 i = (AO ++ sp_to (j + 1) G v).getD i 0 := by rw [es]; (first | exact i3 | (rw [← List.append_assoc]; exact lt_s (fun i hi => by rw [up_n _ _ (by omega), List.getD_eq_getElem?_getD, List.getElem?_append_left (by omega), ← List.getD_eq_getElem?_getD]; exact i3 i hi) (by rw [up_s, i2]; simp [List.getD_eq_getElem?_getD])))
          have o_i4 : ∀ i, OR1 i < 16 := by first | exact i4 | (intro i; rw [up_e]; split; omega; exact i4 i)
          have o_mu : (K - (j + 1)) < n2 := by omega
          exact ih2 (j + 1) OR1 od1 o_mu o_i1 o_i2 o_i3 o_i4 H locs hP hD hS ls (lv_sub hl [1, 2, 0] rfl)
        · skip
          have es := sp_to_y (G := G) (v := v) (j := j) c_23
          have hl2 := sp_to_le (show j + 1 ≤ K by omega) G v
          rw [es, List.length_append, List.length_singleton] at hl2
          refine lv_aload_n hx hb dX4_orderArcsTo_26 rfl (lv_at hl 0 rfl) ?_
          refine z_get (D := (dC, dI)) (ci := 4) (v := .int (nI od1)) (C := RX4) (T := TX4) (N := 5) hx hb hts uX4 hown hK hP 0 rfl rfl 3 (by decide) w33 rfl rfl dX4_orderArcsTo_27 ?_
          refine lv_bipush (v := nI 16) hx hb dX4_orderArcsTo_30 (by decide) ?_
          refine z_icmp_ge (tgt := 55) hx hb dX4_orderArcsTo_32 (by decide) (zcn_le (a := 16) (b := od1) rfl rfl (by omega)) (fun c_32 => ?_) (fun c_32 => ?_)
          · skip
            exact absurd c_32 (by omega)
          · skip
            refine lv_aload_n hx hb dX4_orderArcsTo_35 rfl (lv_at hl 0 rfl) ?_
            refine z_get (D := (dC, dI)) (ci := 4) (v := .ref k2) (C := RX4) (T := TX4) (N := 5) hx hb hts uX4 hown hK hP 0 rfl rfl 2 (by decide) w15 rfl rfl dX4_orderArcsTo_36 ?_
            refine lv_aload_n hx hb dX4_orderArcsTo_39 rfl (lv_at hl 0 rfl) ?_
            refine z_get (D := (dC, dI)) (ci := 4) (v := .int (nI od1)) (C := RX4) (T := TX4) (N := 5) hx hb hts uX4 hown hK hP 0 rfl rfl 3 (by decide) w33 rfl rfl dX4_orderArcsTo_40 ?_
            refine lv_iload_n hx hb dX4_orderArcsTo_43 rfl (lv_at hl 2 rfl) ?_
            refine z_iast hx hb hK hP hD hS 2 0 rfl rfl od1 rfl (by omega) (upd_N OR1 od1 j) [(k0, .inr (4, [.ref h0, .ref k1, .ref k2, .int (nI od1), .int (nI ab)])), (k1, .inl (cI, 488, .inl (fun z_ => iI (BE z_)))), (k2, .inl (cI, 16, .inl (fun z_ => nI ((up OR1 od1 j) z_)))), (h0, .inr (0, [.ref a1, .ref a2, .ref a3, .ref a4, .int (nI N), .int (nI K)])), (a1, .inl (cI, 8, .inl (fun z_ => nI (T z_)))), (a2, .inl (cI, 16, .inl (fun z_ => nI (F z_)))), (a3, .inl (cI, 16, .inl (fun z_ => nI (G z_)))), (a4, .inl (cI, 16, .inl (fun z_ => nI (C z_))))] rfl dX4_orderArcsTo_44 (fun H locs hP hD hS => ?_)
            refine lv_aload_n hx hb dX4_orderArcsTo_45 rfl (lv_at hl 0 rfl) ?_
            refine lv_dup hx hb dX4_orderArcsTo_46 rfl ?_
            refine z_get (D := (dC, dI)) (ci := 4) (v := .int (nI od1)) (C := RX4) (T := TX4) (N := 5) hx hb hts uX4 hown hK hP 0 rfl rfl 3 (by decide) w33 rfl rfl dX4_orderArcsTo_47 ?_
            refine lv_iconst (v := nI 1) hx hb dX4_orderArcsTo_50 (by decide) ?_
            refine z_iadd (v := (nI (od1 + 1))) hx hb dX4_orderArcsTo_51 (nI_add _ _) ?_
            refine z_put (D := (dC, dI)) (ci := 4) (v := .int (nI (od1 + 1))) (C := RX4) (T := TX4) (N := 5) hx hb hts uX4 tyX4 tyX4_ok nmX4 hown hK hP hD hS 0 rfl rfl 3 (by decide) w33 rfl rfl rfl rfl (Nat.le_of_ble_eq_true rfl) [(k0, .inr (4, [.ref h0, .ref k1, .ref k2, .int (nI (od1 + 1)), .int (nI ab)])), (k1, .inl (cI, 488, .inl (fun z_ => iI (BE z_)))), (k2, .inl (cI, 16, .inl (fun z_ => nI ((up OR1 od1 j) z_)))), (h0, .inr (0, [.ref a1, .ref a2, .ref a3, .ref a4, .int (nI N), .int (nI K)])), (a1, .inl (cI, 8, .inl (fun z_ => nI (T z_)))), (a2, .inl (cI, 16, .inl (fun z_ => nI (F z_)))), (a3, .inl (cI, 16, .inl (fun z_ => nI (G z_)))), (a4, .inl (cI, 16, .inl (fun z_ => nI (C z_))))] rfl dX4_orderArcsTo_52 (fun H locs hP hD hS => ?_)
            refine lv_iinc (v := (nI (j + 1))) (lv' := [(2, .int (nI (j + 1))), (0, .ref k0), (1, .int (nI v))]) hx hb dX4_orderArcsTo_55 hl (k := 2) rfl (z_incN j 1 (by decide)) (by decide) rfl (fun ls hl => ?_)
            refine lv_goto (tgt := 2) hx hb dX4_orderArcsTo_58 (by decide) ?_
            have o_i1 : (j + 1) ≤ K := by first | assumption | omega
            have o_i2 : (od1 + 1) = (AO ++ sp_to (j + 1) G v).length := by rw [es]; (first | exact i2 | (rw [← List.append_assoc, List.length_append, ← i2]; rfl))
            have o_i3 : ∀ i, i < (od1 + 1) → (up OR1 od1 j) i = (AO ++ sp_to (j + 1) G v).getD i 0 := by rw [es]; (first | exact i3 | (rw [← List.append_assoc]; exact lt_s (fun i hi => by rw [up_n _ _ (by omega), List.getD_eq_getElem?_getD, List.getElem?_append_left (by omega), ← List.getD_eq_getElem?_getD]; exact i3 i hi) (by rw [up_s, i2]; simp [List.getD_eq_getElem?_getD])))
            have o_i4 : ∀ i, (up OR1 od1 j) i < 16 := by first | exact i4 | (intro i; rw [up_e]; split; omega; exact i4 i)
            have o_mu : (K - (j + 1)) < n2 := by omega
            exact ih2 (j + 1) (up OR1 od1 j) (od1 + 1) o_mu o_i1 o_i2 o_i3 o_i4 H locs hP hD hS ls (lv_sub hl [1, 2, 0] rfl)
  have o_i1 : 0 ≤ K := by first | assumption | omega
  have o_i2 : od = (AO ++ sp_to 0 G v).length := by rw [sp_to_0, List.append_nil]; exact hod
  have o_i3 : ∀ i, i < od → OR i = (AO ++ sp_to 0 G v).getD i 0 := by rw [sp_to_0, List.append_nil]; exact hor
  have o_i4 : ∀ i, OR i < 16 := by exact bOR
  exact L2 ((K - 0) + 1) 0 OR od (Nat.lt_succ_self _) o_i1 o_i2 o_i3 o_i4 H locs hP hD hS ls (lv_sub hl [1, 2, 0] rfl)

set_option maxHeartbeats 4000000 in
set_option maxRecDepth 100000 in
theorem c_X4_orderArcs (l : Launch) (dC : Nat → ClassId) (dI : Nat → Nat → Nat) (cI cJ : ClassId) (sz : Nat) (k0 : Nat) (k1 : Nat) (k2 : Nat) (BE : Nat → Int) (OR : Nat → Nat) (od : Nat) (ab : Nat) (h0 : Nat) (a1 : Nat) (a2 : Nat) (a3 : Nat) (a4 : Nat) (N : Nat) (K : Nat) (T : Nat → Nat) (F : Nat → Nat) (G : Nat → Nat) (C : Nat → Nat) (bN : N ≤ 8) (bK : K ≤ 16) (bC : ∀ a, C a ≤ 9) (bF : ∀ a, F a < 8) (bG : ∀ a, G a < 8) (bOR : ∀ i, OR i < 16) : Met l yX4_orderArcs wsX4_orderArcs (zR 1 0 0 23) (va_Pc [.ref k0] (zP (dC, dI) [(cI, .int), (cJ, .long)] [(k0, .inr (4, [.ref h0, .ref k1, .ref k2, .int (nI od), .int (nI ab)])), (k1, .inl (cI, 488, .inl (fun z_ => iI (BE z_)))), (k2, .inl (cI, 16, .inl (fun z_ => nI (OR z_)))), (h0, .inr (0, [.ref a1, .ref a2, .ref a3, .ref a4, .int (nI N), .int (nI K)])), (a1, .inl (cI, 8, .inl (fun z_ => nI (T z_)))), (a2, .inl (cI, 16, .inl (fun z_ => nI (F z_)))), (a3, .inl (cI, 16, .inl (fun z_ => nI (G z_)))), (a4, .inl (cI, 16, .inl (fun z_ => nI (C z_))))] sz nwA)) (va_Qv (fun (u : (Nat → Nat) × (Nat) × (Nat)) => (sp_bs (sp_so N K F G C) u.2.2) ∧ (u.2.1 = (sp_ao K G (sp_so N K F G C)).length) ∧ (∀ i, i < u.2.1 → u.1 i = (sp_ao K G (sp_so N K F G C)).getD i 0) ∧ (∀ i, u.1 i < 16)) (zB (dC, dI) (fun (u : (Nat → Nat) × (Nat) × (Nat)) => [(k0, .inr (4, [.ref h0, .ref k1, .ref k2, .int (nI u.2.1), .int (nI u.2.2)])), (k1, .inl (cI, 488, .inl (fun z_ => iI (BE z_)))), (k2, .inl (cI, 16, .inl (fun z_ => nI (u.1 z_)))), (h0, .inr (0, [.ref a1, .ref a2, .ref a3, .ref a4, .int (nI N), .int (nI K)])), (a1, .inl (cI, 8, .inl (fun z_ => nI (T z_)))), (a2, .inl (cI, 16, .inl (fun z_ => nI (F z_)))), (a3, .inl (cI, 16, .inl (fun z_ => nI (G z_)))), (a4, .inl (cI, 16, .inl (fun z_ => nI (C z_))))]) (va_A [(k0, .inr (4, [.ref h0, .ref k1, .ref k2, .int (nI od), .int (nI ab)])), (k1, .inl (cI, 488, .inl (fun z_ => iI (BE z_)))), (k2, .inl (cI, 16, .inl (fun z_ => nI (OR z_)))), (h0, .inr (0, [.ref a1, .ref a2, .ref a3, .ref a4, .int (nI N), .int (nI K)])), (a1, .inl (cI, 8, .inl (fun z_ => nI (T z_)))), (a2, .inl (cI, 16, .inl (fun z_ => nI (F z_)))), (a3, .inl (cI, 16, .inl (fun z_ => nI (G z_)))), (a4, .inl (cI, 16, .inl (fun z_ => nI (C z_))))] sz)) (va_A [(k0, .inr (4, [.ref h0, .ref k1, .ref k2, .int (nI od), .int (nI ab)])), (k1, .inl (cI, 488, .inl (fun z_ => iI (BE z_)))), (k2, .inl (cI, 16, .inl (fun z_ => nI (OR z_)))), (h0, .inr (0, [.ref a1, .ref a2, .ref a3, .ref a4, .int (nI N), .int (nI K)])), (a1, .inl (cI, 8, .inl (fun z_ => nI (T z_)))), (a2, .inl (cI, 16, .inl (fun z_ => nI (F z_)))), (a3, .inl (cI, 16, .inl (fun z_ => nI (G z_)))), (a4, .inl (cI, 16, .inl (fun z_ => nI (C z_))))] sz)) 0 0 (va_A [(k0, .inr (4, [.ref h0, .ref k1, .ref k2, .int (nI od), .int (nI ab)])), (k1, .inl (cI, 488, .inl (fun z_ => iI (BE z_)))), (k2, .inl (cI, 16, .inl (fun z_ => nI (OR z_)))), (h0, .inr (0, [.ref a1, .ref a2, .ref a3, .ref a4, .int (nI N), .int (nI K)])), (a1, .inl (cI, 8, .inl (fun z_ => nI (T z_)))), (a2, .inl (cI, 16, .inl (fun z_ => nI (F z_)))), (a3, .inl (cI, 16, .inl (fun z_ => nI (G z_)))), (a4, .inl (cI, 16, .inl (fun z_ => nI (C z_))))] sz) := by
  refine z_met_v (cc := cX4_orderArcs) (maxL := 3) (by decide) rfl (Nat.le_of_ble_eq_true rfl) ?_
  intro p e s m args below meth c Q A ls hx hb hml hown hts hin hA hK hP hD hN hl hRET
  have hown : s.vm.findClass RX4 = some m.cls := hown
  obtain ⟨H, eH⟩ : ∃ H : Heap, H = s.heap := ⟨_, rfl⟩
  rw [← eH] at hP
  obtain ⟨locs, eL⟩ : ∃ z : List Loc, z = [] := ⟨_, rfl⟩
  rw [← eH, ← eL]
  have hS : va_S A s.heap H locs := by rw [eH, eL]; exact va_S.rf
  have hl : lv_has ls 3 [(0, .ref k0)] := hl
  have w29 := hts (.fieldLink RX4 29 "PullCards$Works" "able" "I") (by decide +kernel)
  have uX4 : ∀ w ∈ wsX40, w ∈ wsX4_orderArcs := by decide +kernel
  have w33 := hts (.fieldLink RX4 33 "PullCards$Works" "ordered" "I") (by decide +kernel)
  have w18 := hts (.fieldLink RX4 18 "PullCards$Works" "line" "LPullCards$Line;") (by decide +kernel)
  have w36 := hts (.fieldLink RX4 36 "PullCards$Line" "stations" "I") (by decide +kernel)
  have uX0 : ∀ w ∈ wsX00, w ∈ wsX4_orderArcs := by decide +kernel
  refine lv_aload_n hx hb dX4_orderArcs_0 rfl (lv_at hl 0 rfl) ?_
  refine lv_iconst (v := nI 0) hx hb dX4_orderArcs_1 (by decide) ?_
  refine z_put (D := (dC, dI)) (ci := 4) (v := .int (nI 0)) (C := RX4) (T := TX4) (N := 5) hx hb hts uX4 tyX4 tyX4_ok nmX4 hown hK hP hD hS 0 rfl rfl 4 (by decide) w29 rfl rfl rfl rfl (Nat.le_of_ble_eq_true rfl) [(k0, .inr (4, [.ref h0, .ref k1, .ref k2, .int (nI od), .int (nI 0)])), (k1, .inl (cI, 488, .inl (fun z_ => iI (BE z_)))), (k2, .inl (cI, 16, .inl (fun z_ => nI (OR z_)))), (h0, .inr (0, [.ref a1, .ref a2, .ref a3, .ref a4, .int (nI N), .int (nI K)])), (a1, .inl (cI, 8, .inl (fun z_ => nI (T z_)))), (a2, .inl (cI, 16, .inl (fun z_ => nI (F z_)))), (a3, .inl (cI, 16, .inl (fun z_ => nI (G z_)))), (a4, .inl (cI, 16, .inl (fun z_ => nI (C z_))))] rfl dX4_orderArcs_2 (fun H locs hP hD hS => ?_)
  refine lv_aload_n hx hb dX4_orderArcs_5 rfl (lv_at hl 0 rfl) ?_
  refine lv_iconst (v := nI 0) hx hb dX4_orderArcs_6 (by decide) ?_
  refine z_put (D := (dC, dI)) (ci := 4) (v := .int (nI 0)) (C := RX4) (T := TX4) (N := 5) hx hb hts uX4 tyX4 tyX4_ok nmX4 hown hK hP hD hS 0 rfl rfl 3 (by decide) w33 rfl rfl rfl rfl (Nat.le_of_ble_eq_true rfl) [(k0, .inr (4, [.ref h0, .ref k1, .ref k2, .int (nI 0), .int (nI 0)])), (k1, .inl (cI, 488, .inl (fun z_ => iI (BE z_)))), (k2, .inl (cI, 16, .inl (fun z_ => nI (OR z_)))), (h0, .inr (0, [.ref a1, .ref a2, .ref a3, .ref a4, .int (nI N), .int (nI K)])), (a1, .inl (cI, 8, .inl (fun z_ => nI (T z_)))), (a2, .inl (cI, 16, .inl (fun z_ => nI (F z_)))), (a3, .inl (cI, 16, .inl (fun z_ => nI (G z_)))), (a4, .inl (cI, 16, .inl (fun z_ => nI (C z_))))] rfl dX4_orderArcs_7 (fun H locs hP hD hS => ?_)
  refine lv_iconst (v := nI 0) hx hb dX4_orderArcs_10 (by decide) ?_
  refine lv_istore_n (lv' := [(1, .int (nI 0)), (0, .ref k0)]) hx hb dX4_orderArcs_11 rfl hl (by decide) rfl (fun ls hl => ?_)
  have L12 : ∀ (n12 : Nat) (q : Nat) (OR1 : Nat → Nat) (od1 : Nat) (ab1 : Nat), (N - q) < n12 → (q ≤ N) → (sp_bs (sp_o2 N K F G C q) ab1) → (od1 = (sp_ao K G (sp_o2 N K F G C q)).length) → (∀ i, i < od1 → OR1 i = (sp_ao K G (sp_o2 N K F G C q)).getD i 0) → (∀ i, OR1 i < 16) → ∀ (H : Heap) (locs : List Loc), va_P (dC, dI) vwCl [(k0, .inr (4, [.ref h0, .ref k1, .ref k2, .int (nI od1), .int (nI ab1)])), (k1, .inl (cI, 488, .inl (fun z_ => iI (BE z_)))), (k2, .inl (cI, 16, .inl (fun z_ => nI (OR1 z_)))), (h0, .inr (0, [.ref a1, .ref a2, .ref a3, .ref a4, .int (nI N), .int (nI K)])), (a1, .inl (cI, 8, .inl (fun z_ => nI (T z_)))), (a2, .inl (cI, 16, .inl (fun z_ => nI (F z_)))), (a3, .inl (cI, 16, .inl (fun z_ => nI (G z_)))), (a4, .inl (cI, 16, .inl (fun z_ => nI (C z_))))] H → va_D A [(k0, .inr (4, [.ref h0, .ref k1, .ref k2, .int (nI od1), .int (nI ab1)])), (k1, .inl (cI, 488, .inl (fun z_ => iI (BE z_)))), (k2, .inl (cI, 16, .inl (fun z_ => nI (OR1 z_)))), (h0, .inr (0, [.ref a1, .ref a2, .ref a3, .ref a4, .int (nI N), .int (nI K)])), (a1, .inl (cI, 8, .inl (fun z_ => nI (T z_)))), (a2, .inl (cI, 16, .inl (fun z_ => nI (F z_)))), (a3, .inl (cI, 16, .inl (fun z_ => nI (G z_)))), (a4, .inl (cI, 16, .inl (fun z_ => nI (C z_))))] → va_S A s.heap H locs → ∀ (ls : Array Slot), lv_has ls 3 [(0, .ref k0), (1, .int (nI q))] → W p l e (zR 1 0 0 23) s m args below meth c H locs 0 0 Q (F0 m 12 ls []) := by
    intro n12
    induction n12 with
    | zero => intro q OR1 od1 ab1 hn; exact absurd hn (Nat.not_lt_zero _)
    | succ n12 ih =>
      intro q OR1 od1 ab1 hn i1 m1 m2 m3 m4 H locs hP hD hS ls hl
      have ih12 := ih
      have hn12 := hn
      clear ih hn
      refine lv_iload_n hx hb dX4_orderArcs_12 rfl (lv_at hl 1 rfl) ?_
      refine lv_aload_n hx hb dX4_orderArcs_13 rfl (lv_at hl 0 rfl) ?_
      refine z_get (D := (dC, dI)) (ci := 4) (v := .ref h0) (C := RX4) (T := TX4) (N := 5) hx hb hts uX4 hown hK hP 0 rfl rfl 0 (by decide) w18 rfl rfl dX4_orderArcs_14 ?_
      refine z_get (D := (dC, dI)) (ci := 0) (v := .int (nI N)) (C := RX0) (T := TX0) (N := 6) hx hb hts uX0 hown hK hP 3 rfl rfl 4 (by decide) w36 rfl rfl dX4_orderArcs_17 ?_
      refine z_icmp_ge (tgt := 84) hx hb dX4_orderArcs_20 (by decide) (zcn_le (a := N) (b := q) rfl rfl (by omega)) (fun c_20 => ?_) (fun c_20 => ?_)
      · skip
        have q_0 : sp_bs (sp_so N K F G C) ab1 := by (have ej : q = N := (by omega)); (have nn := m1); rw [ej] at nn; exact nn
        have q_1 : od1 = (sp_ao K G (sp_so N K F G C)).length := by (have ej : q = N := (by omega)); (have nn := m2); rw [ej] at nn; exact nn
        have q_2 : ∀ i, i < od1 → OR1 i = (sp_ao K G (sp_so N K F G C)).getD i 0 := by (have ej : q = N := (by omega)); (have nn := m3); rw [ej] at nn; exact nn
        have q_3 : ∀ i, OR1 i < 16 := by first | assumption | omega
        exact hRET _ ls H locs (OR1, od1, ab1) dX4_orderArcs_84 ⟨q_0, q_1, q_2, q_3⟩ hP hD hS
      · skip
        refine lv_iconst (v := nI 0) hx hb dX4_orderArcs_23 (by decide) ?_
        refine lv_istore_n (lv' := [(2, .int (nI 0)), (0, .ref k0), (1, .int (nI q))]) hx hb dX4_orderArcs_24 rfl hl (by decide) rfl (fun ls hl => ?_)
        have L25 : ∀ (n25 : Nat) (j : Nat) (OR3 : Nat → Nat) (od3 : Nat) (ab3 : Nat), (N - j) < n25 → (j ≤ N) → (sp_bs (sp_o1 K F G C (sp_o2 N K F G C q) j) ab3) → (od3 = (sp_ao K G (sp_o1 K F G C (sp_o2 N K F G C q) j)).length) → (∀ i, i < od3 → OR3 i = (sp_ao K G (sp_o1 K F G C (sp_o2 N K F G C q) j)).getD i 0) → (∀ i, OR3 i < 16) → ∀ (H : Heap) (locs : List Loc), va_P (dC, dI) vwCl [(k0, .inr (4, [.ref h0, .ref k1, .ref k2, .int (nI od3), .int (nI ab3)])), (k1, .inl (cI, 488, .inl (fun z_ => iI (BE z_)))), (k2, .inl (cI, 16, .inl (fun z_ => nI (OR3 z_)))), (h0, .inr (0, [.ref a1, .ref a2, .ref a3, .ref a4, .int (nI N), .int (nI K)])), (a1, .inl (cI, 8, .inl (fun z_ => nI (T z_)))), (a2, .inl (cI, 16, .inl (fun z_ => nI (F z_)))), (a3, .inl (cI, 16, .inl (fun z_ => nI (G z_)))), (a4, .inl (cI, 16, .inl (fun z_ => nI (C z_))))] H → va_D A [(k0, .inr (4, [.ref h0, .ref k1, .ref k2, .int (nI od3), .int (nI ab3)])), (k1, .inl (cI, 488, .inl (fun z_ => iI (BE z_)))), (k2, .inl (cI, 16, .inl (fun z_ => nI (OR3 z_)))), (h0, .inr (0, [.ref a1, .ref a2, .ref a3, .ref a4, .int (nI N), .int (nI K)])), (a1, .inl (cI, 8, .inl (fun z_ => nI (T z_)))), (a2, .inl (cI, 16, .inl (fun z_ => nI (F z_)))), (a3, .inl (cI, 16, .inl (fun z_ => nI (G z_)))), (a4, .inl (cI, 16, .inl (fun z_ => nI (C z_))))] → va_S A s.heap H locs → ∀ (ls : Array Slot), lv_has ls 3 [(0, .ref k0), (1, .int (nI q)), (2, .int (nI j))] → W p l e (zR 1 0 0 23) s m args below meth c H locs 0 0 Q (F0 m 25 ls []) := by
          intro n25
          induction n25 with
          | zero => intro j OR3 od3 ab3 hn; exact absurd hn (Nat.not_lt_zero _)
          | succ n25 ih =>
            intro j OR3 od3 ab3 hn i2 n1 n2 n3 n4 H locs hP hD hS ls hl
            have ih25 := ih
            have hn25 := hn
            clear ih hn
            have hps := n1.1
            have hgd := sp_o1_good (sp_o2_good N K F G C q) j i2
            have hal := sp_ao_len (K := K) (G := G) _ (sp_good_nd _ hgd)
            refine lv_iload_n hx hb dX4_orderArcs_25 rfl (lv_at hl 2 rfl) ?_
            refine lv_aload_n hx hb dX4_orderArcs_26 rfl (lv_at hl 0 rfl) ?_
            refine z_get (D := (dC, dI)) (ci := 4) (v := .ref h0) (C := RX4) (T := TX4) (N := 5) hx hb hts uX4 hown hK hP 0 rfl rfl 0 (by decide) w18 rfl rfl dX4_orderArcs_27 ?_
            refine z_get (D := (dC, dI)) (ci := 0) (v := .int (nI N)) (C := RX0) (T := TX0) (N := 6) hx hb hts uX0 hown hK hP 3 rfl rfl 4 (by decide) w36 rfl rfl dX4_orderArcs_30 ?_
            refine z_icmp_ge (tgt := 78) hx hb dX4_orderArcs_33 (by decide) (zcn_le (a := N) (b := j) rfl rfl (by omega)) (fun c_33 => ?_) (fun c_33 => ?_)
            · skip
              refine lv_iinc (v := (nI (q + 1))) (lv' := [(1, .int (nI (q + 1))), (0, .ref k0), (2, .int (nI j))]) hx hb dX4_orderArcs_78 hl (k := 1) rfl (z_incN q 1 (by decide)) (by decide) rfl (fun ls hl => ?_)
              refine lv_goto (tgt := 12) hx hb dX4_orderArcs_81 (by decide) ?_
              have o_i1 : (q + 1) ≤ N := by first | assumption | omega
              have o_m1 : sp_bs (sp_o2 N K F G C (q + 1)) ab3 := by (have ej : j = N := (by omega)); (have nn := n1); rw [ej] at nn; exact nn
              have o_m2 : od3 = (sp_ao K G (sp_o2 N K F G C (q + 1))).length := by (have ej : j = N := (by omega)); (have nn := n2); rw [ej] at nn; exact nn
              have o_m3 : ∀ i, i < od3 → OR3 i = (sp_ao K G (sp_o2 N K F G C (q + 1))).getD i 0 := by (have ej : j = N := (by omega)); (have nn := n3); rw [ej] at nn; exact nn
              have o_m4 : ∀ i, OR3 i < 16 := by exact n4
              have o_mu : (N - (q + 1)) < n12 := by omega
              exact ih12 (q + 1) OR3 od3 ab3 o_mu o_i1 o_m1 o_m2 o_m3 o_m4 H locs hP hD hS ls (lv_sub hl [1, 0] rfl)
            · skip
              refine lv_aload_n hx hb dX4_orderArcs_36 rfl (lv_at hl 0 rfl) ?_
              refine z_get (D := (dC, dI)) (ci := 4) (v := .int (nI ab3)) (C := RX4) (T := TX4) (N := 5) hx hb hts uX4 hown hK hP 0 rfl rfl 4 (by decide) w29 rfl rfl dX4_orderArcs_37 ?_
              refine lv_iload_n hx hb dX4_orderArcs_40 rfl (lv_at hl 2 rfl) ?_
              refine z_ishr (v := nI (ab3 / 2 ^ j)) hx hb dX4_orderArcs_41 (zs_shr rfl rfl (by omega) (by omega)) ?_
              refine lv_iconst (v := nI 1) hx hb dX4_orderArcs_42 (by decide) ?_
              refine z_iand (v := nI ((ab3 / 2 ^ j) &&& 1)) hx hb dX4_orderArcs_43 (zs_and rfl rfl) ?_
              have hq1 : (((ab3 / 2 ^ j) &&& 1)) ≤ 1 := and1_le _
              have hbit := n1.2 j (by omega)
              refine z_if_ne (tgt := 72) hx hb dX4_orderArcs_44 (by decide) (zcn_eq (a := (ab3 / 2 ^ j) &&& 1) (b := 0) rfl nI_00 (by omega)) (fun c_44 => ?_) (fun c_44 => ?_)
              · skip
                have es := sp_o1_m (K := K) (F := F) (G := G) (C := C) (o := sp_o2 N K F G C q) (j := j) (Classical.byContradiction (fun hn => c_44 (hbit.mpr hn)))
                refine lv_iinc (v := (nI (j + 1))) (lv' := [(2, .int (nI (j + 1))), (0, .ref k0), (1, .int (nI q))]) hx hb dX4_orderArcs_72 hl (k := 2) rfl (z_incN j 1 (by decide)) (by decide) rfl (fun ls hl => ?_)
                refine lv_goto (tgt := 25) hx hb dX4_orderArcs_75 (by decide) ?_
                have o_i2 : (j + 1) ≤ N := by first | assumption | omega
                have o_n1 : sp_bs (sp_o1 K F G C (sp_o2 N K F G C q) (j + 1)) ab3 := by rw [es]; (first | exact n1 | exact hb2)
                have o_n2 : od3 = (sp_ao K G (sp_o1 K F G C (sp_o2 N K F G C q) (j + 1))).length := by rw [es]; (first | exact n2 | exact p69_0)
                have o_n3 : ∀ i, i < od3 → OR3 i = (sp_ao K G (sp_o1 K F G C (sp_o2 N K F G C q) (j + 1))).getD i 0 := by rw [es]; (first | exact n3 | exact p69_1)
                have o_n4 : ∀ i, OR3 i < 16 := by first | exact n4 | exact p69_2
                have o_mu : (N - (j + 1)) < n25 := by omega
                exact ih25 (j + 1) OR3 od3 ab3 o_mu o_i2 o_n1 o_n2 o_n3 o_n4 H locs hP hD hS ls (lv_sub hl [1, 2, 0] rfl)
              · skip
                refine lv_aload_n hx hb dX4_orderArcs_47 rfl (lv_at hl 0 rfl) ?_
                refine lv_iload_n hx hb dX4_orderArcs_48 rfl (lv_at hl 2 rfl) ?_
                refine z_callVi (As := [.int (nI j)]) (rest := []) (wr := [(k1, .inl (cI, 488, .inl (fun z_ => iI (BE z_)))), (k2, .inl (cI, 16, .inl (fun z_ => nI (OR3 z_))))]) ⟨hx, hb, hml, hown, hts⟩ (c_X4_waits l dC dI cI cJ H.size k0 k1 k2 od3 ab3 h0 a1 a2 a3 a4 N K T F G C j (sp_o1 K F G C (sp_o2 N K F G C q) j) (by first | assumption | omega) (by first | assumption | omega) (by first | assumption | omega) (by first | assumption | omega) (by first | assumption | omega) (by first | assumption | omega)) (cwV 1 hts gX4_orderArcs_X4_waits rfl rfl rfl (by decide +kernel) ⟨Nat.le_of_ble_eq_true rfl, Nat.le_of_ble_eq_true rfl⟩) hA hK hP hD hS [0, 3, 4, 5, 6, 7] [1, 2] [2, 0, 1, 3, 4, 5, 6, 7] rfl rfl (by decide) (by decide) (by decide) nwA_ok hN (ci := 4) rfl rfl 0 rfl hl.1 (Nat.le_of_ble_eq_true rfl) ⟨Nat.le_refl _, Nat.le_refl _⟩ rfl rfl dX4_orderArcs_49 (fun (u : (Nat)) => [(k0, .inr (4, [.ref h0, .ref k1, .ref k2, .int (nI od3), .int (nI ab3)])), (k1, .inl (cI, 488, .inl (fun z_ => iI (BE z_)))), (k2, .inl (cI, 16, .inl (fun z_ => nI (OR3 z_)))), (h0, .inr (0, [.ref a1, .ref a2, .ref a3, .ref a4, .int (nI N), .int (nI K)])), (a1, .inl (cI, 8, .inl (fun z_ => nI (T z_)))), (a2, .inl (cI, 16, .inl (fun z_ => nI (F z_)))), (a3, .inl (cI, 16, .inl (fun z_ => nI (G z_)))), (a4, .inl (cI, 16, .inl (fun z_ => nI (C z_))))]) (fun u => rfl) (by decide) (fun r_49 u H locs hw hP hD hS => ?_)
                obtain ⟨rv_49, eu⟩ : ∃ z, z = u := ⟨_, rfl⟩
                subst eu
                have hP : va_P (dC, dI) vwCl [(k0, .inr (4, [.ref h0, .ref k1, .ref k2, .int (nI od3), .int (nI ab3)])), (k1, .inl (cI, 488, .inl (fun z_ => iI (BE z_)))), (k2, .inl (cI, 16, .inl (fun z_ => nI (OR3 z_)))), (h0, .inr (0, [.ref a1, .ref a2, .ref a3, .ref a4, .int (nI N), .int (nI K)])), (a1, .inl (cI, 8, .inl (fun z_ => nI (T z_)))), (a2, .inl (cI, 16, .inl (fun z_ => nI (F z_)))), (a3, .inl (cI, 16, .inl (fun z_ => nI (G z_)))), (a4, .inl (cI, 16, .inl (fun z_ => nI (C z_))))] H := hP
                have hD : va_D A [(k0, .inr (4, [.ref h0, .ref k1, .ref k2, .int (nI od3), .int (nI ab3)])), (k1, .inl (cI, 488, .inl (fun z_ => iI (BE z_)))), (k2, .inl (cI, 16, .inl (fun z_ => nI (OR3 z_)))), (h0, .inr (0, [.ref a1, .ref a2, .ref a3, .ref a4, .int (nI N), .int (nI K)])), (a1, .inl (cI, 8, .inl (fun z_ => nI (T z_)))), (a2, .inl (cI, 16, .inl (fun z_ => nI (F z_)))), (a3, .inl (cI, 16, .inl (fun z_ => nI (G z_)))), (a4, .inl (cI, 16, .inl (fun z_ => nI (C z_))))] := hD
                obtain ⟨er, p49_0⟩ := hw
                have p49_0 : (rv_49 = 1 ∧ sp_wait K F G C (sp_o1 K F G C (sp_o2 N K F G C q) j) j = true) ∨ (rv_49 = 0 ∧ sp_wait K F G C (sp_o1 K F G C (sp_o2 N K F G C q) j) j = false) := p49_0
                have er : r_49 = (nI rv_49) := er
                subst er
                rcases p49_0 with ⟨h49, c_49⟩ | ⟨h49, c_49⟩
                · skip
                  subst h49
                  have es := sp_o1_w (o := sp_o2 N K F G C q) (j := j) c_49
                  refine lv_if_ne (tgt := 72) hx hb dX4_orderArcs_52 (by decide) (fun _ => ?_) (fun c_x => absurd c_x (by decide))
                  refine lv_iinc (v := (nI (j + 1))) (lv' := [(2, .int (nI (j + 1))), (0, .ref k0), (1, .int (nI q))]) hx hb dX4_orderArcs_72 hl (k := 2) rfl (z_incN j 1 (by decide)) (by decide) rfl (fun ls hl => ?_)
                  refine lv_goto (tgt := 25) hx hb dX4_orderArcs_75 (by decide) ?_
                  have o_i2 : (j + 1) ≤ N := by first | assumption | omega
                  have o_n1 : sp_bs (sp_o1 K F G C (sp_o2 N K F G C q) (j + 1)) ab3 := by rw [es]; (first | exact n1 | exact hb2)
                  have o_n2 : od3 = (sp_ao K G (sp_o1 K F G C (sp_o2 N K F G C q) (j + 1))).length := by rw [es]; (first | exact n2 | exact p69_0)
                  have o_n3 : ∀ i, i < od3 → OR3 i = (sp_ao K G (sp_o1 K F G C (sp_o2 N K F G C q) (j + 1))).getD i 0 := by rw [es]; (first | exact n3 | exact p69_1)
                  have o_n4 : ∀ i, OR3 i < 16 := by first | exact n4 | exact p69_2
                  have o_mu : (N - (j + 1)) < n25 := by omega
                  exact ih25 (j + 1) OR3 od3 ab3 o_mu o_i2 o_n1 o_n2 o_n3 o_n4 H locs hP hD hS ls (lv_sub hl [1, 2, 0] rfl)
                · skip
                  subst h49
                  have es := sp_o1_y (hbit.mp c_44) c_49
                  have hgd2 := sp_o1_good (sp_o2_good N K F G C q) (j + 1) (by omega)
                  rw [es] at hgd2
                  have hal2 := sp_ao_len (K := K) (G := G) _ (sp_good_nd _ hgd2)
                  have hal3 : (sp_ao K G (sp_o1 K F G C (sp_o2 N K F G C q) j)).length + (sp_to K G j).length ≤ K := by rw [← List.length_append]; exact hal2
                  have hb2 := sp_bs_push n1 (show j < 8 by omega)
                  have hp2 := pow2_le (show j < 8 by omega)
                  refine lv_if_ne (tgt := 72) hx hb dX4_orderArcs_52 (by decide) (fun c_x => absurd c_x (by decide)) (fun _ => ?_)
                  refine lv_aload_n hx hb dX4_orderArcs_55 rfl (lv_at hl 0 rfl) ?_
                  refine lv_dup hx hb dX4_orderArcs_56 rfl ?_
                  refine z_get (D := (dC, dI)) (ci := 4) (v := .int (nI ab3)) (C := RX4) (T := TX4) (N := 5) hx hb hts uX4 hown hK hP 0 rfl rfl 4 (by decide) w29 rfl rfl dX4_orderArcs_57 ?_
                  refine lv_iconst (v := nI 1) hx hb dX4_orderArcs_60 (by decide) ?_
                  refine lv_iload_n hx hb dX4_orderArcs_61 rfl (lv_at hl 2 rfl) ?_
                  refine z_ishl (v := nI (1 * 2 ^ j)) hx hb dX4_orderArcs_62 (zs_shl rfl rfl (by omega) (by omega)) ?_
                  refine z_ior (v := nI (ab3 ||| (1 * 2 ^ j))) hx hb dX4_orderArcs_63 (zs_or rfl rfl) ?_
                  refine z_put (D := (dC, dI)) (ci := 4) (v := .int (nI (ab3 ||| (1 * 2 ^ j)))) (C := RX4) (T := TX4) (N := 5) hx hb hts uX4 tyX4 tyX4_ok nmX4 hown hK hP hD hS 0 rfl rfl 4 (by decide) w29 rfl rfl rfl rfl (Nat.le_of_ble_eq_true rfl) [(k0, .inr (4, [.ref h0, .ref k1, .ref k2, .int (nI od3), .int (nI (ab3 ||| (1 * 2 ^ j)))])), (k1, .inl (cI, 488, .inl (fun z_ => iI (BE z_)))), (k2, .inl (cI, 16, .inl (fun z_ => nI (OR3 z_)))), (h0, .inr (0, [.ref a1, .ref a2, .ref a3, .ref a4, .int (nI N), .int (nI K)])), (a1, .inl (cI, 8, .inl (fun z_ => nI (T z_)))), (a2, .inl (cI, 16, .inl (fun z_ => nI (F z_)))), (a3, .inl (cI, 16, .inl (fun z_ => nI (G z_)))), (a4, .inl (cI, 16, .inl (fun z_ => nI (C z_))))] rfl dX4_orderArcs_64 (fun H locs hP hD hS => ?_)
                  refine lv_aload_n hx hb dX4_orderArcs_67 rfl (lv_at hl 0 rfl) ?_
                  refine lv_iload_n hx hb dX4_orderArcs_68 rfl (lv_at hl 2 rfl) ?_
                  refine z_callVv (As := [.int (nI j)]) (rest := []) (wr := []) ⟨hx, hb, hml, hown, hts⟩ (c_X4_orderArcsTo l dC dI cI cJ H.size k0 k1 k2 BE OR3 od3 (ab3 ||| (1 * 2 ^ j)) h0 a1 a2 a3 a4 N K T F G C j (sp_ao K G (sp_o1 K F G C (sp_o2 N K F G C q) j)) (by first | assumption | omega) (by first | assumption | omega) (by first | assumption | omega) (by first | assumption | omega) (by first | assumption | omega) (by first | assumption | omega) (by first | assumption | omega)) (cwV 1 hts gX4_orderArcs_X4_orderArcsTo rfl rfl rfl (by decide +kernel) ⟨Nat.le_of_ble_eq_true rfl, Nat.le_of_ble_eq_true rfl⟩) hA hK hP hD hS [0, 1, 2, 3, 4, 5, 6, 7] [] [0, 1, 2, 3, 4, 5, 6, 7] rfl rfl (by decide) (by decide) (by decide) nwA_ok hN (ci := 4) rfl rfl 0 rfl hl.1 (Nat.le_of_ble_eq_true rfl) ⟨Nat.le_refl _, Nat.le_refl _⟩ rfl rfl dX4_orderArcs_69 (fun (u : (Nat → Nat) × (Nat)) => [(k0, .inr (4, [.ref h0, .ref k1, .ref k2, .int (nI u.2), .int (nI (ab3 ||| (1 * 2 ^ j)))])), (k1, .inl (cI, 488, .inl (fun z_ => iI (BE z_)))), (k2, .inl (cI, 16, .inl (fun z_ => nI (u.1 z_)))), (h0, .inr (0, [.ref a1, .ref a2, .ref a3, .ref a4, .int (nI N), .int (nI K)])), (a1, .inl (cI, 8, .inl (fun z_ => nI (T z_)))), (a2, .inl (cI, 16, .inl (fun z_ => nI (F z_)))), (a3, .inl (cI, 16, .inl (fun z_ => nI (G z_)))), (a4, .inl (cI, 16, .inl (fun z_ => nI (C z_))))]) (fun u => rfl) (by decide) (fun u H locs hw hP hD hS => ?_)
                  obtain ⟨OR2_69, od2_69⟩ := u
                  have hP : va_P (dC, dI) vwCl [(k0, .inr (4, [.ref h0, .ref k1, .ref k2, .int (nI od2_69), .int (nI (ab3 ||| (1 * 2 ^ j)))])), (k1, .inl (cI, 488, .inl (fun z_ => iI (BE z_)))), (k2, .inl (cI, 16, .inl (fun z_ => nI (OR2_69 z_)))), (h0, .inr (0, [.ref a1, .ref a2, .ref a3, .ref a4, .int (nI N), .int (nI K)])), (a1, .inl (cI, 8, .inl (fun z_ => nI (T z_)))), (a2, .inl (cI, 16, .inl (fun z_ => nI (F z_)))), (a3, .inl (cI, 16, .inl (fun z_ => nI (G z_)))), (a4, .inl (cI, 16, .inl (fun z_ => nI (C z_))))] H := hP
                  have hD : va_D A [(k0, .inr (4, [.ref h0, .ref k1, .ref k2, .int (nI od2_69), .int (nI (ab3 ||| (1 * 2 ^ j)))])), (k1, .inl (cI, 488, .inl (fun z_ => iI (BE z_)))), (k2, .inl (cI, 16, .inl (fun z_ => nI (OR2_69 z_)))), (h0, .inr (0, [.ref a1, .ref a2, .ref a3, .ref a4, .int (nI N), .int (nI K)])), (a1, .inl (cI, 8, .inl (fun z_ => nI (T z_)))), (a2, .inl (cI, 16, .inl (fun z_ => nI (F z_)))), (a3, .inl (cI, 16, .inl (fun z_ => nI (G z_)))), (a4, .inl (cI, 16, .inl (fun z_ => nI (C z_))))] := hD
                  obtain ⟨p69_0, p69_1, p69_2⟩ := hw
                  have p69_0 : od2_69 = ((sp_ao K G (sp_o1 K F G C (sp_o2 N K F G C q) j)) ++ sp_to K G j).length := p69_0
                  have p69_1 : ∀ i, i < od2_69 → OR2_69 i = ((sp_ao K G (sp_o1 K F G C (sp_o2 N K F G C q) j)) ++ sp_to K G j).getD i 0 := p69_1
                  have p69_2 : ∀ i, OR2_69 i < 16 := p69_2
                  refine lv_iinc (v := (nI (j + 1))) (lv' := [(2, .int (nI (j + 1))), (0, .ref k0), (1, .int (nI q))]) hx hb dX4_orderArcs_72 hl (k := 2) rfl (z_incN j 1 (by decide)) (by decide) rfl (fun ls hl => ?_)
                  refine lv_goto (tgt := 25) hx hb dX4_orderArcs_75 (by decide) ?_
                  have o_i2 : (j + 1) ≤ N := by first | assumption | omega
                  have o_n1 : sp_bs (sp_o1 K F G C (sp_o2 N K F G C q) (j + 1)) (ab3 ||| (1 * 2 ^ j)) := by rw [es]; (first | exact n1 | exact hb2)
                  have o_n2 : od2_69 = (sp_ao K G (sp_o1 K F G C (sp_o2 N K F G C q) (j + 1))).length := by rw [es]; (first | exact n2 | exact p69_0)
                  have o_n3 : ∀ i, i < od2_69 → OR2_69 i = (sp_ao K G (sp_o1 K F G C (sp_o2 N K F G C q) (j + 1))).getD i 0 := by rw [es]; (first | exact n3 | exact p69_1)
                  have o_n4 : ∀ i, OR2_69 i < 16 := by first | exact n4 | exact p69_2
                  have o_mu : (N - (j + 1)) < n25 := by omega
                  exact ih25 (j + 1) OR2_69 od2_69 (ab3 ||| (1 * 2 ^ j)) o_mu o_i2 o_n1 o_n2 o_n3 o_n4 H locs hP hD hS ls (lv_sub hl [1, 2, 0] rfl)
        have o_i2 : 0 ≤ N := by first | assumption | omega
        have o_n1 : sp_bs (sp_o1 K F G C (sp_o2 N K F G C q) 0) ab1 := by exact m1
        have o_n2 : od1 = (sp_ao K G (sp_o1 K F G C (sp_o2 N K F G C q) 0)).length := by exact m2
        have o_n3 : ∀ i, i < od1 → OR1 i = (sp_ao K G (sp_o1 K F G C (sp_o2 N K F G C q) 0)).getD i 0 := by exact m3
        have o_n4 : ∀ i, OR1 i < 16 := by exact m4
        exact L25 ((N - 0) + 1) 0 OR1 od1 ab1 (Nat.lt_succ_self _) o_i2 o_n1 o_n2 o_n3 o_n4 H locs hP hD hS ls (lv_sub hl [1, 2, 0] rfl)
  have o_i1 : 0 ≤ N := by first | assumption | omega
  have o_m1 : sp_bs (sp_o2 N K F G C 0) 0 := by exact sp_bs_0
  have o_m2 : 0 = (sp_ao K G (sp_o2 N K F G C 0)).length := by rfl
  have o_m3 : ∀ i, i < 0 → OR i = (sp_ao K G (sp_o2 N K F G C 0)).getD i 0 := by intro i h; omega
  have o_m4 : ∀ i, OR i < 16 := by exact bOR
  exact L12 ((N - 0) + 1) 0 OR 0 0 (Nat.lt_succ_self _) o_i1 o_m1 o_m2 o_m3 o_m4 H locs hP hD hS ls (lv_sub hl [1, 0] rfl)

set_option maxHeartbeats 4000000 in
set_option maxRecDepth 100000 in
theorem c_X4_doneAt (l : Launch) (dC : Nat → ClassId) (dI : Nat → Nat → Nat) (cI cJ : ClassId) (sz : Nat) (k0 : Nat) (k1 : Nat) (k2 : Nat) (BE : Nat → Int) (od : Nat) (ab : Nat) (h0 : Nat) (a1 : Nat) (a2 : Nat) (a3 : Nat) (a4 : Nat) (N : Nat) (K : Nat) (T : Nat → Nat) (F : Nat → Nat) (G : Nat → Nat) (C : Nat → Nat) (ac : Nat) (w : Nat) (bF : ∀ a, F a < 8) (bC : ∀ a, C a ≤ 9) (bT : ∀ i, T i ≤ 20) (bac : ac < 16) (bw : w ≤ 60) (bcw : C ac ≤ w) (bbe : -9 ≤ BE ((w - C ac) * 8 + F ac) ∧ BE ((w - C ac) * 8 + F ac) ≤ 50000) : Met l yX4_doneAt wsX4_doneAt (zR 0 0 0 0) (va_Pc [.ref k0, .int (nI ac), .int (nI w)] (zP (dC, dI) [(cI, .int), (cJ, .long)] [(k0, .inr (4, [.ref h0, .ref k1, .ref k2, .int (nI od), .int (nI ab)])), (k1, .inl (cI, 488, .inl (fun z_ => iI (BE z_)))), (h0, .inr (0, [.ref a1, .ref a2, .ref a3, .ref a4, .int (nI N), .int (nI K)])), (a1, .inl (cI, 8, .inl (fun z_ => nI (T z_)))), (a2, .inl (cI, 16, .inl (fun z_ => nI (F z_)))), (a3, .inl (cI, 16, .inl (fun z_ => nI (G z_)))), (a4, .inl (cI, 16, .inl (fun z_ => nI (C z_))))] sz nwA)) (va_Qi (fun (r : Int32) (u : (Int)) => r = (iI u) ∧ (u = sp_dn (BE ((w - C ac) * 8 + F ac)) (T (F ac)))) (zB (dC, dI) (fun (u : (Int)) => [(k0, .inr (4, [.ref h0, .ref k1, .ref k2, .int (nI od), .int (nI ab)])), (k1, .inl (cI, 488, .inl (fun z_ => iI (BE z_)))), (h0, .inr (0, [.ref a1, .ref a2, .ref a3, .ref a4, .int (nI N), .int (nI K)])), (a1, .inl (cI, 8, .inl (fun z_ => nI (T z_)))), (a2, .inl (cI, 16, .inl (fun z_ => nI (F z_)))), (a3, .inl (cI, 16, .inl (fun z_ => nI (G z_)))), (a4, .inl (cI, 16, .inl (fun z_ => nI (C z_))))]) (va_A [(k0, .inr (4, [.ref h0, .ref k1, .ref k2, .int (nI od), .int (nI ab)])), (k1, .inl (cI, 488, .inl (fun z_ => iI (BE z_)))), (h0, .inr (0, [.ref a1, .ref a2, .ref a3, .ref a4, .int (nI N), .int (nI K)])), (a1, .inl (cI, 8, .inl (fun z_ => nI (T z_)))), (a2, .inl (cI, 16, .inl (fun z_ => nI (F z_)))), (a3, .inl (cI, 16, .inl (fun z_ => nI (G z_)))), (a4, .inl (cI, 16, .inl (fun z_ => nI (C z_))))] sz)) (va_A [(k0, .inr (4, [.ref h0, .ref k1, .ref k2, .int (nI od), .int (nI ab)])), (k1, .inl (cI, 488, .inl (fun z_ => iI (BE z_)))), (h0, .inr (0, [.ref a1, .ref a2, .ref a3, .ref a4, .int (nI N), .int (nI K)])), (a1, .inl (cI, 8, .inl (fun z_ => nI (T z_)))), (a2, .inl (cI, 16, .inl (fun z_ => nI (F z_)))), (a3, .inl (cI, 16, .inl (fun z_ => nI (G z_)))), (a4, .inl (cI, 16, .inl (fun z_ => nI (C z_))))] sz)) 0 0 (va_A [(k0, .inr (4, [.ref h0, .ref k1, .ref k2, .int (nI od), .int (nI ab)])), (k1, .inl (cI, 488, .inl (fun z_ => iI (BE z_)))), (h0, .inr (0, [.ref a1, .ref a2, .ref a3, .ref a4, .int (nI N), .int (nI K)])), (a1, .inl (cI, 8, .inl (fun z_ => nI (T z_)))), (a2, .inl (cI, 16, .inl (fun z_ => nI (F z_)))), (a3, .inl (cI, 16, .inl (fun z_ => nI (G z_)))), (a4, .inl (cI, 16, .inl (fun z_ => nI (C z_))))] sz) := by
  refine z_met_i (cc := cX4_doneAt) (maxL := 5) (by decide) rfl (Nat.le_of_ble_eq_true rfl) ?_
  intro p e s m args below meth c Q A ls hx hb hml hown hts hin hA hK hP hD hN hl hRET
  have hown : s.vm.findClass RX4 = some m.cls := hown
  obtain ⟨H, eH⟩ : ∃ H : Heap, H = s.heap := ⟨_, rfl⟩
  rw [← eH] at hP
  obtain ⟨locs, eL⟩ : ∃ z : List Loc, z = [] := ⟨_, rfl⟩
  rw [← eH, ← eL]
  have hS : va_S A s.heap H locs := by rw [eH, eL]; exact va_S.rf
  have hl : lv_has ls 5 [(0, .ref k0), (1, .int (nI ac)), (2, .int (nI w))] := hl
  have w18 := hts (.fieldLink RX4 18 "PullCards$Works" "line" "LPullCards$Line;") (by decide +kernel)
  have uX4 : ∀ w ∈ wsX40, w ∈ wsX4_doneAt := by decide +kernel
  have w57 := hts (.fieldLink RX4 57 "PullCards$Line" "froms" "[I") (by decide +kernel)
  have uX0 : ∀ w ∈ wsX00, w ∈ wsX4_doneAt := by decide +kernel
  have w9 := hts (.fieldLink RX4 9 "PullCards$Works" "beginnings" "[I") (by decide +kernel)
  have w54 := hts (.fieldLink RX4 54 "PullCards$Line" "cards" "[I") (by decide +kernel)
  have w67 := hts (.fieldLink RX4 67 "PullCards$Line" "times" "[I") (by decide +kernel)
  refine lv_aload_n hx hb dX4_doneAt_0 rfl (lv_at hl 0 rfl) ?_
  refine z_get (D := (dC, dI)) (ci := 4) (v := .ref h0) (C := RX4) (T := TX4) (N := 5) hx hb hts uX4 hown hK hP 0 rfl rfl 0 (by decide) w18 rfl rfl dX4_doneAt_1 ?_
  refine z_get (D := (dC, dI)) (ci := 0) (v := .ref a2) (C := RX0) (T := TX0) (N := 6) hx hb hts uX0 hown hK hP 2 rfl rfl 1 (by decide) w57 rfl rfl dX4_doneAt_4 ?_
  refine lv_iload_n hx hb dX4_doneAt_7 rfl (lv_at hl 1 rfl) ?_
  refine z_iald (v := (nI (F ac))) hx hb hK hP 4 0 rfl rfl ac rfl (by omega) rfl dX4_doneAt_8 ?_
  have f8_0 := bF ac
  refine lv_istore_n (lv' := [(3, .int (nI (F ac))), (0, .ref k0), (1, .int (nI ac)), (2, .int (nI w))]) hx hb dX4_doneAt_9 rfl hl (by decide) rfl (fun ls hl => ?_)
  refine lv_aload_n hx hb dX4_doneAt_10 rfl (lv_at hl 1 rfl) ?_
  refine z_get (D := (dC, dI)) (ci := 4) (v := .ref k1) (C := RX4) (T := TX4) (N := 5) hx hb hts uX4 hown hK hP 0 rfl rfl 1 (by decide) w9 rfl rfl dX4_doneAt_11 ?_
  refine lv_iload_n hx hb dX4_doneAt_14 rfl (lv_at hl 3 rfl) ?_
  refine lv_aload_n hx hb dX4_doneAt_15 rfl (lv_at hl 1 rfl) ?_
  refine z_get (D := (dC, dI)) (ci := 4) (v := .ref h0) (C := RX4) (T := TX4) (N := 5) hx hb hts uX4 hown hK hP 0 rfl rfl 0 (by decide) w18 rfl rfl dX4_doneAt_16 ?_
  refine z_get (D := (dC, dI)) (ci := 0) (v := .ref a4) (C := RX0) (T := TX0) (N := 6) hx hb hts uX0 hown hK hP 2 rfl rfl 3 (by decide) w54 rfl rfl dX4_doneAt_19 ?_
  refine lv_iload_n hx hb dX4_doneAt_22 rfl (lv_at hl 2 rfl) ?_
  refine z_iald (v := (nI (C ac))) hx hb hK hP 6 0 rfl rfl ac rfl (by omega) rfl dX4_doneAt_23 ?_
  have f23_0 := bC ac
  refine z_isub (v := (nI (w - (C ac)))) hx hb dX4_doneAt_24 (pk_sub (by omega)) ?_
  refine lv_bipush (v := nI 8) hx hb dX4_doneAt_25 (by decide) ?_
  refine z_imul (v := (nI ((w - (C ac)) * 8))) hx hb dX4_doneAt_27 (pk_mul _ _) ?_
  refine lv_iload_n hx hb dX4_doneAt_28 rfl (lv_at hl 0 rfl) ?_
  refine z_iadd (v := (nI (((w - (C ac)) * 8) + (F ac)))) hx hb dX4_doneAt_29 (nI_add _ _) ?_
  refine z_iald (v := (iI (BE (((w - (C ac)) * 8) + (F ac))))) hx hb hK hP 1 0 rfl rfl (((w - (C ac)) * 8) + (F ac)) rfl (by omega) rfl dX4_doneAt_30 ?_
  refine lv_istore (lv' := [(4, .int (iI (BE (((w - (C ac)) * 8) + (F ac))))), (3, .int (nI (F ac))), (0, .ref k0), (1, .int (nI ac)), (2, .int (nI w))]) hx hb dX4_doneAt_31 hl (by decide) rfl (fun ls hl => ?_)
  refine lv_iload hx hb dX4_doneAt_33 (lv_at hl 0 rfl) ?_
  refine lv_bipush (v := iI (-9)) hx hb dX4_doneAt_35 (by decide) ?_
  refine z_icmp_ne (tgt := 45) hx hb dX4_doneAt_37 (by decide) (zc_eq (a := BE (((w - (C ac)) * 8) + (F ac))) (b := -9) rfl rfl (by omega)) (fun c_37 => ?_) (fun c_37 => ?_)
  · skip
    refine lv_iload hx hb dX4_doneAt_45 (lv_at hl 0 rfl) ?_
    refine lv_aload_n hx hb dX4_doneAt_47 rfl (lv_at hl 2 rfl) ?_
    refine z_get (D := (dC, dI)) (ci := 4) (v := .ref h0) (C := RX4) (T := TX4) (N := 5) hx hb hts uX4 hown hK hP 0 rfl rfl 0 (by decide) w18 rfl rfl dX4_doneAt_48 ?_
    refine z_get (D := (dC, dI)) (ci := 0) (v := .ref a1) (C := RX0) (T := TX0) (N := 6) hx hb hts uX0 hown hK hP 2 rfl rfl 0 (by decide) w67 rfl rfl dX4_doneAt_51 ?_
    refine lv_iload_n hx hb dX4_doneAt_54 rfl (lv_at hl 1 rfl) ?_
    refine z_iald (v := (nI (T (F ac)))) hx hb hK hP 3 0 rfl rfl (F ac) rfl (by omega) rfl dX4_doneAt_55 ?_
    have f55_0 := bT (F ac)
    refine z_iadd (v := (iI ((BE (((w - (C ac)) * 8) + (F ac))) + ((T (F ac) : Nat) : Int)))) hx hb dX4_doneAt_56 (za_add rfl (iI_N _)) ?_
    have q_0 : ((BE (((w - (C ac)) * 8) + (F ac))) + ((T (F ac) : Nat) : Int)) = sp_dn (BE ((w - C ac) * 8 + F ac)) (T (F ac)) := by unfold sp_dn; (first | rw [if_pos (by omega)] | rw [if_neg (by omega)])
    exact hRET _ ls H locs ((iI ((BE (((w - (C ac)) * 8) + (F ac))) + ((T (F ac) : Nat) : Int)))) ((BE (((w - (C ac)) * 8) + (F ac))) + ((T (F ac) : Nat) : Int)) dX4_doneAt_57 ⟨rfl, q_0⟩ hP hD hS
  · skip
    refine lv_bipush (v := iI (-9)) hx hb dX4_doneAt_40 (by decide) ?_
    refine lv_goto (tgt := 57) hx hb dX4_doneAt_42 (by decide) ?_
    have q_0 : (-9 : Int) = sp_dn (BE ((w - C ac) * 8 + F ac)) (T (F ac)) := by unfold sp_dn; (first | rw [if_pos (by omega)] | rw [if_neg (by omega)])
    exact hRET _ ls H locs ((iI (-9))) ((-9 : Int)) dX4_doneAt_57 ⟨rfl, q_0⟩ hP hD hS

set_option maxHeartbeats 4000000 in
set_option maxRecDepth 100000 in
theorem c_X4_beginAll (l : Launch) (dC : Nat → ClassId) (dI : Nat → Nat → Nat) (cI cJ : ClassId) (sz : Nat) (k0 : Nat) (k1 : Nat) (k2 : Nat) (BE : Nat → Int) (OR : Nat → Nat) (od : Nat) (ab : Nat) (h0 : Nat) (a1 : Nat) (a2 : Nat) (a3 : Nat) (a4 : Nat) (N : Nat) (K : Nat) (T : Nat → Nat) (F : Nat → Nat) (G : Nat → Nat) (C : Nat → Nat) (w : Nat) (bN : N ≤ 8) (bK : K ≤ 16) (bC : ∀ a, C a ≤ 9) (bF : ∀ a, F a < 8) (bG : ∀ a, G a < 8) (bT : ∀ i, T i ≤ 20) (bOR : ∀ i, OR i < 16) (bFN : ∀ a, a < K → F a < N ∧ G a < N) (bw : w ≤ 60) (hab : sp_bs (sp_so N K F G C) ab) (hod : od = (sp_ao K G (sp_so N K F G C)).length) (hor : ∀ i, i < od → OR i = (sp_ao K G (sp_so N K F G C)).getD i 0) (hbe : ∀ x, x < w → ∀ v, v < N → BE (x * 8 + v) = (sp_V N K T F G C) x v) : Met l yX4_beginAll wsX4_beginAll (zR 2 0 0 46) (va_Pc [.ref k0, .int (nI w)] (zP (dC, dI) [(cI, .int), (cJ, .long)] [(k0, .inr (4, [.ref h0, .ref k1, .ref k2, .int (nI od), .int (nI ab)])), (k1, .inl (cI, 488, .inl (fun z_ => iI (BE z_)))), (k2, .inl (cI, 16, .inl (fun z_ => nI (OR z_)))), (h0, .inr (0, [.ref a1, .ref a2, .ref a3, .ref a4, .int (nI N), .int (nI K)])), (a1, .inl (cI, 8, .inl (fun z_ => nI (T z_)))), (a2, .inl (cI, 16, .inl (fun z_ => nI (F z_)))), (a3, .inl (cI, 16, .inl (fun z_ => nI (G z_)))), (a4, .inl (cI, 16, .inl (fun z_ => nI (C z_))))] sz nwA)) (va_Qv (fun (u : (Nat → Int)) => (∀ x, x < w + 1 → ∀ v, v < N → u (x * 8 + v) = (sp_V N K T F G C) x v)) (zB (dC, dI) (fun (u : (Nat → Int)) => [(k0, .inr (4, [.ref h0, .ref k1, .ref k2, .int (nI od), .int (nI ab)])), (k1, .inl (cI, 488, .inl (fun z_ => iI (u z_)))), (k2, .inl (cI, 16, .inl (fun z_ => nI (OR z_)))), (h0, .inr (0, [.ref a1, .ref a2, .ref a3, .ref a4, .int (nI N), .int (nI K)])), (a1, .inl (cI, 8, .inl (fun z_ => nI (T z_)))), (a2, .inl (cI, 16, .inl (fun z_ => nI (F z_)))), (a3, .inl (cI, 16, .inl (fun z_ => nI (G z_)))), (a4, .inl (cI, 16, .inl (fun z_ => nI (C z_))))]) (va_A [(k0, .inr (4, [.ref h0, .ref k1, .ref k2, .int (nI od), .int (nI ab)])), (k1, .inl (cI, 488, .inl (fun z_ => iI (BE z_)))), (k2, .inl (cI, 16, .inl (fun z_ => nI (OR z_)))), (h0, .inr (0, [.ref a1, .ref a2, .ref a3, .ref a4, .int (nI N), .int (nI K)])), (a1, .inl (cI, 8, .inl (fun z_ => nI (T z_)))), (a2, .inl (cI, 16, .inl (fun z_ => nI (F z_)))), (a3, .inl (cI, 16, .inl (fun z_ => nI (G z_)))), (a4, .inl (cI, 16, .inl (fun z_ => nI (C z_))))] sz)) (va_A [(k0, .inr (4, [.ref h0, .ref k1, .ref k2, .int (nI od), .int (nI ab)])), (k1, .inl (cI, 488, .inl (fun z_ => iI (BE z_)))), (k2, .inl (cI, 16, .inl (fun z_ => nI (OR z_)))), (h0, .inr (0, [.ref a1, .ref a2, .ref a3, .ref a4, .int (nI N), .int (nI K)])), (a1, .inl (cI, 8, .inl (fun z_ => nI (T z_)))), (a2, .inl (cI, 16, .inl (fun z_ => nI (F z_)))), (a3, .inl (cI, 16, .inl (fun z_ => nI (G z_)))), (a4, .inl (cI, 16, .inl (fun z_ => nI (C z_))))] sz)) 0 0 (va_A [(k0, .inr (4, [.ref h0, .ref k1, .ref k2, .int (nI od), .int (nI ab)])), (k1, .inl (cI, 488, .inl (fun z_ => iI (BE z_)))), (k2, .inl (cI, 16, .inl (fun z_ => nI (OR z_)))), (h0, .inr (0, [.ref a1, .ref a2, .ref a3, .ref a4, .int (nI N), .int (nI K)])), (a1, .inl (cI, 8, .inl (fun z_ => nI (T z_)))), (a2, .inl (cI, 16, .inl (fun z_ => nI (F z_)))), (a3, .inl (cI, 16, .inl (fun z_ => nI (G z_)))), (a4, .inl (cI, 16, .inl (fun z_ => nI (C z_))))] sz) := by
  refine z_met_v (cc := cX4_beginAll) (maxL := 6) (by decide) rfl (Nat.le_of_ble_eq_true rfl) ?_
  intro p e s m args below meth c Q A ls hx hb hml hown hts hin hA hK hP hD hN hl hRET
  have hown : s.vm.findClass RX4 = some m.cls := hown
  obtain ⟨H, eH⟩ : ∃ H : Heap, H = s.heap := ⟨_, rfl⟩
  rw [← eH] at hP
  obtain ⟨locs, eL⟩ : ∃ z : List Loc, z = [] := ⟨_, rfl⟩
  rw [← eH, ← eL]
  have hS : va_S A s.heap H locs := by rw [eH, eL]; exact va_S.rf
  have hl : lv_has ls 6 [(0, .ref k0), (1, .int (nI w))] := hl
  have w18 := hts (.fieldLink RX4 18 "PullCards$Works" "line" "LPullCards$Line;") (by decide +kernel)
  have uX4 : ∀ w ∈ wsX40, w ∈ wsX4_beginAll := by decide +kernel
  have w36 := hts (.fieldLink RX4 36 "PullCards$Line" "stations" "I") (by decide +kernel)
  have uX0 : ∀ w ∈ wsX00, w ∈ wsX4_beginAll := by decide +kernel
  have w9 := hts (.fieldLink RX4 9 "PullCards$Works" "beginnings" "[I") (by decide +kernel)
  have w29 := hts (.fieldLink RX4 29 "PullCards$Works" "able" "I") (by decide +kernel)
  have w33 := hts (.fieldLink RX4 33 "PullCards$Works" "ordered" "I") (by decide +kernel)
  have w15 := hts (.fieldLink RX4 15 "PullCards$Works" "order" "[I") (by decide +kernel)
  have w54 := hts (.fieldLink RX4 54 "PullCards$Line" "cards" "[I") (by decide +kernel)
  have w51 := hts (.fieldLink RX4 51 "PullCards$Line" "tos" "[I") (by decide +kernel)
  have hps := hab.1
  have hol : od ≤ 16 := by have := sp_ao_len (K := K) (G := G) _ (sp_good_nd _ (sp_so_good N K F G C)); omega
  refine lv_iload_n hx hb dX4_beginAll_0 rfl (lv_at hl 1 rfl) ?_
  refine lv_bipush (v := nI 8) hx hb dX4_beginAll_1 (by decide) ?_
  refine z_imul (v := (nI (w * 8))) hx hb dX4_beginAll_3 (pk_mul _ _) ?_
  refine lv_istore_n (lv' := [(2, .int (nI (w * 8))), (0, .ref k0), (1, .int (nI w))]) hx hb dX4_beginAll_4 rfl hl (by decide) rfl (fun ls hl => ?_)
  refine lv_iconst (v := nI 0) hx hb dX4_beginAll_5 (by decide) ?_
  refine lv_istore_n (lv' := [(3, .int (nI 0)), (2, .int (nI (w * 8))), (0, .ref k0), (1, .int (nI w))]) hx hb dX4_beginAll_6 rfl hl (by decide) rfl (fun ls hl => ?_)
  have L7 : ∀ (n7 : Nat) (j : Nat) (BE1 : Nat → Int), (N - j) < n7 → (j ≤ N) → (∀ x, x < w → ∀ v, v < N → BE1 (x * 8 + v) = (sp_V N K T F G C) x v) → (∀ v, v < j → BE1 (w * 8 + v) = if v ∈ (sp_so N K F G C) then 0 else -9) → ∀ (H : Heap) (locs : List Loc), va_P (dC, dI) vwCl [(k0, .inr (4, [.ref h0, .ref k1, .ref k2, .int (nI od), .int (nI ab)])), (k1, .inl (cI, 488, .inl (fun z_ => iI (BE1 z_)))), (k2, .inl (cI, 16, .inl (fun z_ => nI (OR z_)))), (h0, .inr (0, [.ref a1, .ref a2, .ref a3, .ref a4, .int (nI N), .int (nI K)])), (a1, .inl (cI, 8, .inl (fun z_ => nI (T z_)))), (a2, .inl (cI, 16, .inl (fun z_ => nI (F z_)))), (a3, .inl (cI, 16, .inl (fun z_ => nI (G z_)))), (a4, .inl (cI, 16, .inl (fun z_ => nI (C z_))))] H → va_D A [(k0, .inr (4, [.ref h0, .ref k1, .ref k2, .int (nI od), .int (nI ab)])), (k1, .inl (cI, 488, .inl (fun z_ => iI (BE1 z_)))), (k2, .inl (cI, 16, .inl (fun z_ => nI (OR z_)))), (h0, .inr (0, [.ref a1, .ref a2, .ref a3, .ref a4, .int (nI N), .int (nI K)])), (a1, .inl (cI, 8, .inl (fun z_ => nI (T z_)))), (a2, .inl (cI, 16, .inl (fun z_ => nI (F z_)))), (a3, .inl (cI, 16, .inl (fun z_ => nI (G z_)))), (a4, .inl (cI, 16, .inl (fun z_ => nI (C z_))))] → va_S A s.heap H locs → ∀ (ls : Array Slot), lv_has ls 6 [(0, .ref k0), (1, .int (nI w)), (2, .int (nI (w * 8))), (3, .int (nI j))] → W p l e (zR 2 0 0 46) s m args below meth c H locs 0 0 Q (F0 m 7 ls []) := by
    intro n7
    induction n7 with
    | zero => intro j BE1 hn; exact absurd hn (Nat.not_lt_zero _)
    | succ n7 ih =>
      intro j BE1 hn i1 i2 i3 H locs hP hD hS ls hl
      have ih7 := ih
      have hn7 := hn
      clear ih hn
      refine lv_iload_n hx hb dX4_beginAll_7 rfl (lv_at hl 3 rfl) ?_
      refine lv_aload_n hx hb dX4_beginAll_8 rfl (lv_at hl 0 rfl) ?_
      refine z_get (D := (dC, dI)) (ci := 4) (v := .ref h0) (C := RX4) (T := TX4) (N := 5) hx hb hts uX4 hown hK hP 0 rfl rfl 0 (by decide) w18 rfl rfl dX4_beginAll_9 ?_
      refine z_get (D := (dC, dI)) (ci := 0) (v := .int (nI N)) (C := RX0) (T := TX0) (N := 6) hx hb hts uX0 hown hK hP 3 rfl rfl 4 (by decide) w36 rfl rfl dX4_beginAll_12 ?_
      refine z_icmp_ge (tgt := 50) hx hb dX4_beginAll_15 (by decide) (zcn_le (a := N) (b := j) rfl rfl (by omega)) (fun c_15 => ?_) (fun c_15 => ?_)
      · skip
        refine lv_iconst (v := nI 0) hx hb dX4_beginAll_50 (by decide) ?_
        refine lv_istore_n (lv' := [(3, .int (nI 0)), (0, .ref k0), (1, .int (nI w)), (2, .int (nI (w * 8)))]) hx hb dX4_beginAll_51 rfl hl (by decide) rfl (fun ls hl => ?_)
        have L52 : ∀ (n52 : Nat) (i : Nat) (BE3 : Nat → Int), (od - i) < n52 → (i ≤ od) → (∀ x, x < w → ∀ v, v < N → BE3 (x * 8 + v) = (sp_V N K T F G C) x v) → (∀ v, v < N → BE3 (w * 8 + v) = if v ∈ (sp_so N K F G C) then ((sp_ao K G (sp_so N K F G C)).take i).foldl (sp_ac T F G C w v (sp_V N K T F G C)) 0 else -9) → ∀ (H : Heap) (locs : List Loc), va_P (dC, dI) vwCl [(k0, .inr (4, [.ref h0, .ref k1, .ref k2, .int (nI od), .int (nI ab)])), (k1, .inl (cI, 488, .inl (fun z_ => iI (BE3 z_)))), (k2, .inl (cI, 16, .inl (fun z_ => nI (OR z_)))), (h0, .inr (0, [.ref a1, .ref a2, .ref a3, .ref a4, .int (nI N), .int (nI K)])), (a1, .inl (cI, 8, .inl (fun z_ => nI (T z_)))), (a2, .inl (cI, 16, .inl (fun z_ => nI (F z_)))), (a3, .inl (cI, 16, .inl (fun z_ => nI (G z_)))), (a4, .inl (cI, 16, .inl (fun z_ => nI (C z_))))] H → va_D A [(k0, .inr (4, [.ref h0, .ref k1, .ref k2, .int (nI od), .int (nI ab)])), (k1, .inl (cI, 488, .inl (fun z_ => iI (BE3 z_)))), (k2, .inl (cI, 16, .inl (fun z_ => nI (OR z_)))), (h0, .inr (0, [.ref a1, .ref a2, .ref a3, .ref a4, .int (nI N), .int (nI K)])), (a1, .inl (cI, 8, .inl (fun z_ => nI (T z_)))), (a2, .inl (cI, 16, .inl (fun z_ => nI (F z_)))), (a3, .inl (cI, 16, .inl (fun z_ => nI (G z_)))), (a4, .inl (cI, 16, .inl (fun z_ => nI (C z_))))] → va_S A s.heap H locs → ∀ (ls : Array Slot), lv_has ls 6 [(0, .ref k0), (1, .int (nI w)), (2, .int (nI (w * 8))), (3, .int (nI i))] → W p l e (zR 2 0 0 46) s m args below meth c H locs 0 0 Q (F0 m 52 ls []) := by
          intro n52
          induction n52 with
          | zero => intro i BE3 hn; exact absurd hn (Nat.not_lt_zero _)
          | succ n52 ih =>
            intro i BE3 hn k1i k2i k3i H locs hP hD hS ls hl
            have ih52 := ih
            have hn52 := hn
            clear ih hn
            refine lv_iload_n hx hb dX4_beginAll_52 rfl (lv_at hl 3 rfl) ?_
            refine lv_aload_n hx hb dX4_beginAll_53 rfl (lv_at hl 0 rfl) ?_
            refine z_get (D := (dC, dI)) (ci := 4) (v := .int (nI od)) (C := RX4) (T := TX4) (N := 5) hx hb hts uX4 hown hK hP 0 rfl rfl 3 (by decide) w33 rfl rfl dX4_beginAll_54 ?_
            refine z_icmp_ge (tgt := 126) hx hb dX4_beginAll_57 (by decide) (zcn_le (a := od) (b := i) rfl rfl (by omega)) (fun c_57 => ?_) (fun c_57 => ?_)
            · skip
              have q_0 : ∀ x, x < w + 1 → ∀ v, v < N → BE3 (x * 8 + v) = (sp_V N K T F G C) x v := by exact lt_s k2i (fun v hv => by rw [k3i v hv, show i = (sp_ao K G (sp_so N K F G C)).length from by omega, List.take_length]; (by_cases q : v ∈ (sp_so N K F G C)); (rw [if_pos q]; exact sp_full bN q (sp_ao_f _ (sp_so_good N K F G C) q)); (rw [if_neg q, sp_V_out q]))
              exact hRET _ ls H locs (BE3) dX4_beginAll_126 q_0 hP hD hS
            · skip
              refine lv_aload_n hx hb dX4_beginAll_60 rfl (lv_at hl 0 rfl) ?_
              refine z_get (D := (dC, dI)) (ci := 4) (v := .ref k2) (C := RX4) (T := TX4) (N := 5) hx hb hts uX4 hown hK hP 0 rfl rfl 2 (by decide) w15 rfl rfl dX4_beginAll_61 ?_
              refine lv_iload_n hx hb dX4_beginAll_64 rfl (lv_at hl 3 rfl) ?_
              refine z_iald (v := (nI (OR i))) hx hb hK hP 2 0 rfl rfl i rfl (by omega) rfl dX4_beginAll_65 ?_
              have f65_0 := bOR i
              have hor2 := hor i (by omega)
              have hkey := (sp_ao_key _ (sp_so_good N K F G C) i (by omega))
              obtain ⟨ac, eac⟩ : ∃ z : Nat, z = (OR i) := ⟨_, rfl⟩
              refine z_c0 (v := nI ac) (by rw [eac]) ?_
              refine lv_istore (lv' := [(4, .int (nI ac)), (0, .ref k0), (1, .int (nI w)), (2, .int (nI (w * 8))), (3, .int (nI i))]) hx hb dX4_beginAll_66 hl (by decide) rfl (fun ls hl => ?_)
              have hac : (sp_ao K G (sp_so N K F G C)).getD i 0 = ac := by rw [eac]; exact hor2.symm
              rw [hac] at hkey
              have hgN := (bFN ac hkey.1).2
              have hfN := (bFN ac hkey.1).1
              have hac16 : ac < 16 := by omega
              have hst := fun v => sp_tk (l := (sp_ao K G (sp_so N K F G C))) (i := i) (by omega) (sp_ac T F G C w v (sp_V N K T F G C)) 0
              rw [hac] at hst
              refine lv_iload_n hx hb dX4_beginAll_68 rfl (lv_at hl 2 rfl) ?_
              refine lv_aload_n hx hb dX4_beginAll_69 rfl (lv_at hl 1 rfl) ?_
              refine z_get (D := (dC, dI)) (ci := 4) (v := .ref h0) (C := RX4) (T := TX4) (N := 5) hx hb hts uX4 hown hK hP 0 rfl rfl 0 (by decide) w18 rfl rfl dX4_beginAll_70 ?_
              refine z_get (D := (dC, dI)) (ci := 0) (v := .ref a4) (C := RX0) (T := TX0) (N := 6) hx hb hts uX0 hown hK hP 3 rfl rfl 3 (by decide) w54 rfl rfl dX4_beginAll_73 ?_
              refine lv_iload hx hb dX4_beginAll_76 (lv_at hl 0 rfl) ?_
              refine z_iald (v := (nI (C ac))) hx hb hK hP 7 0 rfl rfl ac rfl (by omega) rfl dX4_beginAll_78 ?_
              have f78_0 := bC ac
              refine z_icmp_lt (tgt := 120) hx hb dX4_beginAll_79 (by decide) (zcn_lt (a := w) (b := C ac) rfl rfl (by omega)) (fun c_79 => ?_) (fun c_79 => ?_)
              · skip
                refine lv_iinc (v := (nI (i + 1))) (lv' := [(3, .int (nI (i + 1))), (4, .int (nI ac)), (0, .ref k0), (1, .int (nI w)), (2, .int (nI (w * 8)))]) hx hb dX4_beginAll_120 hl (k := 4) rfl (z_incN i 1 (by decide)) (by decide) rfl (fun ls hl => ?_)
                refine lv_goto (tgt := 52) hx hb dX4_beginAll_123 (by decide) ?_
                have o_k1i : (i + 1) ≤ od := by first | assumption | omega
                have o_k2i : ∀ x, x < w → ∀ v, v < N → BE3 (x * 8 + v) = (sp_V N K T F G C) x v := by first | exact k2i | (intro x hx v hv; rw [up_n _ _ (by omega)]; exact k2i x hx v hv)
                have o_k3i : ∀ v, v < N → BE3 (w * 8 + v) = if v ∈ (sp_so N K F G C) then ((sp_ao K G (sp_so N K F G C)).take (i + 1)).foldl (sp_ac T F G C w v (sp_V N K T F G C)) 0 else -9 := by intro v hv; rw [k3i v hv, hst v, sp_ac_id (by omega)]
                have o_mu : (od - (i + 1)) < n52 := by omega
                exact ih52 (i + 1) BE3 o_mu o_k1i o_k2i o_k3i H locs hP hD hS ls (lv_sub hl [2, 3, 4, 0] rfl)
              · skip
                refine lv_iload_n hx hb dX4_beginAll_82 rfl (lv_at hl 3 rfl) ?_
                refine lv_aload_n hx hb dX4_beginAll_83 rfl (lv_at hl 1 rfl) ?_
                refine z_get (D := (dC, dI)) (ci := 4) (v := .ref h0) (C := RX4) (T := TX4) (N := 5) hx hb hts uX4 hown hK hP 0 rfl rfl 0 (by decide) w18 rfl rfl dX4_beginAll_84 ?_
                refine z_get (D := (dC, dI)) (ci := 0) (v := .ref a3) (C := RX0) (T := TX0) (N := 6) hx hb hts uX0 hown hK hP 3 rfl rfl 2 (by decide) w51 rfl rfl dX4_beginAll_87 ?_
                refine lv_iload hx hb dX4_beginAll_90 (lv_at hl 0 rfl) ?_
                refine z_iald (v := (nI (G ac))) hx hb hK hP 6 0 rfl rfl ac rfl (by omega) rfl dX4_beginAll_92 ?_
                have f92_0 := bG ac
                refine z_iadd (v := (nI ((w * 8) + (G ac)))) hx hb dX4_beginAll_93 (nI_add _ _) ?_
                refine lv_istore (lv' := [(5, .int (nI ((w * 8) + (G ac)))), (4, .int (nI ac)), (0, .ref k0), (1, .int (nI w)), (2, .int (nI (w * 8))), (3, .int (nI i))]) hx hb dX4_beginAll_94 hl (by decide) rfl (fun ls hl => ?_)
                refine lv_aload_n hx hb dX4_beginAll_96 rfl (lv_at hl 2 rfl) ?_
                refine z_get (D := (dC, dI)) (ci := 4) (v := .ref k1) (C := RX4) (T := TX4) (N := 5) hx hb hts uX4 hown hK hP 0 rfl rfl 1 (by decide) w9 rfl rfl dX4_beginAll_97 ?_
                refine lv_iload hx hb dX4_beginAll_100 (lv_at hl 0 rfl) ?_
                refine lv_aload_n hx hb dX4_beginAll_102 rfl (lv_at hl 2 rfl) ?_
                refine z_get (D := (dC, dI)) (ci := 4) (v := .ref k1) (C := RX4) (T := TX4) (N := 5) hx hb hts uX4 hown hK hP 0 rfl rfl 1 (by decide) w9 rfl rfl dX4_beginAll_103 ?_
                refine lv_iload hx hb dX4_beginAll_106 (lv_at hl 0 rfl) ?_
                refine z_iald (v := (iI (BE3 ((w * 8) + (G ac))))) hx hb hK hP 1 0 rfl rfl ((w * 8) + (G ac)) rfl (by omega) rfl dX4_beginAll_108 ?_
                have hk3 := k3i (G ac) hgN
                rw [if_pos hkey.2.1] at hk3
                have hbd := sp_ac_le (w := w) (v := G ac) (F := F) (G := G) (C := C) (val := (sp_V N K T F G C)) bT (M := 10980) (by omega) (fun x y hx => sp_V_le bT x y (by omega)) ((sp_ao K G (sp_so N K F G C)).take i) 0 (Or.inr ⟨by omega, by omega⟩)
                rw [← hk3] at hbd
                have hv : BE3 ((w - C ac) * 8 + F ac) = (sp_V N K T F G C) (w - C ac) (F ac) := by (by_cases hc : C ac = 0); (obtain ⟨g1, g2⟩ := hkey.2.2 hc; rw [hc, Nat.sub_zero, k3i (F ac) hfN, if_pos g1]; exact sp_full bN g1 g2); (exact k2i (w - C ac) (by omega) (F ac) hfN)
                have hvb := sp_V_le (N := N) (K := K) (F := F) (G := G) (C := C) bT (w - C ac) (F ac) (by omega)
                rw [← hv] at hvb
                refine lv_aload_n hx hb dX4_beginAll_109 rfl (lv_at hl 2 rfl) ?_
                refine lv_iload hx hb dX4_beginAll_110 (lv_at hl 1 rfl) ?_
                refine lv_iload_n hx hb dX4_beginAll_112 rfl (lv_at hl 3 rfl) ?_
                refine z_callVi (As := [.int (nI ac), .int (nI w)]) (rest := [.int (iI (BE3 ((w * 8) + (G ac)))), .int (nI ((w * 8) + (G ac))), .ref k1]) (wr := [(k2, .inl (cI, 16, .inl (fun z_ => nI (OR z_))))]) ⟨hx, hb, hml, hown, hts⟩ (c_X4_doneAt l dC dI cI cJ H.size k0 k1 k2 BE3 od ab h0 a1 a2 a3 a4 N K T F G C ac w (by first | assumption | omega) (by first | assumption | omega) (by first | assumption | omega) (by first | assumption | omega) (by first | assumption | omega) (by first | assumption | omega) (by omega)) (cwV 2 hts gX4_beginAll_X4_doneAt rfl rfl rfl (by decide +kernel) ⟨Nat.le_of_ble_eq_true rfl, Nat.le_of_ble_eq_true rfl⟩) hA hK hP hD hS [0, 1, 3, 4, 5, 6, 7] [2] [1, 2, 0, 3, 4, 5, 6, 7] rfl rfl (by decide) (by decide) (by decide) nwA_ok hN (ci := 4) rfl rfl 0 rfl hl.1 (Nat.le_of_ble_eq_true rfl) ⟨Nat.le_refl _, Nat.le_refl _⟩ rfl rfl dX4_beginAll_113 (fun (u : (Int)) => [(k0, .inr (4, [.ref h0, .ref k1, .ref k2, .int (nI od), .int (nI ab)])), (k1, .inl (cI, 488, .inl (fun z_ => iI (BE3 z_)))), (k2, .inl (cI, 16, .inl (fun z_ => nI (OR z_)))), (h0, .inr (0, [.ref a1, .ref a2, .ref a3, .ref a4, .int (nI N), .int (nI K)])), (a1, .inl (cI, 8, .inl (fun z_ => nI (T z_)))), (a2, .inl (cI, 16, .inl (fun z_ => nI (F z_)))), (a3, .inl (cI, 16, .inl (fun z_ => nI (G z_)))), (a4, .inl (cI, 16, .inl (fun z_ => nI (C z_))))]) (fun u => rfl) (by decide) (fun r_113 u H locs hw hP hD hS => ?_)
                obtain ⟨rv_113, eu⟩ : ∃ z, z = u := ⟨_, rfl⟩
                subst eu
                have hP : va_P (dC, dI) vwCl [(k0, .inr (4, [.ref h0, .ref k1, .ref k2, .int (nI od), .int (nI ab)])), (k1, .inl (cI, 488, .inl (fun z_ => iI (BE3 z_)))), (k2, .inl (cI, 16, .inl (fun z_ => nI (OR z_)))), (h0, .inr (0, [.ref a1, .ref a2, .ref a3, .ref a4, .int (nI N), .int (nI K)])), (a1, .inl (cI, 8, .inl (fun z_ => nI (T z_)))), (a2, .inl (cI, 16, .inl (fun z_ => nI (F z_)))), (a3, .inl (cI, 16, .inl (fun z_ => nI (G z_)))), (a4, .inl (cI, 16, .inl (fun z_ => nI (C z_))))] H := hP
                have hD : va_D A [(k0, .inr (4, [.ref h0, .ref k1, .ref k2, .int (nI od), .int (nI ab)])), (k1, .inl (cI, 488, .inl (fun z_ => iI (BE3 z_)))), (k2, .inl (cI, 16, .inl (fun z_ => nI (OR z_)))), (h0, .inr (0, [.ref a1, .ref a2, .ref a3, .ref a4, .int (nI N), .int (nI K)])), (a1, .inl (cI, 8, .inl (fun z_ => nI (T z_)))), (a2, .inl (cI, 16, .inl (fun z_ => nI (F z_)))), (a3, .inl (cI, 16, .inl (fun z_ => nI (G z_)))), (a4, .inl (cI, 16, .inl (fun z_ => nI (C z_))))] := hD
                obtain ⟨er, p113_0⟩ := hw
                have p113_0 : rv_113 = sp_dn (BE3 ((w - C ac) * 8 + F ac)) (T (F ac)) := p113_0
                have er : r_113 = (iI rv_113) := er
                subst er
                have hdn : -9 ≤ rv_113 ∧ rv_113 ≤ 50000 := by rw [p113_0]; unfold sp_dn; have := bT (F ac); split <;> omega
                refine z_callSi (As := [.int (iI (BE3 ((w * 8) + (G ac)))), .int (iI rv_113)]) (rest := [.int (nI ((w * 8) + (G ac))), .ref k1]) (wr := [(k0, .inr (4, [.ref h0, .ref k1, .ref k2, .int (nI od), .int (nI ab)])), (k1, .inl (cI, 488, .inl (fun z_ => iI (BE3 z_)))), (k2, .inl (cI, 16, .inl (fun z_ => nI (OR z_)))), (h0, .inr (0, [.ref a1, .ref a2, .ref a3, .ref a4, .int (nI N), .int (nI K)])), (a1, .inl (cI, 8, .inl (fun z_ => nI (T z_)))), (a2, .inl (cI, 16, .inl (fun z_ => nI (F z_)))), (a3, .inl (cI, 16, .inl (fun z_ => nI (G z_)))), (a4, .inl (cI, 16, .inl (fun z_ => nI (C z_))))]) ⟨hx, hb, hml, hown, hts⟩ (c_X4_later l dC dI cI cJ H.size (BE3 ((w * 8) + (G ac))) rv_113 (by first | assumption | omega) (by first | assumption | omega)) (va_cwS 2 hts gX4_beginAll_X4_later rfl rfl rfl (by decide +kernel) ⟨Nat.le_of_ble_eq_true rfl, Nat.le_of_ble_eq_true rfl⟩) hA hK hP hD hS [] [0, 1, 2, 3, 4, 5, 6, 7] [0, 1, 2, 3, 4, 5, 6, 7] rfl rfl (by decide) (by decide) (by decide) nwA_ok hN hl.1 (Nat.le_of_ble_eq_true rfl) ⟨Nat.le_refl _, Nat.le_refl _⟩ rfl rfl dX4_beginAll_116 (fun (u : (Int)) => [(k0, .inr (4, [.ref h0, .ref k1, .ref k2, .int (nI od), .int (nI ab)])), (k1, .inl (cI, 488, .inl (fun z_ => iI (BE3 z_)))), (k2, .inl (cI, 16, .inl (fun z_ => nI (OR z_)))), (h0, .inr (0, [.ref a1, .ref a2, .ref a3, .ref a4, .int (nI N), .int (nI K)])), (a1, .inl (cI, 8, .inl (fun z_ => nI (T z_)))), (a2, .inl (cI, 16, .inl (fun z_ => nI (F z_)))), (a3, .inl (cI, 16, .inl (fun z_ => nI (G z_)))), (a4, .inl (cI, 16, .inl (fun z_ => nI (C z_))))]) (fun u => rfl) (by decide) (fun r_116 u H locs hw hP hD hS => ?_)
                obtain ⟨rv_116, eu⟩ : ∃ z, z = u := ⟨_, rfl⟩
                subst eu
                have hP : va_P (dC, dI) vwCl [(k0, .inr (4, [.ref h0, .ref k1, .ref k2, .int (nI od), .int (nI ab)])), (k1, .inl (cI, 488, .inl (fun z_ => iI (BE3 z_)))), (k2, .inl (cI, 16, .inl (fun z_ => nI (OR z_)))), (h0, .inr (0, [.ref a1, .ref a2, .ref a3, .ref a4, .int (nI N), .int (nI K)])), (a1, .inl (cI, 8, .inl (fun z_ => nI (T z_)))), (a2, .inl (cI, 16, .inl (fun z_ => nI (F z_)))), (a3, .inl (cI, 16, .inl (fun z_ => nI (G z_)))), (a4, .inl (cI, 16, .inl (fun z_ => nI (C z_))))] H := hP
                have hD : va_D A [(k0, .inr (4, [.ref h0, .ref k1, .ref k2, .int (nI od), .int (nI ab)])), (k1, .inl (cI, 488, .inl (fun z_ => iI (BE3 z_)))), (k2, .inl (cI, 16, .inl (fun z_ => nI (OR z_)))), (h0, .inr (0, [.ref a1, .ref a2, .ref a3, .ref a4, .int (nI N), .int (nI K)])), (a1, .inl (cI, 8, .inl (fun z_ => nI (T z_)))), (a2, .inl (cI, 16, .inl (fun z_ => nI (F z_)))), (a3, .inl (cI, 16, .inl (fun z_ => nI (G z_)))), (a4, .inl (cI, 16, .inl (fun z_ => nI (C z_))))] := hD
                obtain ⟨er, p116_0⟩ := hw
                have p116_0 : rv_116 = sp_lt2 (BE3 ((w * 8) + (G ac))) rv_113 := p116_0
                have er : r_116 = (iI rv_116) := er
                subst er
                refine z_iast hx hb hK hP hD hS 1 0 rfl rfl ((w * 8) + (G ac)) rfl (by omega) (upd_Z BE3 ((w * 8) + (G ac)) rv_116) [(k0, .inr (4, [.ref h0, .ref k1, .ref k2, .int (nI od), .int (nI ab)])), (k1, .inl (cI, 488, .inl (fun z_ => iI ((up BE3 ((w * 8) + (G ac)) rv_116) z_)))), (k2, .inl (cI, 16, .inl (fun z_ => nI (OR z_)))), (h0, .inr (0, [.ref a1, .ref a2, .ref a3, .ref a4, .int (nI N), .int (nI K)])), (a1, .inl (cI, 8, .inl (fun z_ => nI (T z_)))), (a2, .inl (cI, 16, .inl (fun z_ => nI (F z_)))), (a3, .inl (cI, 16, .inl (fun z_ => nI (G z_)))), (a4, .inl (cI, 16, .inl (fun z_ => nI (C z_))))] rfl dX4_beginAll_119 (fun H locs hP hD hS => ?_)
                refine lv_iinc (v := (nI (i + 1))) (lv' := [(3, .int (nI (i + 1))), (5, .int (nI ((w * 8) + (G ac)))), (4, .int (nI ac)), (0, .ref k0), (1, .int (nI w)), (2, .int (nI (w * 8)))]) hx hb dX4_beginAll_120 hl (k := 5) rfl (z_incN i 1 (by decide)) (by decide) rfl (fun ls hl => ?_)
                refine lv_goto (tgt := 52) hx hb dX4_beginAll_123 (by decide) ?_
                have o_k1i : (i + 1) ≤ od := by first | assumption | omega
                have o_k2i : ∀ x, x < w → ∀ v, v < N → (up BE3 ((w * 8) + (G ac)) rv_116) (x * 8 + v) = (sp_V N K T F G C) x v := by first | exact k2i | (intro x hx v hv; rw [up_n _ _ (by omega)]; exact k2i x hx v hv)
                have o_k3i : ∀ v, v < N → (up BE3 ((w * 8) + (G ac)) rv_116) (w * 8 + v) = if v ∈ (sp_so N K F G C) then ((sp_ao K G (sp_so N K F G C)).take (i + 1)).foldl (sp_ac T F G C w v (sp_V N K T F G C)) 0 else -9 := by intro v hv9; (by_cases q : v = G ac); (subst q; rw [up_s, if_pos hkey.2.1, hst, ← hk3, sp_ac_at ⟨rfl, by omega⟩, p116_0, p113_0, hv]); (rw [up_n _ _ (by omega), k3i v hv9, hst v, sp_ac_id (by omega)])
                have o_mu : (od - (i + 1)) < n52 := by omega
                exact ih52 (i + 1) (up BE3 ((w * 8) + (G ac)) rv_116) o_mu o_k1i o_k2i o_k3i H locs hP hD hS ls (lv_sub hl [3, 4, 5, 0] rfl)
        have o_k1i : 0 ≤ od := by first | assumption | omega
        have o_k2i : ∀ x, x < w → ∀ v, v < N → BE1 (x * 8 + v) = (sp_V N K T F G C) x v := by exact i2
        have o_k3i : ∀ v, v < N → BE1 (w * 8 + v) = if v ∈ (sp_so N K F G C) then ((sp_ao K G (sp_so N K F G C)).take 0).foldl (sp_ac T F G C w v (sp_V N K T F G C)) 0 else -9 := by intro v hv; rw [i3 v (by omega)]; rfl
        exact L52 ((od - 0) + 1) 0 BE1 (Nat.lt_succ_self _) o_k1i o_k2i o_k3i H locs hP hD hS ls (lv_sub hl [1, 2, 3, 0] rfl)
      · skip
        refine lv_aload_n hx hb dX4_beginAll_18 rfl (lv_at hl 0 rfl) ?_
        refine z_get (D := (dC, dI)) (ci := 4) (v := .ref k1) (C := RX4) (T := TX4) (N := 5) hx hb hts uX4 hown hK hP 0 rfl rfl 1 (by decide) w9 rfl rfl dX4_beginAll_19 ?_
        refine lv_iload_n hx hb dX4_beginAll_22 rfl (lv_at hl 2 rfl) ?_
        refine lv_iload_n hx hb dX4_beginAll_23 rfl (lv_at hl 3 rfl) ?_
        refine z_iadd (v := (nI ((w * 8) + j))) hx hb dX4_beginAll_24 (nI_add _ _) ?_
        refine lv_aload_n hx hb dX4_beginAll_25 rfl (lv_at hl 0 rfl) ?_
        refine z_get (D := (dC, dI)) (ci := 4) (v := .int (nI ab)) (C := RX4) (T := TX4) (N := 5) hx hb hts uX4 hown hK hP 0 rfl rfl 4 (by decide) w29 rfl rfl dX4_beginAll_26 ?_
        refine lv_iload_n hx hb dX4_beginAll_29 rfl (lv_at hl 3 rfl) ?_
        refine z_ishr (v := nI (ab / 2 ^ j)) hx hb dX4_beginAll_30 (zs_shr rfl rfl (by omega) (by omega)) ?_
        refine lv_iconst (v := nI 1) hx hb dX4_beginAll_31 (by decide) ?_
        refine z_iand (v := nI ((ab / 2 ^ j) &&& 1)) hx hb dX4_beginAll_32 (zs_and rfl rfl) ?_
        refine lv_iconst (v := nI 1) hx hb dX4_beginAll_33 (by decide) ?_
        have hq1 : (((ab / 2 ^ j) &&& 1)) ≤ 1 := and1_le _
        have hbit := hab.2 j (by omega)
        refine z_icmp_ne (tgt := 41) hx hb dX4_beginAll_34 (by decide) (zcn_eq (a := (ab / 2 ^ j) &&& 1) (b := 1) rfl rfl (by omega)) (fun c_34 => ?_) (fun c_34 => ?_)
        · skip
          refine lv_bipush (v := iI (-9)) hx hb dX4_beginAll_41 (by decide) ?_
          refine z_iast hx hb hK hP hD hS 1 0 rfl rfl ((w * 8) + j) rfl (by omega) (upd_Z BE1 ((w * 8) + j) (-9)) [(k0, .inr (4, [.ref h0, .ref k1, .ref k2, .int (nI od), .int (nI ab)])), (k1, .inl (cI, 488, .inl (fun z_ => iI ((up BE1 ((w * 8) + j) (-9)) z_)))), (k2, .inl (cI, 16, .inl (fun z_ => nI (OR z_)))), (h0, .inr (0, [.ref a1, .ref a2, .ref a3, .ref a4, .int (nI N), .int (nI K)])), (a1, .inl (cI, 8, .inl (fun z_ => nI (T z_)))), (a2, .inl (cI, 16, .inl (fun z_ => nI (F z_)))), (a3, .inl (cI, 16, .inl (fun z_ => nI (G z_)))), (a4, .inl (cI, 16, .inl (fun z_ => nI (C z_))))] rfl dX4_beginAll_43 (fun H locs hP hD hS => ?_)
          refine lv_iinc (v := (nI (j + 1))) (lv' := [(3, .int (nI (j + 1))), (0, .ref k0), (1, .int (nI w)), (2, .int (nI (w * 8)))]) hx hb dX4_beginAll_44 hl (k := 3) rfl (z_incN j 1 (by decide)) (by decide) rfl (fun ls hl => ?_)
          refine lv_goto (tgt := 7) hx hb dX4_beginAll_47 (by decide) ?_
          have o_i1 : (j + 1) ≤ N := by first | assumption | omega
          have o_i2 : ∀ x, x < w → ∀ v, v < N → (up BE1 ((w * 8) + j) (-9)) (x * 8 + v) = (sp_V N K T F G C) x v := by intro x hx v hv; rw [up_n _ _ (by omega)]; exact i2 x hx v hv
          have o_i3 : ∀ v, v < (j + 1) → (up BE1 ((w * 8) + j) (-9)) (w * 8 + v) = if v ∈ (sp_so N K F G C) then 0 else -9 := by exact lt_s (fun v hv => by rw [up_n _ _ (by omega)]; exact i3 v hv) (by rw [up_s]; (first | rw [if_pos (Classical.byContradiction (fun hn => absurd (hbit.mpr hn) (by omega)))] | rw [if_neg (hbit.mp (by omega))]))
          have o_mu : (N - (j + 1)) < n7 := by omega
          exact ih7 (j + 1) (up BE1 ((w * 8) + j) (-9)) o_mu o_i1 o_i2 o_i3 H locs hP hD hS ls (lv_sub hl [1, 2, 3, 0] rfl)
        · skip
          refine lv_iconst (v := nI 0) hx hb dX4_beginAll_37 (by decide) ?_
          refine lv_goto (tgt := 43) hx hb dX4_beginAll_38 (by decide) ?_
          refine z_c0 (v := iI 0) (by decide) ?_
          refine z_iast hx hb hK hP hD hS 1 0 rfl rfl ((w * 8) + j) rfl (by omega) (upd_Z BE1 ((w * 8) + j) 0) [(k0, .inr (4, [.ref h0, .ref k1, .ref k2, .int (nI od), .int (nI ab)])), (k1, .inl (cI, 488, .inl (fun z_ => iI ((up BE1 ((w * 8) + j) 0) z_)))), (k2, .inl (cI, 16, .inl (fun z_ => nI (OR z_)))), (h0, .inr (0, [.ref a1, .ref a2, .ref a3, .ref a4, .int (nI N), .int (nI K)])), (a1, .inl (cI, 8, .inl (fun z_ => nI (T z_)))), (a2, .inl (cI, 16, .inl (fun z_ => nI (F z_)))), (a3, .inl (cI, 16, .inl (fun z_ => nI (G z_)))), (a4, .inl (cI, 16, .inl (fun z_ => nI (C z_))))] rfl dX4_beginAll_43 (fun H locs hP hD hS => ?_)
          refine lv_iinc (v := (nI (j + 1))) (lv' := [(3, .int (nI (j + 1))), (0, .ref k0), (1, .int (nI w)), (2, .int (nI (w * 8)))]) hx hb dX4_beginAll_44 hl (k := 3) rfl (z_incN j 1 (by decide)) (by decide) rfl (fun ls hl => ?_)
          refine lv_goto (tgt := 7) hx hb dX4_beginAll_47 (by decide) ?_
          have o_i1 : (j + 1) ≤ N := by first | assumption | omega
          have o_i2 : ∀ x, x < w → ∀ v, v < N → (up BE1 ((w * 8) + j) 0) (x * 8 + v) = (sp_V N K T F G C) x v := by intro x hx v hv; rw [up_n _ _ (by omega)]; exact i2 x hx v hv
          have o_i3 : ∀ v, v < (j + 1) → (up BE1 ((w * 8) + j) 0) (w * 8 + v) = if v ∈ (sp_so N K F G C) then 0 else -9 := by exact lt_s (fun v hv => by rw [up_n _ _ (by omega)]; exact i3 v hv) (by rw [up_s]; (first | rw [if_pos (Classical.byContradiction (fun hn => absurd (hbit.mpr hn) (by omega)))] | rw [if_neg (hbit.mp (by omega))]))
          have o_mu : (N - (j + 1)) < n7 := by omega
          exact ih7 (j + 1) (up BE1 ((w * 8) + j) 0) o_mu o_i1 o_i2 o_i3 H locs hP hD hS ls (lv_sub hl [1, 2, 3, 0] rfl)
  have o_i1 : 0 ≤ N := by first | assumption | omega
  have o_i2 : ∀ x, x < w → ∀ v, v < N → BE (x * 8 + v) = (sp_V N K T F G C) x v := by exact hbe
  have o_i3 : ∀ v, v < 0 → BE (w * 8 + v) = if v ∈ (sp_so N K F G C) then 0 else -9 := by intro v h; omega
  exact L7 ((N - 0) + 1) 0 BE (Nat.lt_succ_self _) o_i1 o_i2 o_i3 H locs hP hD hS ls (lv_sub hl [2, 3, 1, 0] rfl)

set_option maxHeartbeats 4000000 in
set_option maxRecDepth 100000 in
theorem c_X4_beginning (l : Launch) (dC : Nat → ClassId) (dI : Nat → Nat → Nat) (cI cJ : ClassId) (sz : Nat) (k0 : Nat) (k1 : Nat) (k2 : Nat) (BE : Nat → Int) (OR : Nat → Nat) (od : Nat) (ab : Nat) (h0 : Nat) (a1 : Nat) (a2 : Nat) (a3 : Nat) (a4 : Nat) (N : Nat) (K : Nat) (T : Nat → Nat) (F : Nat → Nat) (G : Nat → Nat) (C : Nat → Nat) (v : Nat) (k : Nat) (bN : N ≤ 8) (bK : K ≤ 16) (bC : ∀ a, C a ≤ 9) (bF : ∀ a, F a < 8) (bG : ∀ a, G a < 8) (bT : ∀ i, T i ≤ 20) (bOR : ∀ i, OR i < 16) (bFN : ∀ a, a < K → F a < N ∧ G a < N) (bv : v < N) (bk : k ≤ 60) : Met l yX4_beginning wsX4_beginning (zR 3 0 0 71) (va_Pc [.ref k0, .int (nI v), .int (nI k)] (zP (dC, dI) [(cI, .int), (cJ, .long)] [(k0, .inr (4, [.ref h0, .ref k1, .ref k2, .int (nI od), .int (nI ab)])), (k1, .inl (cI, 488, .inl (fun z_ => iI (BE z_)))), (k2, .inl (cI, 16, .inl (fun z_ => nI (OR z_)))), (h0, .inr (0, [.ref a1, .ref a2, .ref a3, .ref a4, .int (nI N), .int (nI K)])), (a1, .inl (cI, 8, .inl (fun z_ => nI (T z_)))), (a2, .inl (cI, 16, .inl (fun z_ => nI (F z_)))), (a3, .inl (cI, 16, .inl (fun z_ => nI (G z_)))), (a4, .inl (cI, 16, .inl (fun z_ => nI (C z_))))] sz nwA)) (va_Qi (fun (r : Int32) (u : (Int) × (Nat → Int) × (Nat → Nat) × (Nat) × (Nat)) => r = (iI u.1) ∧ (u.1 = (sp_V N K T F G C) k v) ∧ (∀ i, u.2.2.1 i < 16)) (zB (dC, dI) (fun (u : (Int) × (Nat → Int) × (Nat → Nat) × (Nat) × (Nat)) => [(k0, .inr (4, [.ref h0, .ref k1, .ref k2, .int (nI u.2.2.2.1), .int (nI u.2.2.2.2)])), (k1, .inl (cI, 488, .inl (fun z_ => iI (u.2.1 z_)))), (k2, .inl (cI, 16, .inl (fun z_ => nI (u.2.2.1 z_)))), (h0, .inr (0, [.ref a1, .ref a2, .ref a3, .ref a4, .int (nI N), .int (nI K)])), (a1, .inl (cI, 8, .inl (fun z_ => nI (T z_)))), (a2, .inl (cI, 16, .inl (fun z_ => nI (F z_)))), (a3, .inl (cI, 16, .inl (fun z_ => nI (G z_)))), (a4, .inl (cI, 16, .inl (fun z_ => nI (C z_))))]) (va_A [(k0, .inr (4, [.ref h0, .ref k1, .ref k2, .int (nI od), .int (nI ab)])), (k1, .inl (cI, 488, .inl (fun z_ => iI (BE z_)))), (k2, .inl (cI, 16, .inl (fun z_ => nI (OR z_)))), (h0, .inr (0, [.ref a1, .ref a2, .ref a3, .ref a4, .int (nI N), .int (nI K)])), (a1, .inl (cI, 8, .inl (fun z_ => nI (T z_)))), (a2, .inl (cI, 16, .inl (fun z_ => nI (F z_)))), (a3, .inl (cI, 16, .inl (fun z_ => nI (G z_)))), (a4, .inl (cI, 16, .inl (fun z_ => nI (C z_))))] sz)) (va_A [(k0, .inr (4, [.ref h0, .ref k1, .ref k2, .int (nI od), .int (nI ab)])), (k1, .inl (cI, 488, .inl (fun z_ => iI (BE z_)))), (k2, .inl (cI, 16, .inl (fun z_ => nI (OR z_)))), (h0, .inr (0, [.ref a1, .ref a2, .ref a3, .ref a4, .int (nI N), .int (nI K)])), (a1, .inl (cI, 8, .inl (fun z_ => nI (T z_)))), (a2, .inl (cI, 16, .inl (fun z_ => nI (F z_)))), (a3, .inl (cI, 16, .inl (fun z_ => nI (G z_)))), (a4, .inl (cI, 16, .inl (fun z_ => nI (C z_))))] sz)) 0 0 (va_A [(k0, .inr (4, [.ref h0, .ref k1, .ref k2, .int (nI od), .int (nI ab)])), (k1, .inl (cI, 488, .inl (fun z_ => iI (BE z_)))), (k2, .inl (cI, 16, .inl (fun z_ => nI (OR z_)))), (h0, .inr (0, [.ref a1, .ref a2, .ref a3, .ref a4, .int (nI N), .int (nI K)])), (a1, .inl (cI, 8, .inl (fun z_ => nI (T z_)))), (a2, .inl (cI, 16, .inl (fun z_ => nI (F z_)))), (a3, .inl (cI, 16, .inl (fun z_ => nI (G z_)))), (a4, .inl (cI, 16, .inl (fun z_ => nI (C z_))))] sz) := by
  refine z_met_i (cc := cX4_beginning) (maxL := 4) (by decide) rfl (Nat.le_of_ble_eq_true rfl) ?_
  intro p e s m args below meth c Q A ls hx hb hml hown hts hin hA hK hP hD hN hl hRET
  have hown : s.vm.findClass RX4 = some m.cls := hown
  obtain ⟨H, eH⟩ : ∃ H : Heap, H = s.heap := ⟨_, rfl⟩
  rw [← eH] at hP
  obtain ⟨locs, eL⟩ : ∃ z : List Loc, z = [] := ⟨_, rfl⟩
  rw [← eH, ← eL]
  have hS : va_S A s.heap H locs := by rw [eH, eL]; exact va_S.rf
  have hl : lv_has ls 4 [(0, .ref k0), (1, .int (nI v)), (2, .int (nI k))] := hl
  have w9 := hts (.fieldLink RX4 9 "PullCards$Works" "beginnings" "[I") (by decide +kernel)
  have uX4 : ∀ w ∈ wsX40, w ∈ wsX4_beginning := by decide +kernel
  refine lv_aload_n hx hb dX4_beginning_0 rfl (lv_at hl 0 rfl) ?_
  refine z_callVv (As := []) (rest := []) (wr := []) ⟨hx, hb, hml, hown, hts⟩ (c_X4_orderArcs l dC dI cI cJ H.size k0 k1 k2 BE OR od ab h0 a1 a2 a3 a4 N K T F G C (by first | assumption | omega) (by first | assumption | omega) (by first | assumption | omega) (by first | assumption | omega) (by first | assumption | omega) (by first | assumption | omega)) (cwV 0 hts gX4_beginning_X4_orderArcs rfl rfl rfl (by decide +kernel) ⟨Nat.le_of_ble_eq_true rfl, Nat.le_of_ble_eq_true rfl⟩) hA hK hP hD hS [0, 1, 2, 3, 4, 5, 6, 7] [] [0, 1, 2, 3, 4, 5, 6, 7] rfl rfl (by decide) (by decide) (by decide) nwA_ok hN (ci := 4) rfl rfl 0 rfl hl.1 (Nat.le_of_ble_eq_true rfl) ⟨Nat.le_refl _, Nat.le_refl _⟩ rfl rfl dX4_beginning_1 (fun (u : (Nat → Nat) × (Nat) × (Nat)) => [(k0, .inr (4, [.ref h0, .ref k1, .ref k2, .int (nI u.2.1), .int (nI u.2.2)])), (k1, .inl (cI, 488, .inl (fun z_ => iI (BE z_)))), (k2, .inl (cI, 16, .inl (fun z_ => nI (u.1 z_)))), (h0, .inr (0, [.ref a1, .ref a2, .ref a3, .ref a4, .int (nI N), .int (nI K)])), (a1, .inl (cI, 8, .inl (fun z_ => nI (T z_)))), (a2, .inl (cI, 16, .inl (fun z_ => nI (F z_)))), (a3, .inl (cI, 16, .inl (fun z_ => nI (G z_)))), (a4, .inl (cI, 16, .inl (fun z_ => nI (C z_))))]) (fun u => rfl) (by decide) (fun u H locs hw hP hD hS => ?_)
  obtain ⟨OR2_1, od2_1, ab2_1⟩ := u
  have hP : va_P (dC, dI) vwCl [(k0, .inr (4, [.ref h0, .ref k1, .ref k2, .int (nI od2_1), .int (nI ab2_1)])), (k1, .inl (cI, 488, .inl (fun z_ => iI (BE z_)))), (k2, .inl (cI, 16, .inl (fun z_ => nI (OR2_1 z_)))), (h0, .inr (0, [.ref a1, .ref a2, .ref a3, .ref a4, .int (nI N), .int (nI K)])), (a1, .inl (cI, 8, .inl (fun z_ => nI (T z_)))), (a2, .inl (cI, 16, .inl (fun z_ => nI (F z_)))), (a3, .inl (cI, 16, .inl (fun z_ => nI (G z_)))), (a4, .inl (cI, 16, .inl (fun z_ => nI (C z_))))] H := hP
  have hD : va_D A [(k0, .inr (4, [.ref h0, .ref k1, .ref k2, .int (nI od2_1), .int (nI ab2_1)])), (k1, .inl (cI, 488, .inl (fun z_ => iI (BE z_)))), (k2, .inl (cI, 16, .inl (fun z_ => nI (OR2_1 z_)))), (h0, .inr (0, [.ref a1, .ref a2, .ref a3, .ref a4, .int (nI N), .int (nI K)])), (a1, .inl (cI, 8, .inl (fun z_ => nI (T z_)))), (a2, .inl (cI, 16, .inl (fun z_ => nI (F z_)))), (a3, .inl (cI, 16, .inl (fun z_ => nI (G z_)))), (a4, .inl (cI, 16, .inl (fun z_ => nI (C z_))))] := hD
  obtain ⟨p1_0, p1_1, p1_2, p1_3⟩ := hw
  have p1_0 : sp_bs (sp_so N K F G C) ab2_1 := p1_0
  have p1_1 : od2_1 = (sp_ao K G (sp_so N K F G C)).length := p1_1
  have p1_2 : ∀ i, i < od2_1 → OR2_1 i = (sp_ao K G (sp_so N K F G C)).getD i 0 := p1_2
  have p1_3 : ∀ i, OR2_1 i < 16 := p1_3
  refine lv_iconst (v := nI 0) hx hb dX4_beginning_4 (by decide) ?_
  refine lv_istore_n (lv' := [(3, .int (nI 0)), (0, .ref k0), (1, .int (nI v)), (2, .int (nI k))]) hx hb dX4_beginning_5 rfl hl (by decide) rfl (fun ls hl => ?_)
  have L6 : ∀ (n6 : Nat) (w : Nat) (BE1 : Nat → Int), (k + 1 - w) < n6 → (w ≤ k + 1) → (∀ x, x < w → ∀ u, u < N → BE1 (x * 8 + u) = (sp_V N K T F G C) x u) → ∀ (H : Heap) (locs : List Loc), va_P (dC, dI) vwCl [(k0, .inr (4, [.ref h0, .ref k1, .ref k2, .int (nI od2_1), .int (nI ab2_1)])), (k1, .inl (cI, 488, .inl (fun z_ => iI (BE1 z_)))), (k2, .inl (cI, 16, .inl (fun z_ => nI (OR2_1 z_)))), (h0, .inr (0, [.ref a1, .ref a2, .ref a3, .ref a4, .int (nI N), .int (nI K)])), (a1, .inl (cI, 8, .inl (fun z_ => nI (T z_)))), (a2, .inl (cI, 16, .inl (fun z_ => nI (F z_)))), (a3, .inl (cI, 16, .inl (fun z_ => nI (G z_)))), (a4, .inl (cI, 16, .inl (fun z_ => nI (C z_))))] H → va_D A [(k0, .inr (4, [.ref h0, .ref k1, .ref k2, .int (nI od2_1), .int (nI ab2_1)])), (k1, .inl (cI, 488, .inl (fun z_ => iI (BE1 z_)))), (k2, .inl (cI, 16, .inl (fun z_ => nI (OR2_1 z_)))), (h0, .inr (0, [.ref a1, .ref a2, .ref a3, .ref a4, .int (nI N), .int (nI K)])), (a1, .inl (cI, 8, .inl (fun z_ => nI (T z_)))), (a2, .inl (cI, 16, .inl (fun z_ => nI (F z_)))), (a3, .inl (cI, 16, .inl (fun z_ => nI (G z_)))), (a4, .inl (cI, 16, .inl (fun z_ => nI (C z_))))] → va_S A s.heap H locs → ∀ (ls : Array Slot), lv_has ls 4 [(0, .ref k0), (1, .int (nI v)), (2, .int (nI k)), (3, .int (nI w))] → W p l e (zR 3 0 0 71) s m args below meth c H locs 0 0 Q (F0 m 6 ls []) := by
    intro n6
    induction n6 with
    | zero => intro w BE1 hn; exact absurd hn (Nat.not_lt_zero _)
    | succ n6 ih =>
      intro w BE1 hn i1 i2 H locs hP hD hS ls hl
      have ih6 := ih
      have hn6 := hn
      clear ih hn
      refine lv_iload_n hx hb dX4_beginning_6 rfl (lv_at hl 3 rfl) ?_
      refine lv_iload_n hx hb dX4_beginning_7 rfl (lv_at hl 2 rfl) ?_
      refine z_icmp_gt (tgt := 22) hx hb dX4_beginning_8 (by decide) (zcn_lt (a := k) (b := w) rfl rfl (by omega)) (fun c_8 => ?_) (fun c_8 => ?_)
      · skip
        refine lv_aload_n hx hb dX4_beginning_22 rfl (lv_at hl 0 rfl) ?_
        refine z_get (D := (dC, dI)) (ci := 4) (v := .ref k1) (C := RX4) (T := TX4) (N := 5) hx hb hts uX4 hown hK hP 0 rfl rfl 1 (by decide) w9 rfl rfl dX4_beginning_23 ?_
        refine lv_iload_n hx hb dX4_beginning_26 rfl (lv_at hl 2 rfl) ?_
        refine lv_bipush (v := nI 8) hx hb dX4_beginning_27 (by decide) ?_
        refine z_imul (v := (nI (k * 8))) hx hb dX4_beginning_29 (pk_mul _ _) ?_
        refine lv_iload_n hx hb dX4_beginning_30 rfl (lv_at hl 1 rfl) ?_
        refine z_iadd (v := (nI ((k * 8) + v))) hx hb dX4_beginning_31 (nI_add _ _) ?_
        refine z_iald (v := (iI (BE1 ((k * 8) + v)))) hx hb hK hP 1 0 rfl rfl ((k * 8) + v) rfl (by omega) rfl dX4_beginning_32 ?_
        have q_0 : (BE1 ((k * 8) + v)) = (sp_V N K T F G C) k v := by exact i2 k (by omega) v bv
        have q_1 : ∀ i, OR2_1 i < 16 := by first | assumption | omega
        exact hRET _ ls H locs ((iI (BE1 ((k * 8) + v)))) (BE1 ((k * 8) + v), BE1, OR2_1, od2_1, ab2_1) dX4_beginning_33 ⟨rfl, q_0, q_1⟩ hP hD hS
      · skip
        refine lv_aload_n hx hb dX4_beginning_11 rfl (lv_at hl 0 rfl) ?_
        refine lv_iload_n hx hb dX4_beginning_12 rfl (lv_at hl 3 rfl) ?_
        refine z_callVv (As := [.int (nI w)]) (rest := []) (wr := []) ⟨hx, hb, hml, hown, hts⟩ (c_X4_beginAll l dC dI cI cJ H.size k0 k1 k2 BE1 OR2_1 od2_1 ab2_1 h0 a1 a2 a3 a4 N K T F G C w (by first | assumption | omega) (by first | assumption | omega) (by first | assumption | omega) (by first | assumption | omega) (by first | assumption | omega) (by first | assumption | omega) (by first | assumption | omega) (by first | assumption | omega) (by first | assumption | omega) (by first | assumption | omega) (by first | assumption | omega) (by first | assumption | omega) (by exact i2)) (cwV 1 hts gX4_beginning_X4_beginAll rfl rfl rfl (by decide +kernel) ⟨Nat.le_of_ble_eq_true rfl, Nat.le_of_ble_eq_true rfl⟩) hA hK hP hD hS [0, 1, 2, 3, 4, 5, 6, 7] [] [0, 1, 2, 3, 4, 5, 6, 7] rfl rfl (by decide) (by decide) (by decide) nwA_ok hN (ci := 4) rfl rfl 0 rfl hl.1 (Nat.le_of_ble_eq_true rfl) ⟨Nat.le_refl _, Nat.le_refl _⟩ rfl rfl dX4_beginning_13 (fun (u : (Nat → Int)) => [(k0, .inr (4, [.ref h0, .ref k1, .ref k2, .int (nI od2_1), .int (nI ab2_1)])), (k1, .inl (cI, 488, .inl (fun z_ => iI (u z_)))), (k2, .inl (cI, 16, .inl (fun z_ => nI (OR2_1 z_)))), (h0, .inr (0, [.ref a1, .ref a2, .ref a3, .ref a4, .int (nI N), .int (nI K)])), (a1, .inl (cI, 8, .inl (fun z_ => nI (T z_)))), (a2, .inl (cI, 16, .inl (fun z_ => nI (F z_)))), (a3, .inl (cI, 16, .inl (fun z_ => nI (G z_)))), (a4, .inl (cI, 16, .inl (fun z_ => nI (C z_))))]) (fun u => rfl) (by decide) (fun u H locs hw hP hD hS => ?_)
        obtain ⟨BE2_13, eu⟩ : ∃ z, z = u := ⟨_, rfl⟩
        subst eu
        have hP : va_P (dC, dI) vwCl [(k0, .inr (4, [.ref h0, .ref k1, .ref k2, .int (nI od2_1), .int (nI ab2_1)])), (k1, .inl (cI, 488, .inl (fun z_ => iI (BE2_13 z_)))), (k2, .inl (cI, 16, .inl (fun z_ => nI (OR2_1 z_)))), (h0, .inr (0, [.ref a1, .ref a2, .ref a3, .ref a4, .int (nI N), .int (nI K)])), (a1, .inl (cI, 8, .inl (fun z_ => nI (T z_)))), (a2, .inl (cI, 16, .inl (fun z_ => nI (F z_)))), (a3, .inl (cI, 16, .inl (fun z_ => nI (G z_)))), (a4, .inl (cI, 16, .inl (fun z_ => nI (C z_))))] H := hP
        have hD : va_D A [(k0, .inr (4, [.ref h0, .ref k1, .ref k2, .int (nI od2_1), .int (nI ab2_1)])), (k1, .inl (cI, 488, .inl (fun z_ => iI (BE2_13 z_)))), (k2, .inl (cI, 16, .inl (fun z_ => nI (OR2_1 z_)))), (h0, .inr (0, [.ref a1, .ref a2, .ref a3, .ref a4, .int (nI N), .int (nI K)])), (a1, .inl (cI, 8, .inl (fun z_ => nI (T z_)))), (a2, .inl (cI, 16, .inl (fun z_ => nI (F z_)))), (a3, .inl (cI, 16, .inl (fun z_ => nI (G z_)))), (a4, .inl (cI, 16, .inl (fun z_ => nI (C z_))))] := hD
        have p13_0 := hw
        have p13_0 : ∀ x, x < w + 1 → ∀ v, v < N → BE2_13 (x * 8 + v) = (sp_V N K T F G C) x v := p13_0
        refine lv_iinc (v := (nI (w + 1))) (lv' := [(3, .int (nI (w + 1))), (0, .ref k0), (1, .int (nI v)), (2, .int (nI k))]) hx hb dX4_beginning_16 hl (k := 3) rfl (z_incN w 1 (by decide)) (by decide) rfl (fun ls hl => ?_)
        refine lv_goto (tgt := 6) hx hb dX4_beginning_19 (by decide) ?_
        have o_i1 : (w + 1) ≤ k + 1 := by first | assumption | omega
        have o_i2 : ∀ x, x < (w + 1) → ∀ u, u < N → BE2_13 (x * 8 + u) = (sp_V N K T F G C) x u := by exact p13_0
        have o_mu : (k + 1 - (w + 1)) < n6 := by omega
        exact ih6 (w + 1) BE2_13 o_mu o_i1 o_i2 H locs hP hD hS ls (lv_sub hl [1, 2, 3, 0] rfl)
  have o_i1 : 0 ≤ k + 1 := by first | assumption | omega
  have o_i2 : ∀ x, x < 0 → ∀ u, u < N → BE (x * 8 + u) = (sp_V N K T F G C) x u := by intro x h; omega
  exact L6 ((k + 1 - 0) + 1) 0 BE (Nat.lt_succ_self _) o_i1 o_i2 H locs hP hD hS ls (lv_sub hl [1, 2, 3, 0] rfl)
