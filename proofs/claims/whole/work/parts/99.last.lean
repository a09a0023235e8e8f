set_option maxHeartbeats 4000000 in
set_option maxRecDepth 100000 in
theorem c_X3_nextKind (l : Launch) (dC : Nat → ClassId) (dI : Nat → Nat → Nat) (cI cJ : ClassId) (sz : Nat) (r0 : Nat) (r1 : Nat) (r2 : Nat) (r3 : Nat) (DM : Nat → Nat) (CM : Nat → Nat) (KD : Nat → Nat) (ln : Nat) (fa : Nat) (tn : Nat) (pl : Nat) (bDM : ∀ k, DM k ≤ 20) (bCM : ∀ k, k < 6 → CM k ≤ 20) (bl : ln ≤ 120) (bp : pl < 120) : Met l yX3_nextKind wsX3_nextKind (zR 0 0 0 0) (va_Pc [.ref r0, .int (nI pl)] (zP (dC, dI) [(cI, .int), (cJ, .long)] [(r0, .inr (3, [.ref r1, .ref r2, .ref r3, .int (nI ln), .int (nI fa), .int (nI tn)])), (r1, .inl (cI, 6, .inl (fun z_ => nI (DM z_)))), (r2, .inl (cI, 6, .inl (fun z_ => nI (CM z_)))), (r3, .inl (cI, 120, .inl (fun z_ => nI (KD z_))))] sz nwA)) (va_Qi (fun (r : Int32) (u : (Int)) => r = (iI u) ∧ (u = sp_nk DM CM ln pl 6)) (zB (dC, dI) (fun (u : (Int)) => [(r0, .inr (3, [.ref r1, .ref r2, .ref r3, .int (nI ln), .int (nI fa), .int (nI tn)])), (r1, .inl (cI, 6, .inl (fun z_ => nI (DM z_)))), (r2, .inl (cI, 6, .inl (fun z_ => nI (CM z_)))), (r3, .inl (cI, 120, .inl (fun z_ => nI (KD z_))))]) (va_A [(r0, .inr (3, [.ref r1, .ref r2, .ref r3, .int (nI ln), .int (nI fa), .int (nI tn)])), (r1, .inl (cI, 6, .inl (fun z_ => nI (DM z_)))), (r2, .inl (cI, 6, .inl (fun z_ => nI (CM z_)))), (r3, .inl (cI, 120, .inl (fun z_ => nI (KD z_))))] sz)) (va_A [(r0, .inr (3, [.ref r1, .ref r2, .ref r3, .int (nI ln), .int (nI fa), .int (nI tn)])), (r1, .inl (cI, 6, .inl (fun z_ => nI (DM z_)))), (r2, .inl (cI, 6, .inl (fun z_ => nI (CM z_)))), (r3, .inl (cI, 120, .inl (fun z_ => nI (KD z_))))] sz)) 0 0 (va_A [(r0, .inr (3, [.ref r1, .ref r2, .ref r3, .int (nI ln), .int (nI fa), .int (nI tn)])), (r1, .inl (cI, 6, .inl (fun z_ => nI (DM z_)))), (r2, .inl (cI, 6, .inl (fun z_ => nI (CM z_)))), (r3, .inl (cI, 120, .inl (fun z_ => nI (KD z_))))] sz) := by
  refine z_met_i (cc := cX3_nextKind) (maxL := 7) (by decide) rfl (Nat.le_of_ble_eq_true rfl) ?_
  intro p e s m args below meth c Q A ls hx hb hml hown hts hin hA hK hP hD hN hl hRET
  have hown : s.vm.findClass RX3 = some m.cls := hown
  obtain ⟨H, eH⟩ : ∃ H : Heap, H = s.heap := ⟨_, rfl⟩
  rw [← eH] at hP
  obtain ⟨locs, eL⟩ : ∃ z : List Loc, z = [] := ⟨_, rfl⟩
  rw [← eH, ← eL]
  have hS : va_S A s.heap H locs := by rw [eH, eL]; exact va_S.rf
  have hl : lv_has ls 7 [(0, .ref r0), (1, .int (nI pl))] := hl
  have w9 := hts (.fieldLink RX3 9 "PullCards$Row" "demands" "[I") (by decide +kernel)
  have uX3 : ∀ w ∈ wsX30, w ∈ wsX3_nextKind := by decide +kernel
  have w21 := hts (.fieldLink RX3 21 "PullCards$Row" "length" "I") (by decide +kernel)
  have w15 := hts (.fieldLink RX3 15 "PullCards$Row" "came" "[I") (by decide +kernel)
  refine lv_bipush (v := iI (-9)) hx hb dX3_nextKind_0 (by decide) ?_
  refine lv_istore_n (lv' := [(2, .int (iI (-9))), (0, .ref r0), (1, .int (nI pl))]) hx hb dX3_nextKind_2 rfl hl (by decide) rfl (fun ls hl => ?_)
  refine lv_iconst (v := nI 0) hx hb dX3_nextKind_3 (by decide) ?_
  refine z_c0 (v := iI 0) (by decide) ?_
  refine lv_istore_n (lv' := [(3, .int (iI 0)), (2, .int (iI (-9))), (0, .ref r0), (1, .int (nI pl))]) hx hb dX3_nextKind_4 rfl hl (by decide) rfl (fun ls hl => ?_)
  refine lv_iconst (v := nI 0) hx hb dX3_nextKind_5 (by decide) ?_
  refine lv_istore (lv' := [(4, .int (nI 0)), (3, .int (iI 0)), (2, .int (iI (-9))), (0, .ref r0), (1, .int (nI pl))]) hx hb dX3_nextKind_6 hl (by decide) rfl (fun ls hl => ?_)
  have L8 : ∀ (n : Nat) (j : Nat) (b : Int) (g : Int), (6 - j) < n → (j ≤ 6) → (b = sp_nk DM CM ln pl j) → (¬ b = -9 → g = sp_due DM CM ln pl b.toNat) → (-2400 ≤ g ∧ g ≤ 2400) → (b = -9 ∨ (0 ≤ b ∧ b < 6)) → ∀ (H : Heap) (locs : List Loc), va_P (dC, dI) vwCl [(r0, .inr (3, [.ref r1, .ref r2, .ref r3, .int (nI ln), .int (nI fa), .int (nI tn)])), (r1, .inl (cI, 6, .inl (fun z_ => nI (DM z_)))), (r2, .inl (cI, 6, .inl (fun z_ => nI (CM z_)))), (r3, .inl (cI, 120, .inl (fun z_ => nI (KD z_))))] H → va_D A [(r0, .inr (3, [.ref r1, .ref r2, .ref r3, .int (nI ln), .int (nI fa), .int (nI tn)])), (r1, .inl (cI, 6, .inl (fun z_ => nI (DM z_)))), (r2, .inl (cI, 6, .inl (fun z_ => nI (CM z_)))), (r3, .inl (cI, 120, .inl (fun z_ => nI (KD z_))))] → va_S A s.heap H locs → ∀ (ls : Array Slot), lv_has ls 7 [(0, .ref r0), (1, .int (nI pl)), (2, .int (iI b)), (3, .int (iI g)), (4, .int (nI j))] → W p l e (zR 0 0 0 0) s m args below meth c H locs 0 0 Q (F0 m 8 ls []) := by
    intro n
    induction n with
    | zero => intro j b g hn; exact absurd hn (Nat.not_lt_zero _)
    | succ n ih =>
      intro j b g hn i1 i2 i4 i5 i3 H locs hP hD hS ls hl
      have ih8 := ih
      have hn8 := hn
      clear ih hn
      refine lv_iload hx hb dX3_nextKind_8 (lv_at hl 4 rfl) ?_
      refine lv_bipush (v := nI 6) hx hb dX3_nextKind_10 (by decide) ?_
      refine z_icmp_ge (tgt := 94) hx hb dX3_nextKind_12 (by decide) (zcn_le (a := 6) (b := j) rfl rfl (by omega)) (fun c_12 => ?_) (fun c_12 => ?_)
      · skip
        refine lv_iload_n hx hb dX3_nextKind_94 rfl (lv_at hl 2 rfl) ?_
        have q_0 : b = sp_nk DM CM ln pl 6 := by rw [i2, show j = 6 from by omega]
        exact hRET _ ls H locs ((iI b)) (b) dX3_nextKind_95 ⟨rfl, q_0⟩ hP hD hS
      · skip
        refine lv_aload_n hx hb dX3_nextKind_15 rfl (lv_at hl 0 rfl) ?_
        refine z_get (D := (dC, dI)) (ci := 3) (v := .ref r1) (C := RX3) (T := TX3) (N := 6) hx hb hts uX3 hown hK hP 0 rfl rfl 0 (by decide) w9 rfl rfl dX3_nextKind_16 ?_
        refine lv_iload hx hb dX3_nextKind_19 (lv_at hl 4 rfl) ?_
        refine z_iald (v := (nI (DM j))) hx hb hK hP 1 0 rfl rfl j rfl (by omega) rfl dX3_nextKind_21 ?_
        have f21_0 := bDM j
        refine lv_iload_n hx hb dX3_nextKind_22 rfl (lv_at hl 1 rfl) ?_
        refine lv_iconst (v := nI 1) hx hb dX3_nextKind_23 (by decide) ?_
        refine z_iadd (v := (nI (pl + 1))) hx hb dX3_nextKind_24 (nI_add _ _) ?_
        refine z_imul (v := (nI ((DM j) * (pl + 1)))) hx hb dX3_nextKind_25 (pk_mul _ _) ?_
        refine lv_aload_n hx hb dX3_nextKind_26 rfl (lv_at hl 0 rfl) ?_
        refine z_get (D := (dC, dI)) (ci := 3) (v := .int (nI ln)) (C := RX3) (T := TX3) (N := 6) hx hb hts uX3 hown hK hP 0 rfl rfl 3 (by decide) w21 rfl rfl dX3_nextKind_27 ?_
        refine lv_aload_n hx hb dX3_nextKind_30 rfl (lv_at hl 0 rfl) ?_
        refine z_get (D := (dC, dI)) (ci := 3) (v := .ref r2) (C := RX3) (T := TX3) (N := 6) hx hb hts uX3 hown hK hP 0 rfl rfl 1 (by decide) w15 rfl rfl dX3_nextKind_31 ?_
        refine lv_iload hx hb dX3_nextKind_34 (lv_at hl 4 rfl) ?_
        refine z_iald (v := (nI (CM j))) hx hb hK hP 2 0 rfl rfl j rfl (by omega) rfl dX3_nextKind_36 ?_
        refine z_imul (v := (nI (ln * (CM j)))) hx hb dX3_nextKind_37 (pk_mul _ _) ?_
        refine z_isub (v := (iI ((((DM j) * (pl + 1) : Nat) : Int) - ((ln * (CM j) : Nat) : Int)))) hx hb dX3_nextKind_38 (za_sub (iI_N _) (iI_N _)) ?_
        have m1 := Nat.mul_le_mul (bDM j) (show pl + 1 ≤ 120 by omega)
        have m2 := Nat.mul_le_mul bl (bCM j (by omega))
        refine lv_istore (lv' := [(5, .int (iI ((((DM j) * (pl + 1) : Nat) : Int) - ((ln * (CM j) : Nat) : Int)))), (0, .ref r0), (1, .int (nI pl)), (2, .int (iI b)), (3, .int (iI g)), (4, .int (nI j))]) hx hb dX3_nextKind_39 hl (by decide) rfl (fun ls hl => ?_)
        refine lv_aload_n hx hb dX3_nextKind_41 rfl (lv_at hl 1 rfl) ?_
        refine z_get (D := (dC, dI)) (ci := 3) (v := .ref r2) (C := RX3) (T := TX3) (N := 6) hx hb hts uX3 hown hK hP 0 rfl rfl 1 (by decide) w15 rfl rfl dX3_nextKind_42 ?_
        refine lv_iload hx hb dX3_nextKind_45 (lv_at hl 5 rfl) ?_
        refine z_iald (v := (nI (CM j))) hx hb hK hP 2 0 rfl rfl j rfl (by omega) rfl dX3_nextKind_47 ?_
        have f47 := bCM j (by omega)
        refine lv_aload_n hx hb dX3_nextKind_48 rfl (lv_at hl 1 rfl) ?_
        refine z_get (D := (dC, dI)) (ci := 3) (v := .ref r1) (C := RX3) (T := TX3) (N := 6) hx hb hts uX3 hown hK hP 0 rfl rfl 0 (by decide) w9 rfl rfl dX3_nextKind_49 ?_
        refine lv_iload hx hb dX3_nextKind_52 (lv_at hl 5 rfl) ?_
        refine z_iald (v := (nI (DM j))) hx hb hK hP 1 0 rfl rfl j rfl (by omega) rfl dX3_nextKind_54 ?_
        have f54_0 := bDM j
        refine z_icmp_ge (tgt := 62) hx hb dX3_nextKind_55 (by decide) (zcn_le (a := DM j) (b := CM j) rfl rfl (by omega)) (fun c_55 => ?_) (fun c_55 => ?_)
        · skip
          refine lv_iconst (v := nI 0) hx hb dX3_nextKind_62 (by decide) ?_
          refine lv_istore (lv' := [(6, .int (nI 0)), (5, .int (iI ((((DM j) * (pl + 1) : Nat) : Int) - ((ln * (CM j) : Nat) : Int)))), (0, .ref r0), (1, .int (nI pl)), (2, .int (iI b)), (3, .int (iI g)), (4, .int (nI j))]) hx hb dX3_nextKind_63 hl (by decide) rfl (fun ls hl => ?_)
          refine lv_iload hx hb dX3_nextKind_65 (lv_at hl 0 rfl) ?_
          refine lv_if_eq (tgt := 88) hx hb dX3_nextKind_67 (by decide) (fun _ => ?_) (fun c_x => absurd c_x (by decide))
          refine lv_iinc (v := (nI (j + 1))) (lv' := [(4, .int (nI (j + 1))), (6, .int (nI 0)), (5, .int (iI ((((DM j) * (pl + 1) : Nat) : Int) - ((ln * (CM j) : Nat) : Int)))), (0, .ref r0), (1, .int (nI pl)), (2, .int (iI b)), (3, .int (iI g))]) hx hb dX3_nextKind_88 hl (k := 6) rfl (z_incN j 1 (by decide)) (by decide) rfl (fun ls hl => ?_)
          refine lv_goto (tgt := 8) hx hb dX3_nextKind_91 (by decide) ?_
          have o_i1 : (j + 1) ≤ 6 := by first | assumption | omega
          have o_i2 : b = sp_nk DM CM ln pl (j + 1) := by rw [sp_nk_s, ← i2]; (first | rw [if_pos ⟨by omega, Or.inl (by omega)⟩] | rw [if_pos ⟨by omega, Or.inr (by rw [← i4 (by omega)]; unfold sp_due; omega)⟩] | (rw [if_neg]; intro hq; rcases hq.2 with h2 | h2; exact absurd h2 (by omega); rw [← i4 (by omega)] at h2; unfold sp_due at h2; omega) | (rw [if_neg]; intro hq; exact absurd hq.1 (by omega)))
          have o_i4 : ¬ b = -9 → g = sp_due DM CM ln pl b.toNat := by first | exact i4 | (intro _; unfold sp_due; rw [Int.toNat_natCast])
          have o_i5 : -2400 ≤ g ∧ g ≤ 2400 := by first | assumption | omega
          have o_i3 : b = -9 ∨ (0 ≤ b ∧ b < 6) := by first | assumption | omega
          have o_mu : (6 - (j + 1)) < n := by omega
          exact ih8 (j + 1) b g o_mu o_i1 o_i2 o_i4 o_i5 o_i3 H locs hP hD hS ls (lv_sub hl [3, 4, 5, 6, 0] rfl)
        · skip
          refine lv_iconst (v := nI 1) hx hb dX3_nextKind_58 (by decide) ?_
          refine lv_goto (tgt := 63) hx hb dX3_nextKind_59 (by decide) ?_
          refine lv_istore (lv' := [(6, .int (nI 1)), (5, .int (iI ((((DM j) * (pl + 1) : Nat) : Int) - ((ln * (CM j) : Nat) : Int)))), (0, .ref r0), (1, .int (nI pl)), (2, .int (iI b)), (3, .int (iI g)), (4, .int (nI j))]) hx hb dX3_nextKind_63 hl (by decide) rfl (fun ls hl => ?_)
          refine lv_iload hx hb dX3_nextKind_65 (lv_at hl 0 rfl) ?_
          refine lv_if_eq (tgt := 88) hx hb dX3_nextKind_67 (by decide) (fun c_x => absurd c_x (by decide)) (fun _ => ?_)
          refine lv_iload_n hx hb dX3_nextKind_70 rfl (lv_at hl 4 rfl) ?_
          refine lv_bipush (v := iI (-9)) hx hb dX3_nextKind_71 (by decide) ?_
          refine z_icmp_eq (tgt := 82) hx hb dX3_nextKind_73 (by decide) (zc_eq (a := b) (b := -9) rfl rfl (by omega)) (fun c_73 => ?_) (fun c_73 => ?_)
          · skip
            refine lv_iload hx hb dX3_nextKind_82 (lv_at hl 6 rfl) ?_
            refine z_c0 (v := iI ((j : Nat) : Int)) (iI_N _) ?_
            refine lv_istore_n (lv' := [(2, .int (iI ((j : Nat) : Int))), (6, .int (nI 1)), (5, .int (iI ((((DM j) * (pl + 1) : Nat) : Int) - ((ln * (CM j) : Nat) : Int)))), (0, .ref r0), (1, .int (nI pl)), (3, .int (iI g)), (4, .int (nI j))]) hx hb dX3_nextKind_84 rfl hl (by decide) rfl (fun ls hl => ?_)
            refine lv_iload hx hb dX3_nextKind_85 (lv_at hl 2 rfl) ?_
            refine lv_istore_n (lv' := [(3, .int (iI ((((DM j) * (pl + 1) : Nat) : Int) - ((ln * (CM j) : Nat) : Int)))), (2, .int (iI ((j : Nat) : Int))), (6, .int (nI 1)), (5, .int (iI ((((DM j) * (pl + 1) : Nat) : Int) - ((ln * (CM j) : Nat) : Int)))), (0, .ref r0), (1, .int (nI pl)), (4, .int (nI j))]) hx hb dX3_nextKind_87 rfl hl (by decide) rfl (fun ls hl => ?_)
            refine lv_iinc (v := (nI (j + 1))) (lv' := [(4, .int (nI (j + 1))), (3, .int (iI ((((DM j) * (pl + 1) : Nat) : Int) - ((ln * (CM j) : Nat) : Int)))), (2, .int (iI ((j : Nat) : Int))), (6, .int (nI 1)), (5, .int (iI ((((DM j) * (pl + 1) : Nat) : Int) - ((ln * (CM j) : Nat) : Int)))), (0, .ref r0), (1, .int (nI pl))]) hx hb dX3_nextKind_88 hl (k := 6) rfl (z_incN j 1 (by decide)) (by decide) rfl (fun ls hl => ?_)
            refine lv_goto (tgt := 8) hx hb dX3_nextKind_91 (by decide) ?_
            have o_i1 : (j + 1) ≤ 6 := by first | assumption | omega
            have o_i2 : ((j : Nat) : Int) = sp_nk DM CM ln pl (j + 1) := by rw [sp_nk_s, ← i2]; (first | rw [if_pos ⟨by omega, Or.inl (by omega)⟩] | rw [if_pos ⟨by omega, Or.inr (by rw [← i4 (by omega)]; unfold sp_due; omega)⟩] | (rw [if_neg]; intro hq; rcases hq.2 with h2 | h2; exact absurd h2 (by omega); rw [← i4 (by omega)] at h2; unfold sp_due at h2; omega) | (rw [if_neg]; intro hq; exact absurd hq.1 (by omega)))
            have o_i4 : ¬ ((j : Nat) : Int) = -9 → ((((DM j) * (pl + 1) : Nat) : Int) - ((ln * (CM j) : Nat) : Int)) = sp_due DM CM ln pl ((j : Nat) : Int).toNat := by first | exact i4 | (intro _; unfold sp_due; rw [Int.toNat_natCast])
            have o_i5 : -2400 ≤ ((((DM j) * (pl + 1) : Nat) : Int) - ((ln * (CM j) : Nat) : Int)) ∧ ((((DM j) * (pl + 1) : Nat) : Int) - ((ln * (CM j) : Nat) : Int)) ≤ 2400 := by first | assumption | omega
            have o_i3 : ((j : Nat) : Int) = -9 ∨ (0 ≤ ((j : Nat) : Int) ∧ ((j : Nat) : Int) < 6) := by first | assumption | omega
            have o_mu : (6 - (j + 1)) < n := by omega
            exact ih8 (j + 1) ((j : Nat) : Int) ((((DM j) * (pl + 1) : Nat) : Int) - ((ln * (CM j) : Nat) : Int)) o_mu o_i1 o_i2 o_i4 o_i5 o_i3 H locs hP hD hS ls (lv_sub hl [5, 6, 2, 1, 0] rfl)
          · skip
            refine lv_iload hx hb dX3_nextKind_76 (lv_at hl 1 rfl) ?_
            refine lv_iload_n hx hb dX3_nextKind_78 rfl (lv_at hl 5 rfl) ?_
            refine z_icmp_le (tgt := 88) hx hb dX3_nextKind_79 (by decide) (zc_le (a := (((DM j) * (pl + 1) : Nat) : Int) - ((ln * (CM j) : Nat) : Int)) (b := g) rfl rfl (by omega)) (fun c_79 => ?_) (fun c_79 => ?_)
            · skip
              refine lv_iinc (v := (nI (j + 1))) (lv' := [(4, .int (nI (j + 1))), (6, .int (nI 1)), (5, .int (iI ((((DM j) * (pl + 1) : Nat) : Int) - ((ln * (CM j) : Nat) : Int)))), (0, .ref r0), (1, .int (nI pl)), (2, .int (iI b)), (3, .int (iI g))]) hx hb dX3_nextKind_88 hl (k := 6) rfl (z_incN j 1 (by decide)) (by decide) rfl (fun ls hl => ?_)
              refine lv_goto (tgt := 8) hx hb dX3_nextKind_91 (by decide) ?_
              have o_i1 : (j + 1) ≤ 6 := by first | assumption | omega
              have o_i2 : b = sp_nk DM CM ln pl (j + 1) := by rw [sp_nk_s, ← i2]; (first | rw [if_pos ⟨by omega, Or.inl (by omega)⟩] | rw [if_pos ⟨by omega, Or.inr (by rw [← i4 (by omega)]; unfold sp_due; omega)⟩] | (rw [if_neg]; intro hq; rcases hq.2 with h2 | h2; exact absurd h2 (by omega); rw [← i4 (by omega)] at h2; unfold sp_due at h2; omega) | (rw [if_neg]; intro hq; exact absurd hq.1 (by omega)))
              have o_i4 : ¬ b = -9 → g = sp_due DM CM ln pl b.toNat := by first | exact i4 | (intro _; unfold sp_due; rw [Int.toNat_natCast])
              have o_i5 : -2400 ≤ g ∧ g ≤ 2400 := by first | assumption | omega
              have o_i3 : b = -9 ∨ (0 ≤ b ∧ b < 6) := by first | assumption | omega
              have o_mu : (6 - (j + 1)) < n := by omega
              exact ih8 (j + 1) b g o_mu o_i1 o_i2 o_i4 o_i5 o_i3 H locs hP hD hS ls (lv_sub hl [3, 4, 5, 6, 0] rfl)
            · skip
              refine lv_iload hx hb dX3_nextKind_82 (lv_at hl 6 rfl) ?_
              refine z_c0 (v := iI ((j : Nat) : Int)) (iI_N _) ?_
              refine lv_istore_n (lv' := [(2, .int (iI ((j : Nat) : Int))), (6, .int (nI 1)), (5, .int (iI ((((DM j) * (pl + 1) : Nat) : Int) - ((ln * (CM j) : Nat) : Int)))), (0, .ref r0), (1, .int (nI pl)), (3, .int (iI g)), (4, .int (nI j))]) hx hb dX3_nextKind_84 rfl hl (by decide) rfl (fun ls hl => ?_)
              refine lv_iload hx hb dX3_nextKind_85 (lv_at hl 2 rfl) ?_
              refine lv_istore_n (lv' := [(3, .int (iI ((((DM j) * (pl + 1) : Nat) : Int) - ((ln * (CM j) : Nat) : Int)))), (2, .int (iI ((j : Nat) : Int))), (6, .int (nI 1)), (5, .int (iI ((((DM j) * (pl + 1) : Nat) : Int) - ((ln * (CM j) : Nat) : Int)))), (0, .ref r0), (1, .int (nI pl)), (4, .int (nI j))]) hx hb dX3_nextKind_87 rfl hl (by decide) rfl (fun ls hl => ?_)
              refine lv_iinc (v := (nI (j + 1))) (lv' := [(4, .int (nI (j + 1))), (3, .int (iI ((((DM j) * (pl + 1) : Nat) : Int) - ((ln * (CM j) : Nat) : Int)))), (2, .int (iI ((j : Nat) : Int))), (6, .int (nI 1)), (5, .int (iI ((((DM j) * (pl + 1) : Nat) : Int) - ((ln * (CM j) : Nat) : Int)))), (0, .ref r0), (1, .int (nI pl))]) hx hb dX3_nextKind_88 hl (k := 6) rfl (z_incN j 1 (by decide)) (by decide) rfl (fun ls hl => ?_)
              refine lv_goto (tgt := 8) hx hb dX3_nextKind_91 (by decide) ?_
              have o_i1 : (j + 1) ≤ 6 := by first | assumption | omega
              have o_i2 : ((j : Nat) : Int) = sp_nk DM CM ln pl (j + 1) := by rw [sp_nk_s, ← i2]; (first | rw [if_pos ⟨by omega, Or.inl (by omega)⟩] | rw [if_pos ⟨by omega, Or.inr (by rw [← i4 (by omega)]; unfold sp_due; omega)⟩] | (rw [if_neg]; intro hq; rcases hq.2 with h2 | h2; exact absurd h2 (by omega); rw [← i4 (by omega)] at h2; unfold sp_due at h2; omega) | (rw [if_neg]; intro hq; exact absurd hq.1 (by omega)))
              have o_i4 : ¬ ((j : Nat) : Int) = -9 → ((((DM j) * (pl + 1) : Nat) : Int) - ((ln * (CM j) : Nat) : Int)) = sp_due DM CM ln pl ((j : Nat) : Int).toNat := by first | exact i4 | (intro _; unfold sp_due; rw [Int.toNat_natCast])
              have o_i5 : -2400 ≤ ((((DM j) * (pl + 1) : Nat) : Int) - ((ln * (CM j) : Nat) : Int)) ∧ ((((DM j) * (pl + 1) : Nat) : Int) - ((ln * (CM j) : Nat) : Int)) ≤ 2400 := by first | assumption | omega
              have o_i3 : ((j : Nat) : Int) = -9 ∨ (0 ≤ ((j : Nat) : Int) ∧ ((j : Nat) : Int) < 6) := by first | assumption | omega
              have o_mu : (6 - (j + 1)) < n := by omega
              exact ih8 (j + 1) ((j : Nat) : Int) ((((DM j) * (pl + 1) : Nat) : Int) - ((ln * (CM j) : Nat) : Int)) o_mu o_i1 o_i2 o_i4 o_i5 o_i3 H locs hP hD hS ls (lv_sub hl [5, 6, 2, 1, 0] rfl)
  have o_i1 : 0 ≤ 6 := by first | assumption | omega
  have o_i2 : (-9 : Int) = sp_nk DM CM ln pl 0 := by rfl
  have o_i4 : ¬ (-9 : Int) = -9 → (0 : Int) = sp_due DM CM ln pl (-9 : Int).toNat := by intro h; omega
  have o_i5 : -2400 ≤ (0 : Int) ∧ (0 : Int) ≤ 2400 := by first | assumption | omega
  have o_i3 : (-9 : Int) = -9 ∨ (0 ≤ (-9 : Int) ∧ (-9 : Int) < 6) := by first | assumption | omega
  exact L8 ((6 - 0) + 1) 0 (-9 : Int) (0 : Int) (Nat.lt_succ_self _) o_i1 o_i2 o_i4 o_i5 o_i3 H locs hP hD hS ls (lv_sub hl [3, 4, 2, 1, 0] rfl)

set_option maxHeartbeats 4000000 in
set_option maxRecDepth 100000 in
theorem c_X3_farthestAfter (l : Launch) (dC : Nat → ClassId) (dI : Nat → Nat → Nat) (cI cJ : ClassId) (sz : Nat) (r0 : Nat) (r1 : Nat) (r2 : Nat) (r3 : Nat) (DM : Nat → Nat) (CM : Nat → Nat) (KD : Nat → Nat) (ln : Nat) (fa : Nat) (tn : Nat) (q : Nat) (bDM : ∀ k, DM k ≤ 20) (bCM : ∀ k, k < 6 → CM k ≤ 20) (bl : ln ≤ 120) (bq : q ≤ 120) : Met l yX3_farthestAfter wsX3_farthestAfter (zR 1 0 0 25) (va_Pc [.ref r0, .int (nI q)] (zP (dC, dI) [(cI, .int), (cJ, .long)] [(r0, .inr (3, [.ref r1, .ref r2, .ref r3, .int (nI ln), .int (nI fa), .int (nI tn)])), (r1, .inl (cI, 6, .inl (fun z_ => nI (DM z_)))), (r2, .inl (cI, 6, .inl (fun z_ => nI (CM z_)))), (r3, .inl (cI, 120, .inl (fun z_ => nI (KD z_))))] sz nwA)) (va_Qi (fun (r : Int32) (u : (Nat)) => r = (nI u) ∧ (u = sp_far DM CM ln q 6)) (zB (dC, dI) (fun (u : (Nat)) => [(r0, .inr (3, [.ref r1, .ref r2, .ref r3, .int (nI ln), .int (nI fa), .int (nI tn)])), (r1, .inl (cI, 6, .inl (fun z_ => nI (DM z_)))), (r2, .inl (cI, 6, .inl (fun z_ => nI (CM z_)))), (r3, .inl (cI, 120, .inl (fun z_ => nI (KD z_))))]) (va_A [(r0, .inr (3, [.ref r1, .ref r2, .ref r3, .int (nI ln), .int (nI fa), .int (nI tn)])), (r1, .inl (cI, 6, .inl (fun z_ => nI (DM z_)))), (r2, .inl (cI, 6, .inl (fun z_ => nI (CM z_)))), (r3, .inl (cI, 120, .inl (fun z_ => nI (KD z_))))] sz)) (va_A [(r0, .inr (3, [.ref r1, .ref r2, .ref r3, .int (nI ln), .int (nI fa), .int (nI tn)])), (r1, .inl (cI, 6, .inl (fun z_ => nI (DM z_)))), (r2, .inl (cI, 6, .inl (fun z_ => nI (CM z_)))), (r3, .inl (cI, 120, .inl (fun z_ => nI (KD z_))))] sz)) 0 0 (va_A [(r0, .inr (3, [.ref r1, .ref r2, .ref r3, .int (nI ln), .int (nI fa), .int (nI tn)])), (r1, .inl (cI, 6, .inl (fun z_ => nI (DM z_)))), (r2, .inl (cI, 6, .inl (fun z_ => nI (CM z_)))), (r3, .inl (cI, 120, .inl (fun z_ => nI (KD z_))))] sz) := by
  refine z_met_i (cc := cX3_farthestAfter) (maxL := 4) (by decide) rfl (Nat.le_of_ble_eq_true rfl) ?_
  intro p e s m args below meth c Q A ls hx hb hml hown hts hin hA hK hP hD hN hl hRET
  have hown : s.vm.findClass RX3 = some m.cls := hown
  obtain ⟨H, eH⟩ : ∃ H : Heap, H = s.heap := ⟨_, rfl⟩
  rw [← eH] at hP
  obtain ⟨locs, eL⟩ : ∃ z : List Loc, z = [] := ⟨_, rfl⟩
  rw [← eH, ← eL]
  have hS : va_S A s.heap H locs := by rw [eH, eL]; exact va_S.rf
  have hl : lv_has ls 4 [(0, .ref r0), (1, .int (nI q))] := hl
  have w21 := hts (.fieldLink RX3 21 "PullCards$Row" "length" "I") (by decide +kernel)
  have uX3 : ∀ w ∈ wsX30, w ∈ wsX3_farthestAfter := by decide +kernel
  have w15 := hts (.fieldLink RX3 15 "PullCards$Row" "came" "[I") (by decide +kernel)
  have w9 := hts (.fieldLink RX3 9 "PullCards$Row" "demands" "[I") (by decide +kernel)
  refine lv_iconst (v := nI 0) hx hb dX3_farthestAfter_0 (by decide) ?_
  refine lv_istore_n (lv' := [(2, .int (nI 0)), (0, .ref r0), (1, .int (nI q))]) hx hb dX3_farthestAfter_1 rfl hl (by decide) rfl (fun ls hl => ?_)
  refine lv_iconst (v := nI 0) hx hb dX3_farthestAfter_2 (by decide) ?_
  refine lv_istore_n (lv' := [(3, .int (nI 0)), (2, .int (nI 0)), (0, .ref r0), (1, .int (nI q))]) hx hb dX3_farthestAfter_3 rfl hl (by decide) rfl (fun ls hl => ?_)
  have L4 : ∀ (n : Nat) (j : Nat) (g : Nat), (6 - j) < n → (j ≤ 6) → (g = sp_far DM CM ln q j) → (g ≤ 2400) → ∀ (H : Heap) (locs : List Loc), va_P (dC, dI) vwCl [(r0, .inr (3, [.ref r1, .ref r2, .ref r3, .int (nI ln), .int (nI fa), .int (nI tn)])), (r1, .inl (cI, 6, .inl (fun z_ => nI (DM z_)))), (r2, .inl (cI, 6, .inl (fun z_ => nI (CM z_)))), (r3, .inl (cI, 120, .inl (fun z_ => nI (KD z_))))] H → va_D A [(r0, .inr (3, [.ref r1, .ref r2, .ref r3, .int (nI ln), .int (nI fa), .int (nI tn)])), (r1, .inl (cI, 6, .inl (fun z_ => nI (DM z_)))), (r2, .inl (cI, 6, .inl (fun z_ => nI (CM z_)))), (r3, .inl (cI, 120, .inl (fun z_ => nI (KD z_))))] → va_S A s.heap H locs → ∀ (ls : Array Slot), lv_has ls 4 [(0, .ref r0), (1, .int (nI q)), (2, .int (nI g)), (3, .int (nI j))] → W p l e (zR 1 0 0 25) s m args below meth c H locs 0 0 Q (F0 m 4 ls []) := by
    intro n
    induction n with
    | zero => intro j g hn; exact absurd hn (Nat.not_lt_zero _)
    | succ n ih =>
      intro j g hn i1 i2 i3 H locs hP hD hS ls hl
      have ih4 := ih
      have hn4 := hn
      clear ih hn
      refine lv_iload_n hx hb dX3_farthestAfter_4 rfl (lv_at hl 3 rfl) ?_
      refine lv_bipush (v := nI 6) hx hb dX3_farthestAfter_5 (by decide) ?_
      refine z_icmp_ge (tgt := 44) hx hb dX3_farthestAfter_7 (by decide) (zcn_le (a := 6) (b := j) rfl rfl (by omega)) (fun c_7 => ?_) (fun c_7 => ?_)
      · skip
        refine lv_iload_n hx hb dX3_farthestAfter_44 rfl (lv_at hl 2 rfl) ?_
        have q_0 : g = sp_far DM CM ln q 6 := by rw [i2, show j = 6 from by omega]
        exact hRET _ ls H locs ((nI g)) (g) dX3_farthestAfter_45 ⟨rfl, q_0⟩ hP hD hS
      · skip
        refine lv_iload_n hx hb dX3_farthestAfter_10 rfl (lv_at hl 2 rfl) ?_
        refine lv_aload_n hx hb dX3_farthestAfter_11 rfl (lv_at hl 0 rfl) ?_
        refine z_get (D := (dC, dI)) (ci := 3) (v := .int (nI ln)) (C := RX3) (T := TX3) (N := 6) hx hb hts uX3 hown hK hP 0 rfl rfl 3 (by decide) w21 rfl rfl dX3_farthestAfter_12 ?_
        refine lv_aload_n hx hb dX3_farthestAfter_15 rfl (lv_at hl 0 rfl) ?_
        refine z_get (D := (dC, dI)) (ci := 3) (v := .ref r2) (C := RX3) (T := TX3) (N := 6) hx hb hts uX3 hown hK hP 0 rfl rfl 1 (by decide) w15 rfl rfl dX3_farthestAfter_16 ?_
        refine lv_iload_n hx hb dX3_farthestAfter_19 rfl (lv_at hl 3 rfl) ?_
        refine z_iald (v := (nI (CM j))) hx hb hK hP 2 0 rfl rfl j rfl (by omega) rfl dX3_farthestAfter_20 ?_
        refine z_imul (v := (nI (ln * (CM j)))) hx hb dX3_farthestAfter_21 (pk_mul _ _) ?_
        refine lv_aload_n hx hb dX3_farthestAfter_22 rfl (lv_at hl 0 rfl) ?_
        refine z_get (D := (dC, dI)) (ci := 3) (v := .ref r1) (C := RX3) (T := TX3) (N := 6) hx hb hts uX3 hown hK hP 0 rfl rfl 0 (by decide) w9 rfl rfl dX3_farthestAfter_23 ?_
        refine lv_iload_n hx hb dX3_farthestAfter_26 rfl (lv_at hl 3 rfl) ?_
        refine z_iald (v := (nI (DM j))) hx hb hK hP 1 0 rfl rfl j rfl (by omega) rfl dX3_farthestAfter_27 ?_
        refine lv_iload_n hx hb dX3_farthestAfter_28 rfl (lv_at hl 1 rfl) ?_
        refine z_imul (v := (nI ((DM j) * q))) hx hb dX3_farthestAfter_29 (pk_mul _ _) ?_
        refine z_isub (v := (iI (((ln * (CM j) : Nat) : Int) - (((DM j) * q : Nat) : Int)))) hx hb dX3_farthestAfter_30 (za_sub (iI_N _) (iI_N _)) ?_
        have m1 := Nat.mul_le_mul (bDM j) bq
        have m2 := Nat.mul_le_mul bl (bCM j (by omega))
        refine va_mabs hx hb (by rw [hml, hl.1]) hown (hts (.methodLink RX3 44 Lib.Math.abs.name) (by decide +kernel)) (hts (.static Lib.Math.abs.name) (by decide +kernel)) (hts (.initialized "java/lang/Math") (by decide +kernel)) (hts (.code Lib.Math.abs.name Lib.Math.abs.code 1 (some .int)) (by decide +kernel)) (Nat.le_of_ble_eq_true rfl) (Nat.le_of_ble_eq_true rfl) (Nat.zero_le _) (Nat.zero_le _) dX3_farthestAfter_31 ?_
        refine z_c0 (v := nI ((((ln * (CM j) : Nat) : Int) - (((DM j) * q : Nat) : Int)).natAbs)) (za_abs rfl (by omega)) ?_
        refine va_mmax hx hb (by rw [hml, hl.1]) hown (hts (.methodLink RX3 38 Lib.Math.max.name) (by decide +kernel)) (hts (.static Lib.Math.max.name) (by decide +kernel)) (hts (.initialized "java/lang/Math") (by decide +kernel)) (hts (.code Lib.Math.max.name Lib.Math.max.code 2 (some .int)) (by decide +kernel)) (Nat.le_of_ble_eq_true rfl) (Nat.le_of_ble_eq_true rfl) (Nat.zero_le _) (Nat.zero_le _) dX3_farthestAfter_34 ?_
        refine z_c0 (v := nI (max g ((((ln * (CM j) : Nat) : Int) - (((DM j) * q : Nat) : Int)).natAbs))) (zn_max (by omega)) ?_
        refine lv_istore_n (lv' := [(2, .int (nI (max g ((((ln * (CM j) : Nat) : Int) - (((DM j) * q : Nat) : Int)).natAbs)))), (0, .ref r0), (1, .int (nI q)), (3, .int (nI j))]) hx hb dX3_farthestAfter_37 rfl hl (by decide) rfl (fun ls hl => ?_)
        refine lv_iinc (v := (nI (j + 1))) (lv' := [(3, .int (nI (j + 1))), (2, .int (nI (max g ((((ln * (CM j) : Nat) : Int) - (((DM j) * q : Nat) : Int)).natAbs)))), (0, .ref r0), (1, .int (nI q))]) hx hb dX3_farthestAfter_38 hl (k := 3) rfl (z_incN j 1 (by decide)) (by decide) rfl (fun ls hl => ?_)
        refine lv_goto (tgt := 4) hx hb dX3_farthestAfter_41 (by decide) ?_
        have o_i1 : (j + 1) ≤ 6 := by first | assumption | omega
        have o_i2 : (max g ((((ln * (CM j) : Nat) : Int) - (((DM j) * q : Nat) : Int)).natAbs)) = sp_far DM CM ln q (j + 1) := by rw [sp_far_s, i2]
        have o_i3 : (max g ((((ln * (CM j) : Nat) : Int) - (((DM j) * q : Nat) : Int)).natAbs)) ≤ 2400 := by first | assumption | omega
        have o_mu : (6 - (j + 1)) < n := by omega
        exact ih4 (j + 1) (max g ((((ln * (CM j) : Nat) : Int) - (((DM j) * q : Nat) : Int)).natAbs)) o_mu o_i1 o_i2 o_i3 H locs hP hD hS ls (lv_sub hl [2, 3, 1, 0] rfl)
  have o_i1 : 0 ≤ 6 := by first | assumption | omega
  have o_i2 : 0 = sp_far DM CM ln q 0 := by rfl
  have o_i3 : 0 ≤ 2400 := by first | assumption | omega
  exact L4 ((6 - 0) + 1) 0 0 (Nat.lt_succ_self _) o_i1 o_i2 o_i3 H locs hP hD hS ls (lv_sub hl [2, 3, 1, 0] rfl)

set_option maxHeartbeats 4000000 in
set_option maxRecDepth 100000 in
theorem c_X3_lay (l : Launch) (dC : Nat → ClassId) (dI : Nat → Nat → Nat) (cI cJ : ClassId) (sz : Nat) (r0 : Nat) (r1 : Nat) (r2 : Nat) (r3 : Nat) (DM : Nat → Nat) (CM : Nat → Nat) (KD : Nat → Nat) (ln : Nat) (fa : Nat) (tn : Nat) (bDM : ∀ k, DM k ≤ 20) : Met l yX3_lay wsX3_lay (zR 2 0 0 48) (va_Pc [.ref r0] (zP (dC, dI) [(cI, .int), (cJ, .long)] [(r0, .inr (3, [.ref r1, .ref r2, .ref r3, .int (nI ln), .int (nI fa), .int (nI tn)])), (r1, .inl (cI, 6, .inl (fun z_ => nI (DM z_)))), (r2, .inl (cI, 6, .inl (fun z_ => nI (CM z_)))), (r3, .inl (cI, 120, .inl (fun z_ => nI (KD z_))))] sz nwA)) (va_Qv (fun (u : (Nat → Nat) × (Nat → Nat) × (Nat) × (Nat) × (Nat)) => (u.2.2.1 = fb_sm DM 6) ∧ (∀ q, q < u.2.2.1 → u.2.1 q = sp_kd DM u.2.2.1 q) ∧ (u.2.2.2.1 = sp_rg DM u.2.2.1 u.2.2.1) ∧ (u.2.2.2.2 = sp_tn DM u.2.2.1 u.2.2.1)) (zB (dC, dI) (fun (u : (Nat → Nat) × (Nat → Nat) × (Nat) × (Nat) × (Nat)) => [(r0, .inr (3, [.ref r1, .ref r2, .ref r3, .int (nI u.2.2.1), .int (nI u.2.2.2.1), .int (nI u.2.2.2.2)])), (r1, .inl (cI, 6, .inl (fun z_ => nI (DM z_)))), (r2, .inl (cI, 6, .inl (fun z_ => nI (u.1 z_)))), (r3, .inl (cI, 120, .inl (fun z_ => nI (u.2.1 z_))))]) (va_A [(r0, .inr (3, [.ref r1, .ref r2, .ref r3, .int (nI ln), .int (nI fa), .int (nI tn)])), (r1, .inl (cI, 6, .inl (fun z_ => nI (DM z_)))), (r2, .inl (cI, 6, .inl (fun z_ => nI (CM z_)))), (r3, .inl (cI, 120, .inl (fun z_ => nI (KD z_))))] sz)) (va_A [(r0, .inr (3, [.ref r1, .ref r2, .ref r3, .int (nI ln), .int (nI fa), .int (nI tn)])), (r1, .inl (cI, 6, .inl (fun z_ => nI (DM z_)))), (r2, .inl (cI, 6, .inl (fun z_ => nI (CM z_)))), (r3, .inl (cI, 120, .inl (fun z_ => nI (KD z_))))] sz)) 0 0 (va_A [(r0, .inr (3, [.ref r1, .ref r2, .ref r3, .int (nI ln), .int (nI fa), .int (nI tn)])), (r1, .inl (cI, 6, .inl (fun z_ => nI (DM z_)))), (r2, .inl (cI, 6, .inl (fun z_ => nI (CM z_)))), (r3, .inl (cI, 120, .inl (fun z_ => nI (KD z_))))] sz) := by
  refine z_met_v (cc := cX3_lay) (maxL := 3) (by decide) rfl (Nat.le_of_ble_eq_true rfl) ?_
  intro p e s m args below meth c Q A ls hx hb hml hown hts hin hA hK hP hD hN hl hRET
  have hown : s.vm.findClass RX3 = some m.cls := hown
  obtain ⟨H, eH⟩ : ∃ H : Heap, H = s.heap := ⟨_, rfl⟩
  rw [← eH] at hP
  obtain ⟨locs, eL⟩ : ∃ z : List Loc, z = [] := ⟨_, rfl⟩
  rw [← eH, ← eL]
  have hS : va_S A s.heap H locs := by rw [eH, eL]; exact va_S.rf
  have hl : lv_has ls 3 [(0, .ref r0)] := hl
  have w21 := hts (.fieldLink RX3 21 "PullCards$Row" "length" "I") (by decide +kernel)
  have uX3 : ∀ w ∈ wsX30, w ∈ wsX3_lay := by decide +kernel
  have w9 := hts (.fieldLink RX3 9 "PullCards$Row" "demands" "[I") (by decide +kernel)
  have w15 := hts (.fieldLink RX3 15 "PullCards$Row" "came" "[I") (by decide +kernel)
  have w25 := hts (.fieldLink RX3 25 "PullCards$Row" "farthest" "I") (by decide +kernel)
  have w28 := hts (.fieldLink RX3 28 "PullCards$Row" "turns" "I") (by decide +kernel)
  have w18 := hts (.fieldLink RX3 18 "PullCards$Row" "kinds" "[I") (by decide +kernel)
  refine lv_aload_n hx hb dX3_lay_0 rfl (lv_at hl 0 rfl) ?_
  refine lv_iconst (v := nI 0) hx hb dX3_lay_1 (by decide) ?_
  refine z_put (D := (dC, dI)) (ci := 3) (v := .int (nI 0)) (C := RX3) (T := TX3) (N := 6) hx hb hts uX3 tyX3 tyX3_ok nmX3 hown hK hP hD hS 0 rfl rfl 3 (by decide) w21 rfl rfl rfl rfl (Nat.le_of_ble_eq_true rfl) [(r0, .inr (3, [.ref r1, .ref r2, .ref r3, .int (nI 0), .int (nI fa), .int (nI tn)])), (r1, .inl (cI, 6, .inl (fun z_ => nI (DM z_)))), (r2, .inl (cI, 6, .inl (fun z_ => nI (CM z_)))), (r3, .inl (cI, 120, .inl (fun z_ => nI (KD z_))))] rfl dX3_lay_2 (fun H locs hP hD hS => ?_)
  refine lv_iconst (v := nI 0) hx hb dX3_lay_5 (by decide) ?_
  refine lv_istore_n (lv' := [(1, .int (nI 0)), (0, .ref r0)]) hx hb dX3_lay_6 rfl hl (by decide) rfl (fun ls hl => ?_)
  have L7 : ∀ (n : Nat) (j : Nat) (sm : Nat) (CM1 : Nat → Nat), (6 - j) < n → (j ≤ 6) → (sm = fb_sm DM j) → (∀ k, k < j → CM1 k = 0) → ∀ (H : Heap) (locs : List Loc), va_P (dC, dI) vwCl [(r0, .inr (3, [.ref r1, .ref r2, .ref r3, .int (nI sm), .int (nI fa), .int (nI tn)])), (r1, .inl (cI, 6, .inl (fun z_ => nI (DM z_)))), (r2, .inl (cI, 6, .inl (fun z_ => nI (CM1 z_)))), (r3, .inl (cI, 120, .inl (fun z_ => nI (KD z_))))] H → va_D A [(r0, .inr (3, [.ref r1, .ref r2, .ref r3, .int (nI sm), .int (nI fa), .int (nI tn)])), (r1, .inl (cI, 6, .inl (fun z_ => nI (DM z_)))), (r2, .inl (cI, 6, .inl (fun z_ => nI (CM1 z_)))), (r3, .inl (cI, 120, .inl (fun z_ => nI (KD z_))))] → va_S A s.heap H locs → ∀ (ls : Array Slot), lv_has ls 3 [(0, .ref r0), (1, .int (nI j))] → W p l e (zR 2 0 0 48) s m args below meth c H locs 0 0 Q (F0 m 7 ls []) := by
    intro n
    induction n with
    | zero => intro j sm CM1 hn; exact absurd hn (Nat.not_lt_zero _)
    | succ n ih =>
      intro j sm CM1 hn i1 i2 i3 H locs hP hD hS ls hl
      have ih7 := ih
      have hn7 := hn
      clear ih hn
      refine lv_iload_n hx hb dX3_lay_7 rfl (lv_at hl 1 rfl) ?_
      refine lv_bipush (v := nI 6) hx hb dX3_lay_8 (by decide) ?_
      refine z_icmp_ge (tgt := 41) hx hb dX3_lay_10 (by decide) (zcn_le (a := 6) (b := j) rfl rfl (by omega)) (fun c_10 => ?_) (fun c_10 => ?_)
      · skip
        have hsm : sm = fb_sm DM 6 := by rw [i2, show j = 6 from by omega]
        have hsm2 : sm ≤ 120 := by rw [hsm]; exact sp_len_le bDM
        refine lv_aload_n hx hb dX3_lay_41 rfl (lv_at hl 0 rfl) ?_
        refine lv_iconst (v := nI 0) hx hb dX3_lay_42 (by decide) ?_
        refine z_put (D := (dC, dI)) (ci := 3) (v := .int (nI 0)) (C := RX3) (T := TX3) (N := 6) hx hb hts uX3 tyX3 tyX3_ok nmX3 hown hK hP hD hS 0 rfl rfl 4 (by decide) w25 rfl rfl rfl rfl (Nat.le_of_ble_eq_true rfl) [(r0, .inr (3, [.ref r1, .ref r2, .ref r3, .int (nI sm), .int (nI 0), .int (nI tn)])), (r1, .inl (cI, 6, .inl (fun z_ => nI (DM z_)))), (r2, .inl (cI, 6, .inl (fun z_ => nI (CM1 z_)))), (r3, .inl (cI, 120, .inl (fun z_ => nI (KD z_))))] rfl dX3_lay_43 (fun H locs hP hD hS => ?_)
        refine lv_aload_n hx hb dX3_lay_46 rfl (lv_at hl 0 rfl) ?_
        refine lv_iconst (v := nI 0) hx hb dX3_lay_47 (by decide) ?_
        refine z_put (D := (dC, dI)) (ci := 3) (v := .int (nI 0)) (C := RX3) (T := TX3) (N := 6) hx hb hts uX3 tyX3 tyX3_ok nmX3 hown hK hP hD hS 0 rfl rfl 5 (by decide) w28 rfl rfl rfl rfl (Nat.le_of_ble_eq_true rfl) [(r0, .inr (3, [.ref r1, .ref r2, .ref r3, .int (nI sm), .int (nI 0), .int (nI 0)])), (r1, .inl (cI, 6, .inl (fun z_ => nI (DM z_)))), (r2, .inl (cI, 6, .inl (fun z_ => nI (CM1 z_)))), (r3, .inl (cI, 120, .inl (fun z_ => nI (KD z_))))] rfl dX3_lay_48 (fun H locs hP hD hS => ?_)
        refine lv_iconst (v := nI 0) hx hb dX3_lay_51 (by decide) ?_
        refine lv_istore_n (lv' := [(1, .int (nI 0)), (0, .ref r0)]) hx hb dX3_lay_52 rfl hl (by decide) rfl (fun ls hl => ?_)
        have L53 : ∀ (n : Nat) (pl : Nat) (CM3 : Nat → Nat) (KD3 : Nat → Nat) (fa3 : Nat) (tn3 : Nat), (sm - pl) < n → (pl ≤ sm) → (∀ k, k < 6 → CM3 k = sp_cm DM sm pl k) → (∀ q, q < pl → KD3 q = sp_kd DM sm q) → (fa3 = sp_rg DM sm pl) → (tn3 = sp_tn DM sm pl) → ∀ (H : Heap) (locs : List Loc), va_P (dC, dI) vwCl [(r0, .inr (3, [.ref r1, .ref r2, .ref r3, .int (nI sm), .int (nI fa3), .int (nI tn3)])), (r1, .inl (cI, 6, .inl (fun z_ => nI (DM z_)))), (r2, .inl (cI, 6, .inl (fun z_ => nI (CM3 z_)))), (r3, .inl (cI, 120, .inl (fun z_ => nI (KD3 z_))))] H → va_D A [(r0, .inr (3, [.ref r1, .ref r2, .ref r3, .int (nI sm), .int (nI fa3), .int (nI tn3)])), (r1, .inl (cI, 6, .inl (fun z_ => nI (DM z_)))), (r2, .inl (cI, 6, .inl (fun z_ => nI (CM3 z_)))), (r3, .inl (cI, 120, .inl (fun z_ => nI (KD3 z_))))] → va_S A s.heap H locs → ∀ (ls : Array Slot), lv_has ls 3 [(0, .ref r0), (1, .int (nI pl))] → W p l e (zR 2 0 0 48) s m args below meth c H locs 0 0 Q (F0 m 53 ls []) := by
          intro n
          induction n with
          | zero => intro pl CM3 KD3 fa3 tn3 hn; exact absurd hn (Nat.not_lt_zero _)
          | succ n ih =>
            intro pl CM3 KD3 fa3 tn3 hn k1 k2 k3 k4 k5 H locs hP hD hS ls hl
            have ih53 := ih
            have hn53 := hn
            clear ih hn
            have k6 := sp_tn_le DM sm pl
            have k7 := sp_rg_le hsm hsm2 bDM pl k1
            have k8 := sp_cm_ok hsm pl k1
            have bCM : ∀ k, k < 6 → CM3 k ≤ 20 := fun k hk => by rw [k2 k hk]; exact Nat.le_trans (k8.1 k hk) (bDM k)
            refine lv_iload_n hx hb dX3_lay_53 rfl (lv_at hl 1 rfl) ?_
            refine lv_aload_n hx hb dX3_lay_54 rfl (lv_at hl 0 rfl) ?_
            refine z_get (D := (dC, dI)) (ci := 3) (v := .int (nI sm)) (C := RX3) (T := TX3) (N := 6) hx hb hts uX3 hown hK hP 0 rfl rfl 3 (by decide) w21 rfl rfl dX3_lay_55 ?_
            refine z_icmp_ge (tgt := 139) hx hb dX3_lay_58 (by decide) (zcn_le (a := sm) (b := pl) rfl rfl (by omega)) (fun c_58 => ?_) (fun c_58 => ?_)
            · skip
              have q_0 : sm = fb_sm DM 6 := by first | assumption | omega
              have q_1 : ∀ q, q < sm → KD3 q = sp_kd DM sm q := by intro q hq; exact k3 q (by omega)
              have q_2 : fa3 = sp_rg DM sm sm := by rw [k4, show pl = sm from by omega]
              have q_3 : tn3 = sp_tn DM sm sm := by rw [k5, show pl = sm from by omega]
              exact hRET _ ls H locs (CM3, KD3, sm, fa3, tn3) dX3_lay_139 ⟨q_0, q_1, q_2, q_3⟩ hP hD hS
            · skip
              refine lv_aload_n hx hb dX3_lay_61 rfl (lv_at hl 0 rfl) ?_
              refine lv_iload_n hx hb dX3_lay_62 rfl (lv_at hl 1 rfl) ?_
              refine z_callVi (As := [.int (nI pl)]) (rest := []) (wr := []) ⟨hx, hb, hml, hown, hts⟩ (c_X3_nextKind l dC dI cI cJ H.size r0 r1 r2 r3 DM CM3 KD3 sm fa3 tn3 pl (by first | assumption | omega) (by exact bCM) (by first | assumption | omega) (by first | assumption | omega)) (cwV 1 hts gX3_lay_X3_nextKind rfl rfl rfl (by decide +kernel) ⟨Nat.le_of_ble_eq_true rfl, Nat.le_of_ble_eq_true rfl⟩) hA hK hP hD hS [0, 1, 2, 3] [] [0, 1, 2, 3] rfl rfl (by decide) (by decide) (by decide) nwA_ok hN (ci := 3) rfl rfl 0 rfl hl.1 (Nat.le_of_ble_eq_true rfl) ⟨Nat.le_refl _, Nat.le_refl _⟩ rfl rfl dX3_lay_63 (fun (u : (Int)) => [(r0, .inr (3, [.ref r1, .ref r2, .ref r3, .int (nI sm), .int (nI fa3), .int (nI tn3)])), (r1, .inl (cI, 6, .inl (fun z_ => nI (DM z_)))), (r2, .inl (cI, 6, .inl (fun z_ => nI (CM3 z_)))), (r3, .inl (cI, 120, .inl (fun z_ => nI (KD3 z_))))]) (fun u => rfl) (by decide) (fun r_63 u H locs hw hP hD hS => ?_)
              obtain ⟨rv_63, eu⟩ : ∃ z, z = u := ⟨_, rfl⟩
              subst eu
              have hP : va_P (dC, dI) vwCl [(r0, .inr (3, [.ref r1, .ref r2, .ref r3, .int (nI sm), .int (nI fa3), .int (nI tn3)])), (r1, .inl (cI, 6, .inl (fun z_ => nI (DM z_)))), (r2, .inl (cI, 6, .inl (fun z_ => nI (CM3 z_)))), (r3, .inl (cI, 120, .inl (fun z_ => nI (KD3 z_))))] H := hP
              have hD : va_D A [(r0, .inr (3, [.ref r1, .ref r2, .ref r3, .int (nI sm), .int (nI fa3), .int (nI tn3)])), (r1, .inl (cI, 6, .inl (fun z_ => nI (DM z_)))), (r2, .inl (cI, 6, .inl (fun z_ => nI (CM3 z_)))), (r3, .inl (cI, 120, .inl (fun z_ => nI (KD3 z_))))] := hD
              obtain ⟨er, p63_0⟩ := hw
              have p63_0 : rv_63 = sp_nk DM CM3 sm pl 6 := p63_0
              have er : r_63 = (iI rv_63) := er
              subst er
              have kd : rv_63 = sp_nk DM (sp_cm DM sm pl) sm pl 6 := by rw [p63_0]; exact sp_nk_cong 6 k2
              have kd2 := sp_nk_ok hsm (show pl < sm by omega)
              rw [← kd] at kd2
              have kd3 : rv_63.toNat = sp_kd DM sm pl := by rw [kd]; rfl
              have kc : ∀ k, k < 6 → up CM3 rv_63.toNat (CM3 rv_63.toNat + 1) k = sp_cm DM sm (pl + 1) k := fun k hk => by rw [sp_cm_s, ← kd3]; unfold up; rw [k2 k hk, k2 rv_63.toNat (by omega)]
              have k9 := sp_cm_ok hsm (pl + 1) (by omega)
              have bC2 : ∀ k, k < 6 → up CM3 rv_63.toNat (CM3 rv_63.toNat + 1) k ≤ 20 := fun k hk => by rw [kc k hk]; exact Nat.le_trans (k9.1 k hk) (bDM k)
              have k10 := sp_rg_le hsm hsm2 bDM (pl + 1) (by omega)
              refine lv_istore_n (lv' := [(2, .int (iI rv_63)), (0, .ref r0), (1, .int (nI pl))]) hx hb dX3_lay_66 rfl hl (by decide) rfl (fun ls hl => ?_)
              refine lv_iload_n hx hb dX3_lay_67 rfl (lv_at hl 0 rfl) ?_
              refine z_if_ge (tgt := 72) hx hb dX3_lay_68 (by decide) (zc_le (a := 0) (b := rv_63) iI_0 rfl (by omega)) (fun c_68 => ?_) (fun c_68 => ?_)
              · skip
                refine lv_aload_n hx hb dX3_lay_72 rfl (lv_at hl 1 rfl) ?_
                refine z_get (D := (dC, dI)) (ci := 3) (v := .ref r3) (C := RX3) (T := TX3) (N := 6) hx hb hts uX3 hown hK hP 0 rfl rfl 2 (by decide) w18 rfl rfl dX3_lay_73 ?_
                refine lv_iload_n hx hb dX3_lay_76 rfl (lv_at hl 2 rfl) ?_
                refine lv_iload_n hx hb dX3_lay_77 rfl (lv_at hl 0 rfl) ?_
                refine z_c0 (v := nI rv_63.toNat) (z_ZtoN (by first | assumption | omega)) ?_
                refine z_iast hx hb hK hP hD hS 3 0 rfl rfl pl rfl (by omega) (upd_N KD3 pl rv_63.toNat) [(r0, .inr (3, [.ref r1, .ref r2, .ref r3, .int (nI sm), .int (nI fa3), .int (nI tn3)])), (r1, .inl (cI, 6, .inl (fun z_ => nI (DM z_)))), (r2, .inl (cI, 6, .inl (fun z_ => nI (CM3 z_)))), (r3, .inl (cI, 120, .inl (fun z_ => nI ((up KD3 pl rv_63.toNat) z_))))] rfl dX3_lay_78 (fun H locs hP hD hS => ?_)
                refine lv_aload_n hx hb dX3_lay_79 rfl (lv_at hl 1 rfl) ?_
                refine z_get (D := (dC, dI)) (ci := 3) (v := .ref r2) (C := RX3) (T := TX3) (N := 6) hx hb hts uX3 hown hK hP 0 rfl rfl 1 (by decide) w15 rfl rfl dX3_lay_80 ?_
                refine lv_iload_n hx hb dX3_lay_83 rfl (lv_at hl 0 rfl) ?_
                refine z_c0 (v := nI rv_63.toNat) (z_ZtoN (by first | assumption | omega)) ?_
                refine lv_dup2_11 hx hb dX3_lay_84 rfl rfl ?_
                refine z_iald (v := (nI (CM3 rv_63.toNat))) hx hb hK hP 2 0 rfl rfl rv_63.toNat rfl (by omega) rfl dX3_lay_85 ?_
                refine lv_iconst (v := nI 1) hx hb dX3_lay_86 (by decide) ?_
                refine z_iadd (v := (nI ((CM3 rv_63.toNat) + 1))) hx hb dX3_lay_87 (nI_add _ _) ?_
                refine z_iast hx hb hK hP hD hS 2 0 rfl rfl rv_63.toNat rfl (by omega) (upd_N CM3 rv_63.toNat ((CM3 rv_63.toNat) + 1)) [(r0, .inr (3, [.ref r1, .ref r2, .ref r3, .int (nI sm), .int (nI fa3), .int (nI tn3)])), (r1, .inl (cI, 6, .inl (fun z_ => nI (DM z_)))), (r2, .inl (cI, 6, .inl (fun z_ => nI ((up CM3 rv_63.toNat ((CM3 rv_63.toNat) + 1)) z_)))), (r3, .inl (cI, 120, .inl (fun z_ => nI ((up KD3 pl rv_63.toNat) z_))))] rfl dX3_lay_88 (fun H locs hP hD hS => ?_)
                refine lv_aload_n hx hb dX3_lay_89 rfl (lv_at hl 1 rfl) ?_
                refine lv_aload_n hx hb dX3_lay_90 rfl (lv_at hl 1 rfl) ?_
                refine z_get (D := (dC, dI)) (ci := 3) (v := .int (nI fa3)) (C := RX3) (T := TX3) (N := 6) hx hb hts uX3 hown hK hP 0 rfl rfl 4 (by decide) w25 rfl rfl dX3_lay_91 ?_
                refine lv_aload_n hx hb dX3_lay_94 rfl (lv_at hl 1 rfl) ?_
                refine lv_iload_n hx hb dX3_lay_95 rfl (lv_at hl 2 rfl) ?_
                refine lv_iconst (v := nI 1) hx hb dX3_lay_96 (by decide) ?_
                refine z_iadd (v := (nI (pl + 1))) hx hb dX3_lay_97 (nI_add _ _) ?_
                refine z_callVi (As := [.int (nI (pl + 1))]) (rest := [.int (nI fa3), .ref r0]) (wr := []) ⟨hx, hb, hml, hown, hts⟩ (c_X3_farthestAfter l dC dI cI cJ H.size r0 r1 r2 r3 DM (up CM3 rv_63.toNat ((CM3 rv_63.toNat) + 1)) (up KD3 pl rv_63.toNat) sm fa3 tn3 (pl + 1) (by first | assumption | omega) (by exact bC2) (by first | assumption | omega) (by first | assumption | omega)) (cwV 1 hts gX3_lay_X3_farthestAfter rfl rfl rfl (by decide +kernel) ⟨Nat.le_of_ble_eq_true rfl, Nat.le_of_ble_eq_true rfl⟩) hA hK hP hD hS [0, 1, 2, 3] [] [0, 1, 2, 3] rfl rfl (by decide) (by decide) (by decide) nwA_ok hN (ci := 3) rfl rfl 0 rfl hl.1 (Nat.le_of_ble_eq_true rfl) ⟨Nat.le_refl _, Nat.le_refl _⟩ rfl rfl dX3_lay_98 (fun (u : (Nat)) => [(r0, .inr (3, [.ref r1, .ref r2, .ref r3, .int (nI sm), .int (nI fa3), .int (nI tn3)])), (r1, .inl (cI, 6, .inl (fun z_ => nI (DM z_)))), (r2, .inl (cI, 6, .inl (fun z_ => nI ((up CM3 rv_63.toNat ((CM3 rv_63.toNat) + 1)) z_)))), (r3, .inl (cI, 120, .inl (fun z_ => nI ((up KD3 pl rv_63.toNat) z_))))]) (fun u => rfl) (by decide) (fun r_98 u H locs hw hP hD hS => ?_)
                obtain ⟨rv_98, eu⟩ : ∃ z, z = u := ⟨_, rfl⟩
                subst eu
                have hP : va_P (dC, dI) vwCl [(r0, .inr (3, [.ref r1, .ref r2, .ref r3, .int (nI sm), .int (nI fa3), .int (nI tn3)])), (r1, .inl (cI, 6, .inl (fun z_ => nI (DM z_)))), (r2, .inl (cI, 6, .inl (fun z_ => nI ((up CM3 rv_63.toNat ((CM3 rv_63.toNat) + 1)) z_)))), (r3, .inl (cI, 120, .inl (fun z_ => nI ((up KD3 pl rv_63.toNat) z_))))] H := hP
                have hD : va_D A [(r0, .inr (3, [.ref r1, .ref r2, .ref r3, .int (nI sm), .int (nI fa3), .int (nI tn3)])), (r1, .inl (cI, 6, .inl (fun z_ => nI (DM z_)))), (r2, .inl (cI, 6, .inl (fun z_ => nI ((up CM3 rv_63.toNat ((CM3 rv_63.toNat) + 1)) z_)))), (r3, .inl (cI, 120, .inl (fun z_ => nI ((up KD3 pl rv_63.toNat) z_))))] := hD
                obtain ⟨er, p98_0⟩ := hw
                have p98_0 : rv_98 = sp_far DM (up CM3 rv_63.toNat ((CM3 rv_63.toNat) + 1)) sm (pl + 1) 6 := p98_0
                have er : r_98 = (nI rv_98) := er
                subst er
                have p98 : rv_98 = sp_far DM (sp_cm DM sm (pl + 1)) sm (pl + 1) 6 := by rw [p98_0]; exact sp_far_cong 6 kc
                have p99 : max fa3 rv_98 = sp_rg DM sm (pl + 1) := by rw [sp_rg_s, k4, p98]
                refine va_mmax hx hb (by rw [hml, hl.1]) hown (hts (.methodLink RX3 38 Lib.Math.max.name) (by decide +kernel)) (hts (.static Lib.Math.max.name) (by decide +kernel)) (hts (.initialized "java/lang/Math") (by decide +kernel)) (hts (.code Lib.Math.max.name Lib.Math.max.code 2 (some .int)) (by decide +kernel)) (Nat.le_of_ble_eq_true rfl) (Nat.le_of_ble_eq_true rfl) (Nat.zero_le _) (Nat.zero_le _) dX3_lay_101 ?_
                refine z_c0 (v := nI (max fa3 rv_98)) (zn_max (by have := sp_far_le (CM := up CM3 rv_63.toNat (CM3 rv_63.toNat + 1)) hsm2 (show pl + 1 ≤ 120 by omega) bDM 6 bC2; omega)) ?_
                refine z_put (D := (dC, dI)) (ci := 3) (v := .int (nI (max fa3 rv_98))) (C := RX3) (T := TX3) (N := 6) hx hb hts uX3 tyX3 tyX3_ok nmX3 hown hK hP hD hS 0 rfl rfl 4 (by decide) w25 rfl rfl rfl rfl (Nat.le_of_ble_eq_true rfl) [(r0, .inr (3, [.ref r1, .ref r2, .ref r3, .int (nI sm), .int (nI (max fa3 rv_98)), .int (nI tn3)])), (r1, .inl (cI, 6, .inl (fun z_ => nI (DM z_)))), (r2, .inl (cI, 6, .inl (fun z_ => nI ((up CM3 rv_63.toNat ((CM3 rv_63.toNat) + 1)) z_)))), (r3, .inl (cI, 120, .inl (fun z_ => nI ((up KD3 pl rv_63.toNat) z_))))] rfl dX3_lay_104 (fun H locs hP hD hS => ?_)
                refine lv_iload_n hx hb dX3_lay_107 rfl (lv_at hl 2 rfl) ?_
                refine z_if_le (tgt := 133) hx hb dX3_lay_108 (by decide) (zcn_le (a := pl) (b := 0) rfl nI_00 (by omega)) (fun c_108 => ?_) (fun c_108 => ?_)
                · skip
                  refine lv_iinc (v := (nI (pl + 1))) (lv' := [(1, .int (nI (pl + 1))), (2, .int (iI rv_63)), (0, .ref r0)]) hx hb dX3_lay_133 hl (k := 2) rfl (z_incN pl 1 (by decide)) (by decide) rfl (fun ls hl => ?_)
                  refine lv_goto (tgt := 53) hx hb dX3_lay_136 (by decide) ?_
                  have o_k1 : (pl + 1) ≤ sm := by first | assumption | omega
                  have o_k2 : ∀ k, k < 6 → (up CM3 rv_63.toNat ((CM3 rv_63.toNat) + 1)) k = sp_cm DM sm (pl + 1) k := by exact kc
                  have o_k3 : ∀ q, q < (pl + 1) → (up KD3 pl rv_63.toNat) q = sp_kd DM sm q := by exact lt_s (fun q hq => by rw [up_n _ _ (by omega)]; exact k3 q hq) (by rw [up_s]; exact kd3)
                  have o_k4 : (max fa3 rv_98) = sp_rg DM sm (pl + 1) := by exact p99
                  have o_k5 : tn3 = sp_tn DM sm (pl + 1) := by rw [sp_tn_s, ← k5]; (first | (rw [if_pos ⟨by omega, by omega⟩]) | (rw [if_neg (by omega)]; rfl) | (rw [if_neg (by omega)]))
                  have o_mu : (sm - (pl + 1)) < n := by omega
                  exact ih53 (pl + 1) (up CM3 rv_63.toNat ((CM3 rv_63.toNat) + 1)) (up KD3 pl rv_63.toNat) (max fa3 rv_98) tn3 o_mu o_k1 o_k2 o_k3 o_k4 o_k5 H locs hP hD hS ls (lv_sub hl [2, 0] rfl)
                · skip
                  refine lv_aload_n hx hb dX3_lay_111 rfl (lv_at hl 1 rfl) ?_
                  refine z_get (D := (dC, dI)) (ci := 3) (v := .ref r3) (C := RX3) (T := TX3) (N := 6) hx hb hts uX3 hown hK hP 0 rfl rfl 2 (by decide) w18 rfl rfl dX3_lay_112 ?_
                  refine lv_iload_n hx hb dX3_lay_115 rfl (lv_at hl 2 rfl) ?_
                  refine lv_iconst (v := nI 1) hx hb dX3_lay_116 (by decide) ?_
                  refine z_isub (v := (nI (pl - 1))) hx hb dX3_lay_117 (pk_sub (by omega)) ?_
                  refine z_iald (v := (nI ((up KD3 pl rv_63.toNat) (pl - 1)))) hx hb hK hP 3 0 rfl rfl (pl - 1) rfl (by omega) rfl dX3_lay_118 ?_
                  have kz : up KD3 pl rv_63.toNat (pl - 1) = sp_kd DM sm (pl - 1) := by rw [up_n _ _ (by omega)]; exact k3 _ (by omega)
                  have kz2 := sp_kd_lt hsm (show pl - 1 < sm by omega)
                  refine lv_iload_n hx hb dX3_lay_119 rfl (lv_at hl 0 rfl) ?_
                  refine z_icmp_eq (tgt := 133) hx hb dX3_lay_120 (by decide) (zc_eq (a := (((up KD3 pl rv_63.toNat) (pl - 1) : Nat) : Int)) (b := rv_63) (iI_N _) rfl (by omega)) (fun c_120 => ?_) (fun c_120 => ?_)
                  · skip
                    refine lv_iinc (v := (nI (pl + 1))) (lv' := [(1, .int (nI (pl + 1))), (2, .int (iI rv_63)), (0, .ref r0)]) hx hb dX3_lay_133 hl (k := 2) rfl (z_incN pl 1 (by decide)) (by decide) rfl (fun ls hl => ?_)
                    refine lv_goto (tgt := 53) hx hb dX3_lay_136 (by decide) ?_
                    have o_k1 : (pl + 1) ≤ sm := by first | assumption | omega
                    have o_k2 : ∀ k, k < 6 → (up CM3 rv_63.toNat ((CM3 rv_63.toNat) + 1)) k = sp_cm DM sm (pl + 1) k := by exact kc
                    have o_k3 : ∀ q, q < (pl + 1) → (up KD3 pl rv_63.toNat) q = sp_kd DM sm q := by exact lt_s (fun q hq => by rw [up_n _ _ (by omega)]; exact k3 q hq) (by rw [up_s]; exact kd3)
                    have o_k4 : (max fa3 rv_98) = sp_rg DM sm (pl + 1) := by exact p99
                    have o_k5 : tn3 = sp_tn DM sm (pl + 1) := by rw [sp_tn_s, ← k5]; (first | (rw [if_pos ⟨by omega, by omega⟩]) | (rw [if_neg (by omega)]; rfl) | (rw [if_neg (by omega)]))
                    have o_mu : (sm - (pl + 1)) < n := by omega
                    exact ih53 (pl + 1) (up CM3 rv_63.toNat ((CM3 rv_63.toNat) + 1)) (up KD3 pl rv_63.toNat) (max fa3 rv_98) tn3 o_mu o_k1 o_k2 o_k3 o_k4 o_k5 H locs hP hD hS ls (lv_sub hl [2, 0] rfl)
                  · skip
                    refine lv_aload_n hx hb dX3_lay_123 rfl (lv_at hl 1 rfl) ?_
                    refine lv_dup hx hb dX3_lay_124 rfl ?_
                    refine z_get (D := (dC, dI)) (ci := 3) (v := .int (nI tn3)) (C := RX3) (T := TX3) (N := 6) hx hb hts uX3 hown hK hP 0 rfl rfl 5 (by decide) w28 rfl rfl dX3_lay_125 ?_
                    refine lv_iconst (v := nI 1) hx hb dX3_lay_128 (by decide) ?_
                    refine z_iadd (v := (nI (tn3 + 1))) hx hb dX3_lay_129 (nI_add _ _) ?_
                    refine z_put (D := (dC, dI)) (ci := 3) (v := .int (nI (tn3 + 1))) (C := RX3) (T := TX3) (N := 6) hx hb hts uX3 tyX3 tyX3_ok nmX3 hown hK hP hD hS 0 rfl rfl 5 (by decide) w28 rfl rfl rfl rfl (Nat.le_of_ble_eq_true rfl) [(r0, .inr (3, [.ref r1, .ref r2, .ref r3, .int (nI sm), .int (nI (max fa3 rv_98)), .int (nI (tn3 + 1))])), (r1, .inl (cI, 6, .inl (fun z_ => nI (DM z_)))), (r2, .inl (cI, 6, .inl (fun z_ => nI ((up CM3 rv_63.toNat ((CM3 rv_63.toNat) + 1)) z_)))), (r3, .inl (cI, 120, .inl (fun z_ => nI ((up KD3 pl rv_63.toNat) z_))))] rfl dX3_lay_130 (fun H locs hP hD hS => ?_)
                    refine lv_iinc (v := (nI (pl + 1))) (lv' := [(1, .int (nI (pl + 1))), (2, .int (iI rv_63)), (0, .ref r0)]) hx hb dX3_lay_133 hl (k := 2) rfl (z_incN pl 1 (by decide)) (by decide) rfl (fun ls hl => ?_)
                    refine lv_goto (tgt := 53) hx hb dX3_lay_136 (by decide) ?_
                    have o_k1 : (pl + 1) ≤ sm := by first | assumption | omega
                    have o_k2 : ∀ k, k < 6 → (up CM3 rv_63.toNat ((CM3 rv_63.toNat) + 1)) k = sp_cm DM sm (pl + 1) k := by exact kc
                    have o_k3 : ∀ q, q < (pl + 1) → (up KD3 pl rv_63.toNat) q = sp_kd DM sm q := by exact lt_s (fun q hq => by rw [up_n _ _ (by omega)]; exact k3 q hq) (by rw [up_s]; exact kd3)
                    have o_k4 : (max fa3 rv_98) = sp_rg DM sm (pl + 1) := by exact p99
                    have o_k5 : (tn3 + 1) = sp_tn DM sm (pl + 1) := by rw [sp_tn_s, ← k5]; (first | (rw [if_pos ⟨by omega, by omega⟩]) | (rw [if_neg (by omega)]; rfl) | (rw [if_neg (by omega)]))
                    have o_mu : (sm - (pl + 1)) < n := by omega
                    exact ih53 (pl + 1) (up CM3 rv_63.toNat ((CM3 rv_63.toNat) + 1)) (up KD3 pl rv_63.toNat) (max fa3 rv_98) (tn3 + 1) o_mu o_k1 o_k2 o_k3 o_k4 o_k5 H locs hP hD hS ls (lv_sub hl [2, 0] rfl)
              · skip
                exact absurd kd2.1 c_68
        have o_k1 : 0 ≤ sm := by first | assumption | omega
        have o_k2 : ∀ k, k < 6 → CM1 k = sp_cm DM sm 0 k := by intro k hk; exact i3 k (by omega)
        have o_k3 : ∀ q, q < 0 → KD q = sp_kd DM sm q := by intro q h; omega
        have o_k4 : 0 = sp_rg DM sm 0 := by rfl
        have o_k5 : 0 = sp_tn DM sm 0 := by rfl
        exact L53 ((sm - 0) + 1) 0 CM1 KD 0 0 (Nat.lt_succ_self _) o_k1 o_k2 o_k3 o_k4 o_k5 H locs hP hD hS ls (lv_sub hl [1, 0] rfl)
      · skip
        refine lv_aload_n hx hb dX3_lay_13 rfl (lv_at hl 0 rfl) ?_
        refine lv_dup hx hb dX3_lay_14 rfl ?_
        refine z_get (D := (dC, dI)) (ci := 3) (v := .int (nI sm)) (C := RX3) (T := TX3) (N := 6) hx hb hts uX3 hown hK hP 0 rfl rfl 3 (by decide) w21 rfl rfl dX3_lay_15 ?_
        refine lv_aload_n hx hb dX3_lay_18 rfl (lv_at hl 0 rfl) ?_
        refine z_get (D := (dC, dI)) (ci := 3) (v := .ref r1) (C := RX3) (T := TX3) (N := 6) hx hb hts uX3 hown hK hP 0 rfl rfl 0 (by decide) w9 rfl rfl dX3_lay_19 ?_
        refine lv_iload_n hx hb dX3_lay_22 rfl (lv_at hl 1 rfl) ?_
        refine z_iald (v := (nI (DM j))) hx hb hK hP 1 0 rfl rfl j rfl (by omega) rfl dX3_lay_23 ?_
        refine z_iadd (v := (nI (sm + (DM j)))) hx hb dX3_lay_24 (nI_add _ _) ?_
        refine z_put (D := (dC, dI)) (ci := 3) (v := .int (nI (sm + (DM j)))) (C := RX3) (T := TX3) (N := 6) hx hb hts uX3 tyX3 tyX3_ok nmX3 hown hK hP hD hS 0 rfl rfl 3 (by decide) w21 rfl rfl rfl rfl (Nat.le_of_ble_eq_true rfl) [(r0, .inr (3, [.ref r1, .ref r2, .ref r3, .int (nI (sm + (DM j))), .int (nI fa), .int (nI tn)])), (r1, .inl (cI, 6, .inl (fun z_ => nI (DM z_)))), (r2, .inl (cI, 6, .inl (fun z_ => nI (CM1 z_)))), (r3, .inl (cI, 120, .inl (fun z_ => nI (KD z_))))] rfl dX3_lay_25 (fun H locs hP hD hS => ?_)
        refine lv_aload_n hx hb dX3_lay_28 rfl (lv_at hl 0 rfl) ?_
        refine z_get (D := (dC, dI)) (ci := 3) (v := .ref r2) (C := RX3) (T := TX3) (N := 6) hx hb hts uX3 hown hK hP 0 rfl rfl 1 (by decide) w15 rfl rfl dX3_lay_29 ?_
        refine lv_iload_n hx hb dX3_lay_32 rfl (lv_at hl 1 rfl) ?_
        refine lv_iconst (v := nI 0) hx hb dX3_lay_33 (by decide) ?_
        refine z_iast hx hb hK hP hD hS 2 0 rfl rfl j rfl (by omega) (upd_N CM1 j 0) [(r0, .inr (3, [.ref r1, .ref r2, .ref r3, .int (nI (sm + (DM j))), .int (nI fa), .int (nI tn)])), (r1, .inl (cI, 6, .inl (fun z_ => nI (DM z_)))), (r2, .inl (cI, 6, .inl (fun z_ => nI ((up CM1 j 0) z_)))), (r3, .inl (cI, 120, .inl (fun z_ => nI (KD z_))))] rfl dX3_lay_34 (fun H locs hP hD hS => ?_)
        refine lv_iinc (v := (nI (j + 1))) (lv' := [(1, .int (nI (j + 1))), (0, .ref r0)]) hx hb dX3_lay_35 hl (k := 1) rfl (z_incN j 1 (by decide)) (by decide) rfl (fun ls hl => ?_)
        refine lv_goto (tgt := 7) hx hb dX3_lay_38 (by decide) ?_
        have o_i1 : (j + 1) ≤ 6 := by first | assumption | omega
        have o_i2 : (sm + (DM j)) = fb_sm DM (j + 1) := by rw [fb_sm_succ, i2]
        have o_i3 : ∀ k, k < (j + 1) → (up CM1 j 0) k = 0 := by exact lt_s (fun k hk => by rw [up_n _ _ (by omega)]; exact i3 k hk) (up_s _ _ _)
        have o_mu : (6 - (j + 1)) < n := by omega
        exact ih7 (j + 1) (sm + (DM j)) (up CM1 j 0) o_mu o_i1 o_i2 o_i3 H locs hP hD hS ls (lv_sub hl [1, 0] rfl)
  have o_i1 : 0 ≤ 6 := by first | assumption | omega
  have o_i2 : 0 = fb_sm DM 0 := by rfl
  have o_i3 : ∀ k, k < 0 → CM k = 0 := by intro k h; omega
  exact L7 ((6 - 0) + 1) 0 0 CM (Nat.lt_succ_self _) o_i1 o_i2 o_i3 H locs hP hD hS ls (lv_sub hl [1, 0] rfl)
