set_option maxHeartbeats 4000000 in
set_option maxRecDepth 100000 in
theorem c_X6_beginOf (l : Launch) (dC : Nat → ClassId) (dI : Nat → Nat → Nat) (cI cJ : ClassId) (sz : Nat) (m0 : Nat) (x1 : Nat) (x2 : Nat) (x3 : Nat) (x4 : Nat) (x5 : Nat) (x6 : Nat) (x7 : Nat) (x8 : Nat) (x9 : Nat) (y1 : Nat) (y2 : Nat) (y3 : Nat) (y4 : Nat) (y5 : Nat) (y6 : Nat) (y7 : Nat) (N : Nat) (K : Nat) (lo : Nat) (ns : Nat) (nd : Nat) (rm : Nat) (pls : Nat) (T : Nat → Nat) (F : Nat → Nat) (G : Nat → Nat) (C : Nat → Nat) (BG : Nat → Int) (v : Nat) (k : Nat) (bK : K ≤ 16) (bC : ∀ a, C a ≤ 9) (bF : ∀ a, F a < 8) (bG : ∀ a, G a < 8) (bT : ∀ i, T i ≤ 20) (bv : v < 8) (hk : k ≤ 60) (hd : ∀ a, a < K → C a ≤ k → -9 ≤ BG (61 * F a + k - C a) ∧ BG (61 * F a + k - C a) ≤ 10980) : Met l yX6_beginOf wsX6_beginOf (zR 0 0 0 0) (va_Pc [.ref m0, .int (nI v), .int (nI k)] (zP (dC, dI) [(cI, .int), (cJ, .long)] [(m0, .inr (6, [.int (nI N), .ref x1, .int (nI K), .ref x2, .ref x3, .ref x4, .int (nI lo), .ref x5, .ref x6, .ref x7, .ref x8, .int (nI ns), .int (nI nd), .ref x9, .ref y1, .ref y2, .int (nI rm), .ref y3, .ref y4, .ref y5, .ref y6, .ref y7, .int (nI pls)])), (x1, .inl (cI, 8, .inl (fun z_ => nI (T z_)))), (x2, .inl (cI, 16, .inl (fun z_ => nI (F z_)))), (x3, .inl (cI, 16, .inl (fun z_ => nI (G z_)))), (x4, .inl (cI, 16, .inl (fun z_ => nI (C z_)))), (x8, .inl (cI, 488, .inl (fun z_ => iI (BG z_))))] sz nwA)) (va_Qi (fun (r : Int32) (u : (Int)) => r = (iI u) ∧ (u = sp_bo K T F G C v k (fun a_ => BG (61 * F a_ + k - C a_)))) (zB (dC, dI) (fun (u : (Int)) => [(m0, .inr (6, [.int (nI N), .ref x1, .int (nI K), .ref x2, .ref x3, .ref x4, .int (nI lo), .ref x5, .ref x6, .ref x7, .ref x8, .int (nI ns), .int (nI nd), .ref x9, .ref y1, .ref y2, .int (nI rm), .ref y3, .ref y4, .ref y5, .ref y6, .ref y7, .int (nI pls)])), (x1, .inl (cI, 8, .inl (fun z_ => nI (T z_)))), (x2, .inl (cI, 16, .inl (fun z_ => nI (F z_)))), (x3, .inl (cI, 16, .inl (fun z_ => nI (G z_)))), (x4, .inl (cI, 16, .inl (fun z_ => nI (C z_)))), (x8, .inl (cI, 488, .inl (fun z_ => iI (BG z_))))]) (va_A [(m0, .inr (6, [.int (nI N), .ref x1, .int (nI K), .ref x2, .ref x3, .ref x4, .int (nI lo), .ref x5, .ref x6, .ref x7, .ref x8, .int (nI ns), .int (nI nd), .ref x9, .ref y1, .ref y2, .int (nI rm), .ref y3, .ref y4, .ref y5, .ref y6, .ref y7, .int (nI pls)])), (x1, .inl (cI, 8, .inl (fun z_ => nI (T z_)))), (x2, .inl (cI, 16, .inl (fun z_ => nI (F z_)))), (x3, .inl (cI, 16, .inl (fun z_ => nI (G z_)))), (x4, .inl (cI, 16, .inl (fun z_ => nI (C z_)))), (x8, .inl (cI, 488, .inl (fun z_ => iI (BG z_))))] sz)) (va_A [(m0, .inr (6, [.int (nI N), .ref x1, .int (nI K), .ref x2, .ref x3, .ref x4, .int (nI lo), .ref x5, .ref x6, .ref x7, .ref x8, .int (nI ns), .int (nI nd), .ref x9, .ref y1, .ref y2, .int (nI rm), .ref y3, .ref y4, .ref y5, .ref y6, .ref y7, .int (nI pls)])), (x1, .inl (cI, 8, .inl (fun z_ => nI (T z_)))), (x2, .inl (cI, 16, .inl (fun z_ => nI (F z_)))), (x3, .inl (cI, 16, .inl (fun z_ => nI (G z_)))), (x4, .inl (cI, 16, .inl (fun z_ => nI (C z_)))), (x8, .inl (cI, 488, .inl (fun z_ => iI (BG z_))))] sz)) 0 0 (va_A [(m0, .inr (6, [.int (nI N), .ref x1, .int (nI K), .ref x2, .ref x3, .ref x4, .int (nI lo), .ref x5, .ref x6, .ref x7, .ref x8, .int (nI ns), .int (nI nd), .ref x9, .ref y1, .ref y2, .int (nI rm), .ref y3, .ref y4, .ref y5, .ref y6, .ref y7, .int (nI pls)])), (x1, .inl (cI, 8, .inl (fun z_ => nI (T z_)))), (x2, .inl (cI, 16, .inl (fun z_ => nI (F z_)))), (x3, .inl (cI, 16, .inl (fun z_ => nI (G z_)))), (x4, .inl (cI, 16, .inl (fun z_ => nI (C z_)))), (x8, .inl (cI, 488, .inl (fun z_ => iI (BG z_))))] sz) := by
  refine z_met_i (cc := cX6_beginOf) (maxL := 8) (by decide) rfl (Nat.le_of_ble_eq_true rfl) ?_
  intro p e s m args below meth c Q A ls hx hb hml hown hts hin hA hK hP hD hN hl hRET
  have hown : s.vm.findClass RX6 = some m.cls := hown
  obtain ⟨H, eH⟩ : ∃ H : Heap, H = s.heap := ⟨_, rfl⟩
  rw [← eH] at hP
  obtain ⟨locs, eL⟩ : ∃ z : List Loc, z = [] := ⟨_, rfl⟩
  rw [← eH, ← eL]
  have hS : va_S A s.heap H locs := by rw [eH, eL]; exact va_S.rf
  have hl : lv_has ls 8 [(0, .ref m0), (1, .int (nI v)), (2, .int (nI k))] := hl
  have w67 := hts (.fieldLink RX6 67 "PullCardsModel" "arcs" "I") (by decide +kernel)
  have uX6 : ∀ w ∈ wsX60, w ∈ wsX6_beginOf := by decide +kernel
  have w16 := hts (.fieldLink RX6 16 "PullCardsModel" "to" "[I") (by decide +kernel)
  have w19 := hts (.fieldLink RX6 19 "PullCardsModel" "cards" "[I") (by decide +kernel)
  have w31 := hts (.fieldLink RX6 31 "PullCardsModel" "begin" "[I") (by decide +kernel)
  have w13 := hts (.fieldLink RX6 13 "PullCardsModel" "from" "[I") (by decide +kernel)
  have w7 := hts (.fieldLink RX6 7 "PullCardsModel" "time" "[I") (by decide +kernel)
  refine lv_iconst (v := nI 0) hx hb dX6_beginOf_0 (by decide) ?_
  refine z_c0 (v := iI 0) (by decide) ?_
  refine lv_istore_n (lv' := [(3, .int (iI 0)), (0, .ref m0), (1, .int (nI v)), (2, .int (nI k))]) hx hb dX6_beginOf_1 rfl hl (by decide) rfl (fun ls hl => ?_)
  refine lv_iconst (v := nI 0) hx hb dX6_beginOf_2 (by decide) ?_
  refine lv_istore (lv' := [(4, .int (nI 0)), (3, .int (iI 0)), (0, .ref m0), (1, .int (nI v)), (2, .int (nI k))]) hx hb dX6_beginOf_3 hl (by decide) rfl (fun ls hl => ?_)
  refine lv_iconst (v := nI 0) hx hb dX6_beginOf_5 (by decide) ?_
  refine lv_istore (lv' := [(5, .int (nI 0)), (4, .int (nI 0)), (3, .int (iI 0)), (0, .ref m0), (1, .int (nI v)), (2, .int (nI k))]) hx hb dX6_beginOf_6 hl (by decide) rfl (fun ls hl => ?_)
  refine lv_iconst (v := nI 0) hx hb dX6_beginOf_8 (by decide) ?_
  refine lv_istore (lv' := [(6, .int (nI 0)), (5, .int (nI 0)), (4, .int (nI 0)), (3, .int (iI 0)), (0, .ref m0), (1, .int (nI v)), (2, .int (nI k))]) hx hb dX6_beginOf_9 hl (by decide) rfl (fun ls hl => ?_)
  have L11 : ∀ (n11 : Nat) (j : Nat) (lt : Int) (op : Nat) (nv : Nat), (K - j) < n11 → (j ≤ K) → (op = sp_b01 (sp_any (sp_on G C v k (fun a_ => BG (61 * F a_ + k - C a_)) (-2)) j)) → (nv = sp_b01 (sp_any (sp_on G C v k (fun a_ => BG (61 * F a_ + k - C a_)) (-9)) j)) → (lt = sp_lat T F G C v k (fun a_ => BG (61 * F a_ + k - C a_)) j) → (0 ≤ lt ∧ lt ≤ 11000) → (op ≤ 1) → (nv ≤ 1) → ∀ (H : Heap) (locs : List Loc), va_P (dC, dI) vwCl [(m0, .inr (6, [.int (nI N), .ref x1, .int (nI K), .ref x2, .ref x3, .ref x4, .int (nI lo), .ref x5, .ref x6, .ref x7, .ref x8, .int (nI ns), .int (nI nd), .ref x9, .ref y1, .ref y2, .int (nI rm), .ref y3, .ref y4, .ref y5, .ref y6, .ref y7, .int (nI pls)])), (x1, .inl (cI, 8, .inl (fun z_ => nI (T z_)))), (x2, .inl (cI, 16, .inl (fun z_ => nI (F z_)))), (x3, .inl (cI, 16, .inl (fun z_ => nI (G z_)))), (x4, .inl (cI, 16, .inl (fun z_ => nI (C z_)))), (x8, .inl (cI, 488, .inl (fun z_ => iI (BG z_))))] H → va_D A [(m0, .inr (6, [.int (nI N), .ref x1, .int (nI K), .ref x2, .ref x3, .ref x4, .int (nI lo), .ref x5, .ref x6, .ref x7, .ref x8, .int (nI ns), .int (nI nd), .ref x9, .ref y1, .ref y2, .int (nI rm), .ref y3, .ref y4, .ref y5, .ref y6, .ref y7, .int (nI pls)])), (x1, .inl (cI, 8, .inl (fun z_ => nI (T z_)))), (x2, .inl (cI, 16, .inl (fun z_ => nI (F z_)))), (x3, .inl (cI, 16, .inl (fun z_ => nI (G z_)))), (x4, .inl (cI, 16, .inl (fun z_ => nI (C z_)))), (x8, .inl (cI, 488, .inl (fun z_ => iI (BG z_))))] → va_S A s.heap H locs → ∀ (ls : Array Slot), lv_has ls 8 [(0, .ref m0), (1, .int (nI v)), (2, .int (nI k)), (3, .int (iI lt)), (4, .int (nI op)), (5, .int (nI nv)), (6, .int (nI j))] → W p l e (zR 0 0 0 0) s m args below meth c H locs 0 0 Q (F0 m 11 ls []) := by
    intro n11
    induction n11 with
    | zero => intro j lt op nv hn; exact absurd hn (Nat.not_lt_zero _)
    | succ n11 ih =>
      intro j lt op nv hn i1 i2 i3 i4 i5 i6 i7 H locs hP hD hS ls hl
      have ih11 := ih
      have hn11 := hn
      clear ih hn
      refine lv_iload hx hb dX6_beginOf_11 (lv_at hl 6 rfl) ?_
      refine lv_aload_n hx hb dX6_beginOf_13 rfl (lv_at hl 0 rfl) ?_
      refine z_get (D := (dC, dI)) (ci := 6) (v := .int (nI K)) (C := RX6) (T := TX6) (N := 23) hx hb hts uX6 hown hK hP 0 rfl rfl 2 (by decide) w67 rfl rfl dX6_beginOf_14 ?_
      refine z_icmp_ge (tgt := 157) hx hb dX6_beginOf_17 (by decide) (zcn_le (a := K) (b := j) rfl rfl (by omega)) (fun c_17 => ?_) (fun c_17 => ?_)
      · skip
        refine lv_iload hx hb dX6_beginOf_157 (lv_at hl 5 rfl) ?_
        refine z_if_eq (tgt := 167) hx hb dX6_beginOf_159 (by decide) (zcn_eq (a := nv) (b := 0) rfl nI_00 (by omega)) (fun c_159 => ?_) (fun c_159 => ?_)
        · skip
          refine lv_iload hx hb dX6_beginOf_167 (lv_at hl 4 rfl) ?_
          refine z_if_eq (tgt := 177) hx hb dX6_beginOf_169 (by decide) (zcn_eq (a := op) (b := 0) rfl nI_00 (by omega)) (fun c_169 => ?_) (fun c_169 => ?_)
          · skip
            refine lv_iload_n hx hb dX6_beginOf_177 rfl (lv_at hl 3 rfl) ?_
            have q_0 : lt = sp_bo K T F G C v k (fun a_ => BG (61 * F a_ + k - C a_)) := by have ej : j = K := (by omega); rw [ej] at i2 i3 i4; (first | exact (sp_bo_9 (by rw [← i3]; exact c_159)).symm | exact (sp_bo_2 (by rw [← i3]; exact c_159) (by rw [← i2]; exact c_169)).symm | (rw [i4]; exact (sp_bo_l (by rw [← i3]; exact c_159) (by rw [← i2]; exact c_169)).symm))
            exact hRET _ ls H locs ((iI lt)) (lt) dX6_beginOf_178 ⟨rfl, q_0⟩ hP hD hS
          · skip
            refine lv_bipush (v := iI (-2)) hx hb dX6_beginOf_172 (by decide) ?_
            refine lv_goto (tgt := 178) hx hb dX6_beginOf_174 (by decide) ?_
            have q_0 : (-2 : Int) = sp_bo K T F G C v k (fun a_ => BG (61 * F a_ + k - C a_)) := by have ej : j = K := (by omega); rw [ej] at i2 i3 i4; (first | exact (sp_bo_9 (by rw [← i3]; exact c_159)).symm | exact (sp_bo_2 (by rw [← i3]; exact c_159) (by rw [← i2]; exact c_169)).symm | (rw [i4]; exact (sp_bo_l (by rw [← i3]; exact c_159) (by rw [← i2]; exact c_169)).symm))
            exact hRET _ ls H locs ((iI (-2))) ((-2 : Int)) dX6_beginOf_178 ⟨rfl, q_0⟩ hP hD hS
        · skip
          refine lv_bipush (v := iI (-9)) hx hb dX6_beginOf_162 (by decide) ?_
          refine lv_goto (tgt := 178) hx hb dX6_beginOf_164 (by decide) ?_
          have q_0 : (-9 : Int) = sp_bo K T F G C v k (fun a_ => BG (61 * F a_ + k - C a_)) := by have ej : j = K := (by omega); rw [ej] at i2 i3 i4; (first | exact (sp_bo_9 (by rw [← i3]; exact c_159)).symm | exact (sp_bo_2 (by rw [← i3]; exact c_159) (by rw [← i2]; exact c_169)).symm | (rw [i4]; exact (sp_bo_l (by rw [← i3]; exact c_159) (by rw [← i2]; exact c_169)).symm))
          exact hRET _ ls H locs ((iI (-9))) ((-9 : Int)) dX6_beginOf_178 ⟨rfl, q_0⟩ hP hD hS
      · skip
        refine lv_aload_n hx hb dX6_beginOf_20 rfl (lv_at hl 0 rfl) ?_
        refine z_get (D := (dC, dI)) (ci := 6) (v := .ref x3) (C := RX6) (T := TX6) (N := 23) hx hb hts uX6 hown hK hP 0 rfl rfl 4 (by decide) w16 rfl rfl dX6_beginOf_21 ?_
        refine lv_iload hx hb dX6_beginOf_24 (lv_at hl 6 rfl) ?_
        refine z_iald (v := (nI (G j))) hx hb hK hP 3 0 rfl rfl j rfl (by omega) rfl dX6_beginOf_26 ?_
        have f26_0 := bG j
        refine lv_iload_n hx hb dX6_beginOf_27 rfl (lv_at hl 1 rfl) ?_
        refine z_icmp_ne (tgt := 151) hx hb dX6_beginOf_28 (by decide) (zcn_eq (a := G j) (b := v) rfl rfl (by omega)) (fun c_28 => ?_) (fun c_28 => ?_)
        · skip
          refine lv_iinc (v := (nI (j + 1))) (lv' := [(6, .int (nI (j + 1))), (0, .ref m0), (1, .int (nI v)), (2, .int (nI k)), (3, .int (iI lt)), (4, .int (nI op)), (5, .int (nI nv))]) hx hb dX6_beginOf_151 hl (k := 6) rfl (z_incN j 1 (by decide)) (by decide) rfl (fun ls hl => ?_)
          refine lv_goto (tgt := 11) hx hb dX6_beginOf_154 (by decide) ?_
          have o_i1 : (j + 1) ≤ K := by first | assumption | omega
          have o_i2 : op = sp_b01 (sp_any (sp_on G C v k (fun a_ => BG (61 * F a_ + k - C a_)) (-2)) (j + 1)) := by first | exact j1 | exact sp_b01_k i2 (sp_on_f (dep := (fun a_ => BG (61 * F a_ + k - C a_))) (a := j) (fun z => by have z1 := z.1; have z2 := z.2.1; omega))
          have o_i3 : nv = sp_b01 (sp_any (sp_on G C v k (fun a_ => BG (61 * F a_ + k - C a_)) (-9)) (j + 1)) := by first | exact k1 | exact sp_b01_k i3 (sp_on_f (dep := (fun a_ => BG (61 * F a_ + k - C a_))) (a := j) (fun z => by have z1 := z.1; have z2 := z.2.1; omega))
          have o_i4 : lt = sp_lat T F G C v k (fun a_ => BG (61 * F a_ + k - C a_)) (j + 1) := by rw [sp_lat_s, ← i4]; (first | rw [if_pos ⟨⟨by omega, by omega⟩, by omega, by omega⟩] | rw [if_neg (fun z => by have z1 := z.1.1; have z2 := z.1.2; have z3 := z.2.1; have z4 := z.2.2; omega)])
          have o_i5 : 0 ≤ lt ∧ lt ≤ 11000 := by first | assumption | omega
          have o_i6 : op ≤ 1 := by first | assumption | omega
          have o_i7 : nv ≤ 1 := by first | assumption | omega
          have o_mu : (K - (j + 1)) < n11 := by omega
          exact ih11 (j + 1) lt op nv o_mu o_i1 o_i2 o_i3 o_i4 o_i5 o_i6 o_i7 H locs hP hD hS ls (lv_sub hl [1, 2, 3, 4, 5, 6, 0] rfl)
        · skip
          refine lv_aload_n hx hb dX6_beginOf_31 rfl (lv_at hl 0 rfl) ?_
          refine z_get (D := (dC, dI)) (ci := 6) (v := .ref x4) (C := RX6) (T := TX6) (N := 23) hx hb hts uX6 hown hK hP 0 rfl rfl 5 (by decide) w19 rfl rfl dX6_beginOf_32 ?_
          refine lv_iload hx hb dX6_beginOf_35 (lv_at hl 6 rfl) ?_
          refine z_iald (v := (nI (C j))) hx hb hK hP 4 0 rfl rfl j rfl (by omega) rfl dX6_beginOf_37 ?_
          have f37_0 := bC j
          refine lv_iload_n hx hb dX6_beginOf_38 rfl (lv_at hl 2 rfl) ?_
          refine z_icmp_gt (tgt := 151) hx hb dX6_beginOf_39 (by decide) (zcn_lt (a := k) (b := C j) rfl rfl (by omega)) (fun c_39 => ?_) (fun c_39 => ?_)
          · skip
            refine lv_iinc (v := (nI (j + 1))) (lv' := [(6, .int (nI (j + 1))), (0, .ref m0), (1, .int (nI v)), (2, .int (nI k)), (3, .int (iI lt)), (4, .int (nI op)), (5, .int (nI nv))]) hx hb dX6_beginOf_151 hl (k := 6) rfl (z_incN j 1 (by decide)) (by decide) rfl (fun ls hl => ?_)
            refine lv_goto (tgt := 11) hx hb dX6_beginOf_154 (by decide) ?_
            have o_i1 : (j + 1) ≤ K := by first | assumption | omega
            have o_i2 : op = sp_b01 (sp_any (sp_on G C v k (fun a_ => BG (61 * F a_ + k - C a_)) (-2)) (j + 1)) := by first | exact j1 | exact sp_b01_k i2 (sp_on_f (dep := (fun a_ => BG (61 * F a_ + k - C a_))) (a := j) (fun z => by have z1 := z.1; have z2 := z.2.1; omega))
            have o_i3 : nv = sp_b01 (sp_any (sp_on G C v k (fun a_ => BG (61 * F a_ + k - C a_)) (-9)) (j + 1)) := by first | exact k1 | exact sp_b01_k i3 (sp_on_f (dep := (fun a_ => BG (61 * F a_ + k - C a_))) (a := j) (fun z => by have z1 := z.1; have z2 := z.2.1; omega))
            have o_i4 : lt = sp_lat T F G C v k (fun a_ => BG (61 * F a_ + k - C a_)) (j + 1) := by rw [sp_lat_s, ← i4]; (first | rw [if_pos ⟨⟨by omega, by omega⟩, by omega, by omega⟩] | rw [if_neg (fun z => by have z1 := z.1.1; have z2 := z.1.2; have z3 := z.2.1; have z4 := z.2.2; omega)])
            have o_i5 : 0 ≤ lt ∧ lt ≤ 11000 := by first | assumption | omega
            have o_i6 : op ≤ 1 := by first | assumption | omega
            have o_i7 : nv ≤ 1 := by first | assumption | omega
            have o_mu : (K - (j + 1)) < n11 := by omega
            exact ih11 (j + 1) lt op nv o_mu o_i1 o_i2 o_i3 o_i4 o_i5 o_i6 o_i7 H locs hP hD hS ls (lv_sub hl [1, 2, 3, 4, 5, 6, 0] rfl)
          · skip
            refine lv_aload_n hx hb dX6_beginOf_42 rfl (lv_at hl 0 rfl) ?_
            refine z_get (D := (dC, dI)) (ci := 6) (v := .ref x8) (C := RX6) (T := TX6) (N := 23) hx hb hts uX6 hown hK hP 0 rfl rfl 10 (by decide) w31 rfl rfl dX6_beginOf_43 ?_
            refine lv_bipush (v := nI 61) hx hb dX6_beginOf_46 (by decide) ?_
            refine lv_aload_n hx hb dX6_beginOf_48 rfl (lv_at hl 0 rfl) ?_
            refine z_get (D := (dC, dI)) (ci := 6) (v := .ref x2) (C := RX6) (T := TX6) (N := 23) hx hb hts uX6 hown hK hP 0 rfl rfl 3 (by decide) w13 rfl rfl dX6_beginOf_49 ?_
            refine lv_iload hx hb dX6_beginOf_52 (lv_at hl 6 rfl) ?_
            refine z_iald (v := (nI (F j))) hx hb hK hP 2 0 rfl rfl j rfl (by omega) rfl dX6_beginOf_54 ?_
            have f54_0 := bF j
            refine z_imul (v := (nI (61 * (F j)))) hx hb dX6_beginOf_55 (pk_mul _ _) ?_
            refine lv_iload_n hx hb dX6_beginOf_56 rfl (lv_at hl 2 rfl) ?_
            refine z_iadd (v := (nI ((61 * (F j)) + k))) hx hb dX6_beginOf_57 (nI_add _ _) ?_
            refine lv_aload_n hx hb dX6_beginOf_58 rfl (lv_at hl 0 rfl) ?_
            refine z_get (D := (dC, dI)) (ci := 6) (v := .ref x4) (C := RX6) (T := TX6) (N := 23) hx hb hts uX6 hown hK hP 0 rfl rfl 5 (by decide) w19 rfl rfl dX6_beginOf_59 ?_
            refine lv_iload hx hb dX6_beginOf_62 (lv_at hl 6 rfl) ?_
            refine z_iald (v := (nI (C j))) hx hb hK hP 4 0 rfl rfl j rfl (by omega) rfl dX6_beginOf_64 ?_
            have f64_0 := bC j
            refine z_isub (v := (nI (((61 * (F j)) + k) - (C j)))) hx hb dX6_beginOf_65 (pk_sub (by omega)) ?_
            have hb66 := hd j (by omega) (by omega)
            refine z_iald (v := (iI (BG (((61 * (F j)) + k) - (C j))))) hx hb hK hP 5 0 rfl rfl (((61 * (F j)) + k) - (C j)) rfl (by omega) rfl dX6_beginOf_66 ?_
            refine lv_istore (lv' := [(7, .int (iI (BG (((61 * (F j)) + k) - (C j))))), (0, .ref m0), (1, .int (nI v)), (2, .int (nI k)), (3, .int (iI lt)), (4, .int (nI op)), (5, .int (nI nv)), (6, .int (nI j))]) hx hb dX6_beginOf_67 hl (by decide) rfl (fun ls hl => ?_)
            have L86 : ∀ (op2 : Nat), (op2 = sp_b01 (sp_any (sp_on G C v k (fun a_ => BG (61 * F a_ + k - C a_)) (-2)) (j + 1))) → (op2 ≤ 1) → ∀ (H : Heap) (locs : List Loc), va_P (dC, dI) vwCl [(m0, .inr (6, [.int (nI N), .ref x1, .int (nI K), .ref x2, .ref x3, .ref x4, .int (nI lo), .ref x5, .ref x6, .ref x7, .ref x8, .int (nI ns), .int (nI nd), .ref x9, .ref y1, .ref y2, .int (nI rm), .ref y3, .ref y4, .ref y5, .ref y6, .ref y7, .int (nI pls)])), (x1, .inl (cI, 8, .inl (fun z_ => nI (T z_)))), (x2, .inl (cI, 16, .inl (fun z_ => nI (F z_)))), (x3, .inl (cI, 16, .inl (fun z_ => nI (G z_)))), (x4, .inl (cI, 16, .inl (fun z_ => nI (C z_)))), (x8, .inl (cI, 488, .inl (fun z_ => iI (BG z_))))] H → va_D A [(m0, .inr (6, [.int (nI N), .ref x1, .int (nI K), .ref x2, .ref x3, .ref x4, .int (nI lo), .ref x5, .ref x6, .ref x7, .ref x8, .int (nI ns), .int (nI nd), .ref x9, .ref y1, .ref y2, .int (nI rm), .ref y3, .ref y4, .ref y5, .ref y6, .ref y7, .int (nI pls)])), (x1, .inl (cI, 8, .inl (fun z_ => nI (T z_)))), (x2, .inl (cI, 16, .inl (fun z_ => nI (F z_)))), (x3, .inl (cI, 16, .inl (fun z_ => nI (G z_)))), (x4, .inl (cI, 16, .inl (fun z_ => nI (C z_)))), (x8, .inl (cI, 488, .inl (fun z_ => iI (BG z_))))] → va_S A s.heap H locs → ∀ (ls : Array Slot), lv_has ls 8 [(0, .ref m0), (1, .int (nI v)), (2, .int (nI k)), (3, .int (iI lt)), (4, .int (nI op)), (5, .int (nI nv)), (6, .int (nI j)), (7, .int (iI (BG (((61 * (F j)) + k) - (C j)))))] → W p l e (zR 0 0 0 0) s m args below meth c H locs 0 0 Q (F0 m 86 ls [.int (nI op2)]) := by
              intro op2 j1 j2 H locs hP hD hS ls hl
              refine lv_istore (lv' := [(4, .int (nI op2)), (0, .ref m0), (1, .int (nI v)), (2, .int (nI k)), (3, .int (iI lt)), (5, .int (nI nv)), (6, .int (nI j)), (7, .int (iI (BG (((61 * (F j)) + k) - (C j)))))]) hx hb dX6_beginOf_86 hl (by decide) rfl (fun ls hl => ?_)
              have L105 : ∀ (nv2 : Nat), (nv2 = sp_b01 (sp_any (sp_on G C v k (fun a_ => BG (61 * F a_ + k - C a_)) (-9)) (j + 1))) → (nv2 ≤ 1) → ∀ (H : Heap) (locs : List Loc), va_P (dC, dI) vwCl [(m0, .inr (6, [.int (nI N), .ref x1, .int (nI K), .ref x2, .ref x3, .ref x4, .int (nI lo), .ref x5, .ref x6, .ref x7, .ref x8, .int (nI ns), .int (nI nd), .ref x9, .ref y1, .ref y2, .int (nI rm), .ref y3, .ref y4, .ref y5, .ref y6, .ref y7, .int (nI pls)])), (x1, .inl (cI, 8, .inl (fun z_ => nI (T z_)))), (x2, .inl (cI, 16, .inl (fun z_ => nI (F z_)))), (x3, .inl (cI, 16, .inl (fun z_ => nI (G z_)))), (x4, .inl (cI, 16, .inl (fun z_ => nI (C z_)))), (x8, .inl (cI, 488, .inl (fun z_ => iI (BG z_))))] H → va_D A [(m0, .inr (6, [.int (nI N), .ref x1, .int (nI K), .ref x2, .ref x3, .ref x4, .int (nI lo), .ref x5, .ref x6, .ref x7, .ref x8, .int (nI ns), .int (nI nd), .ref x9, .ref y1, .ref y2, .int (nI rm), .ref y3, .ref y4, .ref y5, .ref y6, .ref y7, .int (nI pls)])), (x1, .inl (cI, 8, .inl (fun z_ => nI (T z_)))), (x2, .inl (cI, 16, .inl (fun z_ => nI (F z_)))), (x3, .inl (cI, 16, .inl (fun z_ => nI (G z_)))), (x4, .inl (cI, 16, .inl (fun z_ => nI (C z_)))), (x8, .inl (cI, 488, .inl (fun z_ => iI (BG z_))))] → va_S A s.heap H locs → ∀ (ls : Array Slot), lv_has ls 8 [(0, .ref m0), (1, .int (nI v)), (2, .int (nI k)), (3, .int (iI lt)), (4, .int (nI op2)), (5, .int (nI nv)), (6, .int (nI j)), (7, .int (iI (BG (((61 * (F j)) + k) - (C j)))))] → W p l e (zR 0 0 0 0) s m args below meth c H locs 0 0 Q (F0 m 105 ls [.int (nI nv2)]) := by
                intro nv2 k1 k2 H locs hP hD hS ls hl
                refine lv_istore (lv' := [(5, .int (nI nv2)), (0, .ref m0), (1, .int (nI v)), (2, .int (nI k)), (3, .int (iI lt)), (4, .int (nI op2)), (6, .int (nI j)), (7, .int (iI (BG (((61 * (F j)) + k) - (C j)))))]) hx hb dX6_beginOf_105 hl (by decide) rfl (fun ls hl => ?_)
                refine lv_iload hx hb dX6_beginOf_107 (lv_at hl 7 rfl) ?_
                refine z_if_lt (tgt := 149) hx hb dX6_beginOf_109 (by decide) (zc_lt (a := BG (((61 * (F j)) + k) - (C j))) (b := 0) rfl iI_0 (by omega)) (fun c_109 => ?_) (fun c_109 => ?_)
                · skip
                  refine lv_iload_n hx hb dX6_beginOf_149 rfl (lv_at hl 4 rfl) ?_
                  refine lv_istore_n (lv' := [(3, .int (iI lt)), (5, .int (nI nv2)), (0, .ref m0), (1, .int (nI v)), (2, .int (nI k)), (4, .int (nI op2)), (6, .int (nI j)), (7, .int (iI (BG (((61 * (F j)) + k) - (C j)))))]) hx hb dX6_beginOf_150 rfl hl (by decide) rfl (fun ls hl => ?_)
                  refine lv_iinc (v := (nI (j + 1))) (lv' := [(6, .int (nI (j + 1))), (3, .int (iI lt)), (5, .int (nI nv2)), (0, .ref m0), (1, .int (nI v)), (2, .int (nI k)), (4, .int (nI op2)), (7, .int (iI (BG (((61 * (F j)) + k) - (C j)))))]) hx hb dX6_beginOf_151 hl (k := 6) rfl (z_incN j 1 (by decide)) (by decide) rfl (fun ls hl => ?_)
                  refine lv_goto (tgt := 11) hx hb dX6_beginOf_154 (by decide) ?_
                  have o_i1 : (j + 1) ≤ K := by first | assumption | omega
                  have o_i2 : op2 = sp_b01 (sp_any (sp_on G C v k (fun a_ => BG (61 * F a_ + k - C a_)) (-2)) (j + 1)) := by first | exact j1 | exact sp_b01_k i2 (sp_on_f (dep := (fun a_ => BG (61 * F a_ + k - C a_))) (a := j) (fun z => by have z1 := z.1; have z2 := z.2.1; omega))
                  have o_i3 : nv2 = sp_b01 (sp_any (sp_on G C v k (fun a_ => BG (61 * F a_ + k - C a_)) (-9)) (j + 1)) := by first | exact k1 | exact sp_b01_k i3 (sp_on_f (dep := (fun a_ => BG (61 * F a_ + k - C a_))) (a := j) (fun z => by have z1 := z.1; have z2 := z.2.1; omega))
                  have o_i4 : lt = sp_lat T F G C v k (fun a_ => BG (61 * F a_ + k - C a_)) (j + 1) := by rw [sp_lat_s, ← i4]; (first | rw [if_pos ⟨⟨by omega, by omega⟩, by omega, by omega⟩] | rw [if_neg (fun z => by have z1 := z.1.1; have z2 := z.1.2; have z3 := z.2.1; have z4 := z.2.2; omega)])
                  have o_i5 : 0 ≤ lt ∧ lt ≤ 11000 := by first | assumption | omega
                  have o_i6 : op2 ≤ 1 := by first | assumption | omega
                  have o_i7 : nv2 ≤ 1 := by first | assumption | omega
                  have o_mu : (K - (j + 1)) < n11 := by omega
                  exact ih11 (j + 1) lt op2 nv2 o_mu o_i1 o_i2 o_i3 o_i4 o_i5 o_i6 o_i7 H locs hP hD hS ls (lv_sub hl [3, 4, 5, 1, 6, 2, 0] rfl)
                · skip
                  refine lv_iload hx hb dX6_beginOf_112 (lv_at hl 7 rfl) ?_
                  refine lv_aload_n hx hb dX6_beginOf_114 rfl (lv_at hl 1 rfl) ?_
                  refine z_get (D := (dC, dI)) (ci := 6) (v := .ref x1) (C := RX6) (T := TX6) (N := 23) hx hb hts uX6 hown hK hP 0 rfl rfl 1 (by decide) w7 rfl rfl dX6_beginOf_115 ?_
                  refine lv_aload_n hx hb dX6_beginOf_118 rfl (lv_at hl 1 rfl) ?_
                  refine z_get (D := (dC, dI)) (ci := 6) (v := .ref x2) (C := RX6) (T := TX6) (N := 23) hx hb hts uX6 hown hK hP 0 rfl rfl 3 (by decide) w13 rfl rfl dX6_beginOf_119 ?_
                  refine lv_iload hx hb dX6_beginOf_122 (lv_at hl 6 rfl) ?_
                  refine z_iald (v := (nI (F j))) hx hb hK hP 2 0 rfl rfl j rfl (by omega) rfl dX6_beginOf_124 ?_
                  have f124_0 := bF j
                  refine z_iald (v := (nI (T (F j)))) hx hb hK hP 1 0 rfl rfl (F j) rfl (by omega) rfl dX6_beginOf_125 ?_
                  have f125_0 := bT (F j)
                  refine z_iadd (v := (iI ((BG (((61 * (F j)) + k) - (C j))) + ((T (F j) : Nat) : Int)))) hx hb dX6_beginOf_126 (za_add rfl (iI_N _)) ?_
                  refine lv_iload_n hx hb dX6_beginOf_127 rfl (lv_at hl 4 rfl) ?_
                  refine z_icmp_le (tgt := 149) hx hb dX6_beginOf_128 (by decide) (zc_le (a := (BG (((61 * (F j)) + k) - (C j))) + ((T (F j) : Nat) : Int)) (b := lt) rfl rfl (by omega)) (fun c_128 => ?_) (fun c_128 => ?_)
                  · skip
                    refine lv_iload_n hx hb dX6_beginOf_149 rfl (lv_at hl 4 rfl) ?_
                    refine lv_istore_n (lv' := [(3, .int (iI lt)), (5, .int (nI nv2)), (0, .ref m0), (1, .int (nI v)), (2, .int (nI k)), (4, .int (nI op2)), (6, .int (nI j)), (7, .int (iI (BG (((61 * (F j)) + k) - (C j)))))]) hx hb dX6_beginOf_150 rfl hl (by decide) rfl (fun ls hl => ?_)
                    refine lv_iinc (v := (nI (j + 1))) (lv' := [(6, .int (nI (j + 1))), (3, .int (iI lt)), (5, .int (nI nv2)), (0, .ref m0), (1, .int (nI v)), (2, .int (nI k)), (4, .int (nI op2)), (7, .int (iI (BG (((61 * (F j)) + k) - (C j)))))]) hx hb dX6_beginOf_151 hl (k := 6) rfl (z_incN j 1 (by decide)) (by decide) rfl (fun ls hl => ?_)
                    refine lv_goto (tgt := 11) hx hb dX6_beginOf_154 (by decide) ?_
                    have o_i1 : (j + 1) ≤ K := by first | assumption | omega
                    have o_i2 : op2 = sp_b01 (sp_any (sp_on G C v k (fun a_ => BG (61 * F a_ + k - C a_)) (-2)) (j + 1)) := by first | exact j1 | exact sp_b01_k i2 (sp_on_f (dep := (fun a_ => BG (61 * F a_ + k - C a_))) (a := j) (fun z => by have z1 := z.1; have z2 := z.2.1; omega))
                    have o_i3 : nv2 = sp_b01 (sp_any (sp_on G C v k (fun a_ => BG (61 * F a_ + k - C a_)) (-9)) (j + 1)) := by first | exact k1 | exact sp_b01_k i3 (sp_on_f (dep := (fun a_ => BG (61 * F a_ + k - C a_))) (a := j) (fun z => by have z1 := z.1; have z2 := z.2.1; omega))
                    have o_i4 : lt = sp_lat T F G C v k (fun a_ => BG (61 * F a_ + k - C a_)) (j + 1) := by rw [sp_lat_s, ← i4]; (first | rw [if_pos ⟨⟨by omega, by omega⟩, by omega, by omega⟩] | rw [if_neg (fun z => by have z1 := z.1.1; have z2 := z.1.2; have z3 := z.2.1; have z4 := z.2.2; omega)])
                    have o_i5 : 0 ≤ lt ∧ lt ≤ 11000 := by first | assumption | omega
                    have o_i6 : op2 ≤ 1 := by first | assumption | omega
                    have o_i7 : nv2 ≤ 1 := by first | assumption | omega
                    have o_mu : (K - (j + 1)) < n11 := by omega
                    exact ih11 (j + 1) lt op2 nv2 o_mu o_i1 o_i2 o_i3 o_i4 o_i5 o_i6 o_i7 H locs hP hD hS ls (lv_sub hl [3, 4, 5, 1, 6, 2, 0] rfl)
                  · skip
                    refine lv_iload hx hb dX6_beginOf_131 (lv_at hl 7 rfl) ?_
                    refine lv_aload_n hx hb dX6_beginOf_133 rfl (lv_at hl 1 rfl) ?_
                    refine z_get (D := (dC, dI)) (ci := 6) (v := .ref x1) (C := RX6) (T := TX6) (N := 23) hx hb hts uX6 hown hK hP 0 rfl rfl 1 (by decide) w7 rfl rfl dX6_beginOf_134 ?_
                    refine lv_aload_n hx hb dX6_beginOf_137 rfl (lv_at hl 1 rfl) ?_
                    refine z_get (D := (dC, dI)) (ci := 6) (v := .ref x2) (C := RX6) (T := TX6) (N := 23) hx hb hts uX6 hown hK hP 0 rfl rfl 3 (by decide) w13 rfl rfl dX6_beginOf_138 ?_
                    refine lv_iload hx hb dX6_beginOf_141 (lv_at hl 6 rfl) ?_
                    refine z_iald (v := (nI (F j))) hx hb hK hP 2 0 rfl rfl j rfl (by omega) rfl dX6_beginOf_143 ?_
                    have f143_0 := bF j
                    refine z_iald (v := (nI (T (F j)))) hx hb hK hP 1 0 rfl rfl (F j) rfl (by omega) rfl dX6_beginOf_144 ?_
                    have f144_0 := bT (F j)
                    refine z_iadd (v := (iI ((BG (((61 * (F j)) + k) - (C j))) + ((T (F j) : Nat) : Int)))) hx hb dX6_beginOf_145 (za_add rfl (iI_N _)) ?_
                    refine lv_goto (tgt := 150) hx hb dX6_beginOf_146 (by decide) ?_
                    refine lv_istore_n (lv' := [(3, .int (iI ((BG (((61 * (F j)) + k) - (C j))) + ((T (F j) : Nat) : Int)))), (5, .int (nI nv2)), (0, .ref m0), (1, .int (nI v)), (2, .int (nI k)), (4, .int (nI op2)), (6, .int (nI j)), (7, .int (iI (BG (((61 * (F j)) + k) - (C j)))))]) hx hb dX6_beginOf_150 rfl hl (by decide) rfl (fun ls hl => ?_)
                    refine lv_iinc (v := (nI (j + 1))) (lv' := [(6, .int (nI (j + 1))), (3, .int (iI ((BG (((61 * (F j)) + k) - (C j))) + ((T (F j) : Nat) : Int)))), (5, .int (nI nv2)), (0, .ref m0), (1, .int (nI v)), (2, .int (nI k)), (4, .int (nI op2)), (7, .int (iI (BG (((61 * (F j)) + k) - (C j)))))]) hx hb dX6_beginOf_151 hl (k := 6) rfl (z_incN j 1 (by decide)) (by decide) rfl (fun ls hl => ?_)
                    refine lv_goto (tgt := 11) hx hb dX6_beginOf_154 (by decide) ?_
                    have o_i1 : (j + 1) ≤ K := by first | assumption | omega
                    have o_i2 : op2 = sp_b01 (sp_any (sp_on G C v k (fun a_ => BG (61 * F a_ + k - C a_)) (-2)) (j + 1)) := by first | exact j1 | exact sp_b01_k i2 (sp_on_f (dep := (fun a_ => BG (61 * F a_ + k - C a_))) (a := j) (fun z => by have z1 := z.1; have z2 := z.2.1; omega))
                    have o_i3 : nv2 = sp_b01 (sp_any (sp_on G C v k (fun a_ => BG (61 * F a_ + k - C a_)) (-9)) (j + 1)) := by first | exact k1 | exact sp_b01_k i3 (sp_on_f (dep := (fun a_ => BG (61 * F a_ + k - C a_))) (a := j) (fun z => by have z1 := z.1; have z2 := z.2.1; omega))
                    have o_i4 : ((BG (((61 * (F j)) + k) - (C j))) + ((T (F j) : Nat) : Int)) = sp_lat T F G C v k (fun a_ => BG (61 * F a_ + k - C a_)) (j + 1) := by rw [sp_lat_s, ← i4]; (first | rw [if_pos ⟨⟨by omega, by omega⟩, by omega, by omega⟩] | rw [if_neg (fun z => by have z1 := z.1.1; have z2 := z.1.2; have z3 := z.2.1; have z4 := z.2.2; omega)])
                    have o_i5 : 0 ≤ ((BG (((61 * (F j)) + k) - (C j))) + ((T (F j) : Nat) : Int)) ∧ ((BG (((61 * (F j)) + k) - (C j))) + ((T (F j) : Nat) : Int)) ≤ 11000 := by first | assumption | omega
                    have o_i6 : op2 ≤ 1 := by first | assumption | omega
                    have o_i7 : nv2 ≤ 1 := by first | assumption | omega
                    have o_mu : (K - (j + 1)) < n11 := by omega
                    exact ih11 (j + 1) ((BG (((61 * (F j)) + k) - (C j))) + ((T (F j) : Nat) : Int)) op2 nv2 o_mu o_i1 o_i2 o_i3 o_i4 o_i5 o_i6 o_i7 H locs hP hD hS ls (lv_sub hl [3, 4, 5, 1, 6, 2, 0] rfl)
              refine lv_iload hx hb dX6_beginOf_88 (lv_at hl 5 rfl) ?_
              refine z_if_ne (tgt := 100) hx hb dX6_beginOf_90 (by decide) (zcn_eq (a := nv) (b := 0) rfl nI_00 (by omega)) (fun c_90 => ?_) (fun c_90 => ?_)
              · skip
                refine lv_iconst (v := nI 1) hx hb dX6_beginOf_100 (by decide) ?_
                refine lv_goto (tgt := 105) hx hb dX6_beginOf_101 (by decide) ?_
                have o_k1 : 1 = sp_b01 (sp_any (sp_on G C v k (fun a_ => BG (61 * F a_ + k - C a_)) (-9)) (j + 1)) := by exact sp_b01_or (q := sp_on G C v k (fun a_ => BG (61 * F a_ + k - C a_)) (-9) j) i3 (by first | exact Or.inl ⟨c_90, rfl⟩ | exact Or.inr ⟨c_90, (sp_on_t (dep := (fun a_ => BG (61 * F a_ + k - C a_))) (a := j) (by omega) (by omega) c_97).symm⟩ | exact Or.inr ⟨c_90, (sp_on_f (dep := (fun a_ => BG (61 * F a_ + k - C a_))) (a := j) (fun z => c_97 z.2.2)).symm⟩)
                have o_k2 : 1 ≤ 1 := by first | assumption | omega
                exact L105 1 o_k1 o_k2 H locs hP hD hS ls (lv_sub hl [1, 2, 3, 4, 0, 5, 6, 7] rfl)
              · skip
                refine lv_iload hx hb dX6_beginOf_93 (lv_at hl 7 rfl) ?_
                refine lv_bipush (v := iI (-9)) hx hb dX6_beginOf_95 (by decide) ?_
                refine z_icmp_ne (tgt := 104) hx hb dX6_beginOf_97 (by decide) (zc_eq (a := BG (((61 * (F j)) + k) - (C j))) (b := -9) rfl rfl (by omega)) (fun c_97 => ?_) (fun c_97 => ?_)
                · skip
                  refine lv_iconst (v := nI 0) hx hb dX6_beginOf_104 (by decide) ?_
                  have o_k1 : 0 = sp_b01 (sp_any (sp_on G C v k (fun a_ => BG (61 * F a_ + k - C a_)) (-9)) (j + 1)) := by exact sp_b01_or (q := sp_on G C v k (fun a_ => BG (61 * F a_ + k - C a_)) (-9) j) i3 (by first | exact Or.inl ⟨c_90, rfl⟩ | exact Or.inr ⟨c_90, (sp_on_t (dep := (fun a_ => BG (61 * F a_ + k - C a_))) (a := j) (by omega) (by omega) c_97).symm⟩ | exact Or.inr ⟨c_90, (sp_on_f (dep := (fun a_ => BG (61 * F a_ + k - C a_))) (a := j) (fun z => c_97 z.2.2)).symm⟩)
                  have o_k2 : 0 ≤ 1 := by first | assumption | omega
                  exact L105 0 o_k1 o_k2 H locs hP hD hS ls (lv_sub hl [1, 2, 3, 4, 0, 5, 6, 7] rfl)
                · skip
                  refine lv_iconst (v := nI 1) hx hb dX6_beginOf_100 (by decide) ?_
                  refine lv_goto (tgt := 105) hx hb dX6_beginOf_101 (by decide) ?_
                  have o_k1 : 1 = sp_b01 (sp_any (sp_on G C v k (fun a_ => BG (61 * F a_ + k - C a_)) (-9)) (j + 1)) := by exact sp_b01_or (q := sp_on G C v k (fun a_ => BG (61 * F a_ + k - C a_)) (-9) j) i3 (by first | exact Or.inl ⟨c_90, rfl⟩ | exact Or.inr ⟨c_90, (sp_on_t (dep := (fun a_ => BG (61 * F a_ + k - C a_))) (a := j) (by omega) (by omega) c_97).symm⟩ | exact Or.inr ⟨c_90, (sp_on_f (dep := (fun a_ => BG (61 * F a_ + k - C a_))) (a := j) (fun z => c_97 z.2.2)).symm⟩)
                  have o_k2 : 1 ≤ 1 := by first | assumption | omega
                  exact L105 1 o_k1 o_k2 H locs hP hD hS ls (lv_sub hl [1, 2, 3, 4, 0, 5, 6, 7] rfl)
            refine lv_iload hx hb dX6_beginOf_69 (lv_at hl 5 rfl) ?_
            refine z_if_ne (tgt := 81) hx hb dX6_beginOf_71 (by decide) (zcn_eq (a := op) (b := 0) rfl nI_00 (by omega)) (fun c_71 => ?_) (fun c_71 => ?_)
            · skip
              refine lv_iconst (v := nI 1) hx hb dX6_beginOf_81 (by decide) ?_
              refine lv_goto (tgt := 86) hx hb dX6_beginOf_82 (by decide) ?_
              have o_j1 : 1 = sp_b01 (sp_any (sp_on G C v k (fun a_ => BG (61 * F a_ + k - C a_)) (-2)) (j + 1)) := by exact sp_b01_or (q := sp_on G C v k (fun a_ => BG (61 * F a_ + k - C a_)) (-2) j) i2 (by first | exact Or.inl ⟨c_71, rfl⟩ | exact Or.inr ⟨c_71, (sp_on_t (dep := (fun a_ => BG (61 * F a_ + k - C a_))) (a := j) (by omega) (by omega) c_78).symm⟩ | exact Or.inr ⟨c_71, (sp_on_f (dep := (fun a_ => BG (61 * F a_ + k - C a_))) (a := j) (fun z => c_78 z.2.2)).symm⟩)
              have o_j2 : 1 ≤ 1 := by first | assumption | omega
              exact L86 1 o_j1 o_j2 H locs hP hD hS ls (lv_sub hl [1, 2, 3, 4, 5, 6, 7, 0] rfl)
            · skip
              refine lv_iload hx hb dX6_beginOf_74 (lv_at hl 0 rfl) ?_
              refine lv_bipush (v := iI (-2)) hx hb dX6_beginOf_76 (by decide) ?_
              refine z_icmp_ne (tgt := 85) hx hb dX6_beginOf_78 (by decide) (zc_eq (a := BG (((61 * (F j)) + k) - (C j))) (b := -2) rfl rfl (by omega)) (fun c_78 => ?_) (fun c_78 => ?_)
              · skip
                refine lv_iconst (v := nI 0) hx hb dX6_beginOf_85 (by decide) ?_
                have o_j1 : 0 = sp_b01 (sp_any (sp_on G C v k (fun a_ => BG (61 * F a_ + k - C a_)) (-2)) (j + 1)) := by exact sp_b01_or (q := sp_on G C v k (fun a_ => BG (61 * F a_ + k - C a_)) (-2) j) i2 (by first | exact Or.inl ⟨c_71, rfl⟩ | exact Or.inr ⟨c_71, (sp_on_t (dep := (fun a_ => BG (61 * F a_ + k - C a_))) (a := j) (by omega) (by omega) c_78).symm⟩ | exact Or.inr ⟨c_71, (sp_on_f (dep := (fun a_ => BG (61 * F a_ + k - C a_))) (a := j) (fun z => c_78 z.2.2)).symm⟩)
                have o_j2 : 0 ≤ 1 := by first | assumption | omega
                exact L86 0 o_j1 o_j2 H locs hP hD hS ls (lv_sub hl [1, 2, 3, 4, 5, 6, 7, 0] rfl)
              · skip
                refine lv_iconst (v := nI 1) hx hb dX6_beginOf_81 (by decide) ?_
                refine lv_goto (tgt := 86) hx hb dX6_beginOf_82 (by decide) ?_
                have o_j1 : 1 = sp_b01 (sp_any (sp_on G C v k (fun a_ => BG (61 * F a_ + k - C a_)) (-2)) (j + 1)) := by exact sp_b01_or (q := sp_on G C v k (fun a_ => BG (61 * F a_ + k - C a_)) (-2) j) i2 (by first | exact Or.inl ⟨c_71, rfl⟩ | exact Or.inr ⟨c_71, (sp_on_t (dep := (fun a_ => BG (61 * F a_ + k - C a_))) (a := j) (by omega) (by omega) c_78).symm⟩ | exact Or.inr ⟨c_71, (sp_on_f (dep := (fun a_ => BG (61 * F a_ + k - C a_))) (a := j) (fun z => c_78 z.2.2)).symm⟩)
                have o_j2 : 1 ≤ 1 := by first | assumption | omega
                exact L86 1 o_j1 o_j2 H locs hP hD hS ls (lv_sub hl [1, 2, 3, 4, 5, 6, 7, 0] rfl)
  have o_i1 : 0 ≤ K := by first | assumption | omega
  have o_i2 : 0 = sp_b01 (sp_any (sp_on G C v k (fun a_ => BG (61 * F a_ + k - C a_)) (-2)) 0) := by rfl
  have o_i3 : 0 = sp_b01 (sp_any (sp_on G C v k (fun a_ => BG (61 * F a_ + k - C a_)) (-9)) 0) := by rfl
  have o_i4 : (0 : Int) = sp_lat T F G C v k (fun a_ => BG (61 * F a_ + k - C a_)) 0 := by rfl
  have o_i5 : 0 ≤ (0 : Int) ∧ (0 : Int) ≤ 11000 := by first | assumption | omega
  have o_i6 : 0 ≤ 1 := by first | assumption | omega
  have o_i7 : 0 ≤ 1 := by first | assumption | omega
  exact L11 ((K - 0) + 1) 0 (0 : Int) 0 0 (Nat.lt_succ_self _) o_i1 o_i2 o_i3 o_i4 o_i5 o_i6 o_i7 H locs hP hD hS ls (lv_sub hl [4, 5, 6, 3, 2, 1, 0] rfl)

set_option maxHeartbeats 4000000 in
set_option maxRecDepth 100000 in
theorem c_X6_begins (l : Launch) (dC : Nat → ClassId) (dI : Nat → Nat → Nat) (cI cJ : ClassId) (sz : Nat) (m0 : Nat) (x1 : Nat) (x2 : Nat) (x3 : Nat) (x4 : Nat) (x5 : Nat) (x6 : Nat) (x7 : Nat) (x8 : Nat) (x9 : Nat) (y1 : Nat) (y2 : Nat) (y3 : Nat) (y4 : Nat) (y5 : Nat) (y6 : Nat) (y7 : Nat) (N : Nat) (K : Nat) (lo : Nat) (ns : Nat) (nd : Nat) (rm : Nat) (pls : Nat) (T : Nat → Nat) (F : Nat → Nat) (G : Nat → Nat) (C : Nat → Nat) (BG : Nat → Int) (z : Int) (k : Int) (bN : N ≤ 8) (bK : K ≤ 16) (bC : ∀ a, C a ≤ 9) (bF : ∀ a, F a < 8) (bG : ∀ a, G a < 8) (bT : ∀ i, T i ≤ 20) (bFN : ∀ a, a < K → F a < N ∧ G a < N) (bz : -2147483648 ≤ z ∧ z < 2147483648) (bk : -2147483648 ≤ k ∧ k < 2147483648) : Met l yX6_begins wsX6_begins (zR 2 0 0 46) (va_Pc [.ref m0, .int (iI z), .int (iI k)] (zP (dC, dI) [(cI, .int), (cJ, .long)] [(m0, .inr (6, [.int (nI N), .ref x1, .int (nI K), .ref x2, .ref x3, .ref x4, .int (nI lo), .ref x5, .ref x6, .ref x7, .ref x8, .int (nI ns), .int (nI nd), .ref x9, .ref y1, .ref y2, .int (nI rm), .ref y3, .ref y4, .ref y5, .ref y6, .ref y7, .int (nI pls)])), (x1, .inl (cI, 8, .inl (fun z_ => nI (T z_)))), (x2, .inl (cI, 16, .inl (fun z_ => nI (F z_)))), (x3, .inl (cI, 16, .inl (fun z_ => nI (G z_)))), (x4, .inl (cI, 16, .inl (fun z_ => nI (C z_)))), (x8, .inl (cI, 488, .inl (fun z_ => iI (BG z_))))] sz nwA)) (va_Qi (fun (r : Int32) (u : (Int) × (Nat → Int)) => r = (iI u.1) ∧ (u.1 = if 0 ≤ z ∧ z < (N : Int) then (if 0 ≤ k ∧ k ≤ 60 then sp_V N K T F G C k.toNat z.toNat else -2) else -1)) (zB (dC, dI) (fun (u : (Int) × (Nat → Int)) => [(m0, .inr (6, [.int (nI N), .ref x1, .int (nI K), .ref x2, .ref x3, .ref x4, .int (nI lo), .ref x5, .ref x6, .ref x7, .ref x8, .int (nI ns), .int (nI nd), .ref x9, .ref y1, .ref y2, .int (nI rm), .ref y3, .ref y4, .ref y5, .ref y6, .ref y7, .int (nI pls)])), (x1, .inl (cI, 8, .inl (fun z_ => nI (T z_)))), (x2, .inl (cI, 16, .inl (fun z_ => nI (F z_)))), (x3, .inl (cI, 16, .inl (fun z_ => nI (G z_)))), (x4, .inl (cI, 16, .inl (fun z_ => nI (C z_)))), (x8, .inl (cI, 488, .inl (fun z_ => iI (u.2 z_))))]) (va_A [(m0, .inr (6, [.int (nI N), .ref x1, .int (nI K), .ref x2, .ref x3, .ref x4, .int (nI lo), .ref x5, .ref x6, .ref x7, .ref x8, .int (nI ns), .int (nI nd), .ref x9, .ref y1, .ref y2, .int (nI rm), .ref y3, .ref y4, .ref y5, .ref y6, .ref y7, .int (nI pls)])), (x1, .inl (cI, 8, .inl (fun z_ => nI (T z_)))), (x2, .inl (cI, 16, .inl (fun z_ => nI (F z_)))), (x3, .inl (cI, 16, .inl (fun z_ => nI (G z_)))), (x4, .inl (cI, 16, .inl (fun z_ => nI (C z_)))), (x8, .inl (cI, 488, .inl (fun z_ => iI (BG z_))))] sz)) (va_A [(m0, .inr (6, [.int (nI N), .ref x1, .int (nI K), .ref x2, .ref x3, .ref x4, .int (nI lo), .ref x5, .ref x6, .ref x7, .ref x8, .int (nI ns), .int (nI nd), .ref x9, .ref y1, .ref y2, .int (nI rm), .ref y3, .ref y4, .ref y5, .ref y6, .ref y7, .int (nI pls)])), (x1, .inl (cI, 8, .inl (fun z_ => nI (T z_)))), (x2, .inl (cI, 16, .inl (fun z_ => nI (F z_)))), (x3, .inl (cI, 16, .inl (fun z_ => nI (G z_)))), (x4, .inl (cI, 16, .inl (fun z_ => nI (C z_)))), (x8, .inl (cI, 488, .inl (fun z_ => iI (BG z_))))] sz)) 0 0 (va_A [(m0, .inr (6, [.int (nI N), .ref x1, .int (nI K), .ref x2, .ref x3, .ref x4, .int (nI lo), .ref x5, .ref x6, .ref x7, .ref x8, .int (nI ns), .int (nI nd), .ref x9, .ref y1, .ref y2, .int (nI rm), .ref y3, .ref y4, .ref y5, .ref y6, .ref y7, .int (nI pls)])), (x1, .inl (cI, 8, .inl (fun z_ => nI (T z_)))), (x2, .inl (cI, 16, .inl (fun z_ => nI (F z_)))), (x3, .inl (cI, 16, .inl (fun z_ => nI (G z_)))), (x4, .inl (cI, 16, .inl (fun z_ => nI (C z_)))), (x8, .inl (cI, 488, .inl (fun z_ => iI (BG z_))))] sz) := by
  refine z_met_i (cc := cX6_begins) (maxL := 6) (by decide) rfl (Nat.le_of_ble_eq_true rfl) ?_
  intro p e s m args below meth c Q A ls hx hb hml hown hts hin hA hK hP hD hN hl hRET
  have hown : s.vm.findClass RX6 = some m.cls := hown
  obtain ⟨H, eH⟩ : ∃ H : Heap, H = s.heap := ⟨_, rfl⟩
  rw [← eH] at hP
  obtain ⟨locs, eL⟩ : ∃ z : List Loc, z = [] := ⟨_, rfl⟩
  rw [← eH, ← eL]
  have hS : va_S A s.heap H locs := by rw [eH, eL]; exact va_S.rf
  have hl : lv_has ls 6 [(0, .ref m0), (1, .int (iI z)), (2, .int (iI k))] := hl
  have w59 := hts (.fieldLink RX6 59 "PullCardsModel" "stations" "I") (by decide +kernel)
  have uX6 : ∀ w ∈ wsX60, w ∈ wsX6_begins := by decide +kernel
  have w31 := hts (.fieldLink RX6 31 "PullCardsModel" "begin" "[I") (by decide +kernel)
  refine lv_aload_n hx hb dX6_begins_0 rfl (lv_at hl 0 rfl) ?_
  refine lv_iload_n hx hb dX6_begins_1 rfl (lv_at hl 1 rfl) ?_
  refine z_callVi (As := [.int (iI z)]) (rest := []) (wr := [(x1, .inl (cI, 8, .inl (fun z_ => nI (T z_)))), (x2, .inl (cI, 16, .inl (fun z_ => nI (F z_)))), (x3, .inl (cI, 16, .inl (fun z_ => nI (G z_)))), (x4, .inl (cI, 16, .inl (fun z_ => nI (C z_)))), (x8, .inl (cI, 488, .inl (fun z_ => iI (BG z_))))]) ⟨hx, hb, hml, hown, hts⟩ (c_X6_isStation l dC dI cI cJ H.size m0 x1 x2 x3 x4 x5 x6 x7 x8 x9 y1 y2 y3 y4 y5 y6 y7 N K lo ns nd rm pls z (by first | assumption | omega) (by first | assumption | omega) (by first | assumption | omega)) (cwV 1 hts gX6_begins_X6_isStation rfl rfl rfl (by decide +kernel) ⟨Nat.le_of_ble_eq_true rfl, Nat.le_of_ble_eq_true rfl⟩) hA hK hP hD hS [0] [1, 2, 3, 4, 5] [5, 0, 1, 2, 3, 4] rfl rfl (by decide) (by decide) (by decide) nwA_ok hN (ci := 6) rfl rfl 0 rfl hl.1 (Nat.le_of_ble_eq_true rfl) ⟨Nat.le_refl _, Nat.le_refl _⟩ rfl rfl dX6_begins_2 (fun (u : (Nat)) => [(m0, .inr (6, [.int (nI N), .ref x1, .int (nI K), .ref x2, .ref x3, .ref x4, .int (nI lo), .ref x5, .ref x6, .ref x7, .ref x8, .int (nI ns), .int (nI nd), .ref x9, .ref y1, .ref y2, .int (nI rm), .ref y3, .ref y4, .ref y5, .ref y6, .ref y7, .int (nI pls)])), (x1, .inl (cI, 8, .inl (fun z_ => nI (T z_)))), (x2, .inl (cI, 16, .inl (fun z_ => nI (F z_)))), (x3, .inl (cI, 16, .inl (fun z_ => nI (G z_)))), (x4, .inl (cI, 16, .inl (fun z_ => nI (C z_)))), (x8, .inl (cI, 488, .inl (fun z_ => iI (BG z_))))]) (fun u => rfl) (by decide) (fun r_2 u H locs hw hP hD hS => ?_)
  obtain ⟨rv_2, eu⟩ : ∃ z, z = u := ⟨_, rfl⟩
  subst eu
  have hP : va_P (dC, dI) vwCl [(m0, .inr (6, [.int (nI N), .ref x1, .int (nI K), .ref x2, .ref x3, .ref x4, .int (nI lo), .ref x5, .ref x6, .ref x7, .ref x8, .int (nI ns), .int (nI nd), .ref x9, .ref y1, .ref y2, .int (nI rm), .ref y3, .ref y4, .ref y5, .ref y6, .ref y7, .int (nI pls)])), (x1, .inl (cI, 8, .inl (fun z_ => nI (T z_)))), (x2, .inl (cI, 16, .inl (fun z_ => nI (F z_)))), (x3, .inl (cI, 16, .inl (fun z_ => nI (G z_)))), (x4, .inl (cI, 16, .inl (fun z_ => nI (C z_)))), (x8, .inl (cI, 488, .inl (fun z_ => iI (BG z_))))] H := hP
  have hD : va_D A [(m0, .inr (6, [.int (nI N), .ref x1, .int (nI K), .ref x2, .ref x3, .ref x4, .int (nI lo), .ref x5, .ref x6, .ref x7, .ref x8, .int (nI ns), .int (nI nd), .ref x9, .ref y1, .ref y2, .int (nI rm), .ref y3, .ref y4, .ref y5, .ref y6, .ref y7, .int (nI pls)])), (x1, .inl (cI, 8, .inl (fun z_ => nI (T z_)))), (x2, .inl (cI, 16, .inl (fun z_ => nI (F z_)))), (x3, .inl (cI, 16, .inl (fun z_ => nI (G z_)))), (x4, .inl (cI, 16, .inl (fun z_ => nI (C z_)))), (x8, .inl (cI, 488, .inl (fun z_ => iI (BG z_))))] := hD
  obtain ⟨er, p2_0⟩ := hw
  have p2_0 : (rv_2 = 1 ∧ (0 ≤ z ∧ z < (N : Int))) ∨ (rv_2 = 0 ∧ ¬ (0 ≤ z ∧ z < (N : Int))) := p2_0
  have er : r_2 = (nI rv_2) := er
  subst er
  rcases p2_0 with ⟨h2, c_2⟩ | ⟨h2, c_2⟩
  · skip
    subst h2
    refine lv_if_ne (tgt := 10) hx hb dX6_begins_5 (by decide) (fun _ => ?_) (fun c_x => absurd c_x (by decide))
    refine lv_iload_n hx hb dX6_begins_10 rfl (lv_at hl 2 rfl) ?_
    refine lv_i2l (v := (lI k)) hx hb dX6_begins_11 (zl_i2l rfl (by omega)) ?_
    refine lv_lconst (v := lN 0) hx hb dX6_begins_12 (by decide) ?_
    refine lv_ldc2 (v := (60 : Int64)) hx hb hown (hts (.constantLong RX6 132 (60)) (by decide +kernel)) dX6_begins_13 ?_
    refine z_l0 (v := (lN 60)) (by decide) ?_
    refine z_l0 (v := lI 60) (by decide) ?_
    refine z_l1 (v := lI 0) (by decide) ?_
    refine z_callSi (As := [.long (lI k), .long (lI 0), .long (lI 60)]) (rest := []) (wr := [(m0, .inr (6, [.int (nI N), .ref x1, .int (nI K), .ref x2, .ref x3, .ref x4, .int (nI lo), .ref x5, .ref x6, .ref x7, .ref x8, .int (nI ns), .int (nI nd), .ref x9, .ref y1, .ref y2, .int (nI rm), .ref y3, .ref y4, .ref y5, .ref y6, .ref y7, .int (nI pls)])), (x1, .inl (cI, 8, .inl (fun z_ => nI (T z_)))), (x2, .inl (cI, 16, .inl (fun z_ => nI (F z_)))), (x3, .inl (cI, 16, .inl (fun z_ => nI (G z_)))), (x4, .inl (cI, 16, .inl (fun z_ => nI (C z_)))), (x8, .inl (cI, 488, .inl (fun z_ => iI (BG z_))))]) ⟨hx, hb, hml, hown, hts⟩ (c_X6_in l dC dI cI cJ H.size k (0 : Int) (60 : Int) (by first | assumption | omega) (by first | assumption | omega) (by first | assumption | omega)) (va_cwS 3 hts gX6_begins_X6_in rfl rfl rfl (by decide +kernel) ⟨Nat.le_of_ble_eq_true rfl, Nat.le_of_ble_eq_true rfl⟩) hA hK hP hD hS [] [0, 1, 2, 3, 4, 5] [0, 1, 2, 3, 4, 5] rfl rfl (by decide) (by decide) (by decide) nwA_ok hN hl.1 (Nat.le_of_ble_eq_true rfl) ⟨Nat.le_refl _, Nat.le_refl _⟩ rfl rfl dX6_begins_16 (fun (u : (Nat)) => [(m0, .inr (6, [.int (nI N), .ref x1, .int (nI K), .ref x2, .ref x3, .ref x4, .int (nI lo), .ref x5, .ref x6, .ref x7, .ref x8, .int (nI ns), .int (nI nd), .ref x9, .ref y1, .ref y2, .int (nI rm), .ref y3, .ref y4, .ref y5, .ref y6, .ref y7, .int (nI pls)])), (x1, .inl (cI, 8, .inl (fun z_ => nI (T z_)))), (x2, .inl (cI, 16, .inl (fun z_ => nI (F z_)))), (x3, .inl (cI, 16, .inl (fun z_ => nI (G z_)))), (x4, .inl (cI, 16, .inl (fun z_ => nI (C z_)))), (x8, .inl (cI, 488, .inl (fun z_ => iI (BG z_))))]) (fun u => rfl) (by decide) (fun r_16 u H locs hw hP hD hS => ?_)
    obtain ⟨rv_16, eu⟩ : ∃ z, z = u := ⟨_, rfl⟩
    subst eu
    have hP : va_P (dC, dI) vwCl [(m0, .inr (6, [.int (nI N), .ref x1, .int (nI K), .ref x2, .ref x3, .ref x4, .int (nI lo), .ref x5, .ref x6, .ref x7, .ref x8, .int (nI ns), .int (nI nd), .ref x9, .ref y1, .ref y2, .int (nI rm), .ref y3, .ref y4, .ref y5, .ref y6, .ref y7, .int (nI pls)])), (x1, .inl (cI, 8, .inl (fun z_ => nI (T z_)))), (x2, .inl (cI, 16, .inl (fun z_ => nI (F z_)))), (x3, .inl (cI, 16, .inl (fun z_ => nI (G z_)))), (x4, .inl (cI, 16, .inl (fun z_ => nI (C z_)))), (x8, .inl (cI, 488, .inl (fun z_ => iI (BG z_))))] H := hP
    have hD : va_D A [(m0, .inr (6, [.int (nI N), .ref x1, .int (nI K), .ref x2, .ref x3, .ref x4, .int (nI lo), .ref x5, .ref x6, .ref x7, .ref x8, .int (nI ns), .int (nI nd), .ref x9, .ref y1, .ref y2, .int (nI rm), .ref y3, .ref y4, .ref y5, .ref y6, .ref y7, .int (nI pls)])), (x1, .inl (cI, 8, .inl (fun z_ => nI (T z_)))), (x2, .inl (cI, 16, .inl (fun z_ => nI (F z_)))), (x3, .inl (cI, 16, .inl (fun z_ => nI (G z_)))), (x4, .inl (cI, 16, .inl (fun z_ => nI (C z_)))), (x8, .inl (cI, 488, .inl (fun z_ => iI (BG z_))))] := hD
    obtain ⟨er, p16_0⟩ := hw
    have p16_0 : (rv_16 = 1 ∧ ((0 : Int) ≤ k ∧ k ≤ (60 : Int))) ∨ (rv_16 = 0 ∧ ¬ ((0 : Int) ≤ k ∧ k ≤ (60 : Int))) := p16_0
    have er : r_16 = (nI rv_16) := er
    subst er
    rcases p16_0 with ⟨h16, c_16⟩ | ⟨h16, c_16⟩
    · skip
      subst h16
      refine lv_if_ne (tgt := 25) hx hb dX6_begins_19 (by decide) (fun _ => ?_) (fun c_x => absurd c_x (by decide))
      refine lv_iconst (v := nI 0) hx hb dX6_begins_25 (by decide) ?_
      refine lv_istore_n (lv' := [(3, .int (nI 0)), (0, .ref m0), (1, .int (iI z)), (2, .int (iI k))]) hx hb dX6_begins_26 rfl hl (by decide) rfl (fun ls hl => ?_)
      have L27 : ∀ (n27 : Nat) (w : Nat) (BG1 : Nat → Int), (k.toNat + 1 - w) < n27 → (w ≤ k.toNat + 1) → (∀ o, o < N → ∀ x, x < w → BG1 (61 * o + x) = sp_V N K T F G C x o) → ∀ (H : Heap) (locs : List Loc), va_P (dC, dI) vwCl [(m0, .inr (6, [.int (nI N), .ref x1, .int (nI K), .ref x2, .ref x3, .ref x4, .int (nI lo), .ref x5, .ref x6, .ref x7, .ref x8, .int (nI ns), .int (nI nd), .ref x9, .ref y1, .ref y2, .int (nI rm), .ref y3, .ref y4, .ref y5, .ref y6, .ref y7, .int (nI pls)])), (x1, .inl (cI, 8, .inl (fun z_ => nI (T z_)))), (x2, .inl (cI, 16, .inl (fun z_ => nI (F z_)))), (x3, .inl (cI, 16, .inl (fun z_ => nI (G z_)))), (x4, .inl (cI, 16, .inl (fun z_ => nI (C z_)))), (x8, .inl (cI, 488, .inl (fun z_ => iI (BG1 z_))))] H → va_D A [(m0, .inr (6, [.int (nI N), .ref x1, .int (nI K), .ref x2, .ref x3, .ref x4, .int (nI lo), .ref x5, .ref x6, .ref x7, .ref x8, .int (nI ns), .int (nI nd), .ref x9, .ref y1, .ref y2, .int (nI rm), .ref y3, .ref y4, .ref y5, .ref y6, .ref y7, .int (nI pls)])), (x1, .inl (cI, 8, .inl (fun z_ => nI (T z_)))), (x2, .inl (cI, 16, .inl (fun z_ => nI (F z_)))), (x3, .inl (cI, 16, .inl (fun z_ => nI (G z_)))), (x4, .inl (cI, 16, .inl (fun z_ => nI (C z_)))), (x8, .inl (cI, 488, .inl (fun z_ => iI (BG1 z_))))] → va_S A s.heap H locs → ∀ (ls : Array Slot), lv_has ls 6 [(0, .ref m0), (1, .int (iI z)), (2, .int (iI k)), (3, .int (nI w))] → W p l e (zR 2 0 0 46) s m args below meth c H locs 0 0 Q (F0 m 27 ls []) := by
        intro n27
        induction n27 with
        | zero => intro w BG1 hn; exact absurd hn (Nat.not_lt_zero _)
        | succ n27 ih =>
          intro w BG1 hn i1 i2 H locs hP hD hS ls hl
          have ih27 := ih
          have hn27 := hn
          clear ih hn
          refine lv_iload_n hx hb dX6_begins_27 rfl (lv_at hl 3 rfl) ?_
          refine lv_iload_n hx hb dX6_begins_28 rfl (lv_at hl 2 rfl) ?_
          refine z_c0 (v := nI k.toNat) (z_ZtoN (by first | assumption | omega)) ?_
          refine z_icmp_gt (tgt := 221) hx hb dX6_begins_29 (by decide) (zcn_lt (a := k.toNat) (b := w) rfl rfl (by omega)) (fun c_29 => ?_) (fun c_29 => ?_)
          · skip
            refine lv_aload_n hx hb dX6_begins_221 rfl (lv_at hl 0 rfl) ?_
            refine z_get (D := (dC, dI)) (ci := 6) (v := .ref x8) (C := RX6) (T := TX6) (N := 23) hx hb hts uX6 hown hK hP 0 rfl rfl 10 (by decide) w31 rfl rfl dX6_begins_222 ?_
            refine lv_bipush (v := nI 61) hx hb dX6_begins_225 (by decide) ?_
            refine lv_iload_n hx hb dX6_begins_227 rfl (lv_at hl 1 rfl) ?_
            refine z_c0 (v := nI z.toNat) (z_ZtoN (by first | assumption | omega)) ?_
            refine z_imul (v := (nI (61 * z.toNat))) hx hb dX6_begins_228 (pk_mul _ _) ?_
            refine lv_iload_n hx hb dX6_begins_229 rfl (lv_at hl 2 rfl) ?_
            refine z_c0 (v := nI k.toNat) (z_ZtoN (by first | assumption | omega)) ?_
            refine z_iadd (v := (nI ((61 * z.toNat) + k.toNat))) hx hb dX6_begins_230 (nI_add _ _) ?_
            refine z_iald (v := (iI (BG1 ((61 * z.toNat) + k.toNat)))) hx hb hK hP 5 0 rfl rfl ((61 * z.toNat) + k.toNat) rfl (by omega) rfl dX6_begins_231 ?_
            have q_0 : (BG1 ((61 * z.toNat) + k.toNat)) = if 0 ≤ z ∧ z < (N : Int) then (if 0 ≤ k ∧ k ≤ 60 then sp_V N K T F G C k.toNat z.toNat else -2) else -1 := by first | rw [if_neg (by omega)] | rw [if_pos (by omega), if_neg (by omega)] | (rw [if_pos (by omega), if_pos (by omega)]; exact i2 z.toNat (by omega) k.toNat (by omega))
            exact hRET _ ls H locs ((iI (BG1 ((61 * z.toNat) + k.toNat)))) (BG1 ((61 * z.toNat) + k.toNat), BG1) dX6_begins_232 ⟨rfl, q_0⟩ hP hD hS
          · skip
            refine lv_iconst (v := nI 0) hx hb dX6_begins_32 (by decide) ?_
            refine lv_istore (lv' := [(4, .int (nI 0)), (0, .ref m0), (1, .int (iI z)), (2, .int (iI k)), (3, .int (nI w))]) hx hb dX6_begins_33 hl (by decide) rfl (fun ls hl => ?_)
            have L35 : ∀ (n35 : Nat) (v : Nat) (BG3 : Nat → Int), (N - v) < n35 → (v ≤ N) → (∀ o, o < N → ∀ x, x < w → BG3 (61 * o + x) = sp_V N K T F G C x o) → (∀ o, o < v → BG3 (61 * o + w) = -2) → ∀ (H : Heap) (locs : List Loc), va_P (dC, dI) vwCl [(m0, .inr (6, [.int (nI N), .ref x1, .int (nI K), .ref x2, .ref x3, .ref x4, .int (nI lo), .ref x5, .ref x6, .ref x7, .ref x8, .int (nI ns), .int (nI nd), .ref x9, .ref y1, .ref y2, .int (nI rm), .ref y3, .ref y4, .ref y5, .ref y6, .ref y7, .int (nI pls)])), (x1, .inl (cI, 8, .inl (fun z_ => nI (T z_)))), (x2, .inl (cI, 16, .inl (fun z_ => nI (F z_)))), (x3, .inl (cI, 16, .inl (fun z_ => nI (G z_)))), (x4, .inl (cI, 16, .inl (fun z_ => nI (C z_)))), (x8, .inl (cI, 488, .inl (fun z_ => iI (BG3 z_))))] H → va_D A [(m0, .inr (6, [.int (nI N), .ref x1, .int (nI K), .ref x2, .ref x3, .ref x4, .int (nI lo), .ref x5, .ref x6, .ref x7, .ref x8, .int (nI ns), .int (nI nd), .ref x9, .ref y1, .ref y2, .int (nI rm), .ref y3, .ref y4, .ref y5, .ref y6, .ref y7, .int (nI pls)])), (x1, .inl (cI, 8, .inl (fun z_ => nI (T z_)))), (x2, .inl (cI, 16, .inl (fun z_ => nI (F z_)))), (x3, .inl (cI, 16, .inl (fun z_ => nI (G z_)))), (x4, .inl (cI, 16, .inl (fun z_ => nI (C z_)))), (x8, .inl (cI, 488, .inl (fun z_ => iI (BG3 z_))))] → va_S A s.heap H locs → ∀ (ls : Array Slot), lv_has ls 6 [(0, .ref m0), (1, .int (iI z)), (2, .int (iI k)), (3, .int (nI w)), (4, .int (nI v))] → W p l e (zR 2 0 0 46) s m args below meth c H locs 0 0 Q (F0 m 35 ls []) := by
              intro n35
              induction n35 with
              | zero => intro v BG3 hn; exact absurd hn (Nat.not_lt_zero _)
              | succ n35 ih =>
                intro v BG3 hn j1 j2 j3 H locs hP hD hS ls hl
                have ih35 := ih
                have hn35 := hn
                clear ih hn
                have hw60 : w ≤ 60 := by omega
                refine lv_iload hx hb dX6_begins_35 (lv_at hl 4 rfl) ?_
                refine lv_aload_n hx hb dX6_begins_37 rfl (lv_at hl 0 rfl) ?_
                refine z_get (D := (dC, dI)) (ci := 6) (v := .int (nI N)) (C := RX6) (T := TX6) (N := 23) hx hb hts uX6 hown hK hP 0 rfl rfl 0 (by decide) w59 rfl rfl dX6_begins_38 ?_
                refine z_icmp_ge (tgt := 64) hx hb dX6_begins_41 (by decide) (zcn_le (a := N) (b := v) rfl rfl (by omega)) (fun c_41 => ?_) (fun c_41 => ?_)
                · skip
                  refine lv_iconst (v := nI 0) hx hb dX6_begins_64 (by decide) ?_
                  refine lv_istore (lv' := [(4, .int (nI 0)), (0, .ref m0), (1, .int (iI z)), (2, .int (iI k)), (3, .int (nI w))]) hx hb dX6_begins_65 hl (by decide) rfl (fun ls hl => ?_)
                  have L67 : ∀ (n67 : Nat) (rd : Nat) (BG4 : Nat → Int), (N - rd) < n67 → (rd ≤ N) → (sp_bgi N K T F G C BG4 w) → (sp_bgn N K F G C BG4 w rd 0) → ∀ (H : Heap) (locs : List Loc), va_P (dC, dI) vwCl [(m0, .inr (6, [.int (nI N), .ref x1, .int (nI K), .ref x2, .ref x3, .ref x4, .int (nI lo), .ref x5, .ref x6, .ref x7, .ref x8, .int (nI ns), .int (nI nd), .ref x9, .ref y1, .ref y2, .int (nI rm), .ref y3, .ref y4, .ref y5, .ref y6, .ref y7, .int (nI pls)])), (x1, .inl (cI, 8, .inl (fun z_ => nI (T z_)))), (x2, .inl (cI, 16, .inl (fun z_ => nI (F z_)))), (x3, .inl (cI, 16, .inl (fun z_ => nI (G z_)))), (x4, .inl (cI, 16, .inl (fun z_ => nI (C z_)))), (x8, .inl (cI, 488, .inl (fun z_ => iI (BG4 z_))))] H → va_D A [(m0, .inr (6, [.int (nI N), .ref x1, .int (nI K), .ref x2, .ref x3, .ref x4, .int (nI lo), .ref x5, .ref x6, .ref x7, .ref x8, .int (nI ns), .int (nI nd), .ref x9, .ref y1, .ref y2, .int (nI rm), .ref y3, .ref y4, .ref y5, .ref y6, .ref y7, .int (nI pls)])), (x1, .inl (cI, 8, .inl (fun z_ => nI (T z_)))), (x2, .inl (cI, 16, .inl (fun z_ => nI (F z_)))), (x3, .inl (cI, 16, .inl (fun z_ => nI (G z_)))), (x4, .inl (cI, 16, .inl (fun z_ => nI (C z_)))), (x8, .inl (cI, 488, .inl (fun z_ => iI (BG4 z_))))] → va_S A s.heap H locs → ∀ (ls : Array Slot), lv_has ls 6 [(0, .ref m0), (1, .int (iI z)), (2, .int (iI k)), (3, .int (nI w)), (4, .int (nI rd))] → W p l e (zR 2 0 0 46) s m args below meth c H locs 0 0 Q (F0 m 67 ls []) := by
                    intro n67
                    induction n67 with
                    | zero => intro rd BG4 hn; exact absurd hn (Nat.not_lt_zero _)
                    | succ n67 ih =>
                      intro rd BG4 hn k1 k2 k3 H locs hP hD hS ls hl
                      have ih67 := ih
                      have hn67 := hn
                      clear ih hn
                      refine lv_iload hx hb dX6_begins_67 (lv_at hl 4 rfl) ?_
                      refine lv_aload_n hx hb dX6_begins_69 rfl (lv_at hl 0 rfl) ?_
                      refine z_get (D := (dC, dI)) (ci := 6) (v := .int (nI N)) (C := RX6) (T := TX6) (N := 23) hx hb hts uX6 hown hK hP 0 rfl rfl 0 (by decide) w59 rfl rfl dX6_begins_70 ?_
                      refine z_icmp_ge (tgt := 151) hx hb dX6_begins_73 (by decide) (zcn_le (a := N) (b := rd) rfl rfl (by omega)) (fun c_73 => ?_) (fun c_73 => ?_)
                      · skip
                        refine lv_iconst (v := nI 0) hx hb dX6_begins_151 (by decide) ?_
                        refine lv_istore (lv' := [(4, .int (nI 0)), (0, .ref m0), (1, .int (iI z)), (2, .int (iI k)), (3, .int (nI w))]) hx hb dX6_begins_152 hl (by decide) rfl (fun ls hl => ?_)
                        have L154 : ∀ (n154 : Nat) (v : Nat) (BG6 : Nat → Int), (N - v) < n154 → (v ≤ N) → (sp_bgf N K T F G C BG6 w v) → ∀ (H : Heap) (locs : List Loc), va_P (dC, dI) vwCl [(m0, .inr (6, [.int (nI N), .ref x1, .int (nI K), .ref x2, .ref x3, .ref x4, .int (nI lo), .ref x5, .ref x6, .ref x7, .ref x8, .int (nI ns), .int (nI nd), .ref x9, .ref y1, .ref y2, .int (nI rm), .ref y3, .ref y4, .ref y5, .ref y6, .ref y7, .int (nI pls)])), (x1, .inl (cI, 8, .inl (fun z_ => nI (T z_)))), (x2, .inl (cI, 16, .inl (fun z_ => nI (F z_)))), (x3, .inl (cI, 16, .inl (fun z_ => nI (G z_)))), (x4, .inl (cI, 16, .inl (fun z_ => nI (C z_)))), (x8, .inl (cI, 488, .inl (fun z_ => iI (BG6 z_))))] H → va_D A [(m0, .inr (6, [.int (nI N), .ref x1, .int (nI K), .ref x2, .ref x3, .ref x4, .int (nI lo), .ref x5, .ref x6, .ref x7, .ref x8, .int (nI ns), .int (nI nd), .ref x9, .ref y1, .ref y2, .int (nI rm), .ref y3, .ref y4, .ref y5, .ref y6, .ref y7, .int (nI pls)])), (x1, .inl (cI, 8, .inl (fun z_ => nI (T z_)))), (x2, .inl (cI, 16, .inl (fun z_ => nI (F z_)))), (x3, .inl (cI, 16, .inl (fun z_ => nI (G z_)))), (x4, .inl (cI, 16, .inl (fun z_ => nI (C z_)))), (x8, .inl (cI, 488, .inl (fun z_ => iI (BG6 z_))))] → va_S A s.heap H locs → ∀ (ls : Array Slot), lv_has ls 6 [(0, .ref m0), (1, .int (iI z)), (2, .int (iI k)), (3, .int (nI w)), (4, .int (nI v))] → W p l e (zR 2 0 0 46) s m args below meth c H locs 0 0 Q (F0 m 154 ls []) := by
                          intro n154
                          induction n154 with
                          | zero => intro v BG6 hn; exact absurd hn (Nat.not_lt_zero _)
                          | succ n154 ih =>
                            intro v BG6 hn m1 m2 H locs hP hD hS ls hl
                            have ih154 := ih
                            have hn154 := hn
                            clear ih hn
                            refine lv_iload hx hb dX6_begins_154 (lv_at hl 4 rfl) ?_
                            refine lv_aload_n hx hb dX6_begins_156 rfl (lv_at hl 0 rfl) ?_
                            refine z_get (D := (dC, dI)) (ci := 6) (v := .int (nI N)) (C := RX6) (T := TX6) (N := 23) hx hb hts uX6 hown hK hP 0 rfl rfl 0 (by decide) w59 rfl rfl dX6_begins_157 ?_
                            refine z_icmp_ge (tgt := 215) hx hb dX6_begins_160 (by decide) (zcn_le (a := N) (b := v) rfl rfl (by omega)) (fun c_160 => ?_) (fun c_160 => ?_)
                            · skip
                              refine lv_iinc (v := (nI (w + 1))) (lv' := [(3, .int (nI (w + 1))), (0, .ref m0), (1, .int (iI z)), (2, .int (iI k)), (4, .int (nI v))]) hx hb dX6_begins_215 hl (k := 3) rfl (z_incN w 1 (by decide)) (by decide) rfl (fun ls hl => ?_)
                              refine lv_goto (tgt := 27) hx hb dX6_begins_218 (by decide) ?_
                              have o_i1 : (w + 1) ≤ k.toNat + 1 := by first | assumption | omega
                              have o_i2 : ∀ o, o < N → ∀ x, x < (w + 1) → BG6 (61 * o + x) = sp_V N K T F G C x o := by (have ev : v = N := (by omega)); rw [ev] at m2; exact sp_bgf_e m2
                              have o_mu : (k.toNat + 1 - (w + 1)) < n27 := by omega
                              exact ih27 (w + 1) BG6 o_mu o_i1 o_i2 H locs hP hD hS ls (lv_sub hl [1, 2, 3, 0] rfl)
                            · skip
                              refine lv_aload_n hx hb dX6_begins_163 rfl (lv_at hl 0 rfl) ?_
                              refine z_get (D := (dC, dI)) (ci := 6) (v := .ref x8) (C := RX6) (T := TX6) (N := 23) hx hb hts uX6 hown hK hP 0 rfl rfl 10 (by decide) w31 rfl rfl dX6_begins_164 ?_
                              refine lv_bipush (v := nI 61) hx hb dX6_begins_167 (by decide) ?_
                              refine lv_iload hx hb dX6_begins_169 (lv_at hl 4 rfl) ?_
                              refine z_imul (v := (nI (61 * v))) hx hb dX6_begins_171 (pk_mul _ _) ?_
                              refine lv_iload_n hx hb dX6_begins_172 rfl (lv_at hl 3 rfl) ?_
                              refine z_iadd (v := (nI ((61 * v) + w))) hx hb dX6_begins_173 (nI_add _ _) ?_
                              refine lv_aload_n hx hb dX6_begins_174 rfl (lv_at hl 0 rfl) ?_
                              refine z_get (D := (dC, dI)) (ci := 6) (v := .ref x8) (C := RX6) (T := TX6) (N := 23) hx hb hts uX6 hown hK hP 0 rfl rfl 10 (by decide) w31 rfl rfl dX6_begins_175 ?_
                              refine lv_bipush (v := nI 61) hx hb dX6_begins_178 (by decide) ?_
                              refine lv_iload hx hb dX6_begins_180 (lv_at hl 4 rfl) ?_
                              refine z_imul (v := (nI (61 * v))) hx hb dX6_begins_182 (pk_mul _ _) ?_
                              refine lv_iload_n hx hb dX6_begins_183 rfl (lv_at hl 3 rfl) ?_
                              refine z_iadd (v := (nI ((61 * v) + w))) hx hb dX6_begins_184 (nI_add _ _) ?_
                              refine z_iald (v := (iI (BG6 ((61 * v) + w)))) hx hb hK hP 5 0 rfl rfl ((61 * v) + w) rfl (by omega) rfl dX6_begins_185 ?_
                              have h186 := (m2 v (by omega)).2.2 (Nat.lt_irrefl _)
                              have h187 := sp_V_le (N := N) (K := K) (F := F) (G := G) (C := C) bT w v (show w ≤ 60 by omega)
                              have h188 : -9 ≤ BG6 (61 * v + w) ∧ BG6 (61 * v + w) ≤ 10980 := by (rcases h186 with z | ⟨z, -⟩ <;> omega)
                              clear h186
                              refine lv_bipush (v := iI (-2)) hx hb dX6_begins_186 (by decide) ?_
                              refine z_icmp_ne (tgt := 196) hx hb dX6_begins_188 (by decide) (zc_eq (a := BG6 ((61 * v) + w)) (b := -2) rfl rfl (by omega)) (fun c_188 => ?_) (fun c_188 => ?_)
                              · skip
                                refine lv_aload_n hx hb dX6_begins_196 rfl (lv_at hl 0 rfl) ?_
                                refine z_get (D := (dC, dI)) (ci := 6) (v := .ref x8) (C := RX6) (T := TX6) (N := 23) hx hb hts uX6 hown hK hP 0 rfl rfl 10 (by decide) w31 rfl rfl dX6_begins_197 ?_
                                refine lv_bipush (v := nI 61) hx hb dX6_begins_200 (by decide) ?_
                                refine lv_iload hx hb dX6_begins_202 (lv_at hl 4 rfl) ?_
                                refine z_imul (v := (nI (61 * v))) hx hb dX6_begins_204 (pk_mul _ _) ?_
                                refine lv_iload_n hx hb dX6_begins_205 rfl (lv_at hl 3 rfl) ?_
                                refine z_iadd (v := (nI ((61 * v) + w))) hx hb dX6_begins_206 (nI_add _ _) ?_
                                refine z_iald (v := (iI (BG6 ((61 * v) + w)))) hx hb hK hP 5 0 rfl rfl ((61 * v) + w) rfl (by omega) rfl dX6_begins_207 ?_
                                refine z_iast hx hb hK hP hD hS 5 0 rfl rfl ((61 * v) + w) rfl (by omega) (upd_Z BG6 ((61 * v) + w) (BG6 ((61 * v) + w))) [(m0, .inr (6, [.int (nI N), .ref x1, .int (nI K), .ref x2, .ref x3, .ref x4, .int (nI lo), .ref x5, .ref x6, .ref x7, .ref x8, .int (nI ns), .int (nI nd), .ref x9, .ref y1, .ref y2, .int (nI rm), .ref y3, .ref y4, .ref y5, .ref y6, .ref y7, .int (nI pls)])), (x1, .inl (cI, 8, .inl (fun z_ => nI (T z_)))), (x2, .inl (cI, 16, .inl (fun z_ => nI (F z_)))), (x3, .inl (cI, 16, .inl (fun z_ => nI (G z_)))), (x4, .inl (cI, 16, .inl (fun z_ => nI (C z_)))), (x8, .inl (cI, 488, .inl (fun z_ => iI ((up BG6 ((61 * v) + w) (BG6 ((61 * v) + w))) z_))))] rfl dX6_begins_208 (fun H locs hP hD hS => ?_)
                                refine lv_iinc (v := (nI (v + 1))) (lv' := [(4, .int (nI (v + 1))), (0, .ref m0), (1, .int (iI z)), (2, .int (iI k)), (3, .int (nI w))]) hx hb dX6_begins_209 hl (k := 4) rfl (z_incN v 1 (by decide)) (by decide) rfl (fun ls hl => ?_)
                                refine lv_goto (tgt := 154) hx hb dX6_begins_212 (by decide) ?_
                                have o_m1 : (v + 1) ≤ N := by first | assumption | omega
                                have o_m2 : sp_bgf N K T F G C (up BG6 ((61 * v) + w) (BG6 ((61 * v) + w))) w (v + 1) := by first | exact sp_bgf_s m2 bT (by omega) (Or.inl ⟨c_188, rfl⟩) | exact sp_bgf_s m2 bT (by omega) (Or.inr ⟨c_188, rfl⟩)
                                have o_mu : (N - (v + 1)) < n154 := by omega
                                exact ih154 (v + 1) (up BG6 ((61 * v) + w) (BG6 ((61 * v) + w))) o_mu o_m1 o_m2 H locs hP hD hS ls (lv_sub hl [1, 2, 3, 4, 0] rfl)
                              · skip
                                refine lv_bipush (v := iI (-9)) hx hb dX6_begins_191 (by decide) ?_
                                refine lv_goto (tgt := 208) hx hb dX6_begins_193 (by decide) ?_
                                refine z_iast hx hb hK hP hD hS 5 0 rfl rfl ((61 * v) + w) rfl (by omega) (upd_Z BG6 ((61 * v) + w) (-9)) [(m0, .inr (6, [.int (nI N), .ref x1, .int (nI K), .ref x2, .ref x3, .ref x4, .int (nI lo), .ref x5, .ref x6, .ref x7, .ref x8, .int (nI ns), .int (nI nd), .ref x9, .ref y1, .ref y2, .int (nI rm), .ref y3, .ref y4, .ref y5, .ref y6, .ref y7, .int (nI pls)])), (x1, .inl (cI, 8, .inl (fun z_ => nI (T z_)))), (x2, .inl (cI, 16, .inl (fun z_ => nI (F z_)))), (x3, .inl (cI, 16, .inl (fun z_ => nI (G z_)))), (x4, .inl (cI, 16, .inl (fun z_ => nI (C z_)))), (x8, .inl (cI, 488, .inl (fun z_ => iI ((up BG6 ((61 * v) + w) (-9)) z_))))] rfl dX6_begins_208 (fun H locs hP hD hS => ?_)
                                refine lv_iinc (v := (nI (v + 1))) (lv' := [(4, .int (nI (v + 1))), (0, .ref m0), (1, .int (iI z)), (2, .int (iI k)), (3, .int (nI w))]) hx hb dX6_begins_209 hl (k := 4) rfl (z_incN v 1 (by decide)) (by decide) rfl (fun ls hl => ?_)
                                refine lv_goto (tgt := 154) hx hb dX6_begins_212 (by decide) ?_
                                have o_m1 : (v + 1) ≤ N := by first | assumption | omega
                                have o_m2 : sp_bgf N K T F G C (up BG6 ((61 * v) + w) (-9)) w (v + 1) := by first | exact sp_bgf_s m2 bT (by omega) (Or.inl ⟨c_188, rfl⟩) | exact sp_bgf_s m2 bT (by omega) (Or.inr ⟨c_188, rfl⟩)
                                have o_mu : (N - (v + 1)) < n154 := by omega
                                exact ih154 (v + 1) (up BG6 ((61 * v) + w) (-9)) o_mu o_m1 o_m2 H locs hP hD hS ls (lv_sub hl [1, 2, 3, 4, 0] rfl)
                        have o_m1 : 0 ≤ N := by first | assumption | omega
                        have o_m2 : sp_bgf N K T F G C BG4 w 0 := by (have ev : rd = N := (by omega)); rw [ev] at k3; exact sp_bgf_0 k2 k3
                        exact L154 ((N - 0) + 1) 0 BG4 (Nat.lt_succ_self _) o_m1 o_m2 H locs hP hD hS ls (lv_sub hl [1, 2, 3, 4, 0] rfl)
                      · skip
                        refine lv_iconst (v := nI 0) hx hb dX6_begins_76 (by decide) ?_
                        refine lv_istore (lv' := [(5, .int (nI 0)), (0, .ref m0), (1, .int (iI z)), (2, .int (iI k)), (3, .int (nI w)), (4, .int (nI rd))]) hx hb dX6_begins_77 hl (by decide) rfl (fun ls hl => ?_)
                        have L79 : ∀ (n79 : Nat) (v : Nat) (BG5 : Nat → Int), (N - v) < n79 → (v ≤ N) → (sp_bgi N K T F G C BG5 w) → (sp_bgn N K F G C BG5 w rd v) → ∀ (H : Heap) (locs : List Loc), va_P (dC, dI) vwCl [(m0, .inr (6, [.int (nI N), .ref x1, .int (nI K), .ref x2, .ref x3, .ref x4, .int (nI lo), .ref x5, .ref x6, .ref x7, .ref x8, .int (nI ns), .int (nI nd), .ref x9, .ref y1, .ref y2, .int (nI rm), .ref y3, .ref y4, .ref y5, .ref y6, .ref y7, .int (nI pls)])), (x1, .inl (cI, 8, .inl (fun z_ => nI (T z_)))), (x2, .inl (cI, 16, .inl (fun z_ => nI (F z_)))), (x3, .inl (cI, 16, .inl (fun z_ => nI (G z_)))), (x4, .inl (cI, 16, .inl (fun z_ => nI (C z_)))), (x8, .inl (cI, 488, .inl (fun z_ => iI (BG5 z_))))] H → va_D A [(m0, .inr (6, [.int (nI N), .ref x1, .int (nI K), .ref x2, .ref x3, .ref x4, .int (nI lo), .ref x5, .ref x6, .ref x7, .ref x8, .int (nI ns), .int (nI nd), .ref x9, .ref y1, .ref y2, .int (nI rm), .ref y3, .ref y4, .ref y5, .ref y6, .ref y7, .int (nI pls)])), (x1, .inl (cI, 8, .inl (fun z_ => nI (T z_)))), (x2, .inl (cI, 16, .inl (fun z_ => nI (F z_)))), (x3, .inl (cI, 16, .inl (fun z_ => nI (G z_)))), (x4, .inl (cI, 16, .inl (fun z_ => nI (C z_)))), (x8, .inl (cI, 488, .inl (fun z_ => iI (BG5 z_))))] → va_S A s.heap H locs → ∀ (ls : Array Slot), lv_has ls 6 [(0, .ref m0), (1, .int (iI z)), (2, .int (iI k)), (3, .int (nI w)), (4, .int (nI rd)), (5, .int (nI v))] → W p l e (zR 2 0 0 46) s m args below meth c H locs 0 0 Q (F0 m 79 ls []) := by
                          intro n79
                          induction n79 with
                          | zero => intro v BG5 hn; exact absurd hn (Nat.not_lt_zero _)
                          | succ n79 ih =>
                            intro v BG5 hn l1 l2 l3 H locs hP hD hS ls hl
                            have ih79 := ih
                            have hn79 := hn
                            clear ih hn
                            refine lv_iload hx hb dX6_begins_79 (lv_at hl 5 rfl) ?_
                            refine lv_aload_n hx hb dX6_begins_81 rfl (lv_at hl 0 rfl) ?_
                            refine z_get (D := (dC, dI)) (ci := 6) (v := .int (nI N)) (C := RX6) (T := TX6) (N := 23) hx hb hts uX6 hown hK hP 0 rfl rfl 0 (by decide) w59 rfl rfl dX6_begins_82 ?_
                            refine z_icmp_ge (tgt := 145) hx hb dX6_begins_85 (by decide) (zcn_le (a := N) (b := v) rfl rfl (by omega)) (fun c_85 => ?_) (fun c_85 => ?_)
                            · skip
                              refine lv_iinc (v := (nI (rd + 1))) (lv' := [(4, .int (nI (rd + 1))), (0, .ref m0), (1, .int (iI z)), (2, .int (iI k)), (3, .int (nI w)), (5, .int (nI v))]) hx hb dX6_begins_145 hl (k := 4) rfl (z_incN rd 1 (by decide)) (by decide) rfl (fun ls hl => ?_)
                              refine lv_goto (tgt := 67) hx hb dX6_begins_148 (by decide) ?_
                              have o_k1 : (rd + 1) ≤ N := by first | assumption | omega
                              have o_k2 : sp_bgi N K T F G C BG5 w := by exact l2
                              have o_k3 : sp_bgn N K F G C BG5 w (rd + 1) 0 := by (have ev : v = N := (by omega)); rw [ev] at l3; exact sp_bgn_next l3
                              have o_mu : (N - (rd + 1)) < n67 := by omega
                              exact ih67 (rd + 1) BG5 o_mu o_k1 o_k2 o_k3 H locs hP hD hS ls (lv_sub hl [1, 2, 3, 4, 0] rfl)
                            · skip
                              refine lv_aload_n hx hb dX6_begins_88 rfl (lv_at hl 0 rfl) ?_
                              refine z_get (D := (dC, dI)) (ci := 6) (v := .ref x8) (C := RX6) (T := TX6) (N := 23) hx hb hts uX6 hown hK hP 0 rfl rfl 10 (by decide) w31 rfl rfl dX6_begins_89 ?_
                              refine lv_bipush (v := nI 61) hx hb dX6_begins_92 (by decide) ?_
                              refine lv_iload hx hb dX6_begins_94 (lv_at hl 5 rfl) ?_
                              refine z_imul (v := (nI (61 * v))) hx hb dX6_begins_96 (pk_mul _ _) ?_
                              refine lv_iload_n hx hb dX6_begins_97 rfl (lv_at hl 3 rfl) ?_
                              refine z_iadd (v := (nI ((61 * v) + w))) hx hb dX6_begins_98 (nI_add _ _) ?_
                              refine lv_aload_n hx hb dX6_begins_99 rfl (lv_at hl 0 rfl) ?_
                              refine z_get (D := (dC, dI)) (ci := 6) (v := .ref x8) (C := RX6) (T := TX6) (N := 23) hx hb hts uX6 hown hK hP 0 rfl rfl 10 (by decide) w31 rfl rfl dX6_begins_100 ?_
                              refine lv_bipush (v := nI 61) hx hb dX6_begins_103 (by decide) ?_
                              refine lv_iload hx hb dX6_begins_105 (lv_at hl 5 rfl) ?_
                              refine z_imul (v := (nI (61 * v))) hx hb dX6_begins_107 (pk_mul _ _) ?_
                              refine lv_iload_n hx hb dX6_begins_108 rfl (lv_at hl 3 rfl) ?_
                              refine z_iadd (v := (nI ((61 * v) + w))) hx hb dX6_begins_109 (nI_add _ _) ?_
                              refine z_iald (v := (iI (BG5 ((61 * v) + w)))) hx hb hK hP 5 0 rfl rfl ((61 * v) + w) rfl (by omega) rfl dX6_begins_110 ?_
                              have h111 := (l2 v (by omega)).2
                              have h112 := sp_V_le (N := N) (K := K) (F := F) (G := G) (C := C) bT w v (show w ≤ 60 by omega)
                              refine lv_bipush (v := iI (-2)) hx hb dX6_begins_111 (by decide) ?_
                              refine z_icmp_ne (tgt := 126) hx hb dX6_begins_113 (by decide) (zc_eq (a := BG5 ((61 * v) + w)) (b := -2) rfl rfl (by omega)) (fun c_113 => ?_) (fun c_113 => ?_)
                              · skip
                                refine lv_aload_n hx hb dX6_begins_126 rfl (lv_at hl 0 rfl) ?_
                                refine z_get (D := (dC, dI)) (ci := 6) (v := .ref x8) (C := RX6) (T := TX6) (N := 23) hx hb hts uX6 hown hK hP 0 rfl rfl 10 (by decide) w31 rfl rfl dX6_begins_127 ?_
                                refine lv_bipush (v := nI 61) hx hb dX6_begins_130 (by decide) ?_
                                refine lv_iload hx hb dX6_begins_132 (lv_at hl 5 rfl) ?_
                                refine z_imul (v := (nI (61 * v))) hx hb dX6_begins_134 (pk_mul _ _) ?_
                                refine lv_iload_n hx hb dX6_begins_135 rfl (lv_at hl 3 rfl) ?_
                                refine z_iadd (v := (nI ((61 * v) + w))) hx hb dX6_begins_136 (nI_add _ _) ?_
                                refine z_iald (v := (iI (BG5 ((61 * v) + w)))) hx hb hK hP 5 0 rfl rfl ((61 * v) + w) rfl (by omega) rfl dX6_begins_137 ?_
                                refine z_iast hx hb hK hP hD hS 5 0 rfl rfl ((61 * v) + w) rfl (by omega) (upd_Z BG5 ((61 * v) + w) (BG5 ((61 * v) + w))) [(m0, .inr (6, [.int (nI N), .ref x1, .int (nI K), .ref x2, .ref x3, .ref x4, .int (nI lo), .ref x5, .ref x6, .ref x7, .ref x8, .int (nI ns), .int (nI nd), .ref x9, .ref y1, .ref y2, .int (nI rm), .ref y3, .ref y4, .ref y5, .ref y6, .ref y7, .int (nI pls)])), (x1, .inl (cI, 8, .inl (fun z_ => nI (T z_)))), (x2, .inl (cI, 16, .inl (fun z_ => nI (F z_)))), (x3, .inl (cI, 16, .inl (fun z_ => nI (G z_)))), (x4, .inl (cI, 16, .inl (fun z_ => nI (C z_)))), (x8, .inl (cI, 488, .inl (fun z_ => iI ((up BG5 ((61 * v) + w) (BG5 ((61 * v) + w))) z_))))] rfl dX6_begins_138 (fun H locs hP hD hS => ?_)
                                refine lv_iinc (v := (nI (v + 1))) (lv' := [(5, .int (nI (v + 1))), (0, .ref m0), (1, .int (iI z)), (2, .int (iI k)), (3, .int (nI w)), (4, .int (nI rd))]) hx hb dX6_begins_139 hl (k := 5) rfl (z_incN v 1 (by decide)) (by decide) rfl (fun ls hl => ?_)
                                refine lv_goto (tgt := 79) hx hb dX6_begins_142 (by decide) ?_
                                have o_l1 : (v + 1) ≤ N := by first | assumption | omega
                                have o_l2 : sp_bgi N K T F G C (up BG5 ((61 * v) + w) (BG5 ((61 * v) + w))) w := by first | exact sp_bg_up l2 (by omega) (l2 v (by omega)).2 | (rw [p120_0]; exact sp_bg_up l2 (by omega) (sp_bo_ok bN bT (by omega) (fun a ha _ h3 => sp_bgd l2 bFN a ha h3)).1)
                                have o_l3 : sp_bgn N K F G C (up BG5 ((61 * v) + w) (BG5 ((61 * v) + w))) w rd (v + 1) := by first | exact sp_bgn_keep l3 (by omega) c_113 | (rw [p120_0]; exact sp_bgn_put l3 l2 bN bT (by omega) (by omega) bFN)
                                have o_mu : (N - (v + 1)) < n79 := by omega
                                exact ih79 (v + 1) (up BG5 ((61 * v) + w) (BG5 ((61 * v) + w))) o_mu o_l1 o_l2 o_l3 H locs hP hD hS ls (lv_sub hl [1, 2, 3, 4, 5, 0] rfl)
                              · skip
                                refine lv_aload_n hx hb dX6_begins_116 rfl (lv_at hl 0 rfl) ?_
                                refine lv_iload hx hb dX6_begins_117 (lv_at hl 5 rfl) ?_
                                refine lv_iload_n hx hb dX6_begins_119 rfl (lv_at hl 3 rfl) ?_
                                refine z_callVi (As := [.int (nI v), .int (nI w)]) (rest := [.int (nI ((61 * v) + w)), .ref x8]) (wr := []) ⟨hx, hb, hml, hown, hts⟩ (c_X6_beginOf l dC dI cI cJ H.size m0 x1 x2 x3 x4 x5 x6 x7 x8 x9 y1 y2 y3 y4 y5 y6 y7 N K lo ns nd rm pls T F G C BG5 v w (by first | assumption | omega) (by first | assumption | omega) (by first | assumption | omega) (by first | assumption | omega) (by first | assumption | omega) (by first | assumption | omega) (by first | assumption | omega) (by exact sp_bgr l2 bT (by omega) bFN)) (cwV 2 hts gX6_begins_X6_beginOf rfl rfl rfl (by decide +kernel) ⟨Nat.le_of_ble_eq_true rfl, Nat.le_of_ble_eq_true rfl⟩) hA hK hP hD hS [0, 1, 2, 3, 4, 5] [] [0, 1, 2, 3, 4, 5] rfl rfl (by decide) (by decide) (by decide) nwA_ok hN (ci := 6) rfl rfl 0 rfl hl.1 (Nat.le_of_ble_eq_true rfl) ⟨Nat.le_refl _, Nat.le_refl _⟩ rfl rfl dX6_begins_120 (fun (u : (Int)) => [(m0, .inr (6, [.int (nI N), .ref x1, .int (nI K), .ref x2, .ref x3, .ref x4, .int (nI lo), .ref x5, .ref x6, .ref x7, .ref x8, .int (nI ns), .int (nI nd), .ref x9, .ref y1, .ref y2, .int (nI rm), .ref y3, .ref y4, .ref y5, .ref y6, .ref y7, .int (nI pls)])), (x1, .inl (cI, 8, .inl (fun z_ => nI (T z_)))), (x2, .inl (cI, 16, .inl (fun z_ => nI (F z_)))), (x3, .inl (cI, 16, .inl (fun z_ => nI (G z_)))), (x4, .inl (cI, 16, .inl (fun z_ => nI (C z_)))), (x8, .inl (cI, 488, .inl (fun z_ => iI (BG5 z_))))]) (fun u => rfl) (by decide) (fun r_120 u H locs hw hP hD hS => ?_)
                                obtain ⟨rv_120, eu⟩ : ∃ z, z = u := ⟨_, rfl⟩
                                subst eu
                                have hP : va_P (dC, dI) vwCl [(m0, .inr (6, [.int (nI N), .ref x1, .int (nI K), .ref x2, .ref x3, .ref x4, .int (nI lo), .ref x5, .ref x6, .ref x7, .ref x8, .int (nI ns), .int (nI nd), .ref x9, .ref y1, .ref y2, .int (nI rm), .ref y3, .ref y4, .ref y5, .ref y6, .ref y7, .int (nI pls)])), (x1, .inl (cI, 8, .inl (fun z_ => nI (T z_)))), (x2, .inl (cI, 16, .inl (fun z_ => nI (F z_)))), (x3, .inl (cI, 16, .inl (fun z_ => nI (G z_)))), (x4, .inl (cI, 16, .inl (fun z_ => nI (C z_)))), (x8, .inl (cI, 488, .inl (fun z_ => iI (BG5 z_))))] H := hP
                                have hD : va_D A [(m0, .inr (6, [.int (nI N), .ref x1, .int (nI K), .ref x2, .ref x3, .ref x4, .int (nI lo), .ref x5, .ref x6, .ref x7, .ref x8, .int (nI ns), .int (nI nd), .ref x9, .ref y1, .ref y2, .int (nI rm), .ref y3, .ref y4, .ref y5, .ref y6, .ref y7, .int (nI pls)])), (x1, .inl (cI, 8, .inl (fun z_ => nI (T z_)))), (x2, .inl (cI, 16, .inl (fun z_ => nI (F z_)))), (x3, .inl (cI, 16, .inl (fun z_ => nI (G z_)))), (x4, .inl (cI, 16, .inl (fun z_ => nI (C z_)))), (x8, .inl (cI, 488, .inl (fun z_ => iI (BG5 z_))))] := hD
                                obtain ⟨er, p120_0⟩ := hw
                                have p120_0 : rv_120 = sp_bo K T F G C v w (fun a_ => BG5 (61 * F a_ + w - C a_)) := p120_0
                                have er : r_120 = (iI rv_120) := er
                                subst er
                                refine lv_goto (tgt := 138) hx hb dX6_begins_123 (by decide) ?_
                                refine z_iast hx hb hK hP hD hS 5 0 rfl rfl ((61 * v) + w) rfl (by omega) (upd_Z BG5 ((61 * v) + w) rv_120) [(m0, .inr (6, [.int (nI N), .ref x1, .int (nI K), .ref x2, .ref x3, .ref x4, .int (nI lo), .ref x5, .ref x6, .ref x7, .ref x8, .int (nI ns), .int (nI nd), .ref x9, .ref y1, .ref y2, .int (nI rm), .ref y3, .ref y4, .ref y5, .ref y6, .ref y7, .int (nI pls)])), (x1, .inl (cI, 8, .inl (fun z_ => nI (T z_)))), (x2, .inl (cI, 16, .inl (fun z_ => nI (F z_)))), (x3, .inl (cI, 16, .inl (fun z_ => nI (G z_)))), (x4, .inl (cI, 16, .inl (fun z_ => nI (C z_)))), (x8, .inl (cI, 488, .inl (fun z_ => iI ((up BG5 ((61 * v) + w) rv_120) z_))))] rfl dX6_begins_138 (fun H locs hP hD hS => ?_)
                                refine lv_iinc (v := (nI (v + 1))) (lv' := [(5, .int (nI (v + 1))), (0, .ref m0), (1, .int (iI z)), (2, .int (iI k)), (3, .int (nI w)), (4, .int (nI rd))]) hx hb dX6_begins_139 hl (k := 5) rfl (z_incN v 1 (by decide)) (by decide) rfl (fun ls hl => ?_)
                                refine lv_goto (tgt := 79) hx hb dX6_begins_142 (by decide) ?_
                                have o_l1 : (v + 1) ≤ N := by first | assumption | omega
                                have o_l2 : sp_bgi N K T F G C (up BG5 ((61 * v) + w) rv_120) w := by first | exact sp_bg_up l2 (by omega) (l2 v (by omega)).2 | (rw [p120_0]; exact sp_bg_up l2 (by omega) (sp_bo_ok bN bT (by omega) (fun a ha _ h3 => sp_bgd l2 bFN a ha h3)).1)
                                have o_l3 : sp_bgn N K F G C (up BG5 ((61 * v) + w) rv_120) w rd (v + 1) := by first | exact sp_bgn_keep l3 (by omega) c_113 | (rw [p120_0]; exact sp_bgn_put l3 l2 bN bT (by omega) (by omega) bFN)
                                have o_mu : (N - (v + 1)) < n79 := by omega
                                exact ih79 (v + 1) (up BG5 ((61 * v) + w) rv_120) o_mu o_l1 o_l2 o_l3 H locs hP hD hS ls (lv_sub hl [1, 2, 3, 4, 5, 0] rfl)
                        have o_l1 : 0 ≤ N := by first | assumption | omega
                        have o_l2 : sp_bgi N K T F G C BG4 w := by exact k2
                        have o_l3 : sp_bgn N K F G C BG4 w rd 0 := by exact k3
                        exact L79 ((N - 0) + 1) 0 BG4 (Nat.lt_succ_self _) o_l1 o_l2 o_l3 H locs hP hD hS ls (lv_sub hl [1, 2, 3, 4, 5, 0] rfl)
                  have o_k1 : 0 ≤ N := by first | assumption | omega
                  have o_k2 : sp_bgi N K T F G C BG3 w := by exact sp_bgi_0 j2 (fun o ho => j3 o (by omega))
                  have o_k3 : sp_bgn N K F G C BG3 w 0 0 := by exact sp_bgn_0
                  exact L67 ((N - 0) + 1) 0 BG3 (Nat.lt_succ_self _) o_k1 o_k2 o_k3 H locs hP hD hS ls (lv_sub hl [1, 2, 3, 4, 0] rfl)
                · skip
                  refine lv_aload_n hx hb dX6_begins_44 rfl (lv_at hl 0 rfl) ?_
                  refine z_get (D := (dC, dI)) (ci := 6) (v := .ref x8) (C := RX6) (T := TX6) (N := 23) hx hb hts uX6 hown hK hP 0 rfl rfl 10 (by decide) w31 rfl rfl dX6_begins_45 ?_
                  refine lv_bipush (v := nI 61) hx hb dX6_begins_48 (by decide) ?_
                  refine lv_iload hx hb dX6_begins_50 (lv_at hl 4 rfl) ?_
                  refine z_imul (v := (nI (61 * v))) hx hb dX6_begins_52 (pk_mul _ _) ?_
                  refine lv_iload_n hx hb dX6_begins_53 rfl (lv_at hl 3 rfl) ?_
                  refine z_iadd (v := (nI ((61 * v) + w))) hx hb dX6_begins_54 (nI_add _ _) ?_
                  refine lv_bipush (v := iI (-2)) hx hb dX6_begins_55 (by decide) ?_
                  refine z_iast hx hb hK hP hD hS 5 0 rfl rfl ((61 * v) + w) rfl (by omega) (upd_Z BG3 ((61 * v) + w) (-2)) [(m0, .inr (6, [.int (nI N), .ref x1, .int (nI K), .ref x2, .ref x3, .ref x4, .int (nI lo), .ref x5, .ref x6, .ref x7, .ref x8, .int (nI ns), .int (nI nd), .ref x9, .ref y1, .ref y2, .int (nI rm), .ref y3, .ref y4, .ref y5, .ref y6, .ref y7, .int (nI pls)])), (x1, .inl (cI, 8, .inl (fun z_ => nI (T z_)))), (x2, .inl (cI, 16, .inl (fun z_ => nI (F z_)))), (x3, .inl (cI, 16, .inl (fun z_ => nI (G z_)))), (x4, .inl (cI, 16, .inl (fun z_ => nI (C z_)))), (x8, .inl (cI, 488, .inl (fun z_ => iI ((up BG3 ((61 * v) + w) (-2)) z_))))] rfl dX6_begins_57 (fun H locs hP hD hS => ?_)
                  refine lv_iinc (v := (nI (v + 1))) (lv' := [(4, .int (nI (v + 1))), (0, .ref m0), (1, .int (iI z)), (2, .int (iI k)), (3, .int (nI w))]) hx hb dX6_begins_58 hl (k := 4) rfl (z_incN v 1 (by decide)) (by decide) rfl (fun ls hl => ?_)
                  refine lv_goto (tgt := 35) hx hb dX6_begins_61 (by decide) ?_
                  have o_j1 : (v + 1) ≤ N := by first | assumption | omega
                  have o_j2 : ∀ o, o < N → ∀ x, x < w → (up BG3 ((61 * v) + w) (-2)) (61 * o + x) = sp_V N K T F G C x o := by intro o ho x hx; rw [up_n _ _ (fun e => by have := sp_bg_ix (show x ≤ 60 by omega) (show w ≤ 60 by omega) e; omega)]; exact j2 o ho x hx
                  have o_j3 : ∀ o, o < (v + 1) → (up BG3 ((61 * v) + w) (-2)) (61 * o + w) = -2 := by exact lt_s (fun o ho => by rw [up_n _ _ (fun e => by have := sp_bg_ix (show w ≤ 60 by omega) (show w ≤ 60 by omega) e; omega)]; exact j3 o ho) (up_s _ _ _)
                  have o_mu : (N - (v + 1)) < n35 := by omega
                  exact ih35 (v + 1) (up BG3 ((61 * v) + w) (-2)) o_mu o_j1 o_j2 o_j3 H locs hP hD hS ls (lv_sub hl [1, 2, 3, 4, 0] rfl)
            have o_j1 : 0 ≤ N := by first | assumption | omega
            have o_j2 : ∀ o, o < N → ∀ x, x < w → BG1 (61 * o + x) = sp_V N K T F G C x o := by exact i2
            have o_j3 : ∀ o, o < 0 → BG1 (61 * o + w) = -2 := by intro o ho; exact absurd ho (Nat.not_lt_zero _)
            exact L35 ((N - 0) + 1) 0 BG1 (Nat.lt_succ_self _) o_j1 o_j2 o_j3 H locs hP hD hS ls (lv_sub hl [1, 2, 3, 4, 0] rfl)
      have o_i1 : 0 ≤ k.toNat + 1 := by first | assumption | omega
      have o_i2 : ∀ o, o < N → ∀ x, x < 0 → BG (61 * o + x) = sp_V N K T F G C x o := by intro o ho x hx; exact absurd hx (Nat.not_lt_zero _)
      exact L27 ((k.toNat + 1 - 0) + 1) 0 BG (Nat.lt_succ_self _) o_i1 o_i2 H locs hP hD hS ls (lv_sub hl [1, 2, 3, 0] rfl)
    · skip
      subst h16
      refine lv_if_ne (tgt := 25) hx hb dX6_begins_19 (by decide) (fun c_x => absurd c_x (by decide)) (fun _ => ?_)
      refine lv_bipush (v := iI (-2)) hx hb dX6_begins_22 (by decide) ?_
      have q_0 : (-2 : Int) = if 0 ≤ z ∧ z < (N : Int) then (if 0 ≤ k ∧ k ≤ 60 then sp_V N K T F G C k.toNat z.toNat else -2) else -1 := by first | rw [if_neg (by omega)] | rw [if_pos (by omega), if_neg (by omega)] | (rw [if_pos (by omega), if_pos (by omega)]; exact i2 z.toNat (by omega) k.toNat (by omega))
      exact hRET _ ls H locs ((iI (-2))) ((-2 : Int), BG) dX6_begins_24 ⟨rfl, q_0⟩ hP hD hS
  · skip
    subst h2
    refine lv_if_ne (tgt := 10) hx hb dX6_begins_5 (by decide) (fun c_x => absurd c_x (by decide)) (fun _ => ?_)
    refine lv_iconst (v := iI (-1)) hx hb dX6_begins_8 (by decide) ?_
    have q_0 : (-1 : Int) = if 0 ≤ z ∧ z < (N : Int) then (if 0 ≤ k ∧ k ≤ 60 then sp_V N K T F G C k.toNat z.toNat else -2) else -1 := by first | rw [if_neg (by omega)] | rw [if_pos (by omega), if_neg (by omega)] | (rw [if_pos (by omega), if_pos (by omega)]; exact i2 z.toNat (by omega) k.toNat (by omega))
    exact hRET _ ls H locs ((iI (-1))) ((-1 : Int), BG) dX6_begins_9 ⟨rfl, q_0⟩ hP hD hS
