set_option maxHeartbeats 4000000 in
set_option maxRecDepth 100000 in
theorem c_J7_fill_d0a16 (l : Launch) (dC : Nat → ClassId) (dI : Nat → Nat → Nat) (cI cJ : ClassId) (sz : Nat) (ua : Nat) (v : Nat) (XB : Nat → Nat)  : Met l yJ7_fill_d0a16 wsJ7_fill_d0a16 (zR 0 0 0 0) (va_Pc [.ref ua, .long (lN v)] (zP (dC, dI) [(cI, .int), (cJ, .long)] [(ua, .inl (cJ, 308, .inr (.inl (fun z_ => lN (XB z_)))))] sz nwA)) (va_Qv (fun (u : (Nat → Nat)) => (∀ k, k < 308 → u k = v)) (zB (dC, dI) (fun (u : (Nat → Nat)) => [(ua, .inl (cJ, 308, .inr (.inl (fun z_ => lN (u z_)))))]) (va_A [(ua, .inl (cJ, 308, .inr (.inl (fun z_ => lN (XB z_)))))] sz)) (va_A [(ua, .inl (cJ, 308, .inr (.inl (fun z_ => lN (XB z_)))))] sz)) 0 0 (va_A [(ua, .inl (cJ, 308, .inr (.inl (fun z_ => lN (XB z_)))))] sz) := by
  refine z_met_v (cc := cJ7_fill_d0a16) (maxL := 5) (by decide) rfl (Nat.le_of_ble_eq_true rfl) ?_
  intro p e s m args below meth c Q A ls hx hb hml hown hts hin hA hK hP hD hN hl hRET
  have hown : s.vm.findClass RJ7 = some m.cls := hown
  obtain ⟨H, eH⟩ : ∃ H : Heap, H = s.heap := ⟨_, rfl⟩
  rw [← eH] at hP
  obtain ⟨locs, eL⟩ : ∃ z : List Loc, z = [] := ⟨_, rfl⟩
  rw [← eH, ← eL]
  have hS : va_S A s.heap H locs := by rw [eH, eL]; exact va_S.rf
  have hl : lv_has ls 5 [(0, .ref ua), (1, .long (lN v))] := hl
  refine lv_iconst (v := nI 0) hx hb dJ7_fill_d0a16_0 (by decide) ?_
  refine lv_istore_n (lv' := [(3, .int (nI 0)), (0, .ref ua), (1, .long (lN v))]) hx hb dJ7_fill_d0a16_1 rfl hl (by decide) rfl (fun ls hl => ?_)
  refine lv_aload_n hx hb dJ7_fill_d0a16_2 rfl (lv_at hl 1 rfl) ?_
  refine va_alen (v := nI 308) hx hb hK hP 0 1 rfl rfl rfl dJ7_fill_d0a16_3 ?_
  refine lv_istore (lv' := [(4, .int (nI 308)), (3, .int (nI 0)), (0, .ref ua), (1, .long (lN v))]) hx hb dJ7_fill_d0a16_4 hl (by decide) rfl (fun ls hl => ?_)
  have L6 : ∀ (n6 : Nat) (j : Nat) (X1 : Nat → Nat), (308 - j) < n6 → (j ≤ 308) → (∀ k, k < j → X1 k = v) → ∀ (H : Heap) (locs : List Loc), va_P (dC, dI) vwCl [(ua, .inl (cJ, 308, .inr (.inl (fun z_ => lN (X1 z_)))))] H → va_D A [(ua, .inl (cJ, 308, .inr (.inl (fun z_ => lN (X1 z_)))))] → va_S A s.heap H locs → ∀ (ls : Array Slot), lv_has ls 5 [(0, .ref ua), (1, .long (lN v)), (3, .int (nI j)), (4, .int (nI 308))] → W p l e (zR 0 0 0 0) s m args below meth c H locs 0 0 Q (F0 m 6 ls []) := by
    intro n6
    induction n6 with
    | zero => intro j X1 hn; exact absurd hn (Nat.not_lt_zero _)
    | succ n6 ih =>
      intro j X1 hn i1 i2 H locs hP hD hS ls hl
      have ih6 := ih
      have hn6 := hn
      clear ih hn
      refine lv_iload_n hx hb dJ7_fill_d0a16_6 rfl (lv_at hl 2 rfl) ?_
      refine lv_iload hx hb dJ7_fill_d0a16_7 (lv_at hl 3 rfl) ?_
      refine z_icmp_ge (tgt := 22) hx hb dJ7_fill_d0a16_9 (by decide) (zcn_le (a := 308) (b := j) rfl rfl (by omega)) (fun c_9 => ?_) (fun c_9 => ?_)
      · skip
        have q_0 : ∀ k, k < 308 → X1 k = v := by intro k hk; exact i2 k (by omega)
        exact hRET _ ls H locs (X1) dJ7_fill_d0a16_22 q_0 hP hD hS
      · skip
        refine lv_aload_n hx hb dJ7_fill_d0a16_12 rfl (lv_at hl 0 rfl) ?_
        refine lv_iload_n hx hb dJ7_fill_d0a16_13 rfl (lv_at hl 2 rfl) ?_
        refine lv_lload_n hx hb dJ7_fill_d0a16_14 rfl (lv_at hl 1 rfl) ?_
        refine z_last hx hb hK hP hD hS 0 1 rfl rfl j rfl (by omega) (upd_L X1 j v) [(ua, .inl (cJ, 308, .inr (.inl (fun z_ => lN ((up X1 j v) z_)))))] rfl dJ7_fill_d0a16_15 (fun H locs hP hD hS => ?_)
        refine lv_iinc (v := (nI (j + 1))) (lv' := [(3, .int (nI (j + 1))), (0, .ref ua), (1, .long (lN v)), (4, .int (nI 308))]) hx hb dJ7_fill_d0a16_16 hl (k := 2) rfl (z_incN j 1 (by decide)) (by decide) rfl (fun ls hl => ?_)
        refine lv_goto (tgt := 6) hx hb dJ7_fill_d0a16_19 (by decide) ?_
        have o_i1 : (j + 1) ≤ 308 := by first | assumption | omega
        have o_i2 : ∀ k, k < (j + 1) → (up X1 j v) k = v := by exact lt_s (fun k hk => by rw [up_n _ _ (by omega)]; exact i2 k hk) (up_s _ _ _)
        have o_mu : (308 - (j + 1)) < n6 := by omega
        exact ih6 (j + 1) (up X1 j v) o_mu o_i1 o_i2 H locs hP hD hS ls (lv_sub hl [1, 2, 0, 3] rfl)
  have o_i1 : 0 ≤ 308 := by first | assumption | omega
  have o_i2 : ∀ k, k < 0 → XB k = v := by intro k h; omega
  exact L6 ((308 - 0) + 1) 0 XB (Nat.lt_succ_self _) o_i1 o_i2 H locs hP hD hS ls (lv_sub hl [2, 3, 1, 0] rfl)

set_option maxHeartbeats 4000000 in
set_option maxRecDepth 100000 in
theorem c_X2_weightInAll (l : Launch) (dC : Nat → ClassId) (dI : Nat → Nat → Nat) (cI cJ : ClassId) (sz : Nat) (t : Nat) (bt : t ≤ 10) : Met l yX2_weightInAll wsX2_weightInAll (zR 0 0 0 0) (va_Pc [.int (nI t)] (zP (dC, dI) [(cI, .int), (cJ, .long)] [] sz nwA)) (va_Ql (fun (r : Int64) (u : Unit) => r = (lN (1 * 2 ^ (4 * t)))) (zB (dC, dI) (fun (u : Unit) => []) (va_A [] sz)) (va_A [] sz)) 0 0 (va_A [] sz) := by
  refine z_met_l (cc := cX2_weightInAll) (maxL := 1) (by decide) rfl (Nat.le_of_ble_eq_true rfl) ?_
  intro p e s m args below meth c Q A ls hx hb hml hown hts hin hA hK hP hD hN hl hRET
  have hown : s.vm.findClass RX2 = some m.cls := hown
  obtain ⟨H, eH⟩ : ∃ H : Heap, H = s.heap := ⟨_, rfl⟩
  rw [← eH] at hP
  obtain ⟨locs, eL⟩ : ∃ z : List Loc, z = [] := ⟨_, rfl⟩
  rw [← eH, ← eL]
  have hS : va_S A s.heap H locs := by rw [eH, eL]; exact va_S.rf
  have hl : lv_has ls 1 [(0, .int (nI t))] := hl
  refine lv_lconst (v := lN 1) hx hb dX2_weightInAll_0 (by decide) ?_
  refine lv_iconst (v := nI 4) hx hb dX2_weightInAll_1 (by decide) ?_
  refine lv_iload_n hx hb dX2_weightInAll_2 rfl (lv_at hl 0 rfl) ?_
  refine z_imul (v := (nI (4 * t))) hx hb dX2_weightInAll_3 (pk_mul _ _) ?_
  refine lv_lshl (v := lN (1 * 2 ^ (4 * t))) hx hb dX2_weightInAll_4 (zs_lshl rfl rfl (by omega)) ?_
  exact hRET _ ls H locs ((lN (1 * 2 ^ (4 * t)))) () dX2_weightInAll_5 rfl hP hD hS

set_option maxHeartbeats 4000000 in
set_option maxRecDepth 100000 in
theorem c_X2_cell (l : Launch) (dC : Nat → ClassId) (dI : Nat → Nat → Nat) (cI cJ : ClassId) (sz : Nat) (x : Nat) (lv : Nat) (ct : Nat)  : Met l yX2_cell wsX2_cell (zR 0 0 0 0) (va_Pc [.int (nI x), .int (nI lv), .int (nI ct)] (zP (dC, dI) [(cI, .int), (cJ, .long)] [] sz nwA)) (va_Qi (fun (r : Int32) (u : Unit) => r = (nI (sp_ix x lv ct))) (zB (dC, dI) (fun (u : Unit) => []) (va_A [] sz)) (va_A [] sz)) 0 0 (va_A [] sz) := by
  refine z_met_i (cc := cX2_cell) (maxL := 3) (by decide) rfl (Nat.le_of_ble_eq_true rfl) ?_
  intro p e s m args below meth c Q A ls hx hb hml hown hts hin hA hK hP hD hN hl hRET
  have hown : s.vm.findClass RX2 = some m.cls := hown
  obtain ⟨H, eH⟩ : ∃ H : Heap, H = s.heap := ⟨_, rfl⟩
  rw [← eH] at hP
  obtain ⟨locs, eL⟩ : ∃ z : List Loc, z = [] := ⟨_, rfl⟩
  rw [← eH, ← eL]
  have hS : va_S A s.heap H locs := by rw [eH, eL]; exact va_S.rf
  have hl : lv_has ls 3 [(0, .int (nI x)), (1, .int (nI lv)), (2, .int (nI ct))] := hl
  refine lv_iload_n hx hb dX2_cell_0 rfl (lv_at hl 0 rfl) ?_
  refine lv_bipush (v := nI 7) hx hb dX2_cell_1 (by decide) ?_
  refine z_imul (v := (nI (x * 7))) hx hb dX2_cell_3 (pk_mul _ _) ?_
  refine lv_iload_n hx hb dX2_cell_4 rfl (lv_at hl 1 rfl) ?_
  refine z_iadd (v := (nI ((x * 7) + lv))) hx hb dX2_cell_5 (nI_add _ _) ?_
  refine lv_bipush (v := nI 11) hx hb dX2_cell_6 (by decide) ?_
  refine z_imul (v := (nI (((x * 7) + lv) * 11))) hx hb dX2_cell_8 (pk_mul _ _) ?_
  refine lv_iload_n hx hb dX2_cell_9 rfl (lv_at hl 2 rfl) ?_
  refine z_iadd (v := (nI ((((x * 7) + lv) * 11) + ct))) hx hb dX2_cell_10 (nI_add _ _) ?_
  exact hRET _ ls H locs ((nI ((((x * 7) + lv) * 11) + ct))) () dX2_cell_11 rfl hP hD hS

set_option maxHeartbeats 4000000 in
set_option maxRecDepth 100000 in
theorem c_X2_gives (l : Launch) (dC : Nat → ClassId) (dI : Nat → Nat → Nat) (cI cJ : ClassId) (sz : Nat) (x : Nat) (lv : Nat) (bx : x < 4) (bl : lv ≤ 6) : Met l yX2_gives wsX2_gives (zR 0 0 0 0) (va_Pc [.int (nI x), .int (nI lv)] (zP (dC, dI) [(cI, .int), (cJ, .long)] [] sz nwA)) (va_Qi (fun (r : Int32) (u : (Nat)) => r = (nI u) ∧ (u = sp_gv x lv)) (zB (dC, dI) (fun (u : (Nat)) => []) (va_A [] sz)) (va_A [] sz)) 0 0 (va_A [] sz) := by
  refine z_met_i (cc := cX2_gives) (maxL := 2) (by decide) rfl (Nat.le_of_ble_eq_true rfl) ?_
  intro p e s m args below meth c Q A ls hx hb hml hown hts hin hA hK hP hD hN hl hRET
  have hown : s.vm.findClass RX2 = some m.cls := hown
  obtain ⟨H, eH⟩ : ∃ H : Heap, H = s.heap := ⟨_, rfl⟩
  rw [← eH] at hP
  obtain ⟨locs, eL⟩ : ∃ z : List Loc, z = [] := ⟨_, rfl⟩
  rw [← eH, ← eL]
  have hS : va_S A s.heap H locs := by rw [eH, eL]; exact va_S.rf
  have hl : lv_has ls 2 [(0, .int (nI x)), (1, .int (nI lv))] := hl
  refine lv_iload_n hx hb dX2_gives_0 rfl (lv_at hl 0 rfl) ?_
  refine lv_iconst (v := nI 3) hx hb dX2_gives_1 (by decide) ?_
  refine z_icmp_eq (tgt := 14) hx hb dX2_gives_2 (by decide) (zcn_eq (a := x) (b := 3) rfl rfl (by omega)) (fun c_2 => ?_) (fun c_2 => ?_)
  · skip
    refine lv_iconst (v := nI 1) hx hb dX2_gives_14 (by decide) ?_
    refine lv_goto (tgt := 19) hx hb dX2_gives_15 (by decide) ?_
    have q_0 : 1 = sp_gv x lv := by unfold sp_gv; (first | rw [if_pos (by omega)] | rw [if_neg (by omega)])
    exact hRET _ ls H locs ((nI 1)) (1) dX2_gives_19 ⟨rfl, q_0⟩ hP hD hS
  · skip
    refine lv_iload_n hx hb dX2_gives_5 rfl (lv_at hl 0 rfl) ?_
    refine lv_iconst (v := nI 2) hx hb dX2_gives_6 (by decide) ?_
    refine z_icmp_ne (tgt := 18) hx hb dX2_gives_7 (by decide) (zcn_eq (a := x) (b := 2) rfl rfl (by omega)) (fun c_7 => ?_) (fun c_7 => ?_)
    · skip
      refine lv_iconst (v := nI 0) hx hb dX2_gives_18 (by decide) ?_
      have q_0 : 0 = sp_gv x lv := by unfold sp_gv; (first | rw [if_pos (by omega)] | rw [if_neg (by omega)])
      exact hRET _ ls H locs ((nI 0)) (0) dX2_gives_19 ⟨rfl, q_0⟩ hP hD hS
    · skip
      refine lv_iload_n hx hb dX2_gives_10 rfl (lv_at hl 1 rfl) ?_
      refine z_if_le (tgt := 18) hx hb dX2_gives_11 (by decide) (zcn_le (a := lv) (b := 0) rfl nI_00 (by omega)) (fun c_11 => ?_) (fun c_11 => ?_)
      · skip
        refine lv_iconst (v := nI 0) hx hb dX2_gives_18 (by decide) ?_
        have q_0 : 0 = sp_gv x lv := by unfold sp_gv; (first | rw [if_pos (by omega)] | rw [if_neg (by omega)])
        exact hRET _ ls H locs ((nI 0)) (0) dX2_gives_19 ⟨rfl, q_0⟩ hP hD hS
      · skip
        refine lv_iconst (v := nI 1) hx hb dX2_gives_14 (by decide) ?_
        refine lv_goto (tgt := 19) hx hb dX2_gives_15 (by decide) ?_
        have q_0 : 1 = sp_gv x lv := by unfold sp_gv; (first | rw [if_pos (by omega)] | rw [if_neg (by omega)])
        exact hRET _ ls H locs ((nI 1)) (1) dX2_gives_19 ⟨rfl, q_0⟩ hP hD hS

set_option maxHeartbeats 4000000 in
set_option maxRecDepth 100000 in
theorem c_X2_levelAfter (l : Launch) (dC : Nat → ClassId) (dI : Nat → Nat → Nat) (cI cJ : ClassId) (sz : Nat) (x : Nat) (lv : Nat) (mo : Nat) (bx : x < 4) (bl : lv ≤ 6) (bm : mo ≤ 6) : Met l yX2_levelAfter wsX2_levelAfter (zR 1 0 0 25) (va_Pc [.int (nI x), .int (nI lv), .int (nI mo)] (zP (dC, dI) [(cI, .int), (cJ, .long)] [] sz nwA)) (va_Qi (fun (r : Int32) (u : (Nat)) => r = (nI u) ∧ (u = sp_la x lv mo)) (zB (dC, dI) (fun (u : (Nat)) => []) (va_A [] sz)) (va_A [] sz)) 0 0 (va_A [] sz) := by
  refine z_met_i (cc := cX2_levelAfter) (maxL := 3) (by decide) rfl (Nat.le_of_ble_eq_true rfl) ?_
  intro p e s m args below meth c Q A ls hx hb hml hown hts hin hA hK hP hD hN hl hRET
  have hown : s.vm.findClass RX2 = some m.cls := hown
  obtain ⟨H, eH⟩ : ∃ H : Heap, H = s.heap := ⟨_, rfl⟩
  rw [← eH] at hP
  obtain ⟨locs, eL⟩ : ∃ z : List Loc, z = [] := ⟨_, rfl⟩
  rw [← eH, ← eL]
  have hS : va_S A s.heap H locs := by rw [eH, eL]; exact va_S.rf
  have hl : lv_has ls 3 [(0, .int (nI x)), (1, .int (nI lv)), (2, .int (nI mo))] := hl
  refine lv_iload_n hx hb dX2_levelAfter_0 rfl (lv_at hl 0 rfl) ?_
  refine lv_iconst (v := nI 1) hx hb dX2_levelAfter_1 (by decide) ?_
  refine z_icmp_ne (tgt := 13) hx hb dX2_levelAfter_2 (by decide) (zcn_eq (a := x) (b := 1) rfl rfl (by omega)) (fun c_2 => ?_) (fun c_2 => ?_)
  · skip
    refine lv_iload_n hx hb dX2_levelAfter_13 rfl (lv_at hl 0 rfl) ?_
    refine lv_iconst (v := nI 2) hx hb dX2_levelAfter_14 (by decide) ?_
    refine z_icmp_ne (tgt := 26) hx hb dX2_levelAfter_15 (by decide) (zcn_eq (a := x) (b := 2) rfl rfl (by omega)) (fun c_15 => ?_) (fun c_15 => ?_)
    · skip
      refine lv_iload_n hx hb dX2_levelAfter_26 rfl (lv_at hl 1 rfl) ?_
      have q_0 : lv = sp_la x lv mo := by unfold sp_la; rw [if_neg c_2, if_neg c_15]
      exact hRET _ ls H locs ((nI lv)) (lv) dX2_levelAfter_27 ⟨rfl, q_0⟩ hP hD hS
    · skip
      refine lv_iload_n hx hb dX2_levelAfter_18 rfl (lv_at hl 1 rfl) ?_
      refine lv_iconst (v := nI 1) hx hb dX2_levelAfter_19 (by decide) ?_
      refine z_isub (v := (iI (((lv : Nat) : Int) - 1))) hx hb dX2_levelAfter_20 (za_sub (iI_N _) (iI_N _)) ?_
      refine lv_iconst (v := nI 0) hx hb dX2_levelAfter_21 (by decide) ?_
      refine va_mmax hx hb (by rw [hml, hl.1]) hown (hts (.methodLink RX2 71 Lib.Math.max.name) (by decide +kernel)) (hts (.static Lib.Math.max.name) (by decide +kernel)) (hts (.initialized "java/lang/Math") (by decide +kernel)) (hts (.code Lib.Math.max.name Lib.Math.max.code 2 (some .int)) (by decide +kernel)) (Nat.le_of_ble_eq_true rfl) (Nat.le_of_ble_eq_true rfl) (Nat.zero_le _) (Nat.zero_le _) dX2_levelAfter_22 ?_
      refine z_c0 (v := iI (max (((lv : Nat) : Int) - 1) 0)) (za_max rfl (iI_N _) (by omega)) ?_
      refine z_c0 (v := nI (lv - 1)) (z_ZtoN (by first | assumption | omega)) ?_
      have q_0 : (lv - 1) = sp_la x lv mo := by unfold sp_la; rw [if_neg c_2, if_pos c_15]
      exact hRET _ ls H locs ((nI (lv - 1))) (lv - 1) dX2_levelAfter_25 ⟨rfl, q_0⟩ hP hD hS
  · skip
    refine lv_iload_n hx hb dX2_levelAfter_5 rfl (lv_at hl 1 rfl) ?_
    refine lv_iconst (v := nI 1) hx hb dX2_levelAfter_6 (by decide) ?_
    refine z_iadd (v := (nI (lv + 1))) hx hb dX2_levelAfter_7 (nI_add _ _) ?_
    refine lv_iload_n hx hb dX2_levelAfter_8 rfl (lv_at hl 2 rfl) ?_
    refine va_mmin hx hb (by rw [hml, hl.1]) hown (hts (.methodLink RX2 66 Lib.Math.min.name) (by decide +kernel)) (hts (.static Lib.Math.min.name) (by decide +kernel)) (hts (.initialized "java/lang/Math") (by decide +kernel)) (hts (.code Lib.Math.min.name Lib.Math.min.code 2 (some .int)) (by decide +kernel)) (Nat.le_of_ble_eq_true rfl) (Nat.le_of_ble_eq_true rfl) (Nat.zero_le _) (Nat.zero_le _) dX2_levelAfter_9 ?_
    refine z_c0 (v := nI (min (lv + 1) mo)) (zn_min (by omega)) ?_
    have q_0 : (min (lv + 1) mo) = sp_la x lv mo := by unfold sp_la; rw [if_pos c_2]
    exact hRET _ ls H locs ((nI (min (lv + 1) mo))) (min (lv + 1) mo) dX2_levelAfter_12 ⟨rfl, q_0⟩ hP hD hS

set_option maxHeartbeats 4000000 in
set_option maxRecDepth 100000 in
theorem c_X2_quartersOf (l : Launch) (dC : Nat → ClassId) (dI : Nat → Nat → Nat) (cI cJ : ClassId) (sz : Nat) (u0 : Nat) (u1 : Nat) (u2 : Nat) (u3 : Nat) (ua : Nat) (ub : Nat) (BR : Nat → Nat) (RP : Nat → Nat) (rm : Nat) (mc : Nat) (wu : Nat) (iu : Nat) (bBR : ∀ i, BR i ≤ 4) (bRP : ∀ i, RP i ≤ 4) (bm : mc < 2) (bw : wu ≤ 1) (bi : iu ≤ 1) : Met l yX2_quartersOf wsX2_quartersOf (zR 0 0 0 0) (va_Pc [.ref u0, .int (nI mc), .int (nI wu), .int (nI iu)] (zP (dC, dI) [(cI, .int), (cJ, .long)] [(u0, .inr (2, [.ref u1, .ref u2, .int (nI rm), .ref u3, .ref ua, .ref ub])), (u1, .inl (cI, 2, .inl (fun z_ => nI (BR z_)))), (u2, .inl (cI, 2, .inl (fun z_ => nI (RP z_))))] sz nwA)) (va_Qi (fun (r : Int32) (u : (Nat)) => r = (nI u) ∧ (u = sp_qo BR RP mc wu iu)) (zB (dC, dI) (fun (u : (Nat)) => [(u0, .inr (2, [.ref u1, .ref u2, .int (nI rm), .ref u3, .ref ua, .ref ub])), (u1, .inl (cI, 2, .inl (fun z_ => nI (BR z_)))), (u2, .inl (cI, 2, .inl (fun z_ => nI (RP z_))))]) (va_A [(u0, .inr (2, [.ref u1, .ref u2, .int (nI rm), .ref u3, .ref ua, .ref ub])), (u1, .inl (cI, 2, .inl (fun z_ => nI (BR z_)))), (u2, .inl (cI, 2, .inl (fun z_ => nI (RP z_))))] sz)) (va_A [(u0, .inr (2, [.ref u1, .ref u2, .int (nI rm), .ref u3, .ref ua, .ref ub])), (u1, .inl (cI, 2, .inl (fun z_ => nI (BR z_)))), (u2, .inl (cI, 2, .inl (fun z_ => nI (RP z_))))] sz)) 0 0 (va_A [(u0, .inr (2, [.ref u1, .ref u2, .int (nI rm), .ref u3, .ref ua, .ref ub])), (u1, .inl (cI, 2, .inl (fun z_ => nI (BR z_)))), (u2, .inl (cI, 2, .inl (fun z_ => nI (RP z_))))] sz) := by
  refine z_met_i (cc := cX2_quartersOf) (maxL := 5) (by decide) rfl (Nat.le_of_ble_eq_true rfl) ?_
  intro p e s m args below meth c Q A ls hx hb hml hown hts hin hA hK hP hD hN hl hRET
  have hown : s.vm.findClass RX2 = some m.cls := hown
  obtain ⟨H, eH⟩ : ∃ H : Heap, H = s.heap := ⟨_, rfl⟩
  rw [← eH] at hP
  obtain ⟨locs, eL⟩ : ∃ z : List Loc, z = [] := ⟨_, rfl⟩
  rw [← eH, ← eL]
  have hS : va_S A s.heap H locs := by rw [eH, eL]; exact va_S.rf
  have hl : lv_has ls 5 [(0, .ref u0), (1, .int (nI mc)), (2, .int (nI wu)), (3, .int (nI iu))] := hl
  have w9 := hts (.fieldLink RX2 9 "PullCards$Pair" "breaks" "[I") (by decide +kernel)
  have uX2 : ∀ w ∈ wsX20, w ∈ wsX2_quartersOf := by decide +kernel
  have w15 := hts (.fieldLink RX2 15 "PullCards$Pair" "repairs" "[I") (by decide +kernel)
  refine lv_iload_n hx hb dX2_quartersOf_0 rfl (lv_at hl 2 rfl) ?_
  refine z_if_eq (tgt := 13) hx hb dX2_quartersOf_1 (by decide) (zcn_eq (a := wu) (b := 0) rfl nI_00 (by omega)) (fun c_1 => ?_) (fun c_1 => ?_)
  · skip
    refine lv_aload_n hx hb dX2_quartersOf_13 rfl (lv_at hl 0 rfl) ?_
    refine z_get (D := (dC, dI)) (ci := 2) (v := .ref u2) (C := RX2) (T := TX2) (N := 6) hx hb hts uX2 hown hK hP 0 rfl rfl 1 (by decide) w15 rfl rfl dX2_quartersOf_14 ?_
    refine lv_iload_n hx hb dX2_quartersOf_17 rfl (lv_at hl 1 rfl) ?_
    refine z_iald (v := (nI (RP mc))) hx hb hK hP 2 0 rfl rfl mc rfl (by omega) rfl dX2_quartersOf_18 ?_
    have f18_0 := bRP mc
    refine lv_istore (lv' := [(4, .int (nI (RP mc))), (0, .ref u0), (1, .int (nI mc)), (2, .int (nI wu)), (3, .int (nI iu))]) hx hb dX2_quartersOf_19 hl (by decide) rfl (fun ls hl => ?_)
    refine lv_iload_n hx hb dX2_quartersOf_21 rfl (lv_at hl 3 rfl) ?_
    refine lv_iload_n hx hb dX2_quartersOf_22 rfl (lv_at hl 4 rfl) ?_
    refine z_icmp_ne (tgt := 33) hx hb dX2_quartersOf_23 (by decide) (zcn_eq (a := wu) (b := iu) rfl rfl (by omega)) (fun c_23 => ?_) (fun c_23 => ?_)
    · skip
      refine lv_iload hx hb dX2_quartersOf_33 (lv_at hl 0 rfl) ?_
      have q_0 : (RP mc) = sp_qo BR RP mc wu iu := by unfold sp_qo; (first | rw [if_pos (by omega), if_pos (by omega)] | rw [if_pos (by omega), if_neg (by omega)] | rw [if_neg (by omega), if_pos (by omega)] | rw [if_neg (by omega), if_neg (by omega)])
      exact hRET _ ls H locs ((nI (RP mc))) (RP mc) dX2_quartersOf_35 ⟨rfl, q_0⟩ hP hD hS
    · skip
      refine lv_iconst (v := nI 4) hx hb dX2_quartersOf_26 (by decide) ?_
      refine lv_iload hx hb dX2_quartersOf_27 (lv_at hl 0 rfl) ?_
      refine z_isub (v := (nI (4 - (RP mc)))) hx hb dX2_quartersOf_29 (pk_sub (by omega)) ?_
      refine lv_goto (tgt := 35) hx hb dX2_quartersOf_30 (by decide) ?_
      have q_0 : (4 - (RP mc)) = sp_qo BR RP mc wu iu := by unfold sp_qo; (first | rw [if_pos (by omega), if_pos (by omega)] | rw [if_pos (by omega), if_neg (by omega)] | rw [if_neg (by omega), if_pos (by omega)] | rw [if_neg (by omega), if_neg (by omega)])
      exact hRET _ ls H locs ((nI (4 - (RP mc)))) (4 - (RP mc)) dX2_quartersOf_35 ⟨rfl, q_0⟩ hP hD hS
  · skip
    refine lv_aload_n hx hb dX2_quartersOf_4 rfl (lv_at hl 0 rfl) ?_
    refine z_get (D := (dC, dI)) (ci := 2) (v := .ref u1) (C := RX2) (T := TX2) (N := 6) hx hb hts uX2 hown hK hP 0 rfl rfl 0 (by decide) w9 rfl rfl dX2_quartersOf_5 ?_
    refine lv_iload_n hx hb dX2_quartersOf_8 rfl (lv_at hl 1 rfl) ?_
    refine z_iald (v := (nI (BR mc))) hx hb hK hP 1 0 rfl rfl mc rfl (by omega) rfl dX2_quartersOf_9 ?_
    have f9_0 := bBR mc
    refine lv_goto (tgt := 19) hx hb dX2_quartersOf_10 (by decide) ?_
    refine lv_istore (lv' := [(4, .int (nI (BR mc))), (0, .ref u0), (1, .int (nI mc)), (2, .int (nI wu)), (3, .int (nI iu))]) hx hb dX2_quartersOf_19 hl (by decide) rfl (fun ls hl => ?_)
    refine lv_iload_n hx hb dX2_quartersOf_21 rfl (lv_at hl 3 rfl) ?_
    refine lv_iload_n hx hb dX2_quartersOf_22 rfl (lv_at hl 4 rfl) ?_
    refine z_icmp_ne (tgt := 33) hx hb dX2_quartersOf_23 (by decide) (zcn_eq (a := wu) (b := iu) rfl rfl (by omega)) (fun c_23 => ?_) (fun c_23 => ?_)
    · skip
      refine lv_iload hx hb dX2_quartersOf_33 (lv_at hl 0 rfl) ?_
      have q_0 : (BR mc) = sp_qo BR RP mc wu iu := by unfold sp_qo; (first | rw [if_pos (by omega), if_pos (by omega)] | rw [if_pos (by omega), if_neg (by omega)] | rw [if_neg (by omega), if_pos (by omega)] | rw [if_neg (by omega), if_neg (by omega)])
      exact hRET _ ls H locs ((nI (BR mc))) (BR mc) dX2_quartersOf_35 ⟨rfl, q_0⟩ hP hD hS
    · skip
      refine lv_iconst (v := nI 4) hx hb dX2_quartersOf_26 (by decide) ?_
      refine lv_iload hx hb dX2_quartersOf_27 (lv_at hl 0 rfl) ?_
      refine z_isub (v := (nI (4 - (BR mc)))) hx hb dX2_quartersOf_29 (pk_sub (by omega)) ?_
      refine lv_goto (tgt := 35) hx hb dX2_quartersOf_30 (by decide) ?_
      have q_0 : (4 - (BR mc)) = sp_qo BR RP mc wu iu := by unfold sp_qo; (first | rw [if_pos (by omega), if_pos (by omega)] | rw [if_pos (by omega), if_neg (by omega)] | rw [if_neg (by omega), if_pos (by omega)] | rw [if_neg (by omega), if_neg (by omega)])
      exact hRET _ ls H locs ((nI (4 - (BR mc)))) (4 - (BR mc)) dX2_quartersOf_35 ⟨rfl, q_0⟩ hP hD hS

set_option maxHeartbeats 4000000 in
set_option maxRecDepth 100000 in
theorem c_X2_start (l : Launch) (dC : Nat → ClassId) (dI : Nat → Nat → Nat) (cI cJ : ClassId) (sz : Nat) (u0 : Nat) (u1 : Nat) (u2 : Nat) (u3 : Nat) (ua : Nat) (ub : Nat) (BR : Nat → Nat) (RP : Nat → Nat) (CW : Nat → Nat) (WA : Nat → Nat) (XB : Nat → Nat) (rm : Nat) (bBR : ∀ i, BR i ≤ 4) (bRP : ∀ i, RP i ≤ 4) : Met l yX2_start wsX2_start (zR 1 0 0 24) (va_Pc [.ref u0] (zP (dC, dI) [(cI, .int), (cJ, .long)] [(u0, .inr (2, [.ref u1, .ref u2, .int (nI rm), .ref u3, .ref ua, .ref ub])), (u1, .inl (cI, 2, .inl (fun z_ => nI (BR z_)))), (u2, .inl (cI, 2, .inl (fun z_ => nI (RP z_)))), (u3, .inl (cI, 16, .inl (fun z_ => nI (CW z_)))), (ua, .inl (cJ, 308, .inr (.inl (fun z_ => lN (WA z_))))), (ub, .inl (cJ, 308, .inr (.inl (fun z_ => lN (XB z_)))))] sz nwA)) (va_Qv (fun (u : (Nat → Nat) × (Nat → Nat)) => (∀ i, i < 16 → u.1 i = sp_cw BR RP i) ∧ (∀ k, k < 308 → u.2 k = if k = 231 then 1 else 0)) (zB (dC, dI) (fun (u : (Nat → Nat) × (Nat → Nat)) => [(u0, .inr (2, [.ref u1, .ref u2, .int (nI rm), .ref u3, .ref ua, .ref ub])), (u1, .inl (cI, 2, .inl (fun z_ => nI (BR z_)))), (u2, .inl (cI, 2, .inl (fun z_ => nI (RP z_)))), (u3, .inl (cI, 16, .inl (fun z_ => nI (u.1 z_)))), (ua, .inl (cJ, 308, .inr (.inl (fun z_ => lN (u.2 z_))))), (ub, .inl (cJ, 308, .inr (.inl (fun z_ => lN (XB z_)))))]) (va_A [(u0, .inr (2, [.ref u1, .ref u2, .int (nI rm), .ref u3, .ref ua, .ref ub])), (u1, .inl (cI, 2, .inl (fun z_ => nI (BR z_)))), (u2, .inl (cI, 2, .inl (fun z_ => nI (RP z_)))), (u3, .inl (cI, 16, .inl (fun z_ => nI (CW z_)))), (ua, .inl (cJ, 308, .inr (.inl (fun z_ => lN (WA z_))))), (ub, .inl (cJ, 308, .inr (.inl (fun z_ => lN (XB z_)))))] sz)) (va_A [(u0, .inr (2, [.ref u1, .ref u2, .int (nI rm), .ref u3, .ref ua, .ref ub])), (u1, .inl (cI, 2, .inl (fun z_ => nI (BR z_)))), (u2, .inl (cI, 2, .inl (fun z_ => nI (RP z_)))), (u3, .inl (cI, 16, .inl (fun z_ => nI (CW z_)))), (ua, .inl (cJ, 308, .inr (.inl (fun z_ => lN (WA z_))))), (ub, .inl (cJ, 308, .inr (.inl (fun z_ => lN (XB z_)))))] sz)) 0 0 (va_A [(u0, .inr (2, [.ref u1, .ref u2, .int (nI rm), .ref u3, .ref ua, .ref ub])), (u1, .inl (cI, 2, .inl (fun z_ => nI (BR z_)))), (u2, .inl (cI, 2, .inl (fun z_ => nI (RP z_)))), (u3, .inl (cI, 16, .inl (fun z_ => nI (CW z_)))), (ua, .inl (cJ, 308, .inr (.inl (fun z_ => lN (WA z_))))), (ub, .inl (cJ, 308, .inr (.inl (fun z_ => lN (XB z_)))))] sz) := by
  refine z_met_v (cc := cX2_start) (maxL := 5) (by decide) rfl (Nat.le_of_ble_eq_true rfl) ?_
  intro p e s m args below meth c Q A ls hx hb hml hown hts hin hA hK hP hD hN hl hRET
  have hown : s.vm.findClass RX2 = some m.cls := hown
  obtain ⟨H, eH⟩ : ∃ H : Heap, H = s.heap := ⟨_, rfl⟩
  rw [← eH] at hP
  obtain ⟨locs, eL⟩ : ∃ z : List Loc, z = [] := ⟨_, rfl⟩
  rw [← eH, ← eL]
  have hS : va_S A s.heap H locs := by rw [eH, eL]; exact va_S.rf
  have hl : lv_has ls 5 [(0, .ref u0)] := hl
  have w18 := hts (.fieldLink RX2 18 "PullCards$Pair" "changeWeights" "[I") (by decide +kernel)
  have uX2 : ∀ w ∈ wsX20, w ∈ wsX2_start := by decide +kernel
  have w21 := hts (.fieldLink RX2 21 "PullCards$Pair" "weights" "[J") (by decide +kernel)
  refine lv_iconst (v := nI 0) hx hb dX2_start_0 (by decide) ?_
  refine lv_istore_n (lv' := [(1, .int (nI 0)), (0, .ref u0)]) hx hb dX2_start_1 rfl hl (by decide) rfl (fun ls hl => ?_)
  refine lv_iload_n hx hb dX2_start_2 rfl (lv_at hl 0 rfl) ?_
  refine lv_iconst (v := nI 4) hx hb dX2_start_3 (by decide) ?_
  refine lv_icmp_ge (tgt := 97) hx hb dX2_start_4 (by decide) (fun c_x => absurd c_x (by decide)) (fun _ => ?_)
  refine lv_iconst (v := nI 0) hx hb dX2_start_7 (by decide) ?_
  refine lv_istore_n (lv' := [(2, .int (nI 0)), (1, .int (nI 0)), (0, .ref u0)]) hx hb dX2_start_8 rfl hl (by decide) rfl (fun ls hl => ?_)
  refine lv_iload_n hx hb dX2_start_9 rfl (lv_at hl 0 rfl) ?_
  refine lv_iconst (v := nI 4) hx hb dX2_start_10 (by decide) ?_
  refine lv_icmp_ge (tgt := 91) hx hb dX2_start_11 (by decide) (fun c_x => absurd c_x (by decide)) (fun _ => ?_)
  refine lv_aload_n hx hb dX2_start_14 rfl (lv_at hl 2 rfl) ?_
  refine lv_iconst (v := nI 0) hx hb dX2_start_15 (by decide) ?_
  refine lv_iload_n hx hb dX2_start_16 rfl (lv_at hl 1 rfl) ?_
  refine lv_iconst (v := nI 1) hx hb dX2_start_17 (by decide) ?_
  refine z_iand (v := nI 0) hx hb dX2_start_18 (by decide) ?_
  refine lv_if_eq (tgt := 26) hx hb dX2_start_19 (by decide) (fun _ => ?_) (fun c_x => absurd c_x (by decide))
  refine lv_iconst (v := nI 0) hx hb dX2_start_26 (by decide) ?_
  refine lv_iload_n hx hb dX2_start_27 rfl (lv_at hl 0 rfl) ?_
  refine lv_iconst (v := nI 1) hx hb dX2_start_28 (by decide) ?_
  refine z_iand (v := nI 0) hx hb dX2_start_29 (by decide) ?_
  refine lv_if_eq (tgt := 37) hx hb dX2_start_30 (by decide) (fun _ => ?_) (fun c_x => absurd c_x (by decide))
  refine lv_iconst (v := nI 0) hx hb dX2_start_37 (by decide) ?_
  refine z_callVi (As := [.int (nI 0), .int (nI 0), .int (nI 0)]) (rest := []) (wr := [(u3, .inl (cI, 16, .inl (fun z_ => nI (CW z_)))), (ua, .inl (cJ, 308, .inr (.inl (fun z_ => lN (WA z_))))), (ub, .inl (cJ, 308, .inr (.inl (fun z_ => lN (XB z_)))))]) ⟨hx, hb, hml, hown, hts⟩ (c_X2_quartersOf l dC dI cI cJ H.size u0 u1 u2 u3 ua ub BR RP rm 0 0 0 (by first | assumption | omega) (by first | assumption | omega) (by first | assumption | omega) (by first | assumption | omega) (by first | assumption | omega)) (cwV 3 hts gX2_start_X2_quartersOf rfl rfl rfl (by decide +kernel) ⟨Nat.le_of_ble_eq_true rfl, Nat.le_of_ble_eq_true rfl⟩) hA hK hP hD hS [0, 1, 2] [3, 4, 5] [3, 4, 5, 0, 1, 2] rfl rfl (by decide) (by decide) (by decide) nwA_ok hN (ci := 2) rfl rfl 0 rfl hl.1 (Nat.le_of_ble_eq_true rfl) ⟨Nat.le_refl _, Nat.le_refl _⟩ rfl rfl dX2_start_38 (fun (u : (Nat)) => [(u0, .inr (2, [.ref u1, .ref u2, .int (nI rm), .ref u3, .ref ua, .ref ub])), (u1, .inl (cI, 2, .inl (fun z_ => nI (BR z_)))), (u2, .inl (cI, 2, .inl (fun z_ => nI (RP z_)))), (u3, .inl (cI, 16, .inl (fun z_ => nI (CW z_)))), (ua, .inl (cJ, 308, .inr (.inl (fun z_ => lN (WA z_))))), (ub, .inl (cJ, 308, .inr (.inl (fun z_ => lN (XB z_)))))]) (fun u => rfl) (by decide) (fun r_38 u H locs hw hP hD hS => ?_)
  obtain ⟨rv_38, eu⟩ : ∃ z, z = u := ⟨_, rfl⟩
  subst eu
  have hP : va_P (dC, dI) vwCl [(u0, .inr (2, [.ref u1, .ref u2, .int (nI rm), .ref u3, .ref ua, .ref ub])), (u1, .inl (cI, 2, .inl (fun z_ => nI (BR z_)))), (u2, .inl (cI, 2, .inl (fun z_ => nI (RP z_)))), (u3, .inl (cI, 16, .inl (fun z_ => nI (CW z_)))), (ua, .inl (cJ, 308, .inr (.inl (fun z_ => lN (WA z_))))), (ub, .inl (cJ, 308, .inr (.inl (fun z_ => lN (XB z_)))))] H := hP
  have hD : va_D A [(u0, .inr (2, [.ref u1, .ref u2, .int (nI rm), .ref u3, .ref ua, .ref ub])), (u1, .inl (cI, 2, .inl (fun z_ => nI (BR z_)))), (u2, .inl (cI, 2, .inl (fun z_ => nI (RP z_)))), (u3, .inl (cI, 16, .inl (fun z_ => nI (CW z_)))), (ua, .inl (cJ, 308, .inr (.inl (fun z_ => lN (WA z_))))), (ub, .inl (cJ, 308, .inr (.inl (fun z_ => lN (XB z_)))))] := hD
  obtain ⟨er, p38_0⟩ := hw
  have p38_0 : rv_38 = sp_qo BR RP 0 0 0 := p38_0
  have er : r_38 = (nI rv_38) := er
  subst er
  subst p38_0
  refine lv_istore_n (lv' := [(3, .int (nI (sp_qo BR RP 0 0 0))), (2, .int (nI 0)), (1, .int (nI 0)), (0, .ref u0)]) hx hb dX2_start_41 rfl hl (by decide) rfl (fun ls hl => ?_)
  refine lv_aload_n hx hb dX2_start_42 rfl (lv_at hl 3 rfl) ?_
  refine lv_iconst (v := nI 1) hx hb dX2_start_43 (by decide) ?_
  refine lv_iload_n hx hb dX2_start_44 rfl (lv_at hl 2 rfl) ?_
  refine lv_iconst (v := nI 2) hx hb dX2_start_45 (by decide) ?_
  refine z_iand (v := nI 0) hx hb dX2_start_46 (by decide) ?_
  refine lv_if_eq (tgt := 54) hx hb dX2_start_47 (by decide) (fun _ => ?_) (fun c_x => absurd c_x (by decide))
  refine lv_iconst (v := nI 0) hx hb dX2_start_54 (by decide) ?_
  refine lv_iload_n hx hb dX2_start_55 rfl (lv_at hl 1 rfl) ?_
  refine lv_iconst (v := nI 2) hx hb dX2_start_56 (by decide) ?_
  refine z_iand (v := nI 0) hx hb dX2_start_57 (by decide) ?_
  refine lv_if_eq (tgt := 65) hx hb dX2_start_58 (by decide) (fun _ => ?_) (fun c_x => absurd c_x (by decide))
  refine lv_iconst (v := nI 0) hx hb dX2_start_65 (by decide) ?_
  refine z_callVi (As := [.int (nI 1), .int (nI 0), .int (nI 0)]) (rest := []) (wr := [(u3, .inl (cI, 16, .inl (fun z_ => nI (CW z_)))), (ua, .inl (cJ, 308, .inr (.inl (fun z_ => lN (WA z_))))), (ub, .inl (cJ, 308, .inr (.inl (fun z_ => lN (XB z_)))))]) ⟨hx, hb, hml, hown, hts⟩ (c_X2_quartersOf l dC dI cI cJ H.size u0 u1 u2 u3 ua ub BR RP rm 1 0 0 (by first | assumption | omega) (by first | assumption | omega) (by first | assumption | omega) (by first | assumption | omega) (by first | assumption | omega)) (cwV 3 hts gX2_start_X2_quartersOf rfl rfl rfl (by decide +kernel) ⟨Nat.le_of_ble_eq_true rfl, Nat.le_of_ble_eq_true rfl⟩) hA hK hP hD hS [0, 1, 2] [3, 4, 5] [3, 4, 5, 0, 1, 2] rfl rfl (by decide) (by decide) (by decide) nwA_ok hN (ci := 2) rfl rfl 0 rfl hl.1 (Nat.le_of_ble_eq_true rfl) ⟨Nat.le_refl _, Nat.le_refl _⟩ rfl rfl dX2_start_66 (fun (u : (Nat)) => [(u0, .inr (2, [.ref u1, .ref u2, .int (nI rm), .ref u3, .ref ua, .ref ub])), (u1, .inl (cI, 2, .inl (fun z_ => nI (BR z_)))), (u2, .inl (cI, 2, .inl (fun z_ => nI (RP z_)))), (u3, .inl (cI, 16, .inl (fun z_ => nI (CW z_)))), (ua, .inl (cJ, 308, .inr (.inl (fun z_ => lN (WA z_))))), (ub, .inl (cJ, 308, .inr (.inl (fun z_ => lN (XB z_)))))]) (fun u => rfl) (by decide) (fun r_66 u H locs hw hP hD hS => ?_)
  obtain ⟨rv_66, eu⟩ : ∃ z, z = u := ⟨_, rfl⟩
  subst eu
  have hP : va_P (dC, dI) vwCl [(u0, .inr (2, [.ref u1, .ref u2, .int (nI rm), .ref u3, .ref ua, .ref ub])), (u1, .inl (cI, 2, .inl (fun z_ => nI (BR z_)))), (u2, .inl (cI, 2, .inl (fun z_ => nI (RP z_)))), (u3, .inl (cI, 16, .inl (fun z_ => nI (CW z_)))), (ua, .inl (cJ, 308, .inr (.inl (fun z_ => lN (WA z_))))), (ub, .inl (cJ, 308, .inr (.inl (fun z_ => lN (XB z_)))))] H := hP
  have hD : va_D A [(u0, .inr (2, [.ref u1, .ref u2, .int (nI rm), .ref u3, .ref ua, .ref ub])), (u1, .inl (cI, 2, .inl (fun z_ => nI (BR z_)))), (u2, .inl (cI, 2, .inl (fun z_ => nI (RP z_)))), (u3, .inl (cI, 16, .inl (fun z_ => nI (CW z_)))), (ua, .inl (cJ, 308, .inr (.inl (fun z_ => lN (WA z_))))), (ub, .inl (cJ, 308, .inr (.inl (fun z_ => lN (XB z_)))))] := hD
  obtain ⟨er, p66_0⟩ := hw
  have p66_0 : rv_66 = sp_qo BR RP 1 0 0 := p66_0
  have er : r_66 = (nI rv_66) := er
  subst er
  subst p66_0
  refine lv_istore (lv' := [(4, .int (nI (sp_qo BR RP 1 0 0))), (3, .int (nI (sp_qo BR RP 0 0 0))), (2, .int (nI 0)), (1, .int (nI 0)), (0, .ref u0)]) hx hb dX2_start_69 hl (by decide) rfl (fun ls hl => ?_)
  refine lv_aload_n hx hb dX2_start_71 rfl (lv_at hl 4 rfl) ?_
  refine z_get (D := (dC, dI)) (ci := 2) (v := .ref u3) (C := RX2) (T := TX2) (N := 6) hx hb hts uX2 hown hK hP 0 rfl rfl 3 (by decide) w18 rfl rfl dX2_start_72 ?_
  refine lv_iload_n hx hb dX2_start_75 rfl (lv_at hl 3 rfl) ?_
  refine lv_iconst (v := nI 4) hx hb dX2_start_76 (by decide) ?_
  refine z_imul (v := (nI 0)) hx hb dX2_start_77 (by decide) ?_
  refine lv_iload_n hx hb dX2_start_78 rfl (lv_at hl 2 rfl) ?_
  refine z_iadd (v := (nI 0)) hx hb dX2_start_79 (by decide) ?_
  refine lv_iload_n hx hb dX2_start_80 rfl (lv_at hl 1 rfl) ?_
  refine lv_iload hx hb dX2_start_81 (lv_at hl 0 rfl) ?_
  refine z_imul (v := (nI ((sp_qo BR RP 0 0 0) * (sp_qo BR RP 1 0 0)))) hx hb dX2_start_83 (pk_mul _ _) ?_
  refine z_iast hx hb hK hP hD hS 3 0 rfl rfl 0 rfl (by omega) (upd_N CW 0 ((sp_qo BR RP 0 0 0) * (sp_qo BR RP 1 0 0))) [(u0, .inr (2, [.ref u1, .ref u2, .int (nI rm), .ref u3, .ref ua, .ref ub])), (u1, .inl (cI, 2, .inl (fun z_ => nI (BR z_)))), (u2, .inl (cI, 2, .inl (fun z_ => nI (RP z_)))), (u3, .inl (cI, 16, .inl (fun z_ => nI ((up CW 0 ((sp_qo BR RP 0 0 0) * (sp_qo BR RP 1 0 0))) z_)))), (ua, .inl (cJ, 308, .inr (.inl (fun z_ => lN (WA z_))))), (ub, .inl (cJ, 308, .inr (.inl (fun z_ => lN (XB z_)))))] rfl dX2_start_84 (fun H locs hP hD hS => ?_)
  refine lv_iinc (v := (nI 1)) (lv' := [(2, .int (nI 1)), (4, .int (nI (sp_qo BR RP 1 0 0))), (3, .int (nI (sp_qo BR RP 0 0 0))), (1, .int (nI 0)), (0, .ref u0)]) hx hb dX2_start_85 hl (k := 2) rfl (by decide) (by decide) rfl (fun ls hl => ?_)
  refine lv_goto (tgt := 9) hx hb dX2_start_88 (by decide) ?_
  refine lv_iload_n hx hb dX2_start_9 rfl (lv_at hl 0 rfl) ?_
  refine lv_iconst (v := nI 4) hx hb dX2_start_10 (by decide) ?_
  refine lv_icmp_ge (tgt := 91) hx hb dX2_start_11 (by decide) (fun c_x => absurd c_x (by decide)) (fun _ => ?_)
  refine lv_aload_n hx hb dX2_start_14 rfl (lv_at hl 4 rfl) ?_
  refine lv_iconst (v := nI 0) hx hb dX2_start_15 (by decide) ?_
  refine lv_iload_n hx hb dX2_start_16 rfl (lv_at hl 3 rfl) ?_
  refine lv_iconst (v := nI 1) hx hb dX2_start_17 (by decide) ?_
  refine z_iand (v := nI 0) hx hb dX2_start_18 (by decide) ?_
  refine lv_if_eq (tgt := 26) hx hb dX2_start_19 (by decide) (fun _ => ?_) (fun c_x => absurd c_x (by decide))
  refine lv_iconst (v := nI 0) hx hb dX2_start_26 (by decide) ?_
  refine lv_iload_n hx hb dX2_start_27 rfl (lv_at hl 0 rfl) ?_
  refine lv_iconst (v := nI 1) hx hb dX2_start_28 (by decide) ?_
  refine z_iand (v := nI 1) hx hb dX2_start_29 (by decide) ?_
  refine lv_if_eq (tgt := 37) hx hb dX2_start_30 (by decide) (fun c_x => absurd c_x (by decide)) (fun _ => ?_)
  refine lv_iconst (v := nI 1) hx hb dX2_start_33 (by decide) ?_
  refine lv_goto (tgt := 38) hx hb dX2_start_34 (by decide) ?_
  refine z_callVi (As := [.int (nI 0), .int (nI 0), .int (nI 1)]) (rest := []) (wr := [(u3, .inl (cI, 16, .inl (fun z_ => nI ((up CW 0 ((sp_qo BR RP 0 0 0) * (sp_qo BR RP 1 0 0))) z_)))), (ua, .inl (cJ, 308, .inr (.inl (fun z_ => lN (WA z_))))), (ub, .inl (cJ, 308, .inr (.inl (fun z_ => lN (XB z_)))))]) ⟨hx, hb, hml, hown, hts⟩ (c_X2_quartersOf l dC dI cI cJ H.size u0 u1 u2 u3 ua ub BR RP rm 0 0 1 (by first | assumption | omega) (by first | assumption | omega) (by first | assumption | omega) (by first | assumption | omega) (by first | assumption | omega)) (cwV 3 hts gX2_start_X2_quartersOf rfl rfl rfl (by decide +kernel) ⟨Nat.le_of_ble_eq_true rfl, Nat.le_of_ble_eq_true rfl⟩) hA hK hP hD hS [0, 1, 2] [3, 4, 5] [3, 4, 5, 0, 1, 2] rfl rfl (by decide) (by decide) (by decide) nwA_ok hN (ci := 2) rfl rfl 0 rfl hl.1 (Nat.le_of_ble_eq_true rfl) ⟨Nat.le_refl _, Nat.le_refl _⟩ rfl rfl dX2_start_38 (fun (u : (Nat)) => [(u0, .inr (2, [.ref u1, .ref u2, .int (nI rm), .ref u3, .ref ua, .ref ub])), (u1, .inl (cI, 2, .inl (fun z_ => nI (BR z_)))), (u2, .inl (cI, 2, .inl (fun z_ => nI (RP z_)))), (u3, .inl (cI, 16, .inl (fun z_ => nI ((up CW 0 ((sp_qo BR RP 0 0 0) * (sp_qo BR RP 1 0 0))) z_)))), (ua, .inl (cJ, 308, .inr (.inl (fun z_ => lN (WA z_))))), (ub, .inl (cJ, 308, .inr (.inl (fun z_ => lN (XB z_)))))]) (fun u => rfl) (by decide) (fun r_38 u H locs hw hP hD hS => ?_)
  obtain ⟨rv_38, eu⟩ : ∃ z, z = u := ⟨_, rfl⟩
  subst eu
  have hP : va_P (dC, dI) vwCl [(u0, .inr (2, [.ref u1, .ref u2, .int (nI rm), .ref u3, .ref ua, .ref ub])), (u1, .inl (cI, 2, .inl (fun z_ => nI (BR z_)))), (u2, .inl (cI, 2, .inl (fun z_ => nI (RP z_)))), (u3, .inl (cI, 16, .inl (fun z_ => nI ((up CW 0 ((sp_qo BR RP 0 0 0) * (sp_qo BR RP 1 0 0))) z_)))), (ua, .inl (cJ, 308, .inr (.inl (fun z_ => lN (WA z_))))), (ub, .inl (cJ, 308, .inr (.inl (fun z_ => lN (XB z_)))))] H := hP
  have hD : va_D A [(u0, .inr (2, [.ref u1, .ref u2, .int (nI rm), .ref u3, .ref ua, .ref ub])), (u1, .inl (cI, 2, .inl (fun z_ => nI (BR z_)))), (u2, .inl (cI, 2, .inl (fun z_ => nI (RP z_)))), (u3, .inl (cI, 16, .inl (fun z_ => nI ((up CW 0 ((sp_qo BR RP 0 0 0) * (sp_qo BR RP 1 0 0))) z_)))), (ua, .inl (cJ, 308, .inr (.inl (fun z_ => lN (WA z_))))), (ub, .inl (cJ, 308, .inr (.inl (fun z_ => lN (XB z_)))))] := hD
  obtain ⟨er, p38_0⟩ := hw
  have p38_0 : rv_38 = sp_qo BR RP 0 0 1 := p38_0
  have er : r_38 = (nI rv_38) := er
  subst er
  subst p38_0
  refine lv_istore_n (lv' := [(3, .int (nI (sp_qo BR RP 0 0 1))), (2, .int (nI 1)), (4, .int (nI (sp_qo BR RP 1 0 0))), (1, .int (nI 0)), (0, .ref u0)]) hx hb dX2_start_41 rfl hl (by decide) rfl (fun ls hl => ?_)
  refine lv_aload_n hx hb dX2_start_42 rfl (lv_at hl 4 rfl) ?_
  refine lv_iconst (v := nI 1) hx hb dX2_start_43 (by decide) ?_
  refine lv_iload_n hx hb dX2_start_44 rfl (lv_at hl 3 rfl) ?_
  refine lv_iconst (v := nI 2) hx hb dX2_start_45 (by decide) ?_
  refine z_iand (v := nI 0) hx hb dX2_start_46 (by decide) ?_
  refine lv_if_eq (tgt := 54) hx hb dX2_start_47 (by decide) (fun _ => ?_) (fun c_x => absurd c_x (by decide))
  refine lv_iconst (v := nI 0) hx hb dX2_start_54 (by decide) ?_
  refine lv_iload_n hx hb dX2_start_55 rfl (lv_at hl 1 rfl) ?_
  refine lv_iconst (v := nI 2) hx hb dX2_start_56 (by decide) ?_
  refine z_iand (v := nI 0) hx hb dX2_start_57 (by decide) ?_
  refine lv_if_eq (tgt := 65) hx hb dX2_start_58 (by decide) (fun _ => ?_) (fun c_x => absurd c_x (by decide))
  refine lv_iconst (v := nI 0) hx hb dX2_start_65 (by decide) ?_
  refine z_callVi (As := [.int (nI 1), .int (nI 0), .int (nI 0)]) (rest := []) (wr := [(u3, .inl (cI, 16, .inl (fun z_ => nI ((up CW 0 ((sp_qo BR RP 0 0 0) * (sp_qo BR RP 1 0 0))) z_)))), (ua, .inl (cJ, 308, .inr (.inl (fun z_ => lN (WA z_))))), (ub, .inl (cJ, 308, .inr (.inl (fun z_ => lN (XB z_)))))]) ⟨hx, hb, hml, hown, hts⟩ (c_X2_quartersOf l dC dI cI cJ H.size u0 u1 u2 u3 ua ub BR RP rm 1 0 0 (by first | assumption | omega) (by first | assumption | omega) (by first | assumption | omega) (by first | assumption | omega) (by first | assumption | omega)) (cwV 3 hts gX2_start_X2_quartersOf rfl rfl rfl (by decide +kernel) ⟨Nat.le_of_ble_eq_true rfl, Nat.le_of_ble_eq_true rfl⟩) hA hK hP hD hS [0, 1, 2] [3, 4, 5] [3, 4, 5, 0, 1, 2] rfl rfl (by decide) (by decide) (by decide) nwA_ok hN (ci := 2) rfl rfl 0 rfl hl.1 (Nat.le_of_ble_eq_true rfl) ⟨Nat.le_refl _, Nat.le_refl _⟩ rfl rfl dX2_start_66 (fun (u : (Nat)) => [(u0, .inr (2, [.ref u1, .ref u2, .int (nI rm), .ref u3, .ref ua, .ref ub])), (u1, .inl (cI, 2, .inl (fun z_ => nI (BR z_)))), (u2, .inl (cI, 2, .inl (fun z_ => nI (RP z_)))), (u3, .inl (cI, 16, .inl (fun z_ => nI ((up CW 0 ((sp_qo BR RP 0 0 0) * (sp_qo BR RP 1 0 0))) z_)))), (ua, .inl (cJ, 308, .inr (.inl (fun z_ => lN (WA z_))))), (ub, .inl (cJ, 308, .inr (.inl (fun z_ => lN (XB z_)))))]) (fun u => rfl) (by decide) (fun r_66 u H locs hw hP hD hS => ?_)
  obtain ⟨rv_66, eu⟩ : ∃ z, z = u := ⟨_, rfl⟩
  subst eu
  have hP : va_P (dC, dI) vwCl [(u0, .inr (2, [.ref u1, .ref u2, .int (nI rm), .ref u3, .ref ua, .ref ub])), (u1, .inl (cI, 2, .inl (fun z_ => nI (BR z_)))), (u2, .inl (cI, 2, .inl (fun z_ => nI (RP z_)))), (u3, .inl (cI, 16, .inl (fun z_ => nI ((up CW 0 ((sp_qo BR RP 0 0 0) * (sp_qo BR RP 1 0 0))) z_)))), (ua, .inl (cJ, 308, .inr (.inl (fun z_ => lN (WA z_))))), (ub, .inl (cJ, 308, .inr (.inl (fun z_ => lN (XB z_)))))] H := hP
  have hD : va_D A [(u0, .inr (2, [.ref u1, .ref u2, .int (nI rm), .ref u3, .ref ua, .ref ub])), (u1, .inl (cI, 2, .inl (fun z_ => nI (BR z_)))), (u2, .inl (cI, 2, .inl (fun z_ => nI (RP z_)))), (u3, .inl (cI, 16, .inl (fun z_ => nI ((up CW 0 ((sp_qo BR RP 0 0 0) * (sp_qo BR RP 1 0 0))) z_)))), (ua, .inl (cJ, 308, .inr (.inl (fun z_ => lN (WA z_))))), (ub, .inl (cJ, 308, .inr (.inl (fun z_ => lN (XB z_)))))] := hD
  obtain ⟨er, p66_0⟩ := hw
  have p66_0 : rv_66 = sp_qo BR RP 1 0 0 := p66_0
  have er : r_66 = (nI rv_66) := er
  subst er
  subst p66_0
  refine lv_istore (lv' := [(4, .int (nI (sp_qo BR RP 1 0 0))), (3, .int (nI (sp_qo BR RP 0 0 1))), (2, .int (nI 1)), (1, .int (nI 0)), (0, .ref u0)]) hx hb dX2_start_69 hl (by decide) rfl (fun ls hl => ?_)
  refine lv_aload_n hx hb dX2_start_71 rfl (lv_at hl 4 rfl) ?_
  refine z_get (D := (dC, dI)) (ci := 2) (v := .ref u3) (C := RX2) (T := TX2) (N := 6) hx hb hts uX2 hown hK hP 0 rfl rfl 3 (by decide) w18 rfl rfl dX2_start_72 ?_
  refine lv_iload_n hx hb dX2_start_75 rfl (lv_at hl 3 rfl) ?_
  refine lv_iconst (v := nI 4) hx hb dX2_start_76 (by decide) ?_
  refine z_imul (v := (nI 0)) hx hb dX2_start_77 (by decide) ?_
  refine lv_iload_n hx hb dX2_start_78 rfl (lv_at hl 2 rfl) ?_
  refine z_iadd (v := (nI 1)) hx hb dX2_start_79 (by decide) ?_
  refine lv_iload_n hx hb dX2_start_80 rfl (lv_at hl 1 rfl) ?_
  refine lv_iload hx hb dX2_start_81 (lv_at hl 0 rfl) ?_
  refine z_imul (v := (nI ((sp_qo BR RP 0 0 1) * (sp_qo BR RP 1 0 0)))) hx hb dX2_start_83 (pk_mul _ _) ?_
  refine z_iast hx hb hK hP hD hS 3 0 rfl rfl 1 rfl (by omega) (upd_N (up CW 0 ((sp_qo BR RP 0 0 0) * (sp_qo BR RP 1 0 0))) 1 ((sp_qo BR RP 0 0 1) * (sp_qo BR RP 1 0 0))) [(u0, .inr (2, [.ref u1, .ref u2, .int (nI rm), .ref u3, .ref ua, .ref ub])), (u1, .inl (cI, 2, .inl (fun z_ => nI (BR z_)))), (u2, .inl (cI, 2, .inl (fun z_ => nI (RP z_)))), (u3, .inl (cI, 16, .inl (fun z_ => nI ((up (up CW 0 ((sp_qo BR RP 0 0 0) * (sp_qo BR RP 1 0 0))) 1 ((sp_qo BR RP 0 0 1) * (sp_qo BR RP 1 0 0))) z_)))), (ua, .inl (cJ, 308, .inr (.inl (fun z_ => lN (WA z_))))), (ub, .inl (cJ, 308, .inr (.inl (fun z_ => lN (XB z_)))))] rfl dX2_start_84 (fun H locs hP hD hS => ?_)
  refine lv_iinc (v := (nI 2)) (lv' := [(2, .int (nI 2)), (4, .int (nI (sp_qo BR RP 1 0 0))), (3, .int (nI (sp_qo BR RP 0 0 1))), (1, .int (nI 0)), (0, .ref u0)]) hx hb dX2_start_85 hl (k := 2) rfl (by decide) (by decide) rfl (fun ls hl => ?_)
  refine lv_goto (tgt := 9) hx hb dX2_start_88 (by decide) ?_
  refine lv_iload_n hx hb dX2_start_9 rfl (lv_at hl 0 rfl) ?_
  refine lv_iconst (v := nI 4) hx hb dX2_start_10 (by decide) ?_
  refine lv_icmp_ge (tgt := 91) hx hb dX2_start_11 (by decide) (fun c_x => absurd c_x (by decide)) (fun _ => ?_)
  refine lv_aload_n hx hb dX2_start_14 rfl (lv_at hl 4 rfl) ?_
  refine lv_iconst (v := nI 0) hx hb dX2_start_15 (by decide) ?_
  refine lv_iload_n hx hb dX2_start_16 rfl (lv_at hl 3 rfl) ?_
  refine lv_iconst (v := nI 1) hx hb dX2_start_17 (by decide) ?_
  refine z_iand (v := nI 0) hx hb dX2_start_18 (by decide) ?_
  refine lv_if_eq (tgt := 26) hx hb dX2_start_19 (by decide) (fun _ => ?_) (fun c_x => absurd c_x (by decide))
  refine lv_iconst (v := nI 0) hx hb dX2_start_26 (by decide) ?_
  refine lv_iload_n hx hb dX2_start_27 rfl (lv_at hl 0 rfl) ?_
  refine lv_iconst (v := nI 1) hx hb dX2_start_28 (by decide) ?_
  refine z_iand (v := nI 0) hx hb dX2_start_29 (by decide) ?_
  refine lv_if_eq (tgt := 37) hx hb dX2_start_30 (by decide) (fun _ => ?_) (fun c_x => absurd c_x (by decide))
  refine lv_iconst (v := nI 0) hx hb dX2_start_37 (by decide) ?_
  refine z_callVi (As := [.int (nI 0), .int (nI 0), .int (nI 0)]) (rest := []) (wr := [(u3, .inl (cI, 16, .inl (fun z_ => nI ((up (up CW 0 ((sp_qo BR RP 0 0 0) * (sp_qo BR RP 1 0 0))) 1 ((sp_qo BR RP 0 0 1) * (sp_qo BR RP 1 0 0))) z_)))), (ua, .inl (cJ, 308, .inr (.inl (fun z_ => lN (WA z_))))), (ub, .inl (cJ, 308, .inr (.inl (fun z_ => lN (XB z_)))))]) ⟨hx, hb, hml, hown, hts⟩ (c_X2_quartersOf l dC dI cI cJ H.size u0 u1 u2 u3 ua ub BR RP rm 0 0 0 (by first | assumption | omega) (by first | assumption | omega) (by first | assumption | omega) (by first | assumption | omega) (by first | assumption | omega)) (cwV 3 hts gX2_start_X2_quartersOf rfl rfl rfl (by decide +kernel) ⟨Nat.le_of_ble_eq_true rfl, Nat.le_of_ble_eq_true rfl⟩) hA hK hP hD hS [0, 1, 2] [3, 4, 5] [3, 4, 5, 0, 1, 2] rfl rfl (by decide) (by decide) (by decide) nwA_ok hN (ci := 2) rfl rfl 0 rfl hl.1 (Nat.le_of_ble_eq_true rfl) ⟨Nat.le_refl _, Nat.le_refl _⟩ rfl rfl dX2_start_38 (fun (u : (Nat)) => [(u0, .inr (2, [.ref u1, .ref u2, .int (nI rm), .ref u3, .ref ua, .ref ub])), (u1, .inl (cI, 2, .inl (fun z_ => nI (BR z_)))), (u2, .inl (cI, 2, .inl (fun z_ => nI (RP z_)))), (u3, .inl (cI, 16, .inl (fun z_ => nI ((up (up CW 0 ((sp_qo BR RP 0 0 0) * (sp_qo BR RP 1 0 0))) 1 ((sp_qo BR RP 0 0 1) * (sp_qo BR RP 1 0 0))) z_)))), (ua, .inl (cJ, 308, .inr (.inl (fun z_ => lN (WA z_))))), (ub, .inl (cJ, 308, .inr (.inl (fun z_ => lN (XB z_)))))]) (fun u => rfl) (by decide) (fun r_38 u H locs hw hP hD hS => ?_)
  obtain ⟨rv_38, eu⟩ : ∃ z, z = u := ⟨_, rfl⟩
  subst eu
  have hP : va_P (dC, dI) vwCl [(u0, .inr (2, [.ref u1, .ref u2, .int (nI rm), .ref u3, .ref ua, .ref ub])), (u1, .inl (cI, 2, .inl (fun z_ => nI (BR z_)))), (u2, .inl (cI, 2, .inl (fun z_ => nI (RP z_)))), (u3, .inl (cI, 16, .inl (fun z_ => nI ((up (up CW 0 ((sp_qo BR RP 0 0 0) * (sp_qo BR RP 1 0 0))) 1 ((sp_qo BR RP 0 0 1) * (sp_qo BR RP 1 0 0))) z_)))), (ua, .inl (cJ, 308, .inr (.inl (fun z_ => lN (WA z_))))), (ub, .inl (cJ, 308, .inr (.inl (fun z_ => lN (XB z_)))))] H := hP
  have hD : va_D A [(u0, .inr (2, [.ref u1, .ref u2, .int (nI rm), .ref u3, .ref ua, .ref ub])), (u1, .inl (cI, 2, .inl (fun z_ => nI (BR z_)))), (u2, .inl (cI, 2, .inl (fun z_ => nI (RP z_)))), (u3, .inl (cI, 16, .inl (fun z_ => nI ((up (up CW 0 ((sp_qo BR RP 0 0 0) * (sp_qo BR RP 1 0 0))) 1 ((sp_qo BR RP 0 0 1) * (sp_qo BR RP 1 0 0))) z_)))), (ua, .inl (cJ, 308, .inr (.inl (fun z_ => lN (WA z_))))), (ub, .inl (cJ, 308, .inr (.inl (fun z_ => lN (XB z_)))))] := hD
  obtain ⟨er, p38_0⟩ := hw
  have p38_0 : rv_38 = sp_qo BR RP 0 0 0 := p38_0
  have er : r_38 = (nI rv_38) := er
  subst er
  subst p38_0
  refine lv_istore_n (lv' := [(3, .int (nI (sp_qo BR RP 0 0 0))), (2, .int (nI 2)), (4, .int (nI (sp_qo BR RP 1 0 0))), (1, .int (nI 0)), (0, .ref u0)]) hx hb dX2_start_41 rfl hl (by decide) rfl (fun ls hl => ?_)
  refine lv_aload_n hx hb dX2_start_42 rfl (lv_at hl 4 rfl) ?_
  refine lv_iconst (v := nI 1) hx hb dX2_start_43 (by decide) ?_
  refine lv_iload_n hx hb dX2_start_44 rfl (lv_at hl 3 rfl) ?_
  refine lv_iconst (v := nI 2) hx hb dX2_start_45 (by decide) ?_
  refine z_iand (v := nI 0) hx hb dX2_start_46 (by decide) ?_
  refine lv_if_eq (tgt := 54) hx hb dX2_start_47 (by decide) (fun _ => ?_) (fun c_x => absurd c_x (by decide))
  refine lv_iconst (v := nI 0) hx hb dX2_start_54 (by decide) ?_
  refine lv_iload_n hx hb dX2_start_55 rfl (lv_at hl 1 rfl) ?_
  refine lv_iconst (v := nI 2) hx hb dX2_start_56 (by decide) ?_
  refine z_iand (v := nI 2) hx hb dX2_start_57 (by decide) ?_
  refine lv_if_eq (tgt := 65) hx hb dX2_start_58 (by decide) (fun c_x => absurd c_x (by decide)) (fun _ => ?_)
  refine lv_iconst (v := nI 1) hx hb dX2_start_61 (by decide) ?_
  refine lv_goto (tgt := 66) hx hb dX2_start_62 (by decide) ?_
  refine z_callVi (As := [.int (nI 1), .int (nI 0), .int (nI 1)]) (rest := []) (wr := [(u3, .inl (cI, 16, .inl (fun z_ => nI ((up (up CW 0 ((sp_qo BR RP 0 0 0) * (sp_qo BR RP 1 0 0))) 1 ((sp_qo BR RP 0 0 1) * (sp_qo BR RP 1 0 0))) z_)))), (ua, .inl (cJ, 308, .inr (.inl (fun z_ => lN (WA z_))))), (ub, .inl (cJ, 308, .inr (.inl (fun z_ => lN (XB z_)))))]) ⟨hx, hb, hml, hown, hts⟩ (c_X2_quartersOf l dC dI cI cJ H.size u0 u1 u2 u3 ua ub BR RP rm 1 0 1 (by first | assumption | omega) (by first | assumption | omega) (by first | assumption | omega) (by first | assumption | omega) (by first | assumption | omega)) (cwV 3 hts gX2_start_X2_quartersOf rfl rfl rfl (by decide +kernel) ⟨Nat.le_of_ble_eq_true rfl, Nat.le_of_ble_eq_true rfl⟩) hA hK hP hD hS [0, 1, 2] [3, 4, 5] [3, 4, 5, 0, 1, 2] rfl rfl (by decide) (by decide) (by decide) nwA_ok hN (ci := 2) rfl rfl 0 rfl hl.1 (Nat.le_of_ble_eq_true rfl) ⟨Nat.le_refl _, Nat.le_refl _⟩ rfl rfl dX2_start_66 (fun (u : (Nat)) => [(u0, .inr (2, [.ref u1, .ref u2, .int (nI rm), .ref u3, .ref ua, .ref ub])), (u1, .inl (cI, 2, .inl (fun z_ => nI (BR z_)))), (u2, .inl (cI, 2, .inl (fun z_ => nI (RP z_)))), (u3, .inl (cI, 16, .inl (fun z_ => nI ((up (up CW 0 ((sp_qo BR RP 0 0 0) * (sp_qo BR RP 1 0 0))) 1 ((sp_qo BR RP 0 0 1) * (sp_qo BR RP 1 0 0))) z_)))), (ua, .inl (cJ, 308, .inr (.inl (fun z_ => lN (WA z_))))), (ub, .inl (cJ, 308, .inr (.inl (fun z_ => lN (XB z_)))))]) (fun u => rfl) (by decide) (fun r_66 u H locs hw hP hD hS => ?_)
  obtain ⟨rv_66, eu⟩ : ∃ z, z = u := ⟨_, rfl⟩
  subst eu
  have hP : va_P (dC, dI) vwCl [(u0, .inr (2, [.ref u1, .ref u2, .int (nI rm), .ref u3, .ref ua, .ref ub])), (u1, .inl (cI, 2, .inl (fun z_ => nI (BR z_)))), (u2, .inl (cI, 2, .inl (fun z_ => nI (RP z_)))), (u3, .inl (cI, 16, .inl (fun z_ => nI ((up (up CW 0 ((sp_qo BR RP 0 0 0) * (sp_qo BR RP 1 0 0))) 1 ((sp_qo BR RP 0 0 1) * (sp_qo BR RP 1 0 0))) z_)))), (ua, .inl (cJ, 308, .inr (.inl (fun z_ => lN (WA z_))))), (ub, .inl (cJ, 308, .inr (.inl (fun z_ => lN (XB z_)))))] H := hP
  have hD : va_D A [(u0, .inr (2, [.ref u1, .ref u2, .int (nI rm), .ref u3, .ref ua, .ref ub])), (u1, .inl (cI, 2, .inl (fun z_ => nI (BR z_)))), (u2, .inl (cI, 2, .inl (fun z_ => nI (RP z_)))), (u3, .inl (cI, 16, .inl (fun z_ => nI ((up (up CW 0 ((sp_qo BR RP 0 0 0) * (sp_qo BR RP 1 0 0))) 1 ((sp_qo BR RP 0 0 1) * (sp_qo BR RP 1 0 0))) z_)))), (ua, .inl (cJ, 308, .inr (.inl (fun z_ => lN (WA z_))))), (ub, .inl (cJ, 308, .inr (.inl (fun z_ => lN (XB z_)))))] := hD
  obtain ⟨er, p66_0⟩ := hw
  have p66_0 : rv_66 = sp_qo BR RP 1 0 1 := p66_0
  have er : r_66 = (nI rv_66) := er
  subst er
  subst p66_0
  refine lv_istore (lv' := [(4, .int (nI (sp_qo BR RP 1 0 1))), (3, .int (nI (sp_qo BR RP 0 0 0))), (2, .int (nI 2)), (1, .int (nI 0)), (0, .ref u0)]) hx hb dX2_start_69 hl (by decide) rfl (fun ls hl => ?_)
  refine lv_aload_n hx hb dX2_start_71 rfl (lv_at hl 4 rfl) ?_
  refine z_get (D := (dC, dI)) (ci := 2) (v := .ref u3) (C := RX2) (T := TX2) (N := 6) hx hb hts uX2 hown hK hP 0 rfl rfl 3 (by decide) w18 rfl rfl dX2_start_72 ?_
  refine lv_iload_n hx hb dX2_start_75 rfl (lv_at hl 3 rfl) ?_
  refine lv_iconst (v := nI 4) hx hb dX2_start_76 (by decide) ?_
  refine z_imul (v := (nI 0)) hx hb dX2_start_77 (by decide) ?_
  refine lv_iload_n hx hb dX2_start_78 rfl (lv_at hl 2 rfl) ?_
  refine z_iadd (v := (nI 2)) hx hb dX2_start_79 (by decide) ?_
  refine lv_iload_n hx hb dX2_start_80 rfl (lv_at hl 1 rfl) ?_
  refine lv_iload hx hb dX2_start_81 (lv_at hl 0 rfl) ?_
  refine z_imul (v := (nI ((sp_qo BR RP 0 0 0) * (sp_qo BR RP 1 0 1)))) hx hb dX2_start_83 (pk_mul _ _) ?_
  refine z_iast hx hb hK hP hD hS 3 0 rfl rfl 2 rfl (by omega) (upd_N (up (up CW 0 ((sp_qo BR RP 0 0 0) * (sp_qo BR RP 1 0 0))) 1 ((sp_qo BR RP 0 0 1) * (sp_qo BR RP 1 0 0))) 2 ((sp_qo BR RP 0 0 0) * (sp_qo BR RP 1 0 1))) [(u0, .inr (2, [.ref u1, .ref u2, .int (nI rm), .ref u3, .ref ua, .ref ub])), (u1, .inl (cI, 2, .inl (fun z_ => nI (BR z_)))), (u2, .inl (cI, 2, .inl (fun z_ => nI (RP z_)))), (u3, .inl (cI, 16, .inl (fun z_ => nI ((up (up (up CW 0 ((sp_qo BR RP 0 0 0) * (sp_qo BR RP 1 0 0))) 1 ((sp_qo BR RP 0 0 1) * (sp_qo BR RP 1 0 0))) 2 ((sp_qo BR RP 0 0 0) * (sp_qo BR RP 1 0 1))) z_)))), (ua, .inl (cJ, 308, .inr (.inl (fun z_ => lN (WA z_))))), (ub, .inl (cJ, 308, .inr (.inl (fun z_ => lN (XB z_)))))] rfl dX2_start_84 (fun H locs hP hD hS => ?_)
  refine lv_iinc (v := (nI 3)) (lv' := [(2, .int (nI 3)), (4, .int (nI (sp_qo BR RP 1 0 1))), (3, .int (nI (sp_qo BR RP 0 0 0))), (1, .int (nI 0)), (0, .ref u0)]) hx hb dX2_start_85 hl (k := 2) rfl (by decide) (by decide) rfl (fun ls hl => ?_)
  refine lv_goto (tgt := 9) hx hb dX2_start_88 (by decide) ?_
  refine lv_iload_n hx hb dX2_start_9 rfl (lv_at hl 0 rfl) ?_
  refine lv_iconst (v := nI 4) hx hb dX2_start_10 (by decide) ?_
  refine lv_icmp_ge (tgt := 91) hx hb dX2_start_11 (by decide) (fun c_x => absurd c_x (by decide)) (fun _ => ?_)
  refine lv_aload_n hx hb dX2_start_14 rfl (lv_at hl 4 rfl) ?_
  refine lv_iconst (v := nI 0) hx hb dX2_start_15 (by decide) ?_
  refine lv_iload_n hx hb dX2_start_16 rfl (lv_at hl 3 rfl) ?_
  refine lv_iconst (v := nI 1) hx hb dX2_start_17 (by decide) ?_
  refine z_iand (v := nI 0) hx hb dX2_start_18 (by decide) ?_
  refine lv_if_eq (tgt := 26) hx hb dX2_start_19 (by decide) (fun _ => ?_) (fun c_x => absurd c_x (by decide))
  refine lv_iconst (v := nI 0) hx hb dX2_start_26 (by decide) ?_
  refine lv_iload_n hx hb dX2_start_27 rfl (lv_at hl 0 rfl) ?_
  refine lv_iconst (v := nI 1) hx hb dX2_start_28 (by decide) ?_
  refine z_iand (v := nI 1) hx hb dX2_start_29 (by decide) ?_
  refine lv_if_eq (tgt := 37) hx hb dX2_start_30 (by decide) (fun c_x => absurd c_x (by decide)) (fun _ => ?_)
  refine lv_iconst (v := nI 1) hx hb dX2_start_33 (by decide) ?_
  refine lv_goto (tgt := 38) hx hb dX2_start_34 (by decide) ?_
  refine z_callVi (As := [.int (nI 0), .int (nI 0), .int (nI 1)]) (rest := []) (wr := [(u3, .inl (cI, 16, .inl (fun z_ => nI ((up (up (up CW 0 ((sp_qo BR RP 0 0 0) * (sp_qo BR RP 1 0 0))) 1 ((sp_qo BR RP 0 0 1) * (sp_qo BR RP 1 0 0))) 2 ((sp_qo BR RP 0 0 0) * (sp_qo BR RP 1 0 1))) z_)))), (ua, .inl (cJ, 308, .inr (.inl (fun z_ => lN (WA z_))))), (ub, .inl (cJ, 308, .inr (.inl (fun z_ => lN (XB z_)))))]) ⟨hx, hb, hml, hown, hts⟩ (c_X2_quartersOf l dC dI cI cJ H.size u0 u1 u2 u3 ua ub BR RP rm 0 0 1 (by first | assumption | omega) (by first | assumption | omega) (by first | assumption | omega) (by first | assumption | omega) (by first | assumption | omega)) (cwV 3 hts gX2_start_X2_quartersOf rfl rfl rfl (by decide +kernel) ⟨Nat.le_of_ble_eq_true rfl, Nat.le_of_ble_eq_true rfl⟩) hA hK hP hD hS [0, 1, 2] [3, 4, 5] [3, 4, 5, 0, 1, 2] rfl rfl (by decide) (by decide) (by decide) nwA_ok hN (ci := 2) rfl rfl 0 rfl hl.1 (Nat.le_of_ble_eq_true rfl) ⟨Nat.le_refl _, Nat.le_refl _⟩ rfl rfl dX2_start_38 (fun (u : (Nat)) => [(u0, .inr (2, [.ref u1, .ref u2, .int (nI rm), .ref u3, .ref ua, .ref ub])), (u1, .inl (cI, 2, .inl (fun z_ => nI (BR z_)))), (u2, .inl (cI, 2, .inl (fun z_ => nI (RP z_)))), (u3, .inl (cI, 16, .inl (fun z_ => nI ((up (up (up CW 0 ((sp_qo BR RP 0 0 0) * (sp_qo BR RP 1 0 0))) 1 ((sp_qo BR RP 0 0 1) * (sp_qo BR RP 1 0 0))) 2 ((sp_qo BR RP 0 0 0) * (sp_qo BR RP 1 0 1))) z_)))), (ua, .inl (cJ, 308, .inr (.inl (fun z_ => lN (WA z_))))), (ub, .inl (cJ, 308, .inr (.inl (fun z_ => lN (XB z_)))))]) (fun u => rfl) (by decide) (fun r_38 u H locs hw hP hD hS => ?_)
  obtain ⟨rv_38, eu⟩ : ∃ z, z = u := ⟨_, rfl⟩
  subst eu
  have hP : va_P (dC, dI) vwCl [(u0, .inr (2, [.ref u1, .ref u2, .int (nI rm), .ref u3, .ref ua, .ref ub])), (u1, .inl (cI, 2, .inl (fun z_ => nI (BR z_)))), (u2, .inl (cI, 2, .inl (fun z_ => nI (RP z_)))), (u3, .inl (cI, 16, .inl (fun z_ => nI ((up (up (up CW 0 ((sp_qo BR RP 0 0 0) * (sp_qo BR RP 1 0 0))) 1 ((sp_qo BR RP 0 0 1) * (sp_qo BR RP 1 0 0))) 2 ((sp_qo BR RP 0 0 0) * (sp_qo BR RP 1 0 1))) z_)))), (ua, .inl (cJ, 308, .inr (.inl (fun z_ => lN (WA z_))))), (ub, .inl (cJ, 308, .inr (.inl (fun z_ => lN (XB z_)))))] H := hP
  have hD : va_D A [(u0, .inr (2, [.ref u1, .ref u2, .int (nI rm), .ref u3, .ref ua, .ref ub])), (u1, .inl (cI, 2, .inl (fun z_ => nI (BR z_)))), (u2, .inl (cI, 2, .inl (fun z_ => nI (RP z_)))), (u3, .inl (cI, 16, .inl (fun z_ => nI ((up (up (up CW 0 ((sp_qo BR RP 0 0 0) * (sp_qo BR RP 1 0 0))) 1 ((sp_qo BR RP 0 0 1) * (sp_qo BR RP 1 0 0))) 2 ((sp_qo BR RP 0 0 0) * (sp_qo BR RP 1 0 1))) z_)))), (ua, .inl (cJ, 308, .inr (.inl (fun z_ => lN (WA z_))))), (ub, .inl (cJ, 308, .inr (.inl (fun z_ => lN (XB z_)))))] := hD
  obtain ⟨er, p38_0⟩ := hw
  have p38_0 : rv_38 = sp_qo BR RP 0 0 1 := p38_0
  have er : r_38 = (nI rv_38) := er
  subst er
  subst p38_0
  refine lv_istore_n (lv' := [(3, .int (nI (sp_qo BR RP 0 0 1))), (2, .int (nI 3)), (4, .int (nI (sp_qo BR RP 1 0 1))), (1, .int (nI 0)), (0, .ref u0)]) hx hb dX2_start_41 rfl hl (by decide) rfl (fun ls hl => ?_)
  refine lv_aload_n hx hb dX2_start_42 rfl (lv_at hl 4 rfl) ?_
  refine lv_iconst (v := nI 1) hx hb dX2_start_43 (by decide) ?_
  refine lv_iload_n hx hb dX2_start_44 rfl (lv_at hl 3 rfl) ?_
  refine lv_iconst (v := nI 2) hx hb dX2_start_45 (by decide) ?_
  refine z_iand (v := nI 0) hx hb dX2_start_46 (by decide) ?_
  refine lv_if_eq (tgt := 54) hx hb dX2_start_47 (by decide) (fun _ => ?_) (fun c_x => absurd c_x (by decide))
  refine lv_iconst (v := nI 0) hx hb dX2_start_54 (by decide) ?_
  refine lv_iload_n hx hb dX2_start_55 rfl (lv_at hl 1 rfl) ?_
  refine lv_iconst (v := nI 2) hx hb dX2_start_56 (by decide) ?_
  refine z_iand (v := nI 2) hx hb dX2_start_57 (by decide) ?_
  refine lv_if_eq (tgt := 65) hx hb dX2_start_58 (by decide) (fun c_x => absurd c_x (by decide)) (fun _ => ?_)
  refine lv_iconst (v := nI 1) hx hb dX2_start_61 (by decide) ?_
  refine lv_goto (tgt := 66) hx hb dX2_start_62 (by decide) ?_
  refine z_callVi (As := [.int (nI 1), .int (nI 0), .int (nI 1)]) (rest := []) (wr := [(u3, .inl (cI, 16, .inl (fun z_ => nI ((up (up (up CW 0 ((sp_qo BR RP 0 0 0) * (sp_qo BR RP 1 0 0))) 1 ((sp_qo BR RP 0 0 1) * (sp_qo BR RP 1 0 0))) 2 ((sp_qo BR RP 0 0 0) * (sp_qo BR RP 1 0 1))) z_)))), (ua, .inl (cJ, 308, .inr (.inl (fun z_ => lN (WA z_))))), (ub, .inl (cJ, 308, .inr (.inl (fun z_ => lN (XB z_)))))]) ⟨hx, hb, hml, hown, hts⟩ (c_X2_quartersOf l dC dI cI cJ H.size u0 u1 u2 u3 ua ub BR RP rm 1 0 1 (by first | assumption | omega) (by first | assumption | omega) (by first | assumption | omega) (by first | assumption | omega) (by first | assumption | omega)) (cwV 3 hts gX2_start_X2_quartersOf rfl rfl rfl (by decide +kernel) ⟨Nat.le_of_ble_eq_true rfl, Nat.le_of_ble_eq_true rfl⟩) hA hK hP hD hS [0, 1, 2] [3, 4, 5] [3, 4, 5, 0, 1, 2] rfl rfl (by decide) (by decide) (by decide) nwA_ok hN (ci := 2) rfl rfl 0 rfl hl.1 (Nat.le_of_ble_eq_true rfl) ⟨Nat.le_refl _, Nat.le_refl _⟩ rfl rfl dX2_start_66 (fun (u : (Nat)) => [(u0, .inr (2, [.ref u1, .ref u2, .int (nI rm), .ref u3, .ref ua, .ref ub])), (u1, .inl (cI, 2, .inl (fun z_ => nI (BR z_)))), (u2, .inl (cI, 2, .inl (fun z_ => nI (RP z_)))), (u3, .inl (cI, 16, .inl (fun z_ => nI ((up (up (up CW 0 ((sp_qo BR RP 0 0 0) * (sp_qo BR RP 1 0 0))) 1 ((sp_qo BR RP 0 0 1) * (sp_qo BR RP 1 0 0))) 2 ((sp_qo BR RP 0 0 0) * (sp_qo BR RP 1 0 1))) z_)))), (ua, .inl (cJ, 308, .inr (.inl (fun z_ => lN (WA z_))))), (ub, .inl (cJ, 308, .inr (.inl (fun z_ => lN (XB z_)))))]) (fun u => rfl) (by decide) (fun r_66 u H locs hw hP hD hS => ?_)
  obtain ⟨rv_66, eu⟩ : ∃ z, z = u := ⟨_, rfl⟩
  subst eu
  have hP : va_P (dC, dI) vwCl [(u0, .inr (2, [.ref u1, .ref u2, .int (nI rm), .ref u3, .ref ua, .ref ub])), (u1, .inl (cI, 2, .inl (fun z_ => nI (BR z_)))), (u2, .inl (cI, 2, .inl (fun z_ => nI (RP z_)))), (u3, .inl (cI, 16, .inl (fun z_ => nI ((up (up (up CW 0 ((sp_qo BR RP 0 0 0) * (sp_qo BR RP 1 0 0))) 1 ((sp_qo BR RP 0 0 1) * (sp_qo BR RP 1 0 0))) 2 ((sp_qo BR RP 0 0 0) * (sp_qo BR RP 1 0 1))) z_)))), (ua, .inl (cJ, 308, .inr (.inl (fun z_ => lN (WA z_))))), (ub, .inl (cJ, 308, .inr (.inl (fun z_ => lN (XB z_)))))] H := hP
  have hD : va_D A [(u0, .inr (2, [.ref u1, .ref u2, .int (nI rm), .ref u3, .ref ua, .ref ub])), (u1, .inl (cI, 2, .inl (fun z_ => nI (BR z_)))), (u2, .inl (cI, 2, .inl (fun z_ => nI (RP z_)))), (u3, .inl (cI, 16, .inl (fun z_ => nI ((up (up (up CW 0 ((sp_qo BR RP 0 0 0) * (sp_qo BR RP 1 0 0))) 1 ((sp_qo BR RP 0 0 1) * (sp_qo BR RP 1 0 0))) 2 ((sp_qo BR RP 0 0 0) * (sp_qo BR RP 1 0 1))) z_)))), (ua, .inl (cJ, 308, .inr (.inl (fun z_ => lN (WA z_))))), (ub, .inl (cJ, 308, .inr (.inl (fun z_ => lN (XB z_)))))] := hD
  obtain ⟨er, p66_0⟩ := hw
  have p66_0 : rv_66 = sp_qo BR RP 1 0 1 := p66_0
  have er : r_66 = (nI rv_66) := er
  subst er
  subst p66_0
  refine lv_istore (lv' := [(4, .int (nI (sp_qo BR RP 1 0 1))), (3, .int (nI (sp_qo BR RP 0 0 1))), (2, .int (nI 3)), (1, .int (nI 0)), (0, .ref u0)]) hx hb dX2_start_69 hl (by decide) rfl (fun ls hl => ?_)
  refine lv_aload_n hx hb dX2_start_71 rfl (lv_at hl 4 rfl) ?_
  refine z_get (D := (dC, dI)) (ci := 2) (v := .ref u3) (C := RX2) (T := TX2) (N := 6) hx hb hts uX2 hown hK hP 0 rfl rfl 3 (by decide) w18 rfl rfl dX2_start_72 ?_
  refine lv_iload_n hx hb dX2_start_75 rfl (lv_at hl 3 rfl) ?_
  refine lv_iconst (v := nI 4) hx hb dX2_start_76 (by decide) ?_
  refine z_imul (v := (nI 0)) hx hb dX2_start_77 (by decide) ?_
  refine lv_iload_n hx hb dX2_start_78 rfl (lv_at hl 2 rfl) ?_
  refine z_iadd (v := (nI 3)) hx hb dX2_start_79 (by decide) ?_
  refine lv_iload_n hx hb dX2_start_80 rfl (lv_at hl 1 rfl) ?_
  refine lv_iload hx hb dX2_start_81 (lv_at hl 0 rfl) ?_
  refine z_imul (v := (nI ((sp_qo BR RP 0 0 1) * (sp_qo BR RP 1 0 1)))) hx hb dX2_start_83 (pk_mul _ _) ?_
  refine z_iast hx hb hK hP hD hS 3 0 rfl rfl 3 rfl (by omega) (upd_N (up (up (up CW 0 ((sp_qo BR RP 0 0 0) * (sp_qo BR RP 1 0 0))) 1 ((sp_qo BR RP 0 0 1) * (sp_qo BR RP 1 0 0))) 2 ((sp_qo BR RP 0 0 0) * (sp_qo BR RP 1 0 1))) 3 ((sp_qo BR RP 0 0 1) * (sp_qo BR RP 1 0 1))) [(u0, .inr (2, [.ref u1, .ref u2, .int (nI rm), .ref u3, .ref ua, .ref ub])), (u1, .inl (cI, 2, .inl (fun z_ => nI (BR z_)))), (u2, .inl (cI, 2, .inl (fun z_ => nI (RP z_)))), (u3, .inl (cI, 16, .inl (fun z_ => nI ((up (up (up (up CW 0 ((sp_qo BR RP 0 0 0) * (sp_qo BR RP 1 0 0))) 1 ((sp_qo BR RP 0 0 1) * (sp_qo BR RP 1 0 0))) 2 ((sp_qo BR RP 0 0 0) * (sp_qo BR RP 1 0 1))) 3 ((sp_qo BR RP 0 0 1) * (sp_qo BR RP 1 0 1))) z_)))), (ua, .inl (cJ, 308, .inr (.inl (fun z_ => lN (WA z_))))), (ub, .inl (cJ, 308, .inr (.inl (fun z_ => lN (XB z_)))))] rfl dX2_start_84 (fun H locs hP hD hS => ?_)
  refine lv_iinc (v := (nI 4)) (lv' := [(2, .int (nI 4)), (4, .int (nI (sp_qo BR RP 1 0 1))), (3, .int (nI (sp_qo BR RP 0 0 1))), (1, .int (nI 0)), (0, .ref u0)]) hx hb dX2_start_85 hl (k := 2) rfl (by decide) (by decide) rfl (fun ls hl => ?_)
  refine lv_goto (tgt := 9) hx hb dX2_start_88 (by decide) ?_
  refine lv_iload_n hx hb dX2_start_9 rfl (lv_at hl 0 rfl) ?_
  refine lv_iconst (v := nI 4) hx hb dX2_start_10 (by decide) ?_
  refine lv_icmp_ge (tgt := 91) hx hb dX2_start_11 (by decide) (fun _ => ?_) (fun c_x => absurd c_x (by decide))
  refine lv_iinc (v := (nI 1)) (lv' := [(1, .int (nI 1)), (2, .int (nI 4)), (4, .int (nI (sp_qo BR RP 1 0 1))), (3, .int (nI (sp_qo BR RP 0 0 1))), (0, .ref u0)]) hx hb dX2_start_91 hl (k := 3) rfl (by decide) (by decide) rfl (fun ls hl => ?_)
  refine lv_goto (tgt := 2) hx hb dX2_start_94 (by decide) ?_
  refine lv_iload_n hx hb dX2_start_2 rfl (lv_at hl 0 rfl) ?_
  refine lv_iconst (v := nI 4) hx hb dX2_start_3 (by decide) ?_
  refine lv_icmp_ge (tgt := 97) hx hb dX2_start_4 (by decide) (fun c_x => absurd c_x (by decide)) (fun _ => ?_)
  refine lv_iconst (v := nI 0) hx hb dX2_start_7 (by decide) ?_
  refine lv_istore_n (lv' := [(2, .int (nI 0)), (1, .int (nI 1)), (4, .int (nI (sp_qo BR RP 1 0 1))), (3, .int (nI (sp_qo BR RP 0 0 1))), (0, .ref u0)]) hx hb dX2_start_8 rfl hl (by decide) rfl (fun ls hl => ?_)
  refine lv_iload_n hx hb dX2_start_9 rfl (lv_at hl 0 rfl) ?_
  refine lv_iconst (v := nI 4) hx hb dX2_start_10 (by decide) ?_
  refine lv_icmp_ge (tgt := 91) hx hb dX2_start_11 (by decide) (fun c_x => absurd c_x (by decide)) (fun _ => ?_)
  refine lv_aload_n hx hb dX2_start_14 rfl (lv_at hl 4 rfl) ?_
  refine lv_iconst (v := nI 0) hx hb dX2_start_15 (by decide) ?_
  refine lv_iload_n hx hb dX2_start_16 rfl (lv_at hl 1 rfl) ?_
  refine lv_iconst (v := nI 1) hx hb dX2_start_17 (by decide) ?_
  refine z_iand (v := nI 1) hx hb dX2_start_18 (by decide) ?_
  refine lv_if_eq (tgt := 26) hx hb dX2_start_19 (by decide) (fun c_x => absurd c_x (by decide)) (fun _ => ?_)
  refine lv_iconst (v := nI 1) hx hb dX2_start_22 (by decide) ?_
  refine lv_goto (tgt := 27) hx hb dX2_start_23 (by decide) ?_
  refine lv_iload_n hx hb dX2_start_27 rfl (lv_at hl 0 rfl) ?_
  refine lv_iconst (v := nI 1) hx hb dX2_start_28 (by decide) ?_
  refine z_iand (v := nI 0) hx hb dX2_start_29 (by decide) ?_
  refine lv_if_eq (tgt := 37) hx hb dX2_start_30 (by decide) (fun _ => ?_) (fun c_x => absurd c_x (by decide))
  refine lv_iconst (v := nI 0) hx hb dX2_start_37 (by decide) ?_
  refine z_callVi (As := [.int (nI 0), .int (nI 1), .int (nI 0)]) (rest := []) (wr := [(u3, .inl (cI, 16, .inl (fun z_ => nI ((up (up (up (up CW 0 ((sp_qo BR RP 0 0 0) * (sp_qo BR RP 1 0 0))) 1 ((sp_qo BR RP 0 0 1) * (sp_qo BR RP 1 0 0))) 2 ((sp_qo BR RP 0 0 0) * (sp_qo BR RP 1 0 1))) 3 ((sp_qo BR RP 0 0 1) * (sp_qo BR RP 1 0 1))) z_)))), (ua, .inl (cJ, 308, .inr (.inl (fun z_ => lN (WA z_))))), (ub, .inl (cJ, 308, .inr (.inl (fun z_ => lN (XB z_)))))]) ⟨hx, hb, hml, hown, hts⟩ (c_X2_quartersOf l dC dI cI cJ H.size u0 u1 u2 u3 ua ub BR RP rm 0 1 0 (by first | assumption | omega) (by first | assumption | omega) (by first | assumption | omega) (by first | assumption | omega) (by first | assumption | omega)) (cwV 3 hts gX2_start_X2_quartersOf rfl rfl rfl (by decide +kernel) ⟨Nat.le_of_ble_eq_true rfl, Nat.le_of_ble_eq_true rfl⟩) hA hK hP hD hS [0, 1, 2] [3, 4, 5] [3, 4, 5, 0, 1, 2] rfl rfl (by decide) (by decide) (by decide) nwA_ok hN (ci := 2) rfl rfl 0 rfl hl.1 (Nat.le_of_ble_eq_true rfl) ⟨Nat.le_refl _, Nat.le_refl _⟩ rfl rfl dX2_start_38 (fun (u : (Nat)) => [(u0, .inr (2, [.ref u1, .ref u2, .int (nI rm), .ref u3, .ref ua, .ref ub])), (u1, .inl (cI, 2, .inl (fun z_ => nI (BR z_)))), (u2, .inl (cI, 2, .inl (fun z_ => nI (RP z_)))), (u3, .inl (cI, 16, .inl (fun z_ => nI ((up (up (up (up CW 0 ((sp_qo BR RP 0 0 0) * (sp_qo BR RP 1 0 0))) 1 ((sp_qo BR RP 0 0 1) * (sp_qo BR RP 1 0 0))) 2 ((sp_qo BR RP 0 0 0) * (sp_qo BR RP 1 0 1))) 3 ((sp_qo BR RP 0 0 1) * (sp_qo BR RP 1 0 1))) z_)))), (ua, .inl (cJ, 308, .inr (.inl (fun z_ => lN (WA z_))))), (ub, .inl (cJ, 308, .inr (.inl (fun z_ => lN (XB z_)))))]) (fun u => rfl) (by decide) (fun r_38 u H locs hw hP hD hS => ?_)
  obtain ⟨rv_38, eu⟩ : ∃ z, z = u := ⟨_, rfl⟩
  subst eu
  have hP : va_P (dC, dI) vwCl [(u0, .inr (2, [.ref u1, .ref u2, .int (nI rm), .ref u3, .ref ua, .ref ub])), (u1, .inl (cI, 2, .inl (fun z_ => nI (BR z_)))), (u2, .inl (cI, 2, .inl (fun z_ => nI (RP z_)))), (u3, .inl (cI, 16, .inl (fun z_ => nI ((up (up (up (up CW 0 ((sp_qo BR RP 0 0 0) * (sp_qo BR RP 1 0 0))) 1 ((sp_qo BR RP 0 0 1) * (sp_qo BR RP 1 0 0))) 2 ((sp_qo BR RP 0 0 0) * (sp_qo BR RP 1 0 1))) 3 ((sp_qo BR RP 0 0 1) * (sp_qo BR RP 1 0 1))) z_)))), (ua, .inl (cJ, 308, .inr (.inl (fun z_ => lN (WA z_))))), (ub, .inl (cJ, 308, .inr (.inl (fun z_ => lN (XB z_)))))] H := hP
  have hD : va_D A [(u0, .inr (2, [.ref u1, .ref u2, .int (nI rm), .ref u3, .ref ua, .ref ub])), (u1, .inl (cI, 2, .inl (fun z_ => nI (BR z_)))), (u2, .inl (cI, 2, .inl (fun z_ => nI (RP z_)))), (u3, .inl (cI, 16, .inl (fun z_ => nI ((up (up (up (up CW 0 ((sp_qo BR RP 0 0 0) * (sp_qo BR RP 1 0 0))) 1 ((sp_qo BR RP 0 0 1) * (sp_qo BR RP 1 0 0))) 2 ((sp_qo BR RP 0 0 0) * (sp_qo BR RP 1 0 1))) 3 ((sp_qo BR RP 0 0 1) * (sp_qo BR RP 1 0 1))) z_)))), (ua, .inl (cJ, 308, .inr (.inl (fun z_ => lN (WA z_))))), (ub, .inl (cJ, 308, .inr (.inl (fun z_ => lN (XB z_)))))] := hD
  obtain ⟨er, p38_0⟩ := hw
  have p38_0 : rv_38 = sp_qo BR RP 0 1 0 := p38_0
  have er : r_38 = (nI rv_38) := er
  subst er
  subst p38_0
  refine lv_istore_n (lv' := [(3, .int (nI (sp_qo BR RP 0 1 0))), (2, .int (nI 0)), (1, .int (nI 1)), (4, .int (nI (sp_qo BR RP 1 0 1))), (0, .ref u0)]) hx hb dX2_start_41 rfl hl (by decide) rfl (fun ls hl => ?_)
  refine lv_aload_n hx hb dX2_start_42 rfl (lv_at hl 4 rfl) ?_
  refine lv_iconst (v := nI 1) hx hb dX2_start_43 (by decide) ?_
  refine lv_iload_n hx hb dX2_start_44 rfl (lv_at hl 2 rfl) ?_
  refine lv_iconst (v := nI 2) hx hb dX2_start_45 (by decide) ?_
  refine z_iand (v := nI 0) hx hb dX2_start_46 (by decide) ?_
  refine lv_if_eq (tgt := 54) hx hb dX2_start_47 (by decide) (fun _ => ?_) (fun c_x => absurd c_x (by decide))
  refine lv_iconst (v := nI 0) hx hb dX2_start_54 (by decide) ?_
  refine lv_iload_n hx hb dX2_start_55 rfl (lv_at hl 1 rfl) ?_
  refine lv_iconst (v := nI 2) hx hb dX2_start_56 (by decide) ?_
  refine z_iand (v := nI 0) hx hb dX2_start_57 (by decide) ?_
  refine lv_if_eq (tgt := 65) hx hb dX2_start_58 (by decide) (fun _ => ?_) (fun c_x => absurd c_x (by decide))
  refine lv_iconst (v := nI 0) hx hb dX2_start_65 (by decide) ?_
  refine z_callVi (As := [.int (nI 1), .int (nI 0), .int (nI 0)]) (rest := []) (wr := [(u3, .inl (cI, 16, .inl (fun z_ => nI ((up (up (up (up CW 0 ((sp_qo BR RP 0 0 0) * (sp_qo BR RP 1 0 0))) 1 ((sp_qo BR RP 0 0 1) * (sp_qo BR RP 1 0 0))) 2 ((sp_qo BR RP 0 0 0) * (sp_qo BR RP 1 0 1))) 3 ((sp_qo BR RP 0 0 1) * (sp_qo BR RP 1 0 1))) z_)))), (ua, .inl (cJ, 308, .inr (.inl (fun z_ => lN (WA z_))))), (ub, .inl (cJ, 308, .inr (.inl (fun z_ => lN (XB z_)))))]) ⟨hx, hb, hml, hown, hts⟩ (c_X2_quartersOf l dC dI cI cJ H.size u0 u1 u2 u3 ua ub BR RP rm 1 0 0 (by first | assumption | omega) (by first | assumption | omega) (by first | assumption | omega) (by first | assumption | omega) (by first | assumption | omega)) (cwV 3 hts gX2_start_X2_quartersOf rfl rfl rfl (by decide +kernel) ⟨Nat.le_of_ble_eq_true rfl, Nat.le_of_ble_eq_true rfl⟩) hA hK hP hD hS [0, 1, 2] [3, 4, 5] [3, 4, 5, 0, 1, 2] rfl rfl (by decide) (by decide) (by decide) nwA_ok hN (ci := 2) rfl rfl 0 rfl hl.1 (Nat.le_of_ble_eq_true rfl) ⟨Nat.le_refl _, Nat.le_refl _⟩ rfl rfl dX2_start_66 (fun (u : (Nat)) => [(u0, .inr (2, [.ref u1, .ref u2, .int (nI rm), .ref u3, .ref ua, .ref ub])), (u1, .inl (cI, 2, .inl (fun z_ => nI (BR z_)))), (u2, .inl (cI, 2, .inl (fun z_ => nI (RP z_)))), (u3, .inl (cI, 16, .inl (fun z_ => nI ((up (up (up (up CW 0 ((sp_qo BR RP 0 0 0) * (sp_qo BR RP 1 0 0))) 1 ((sp_qo BR RP 0 0 1) * (sp_qo BR RP 1 0 0))) 2 ((sp_qo BR RP 0 0 0) * (sp_qo BR RP 1 0 1))) 3 ((sp_qo BR RP 0 0 1) * (sp_qo BR RP 1 0 1))) z_)))), (ua, .inl (cJ, 308, .inr (.inl (fun z_ => lN (WA z_))))), (ub, .inl (cJ, 308, .inr (.inl (fun z_ => lN (XB z_)))))]) (fun u => rfl) (by decide) (fun r_66 u H locs hw hP hD hS => ?_)
  obtain ⟨rv_66, eu⟩ : ∃ z, z = u := ⟨_, rfl⟩
  subst eu
  have hP : va_P (dC, dI) vwCl [(u0, .inr (2, [.ref u1, .ref u2, .int (nI rm), .ref u3, .ref ua, .ref ub])), (u1, .inl (cI, 2, .inl (fun z_ => nI (BR z_)))), (u2, .inl (cI, 2, .inl (fun z_ => nI (RP z_)))), (u3, .inl (cI, 16, .inl (fun z_ => nI ((up (up (up (up CW 0 ((sp_qo BR RP 0 0 0) * (sp_qo BR RP 1 0 0))) 1 ((sp_qo BR RP 0 0 1) * (sp_qo BR RP 1 0 0))) 2 ((sp_qo BR RP 0 0 0) * (sp_qo BR RP 1 0 1))) 3 ((sp_qo BR RP 0 0 1) * (sp_qo BR RP 1 0 1))) z_)))), (ua, .inl (cJ, 308, .inr (.inl (fun z_ => lN (WA z_))))), (ub, .inl (cJ, 308, .inr (.inl (fun z_ => lN (XB z_)))))] H := hP
  have hD : va_D A [(u0, .inr (2, [.ref u1, .ref u2, .int (nI rm), .ref u3, .ref ua, .ref ub])), (u1, .inl (cI, 2, .inl (fun z_ => nI (BR z_)))), (u2, .inl (cI, 2, .inl (fun z_ => nI (RP z_)))), (u3, .inl (cI, 16, .inl (fun z_ => nI ((up (up (up (up CW 0 ((sp_qo BR RP 0 0 0) * (sp_qo BR RP 1 0 0))) 1 ((sp_qo BR RP 0 0 1) * (sp_qo BR RP 1 0 0))) 2 ((sp_qo BR RP 0 0 0) * (sp_qo BR RP 1 0 1))) 3 ((sp_qo BR RP 0 0 1) * (sp_qo BR RP 1 0 1))) z_)))), (ua, .inl (cJ, 308, .inr (.inl (fun z_ => lN (WA z_))))), (ub, .inl (cJ, 308, .inr (.inl (fun z_ => lN (XB z_)))))] := hD
  obtain ⟨er, p66_0⟩ := hw
  have p66_0 : rv_66 = sp_qo BR RP 1 0 0 := p66_0
  have er : r_66 = (nI rv_66) := er
  subst er
  subst p66_0
  refine lv_istore (lv' := [(4, .int (nI (sp_qo BR RP 1 0 0))), (3, .int (nI (sp_qo BR RP 0 1 0))), (2, .int (nI 0)), (1, .int (nI 1)), (0, .ref u0)]) hx hb dX2_start_69 hl (by decide) rfl (fun ls hl => ?_)
  refine lv_aload_n hx hb dX2_start_71 rfl (lv_at hl 4 rfl) ?_
  refine z_get (D := (dC, dI)) (ci := 2) (v := .ref u3) (C := RX2) (T := TX2) (N := 6) hx hb hts uX2 hown hK hP 0 rfl rfl 3 (by decide) w18 rfl rfl dX2_start_72 ?_
  refine lv_iload_n hx hb dX2_start_75 rfl (lv_at hl 3 rfl) ?_
  refine lv_iconst (v := nI 4) hx hb dX2_start_76 (by decide) ?_
  refine z_imul (v := (nI 4)) hx hb dX2_start_77 (by decide) ?_
  refine lv_iload_n hx hb dX2_start_78 rfl (lv_at hl 2 rfl) ?_
  refine z_iadd (v := (nI 4)) hx hb dX2_start_79 (by decide) ?_
  refine lv_iload_n hx hb dX2_start_80 rfl (lv_at hl 1 rfl) ?_
  refine lv_iload hx hb dX2_start_81 (lv_at hl 0 rfl) ?_
  refine z_imul (v := (nI ((sp_qo BR RP 0 1 0) * (sp_qo BR RP 1 0 0)))) hx hb dX2_start_83 (pk_mul _ _) ?_
  refine z_iast hx hb hK hP hD hS 3 0 rfl rfl 4 rfl (by omega) (upd_N (up (up (up (up CW 0 ((sp_qo BR RP 0 0 0) * (sp_qo BR RP 1 0 0))) 1 ((sp_qo BR RP 0 0 1) * (sp_qo BR RP 1 0 0))) 2 ((sp_qo BR RP 0 0 0) * (sp_qo BR RP 1 0 1))) 3 ((sp_qo BR RP 0 0 1) * (sp_qo BR RP 1 0 1))) 4 ((sp_qo BR RP 0 1 0) * (sp_qo BR RP 1 0 0))) [(u0, .inr (2, [.ref u1, .ref u2, .int (nI rm), .ref u3, .ref ua, .ref ub])), (u1, .inl (cI, 2, .inl (fun z_ => nI (BR z_)))), (u2, .inl (cI, 2, .inl (fun z_ => nI (RP z_)))), (u3, .inl (cI, 16, .inl (fun z_ => nI ((up (up (up (up (up CW 0 ((sp_qo BR RP 0 0 0) * (sp_qo BR RP 1 0 0))) 1 ((sp_qo BR RP 0 0 1) * (sp_qo BR RP 1 0 0))) 2 ((sp_qo BR RP 0 0 0) * (sp_qo BR RP 1 0 1))) 3 ((sp_qo BR RP 0 0 1) * (sp_qo BR RP 1 0 1))) 4 ((sp_qo BR RP 0 1 0) * (sp_qo BR RP 1 0 0))) z_)))), (ua, .inl (cJ, 308, .inr (.inl (fun z_ => lN (WA z_))))), (ub, .inl (cJ, 308, .inr (.inl (fun z_ => lN (XB z_)))))] rfl dX2_start_84 (fun H locs hP hD hS => ?_)
  refine lv_iinc (v := (nI 1)) (lv' := [(2, .int (nI 1)), (4, .int (nI (sp_qo BR RP 1 0 0))), (3, .int (nI (sp_qo BR RP 0 1 0))), (1, .int (nI 1)), (0, .ref u0)]) hx hb dX2_start_85 hl (k := 2) rfl (by decide) (by decide) rfl (fun ls hl => ?_)
  refine lv_goto (tgt := 9) hx hb dX2_start_88 (by decide) ?_
  refine lv_iload_n hx hb dX2_start_9 rfl (lv_at hl 0 rfl) ?_
  refine lv_iconst (v := nI 4) hx hb dX2_start_10 (by decide) ?_
  refine lv_icmp_ge (tgt := 91) hx hb dX2_start_11 (by decide) (fun c_x => absurd c_x (by decide)) (fun _ => ?_)
  refine lv_aload_n hx hb dX2_start_14 rfl (lv_at hl 4 rfl) ?_
  refine lv_iconst (v := nI 0) hx hb dX2_start_15 (by decide) ?_
  refine lv_iload_n hx hb dX2_start_16 rfl (lv_at hl 3 rfl) ?_
  refine lv_iconst (v := nI 1) hx hb dX2_start_17 (by decide) ?_
  refine z_iand (v := nI 1) hx hb dX2_start_18 (by decide) ?_
  refine lv_if_eq (tgt := 26) hx hb dX2_start_19 (by decide) (fun c_x => absurd c_x (by decide)) (fun _ => ?_)
  refine lv_iconst (v := nI 1) hx hb dX2_start_22 (by decide) ?_
  refine lv_goto (tgt := 27) hx hb dX2_start_23 (by decide) ?_
  refine lv_iload_n hx hb dX2_start_27 rfl (lv_at hl 0 rfl) ?_
  refine lv_iconst (v := nI 1) hx hb dX2_start_28 (by decide) ?_
  refine z_iand (v := nI 1) hx hb dX2_start_29 (by decide) ?_
  refine lv_if_eq (tgt := 37) hx hb dX2_start_30 (by decide) (fun c_x => absurd c_x (by decide)) (fun _ => ?_)
  refine lv_iconst (v := nI 1) hx hb dX2_start_33 (by decide) ?_
  refine lv_goto (tgt := 38) hx hb dX2_start_34 (by decide) ?_
  refine z_callVi (As := [.int (nI 0), .int (nI 1), .int (nI 1)]) (rest := []) (wr := [(u3, .inl (cI, 16, .inl (fun z_ => nI ((up (up (up (up (up CW 0 ((sp_qo BR RP 0 0 0) * (sp_qo BR RP 1 0 0))) 1 ((sp_qo BR RP 0 0 1) * (sp_qo BR RP 1 0 0))) 2 ((sp_qo BR RP 0 0 0) * (sp_qo BR RP 1 0 1))) 3 ((sp_qo BR RP 0 0 1) * (sp_qo BR RP 1 0 1))) 4 ((sp_qo BR RP 0 1 0) * (sp_qo BR RP 1 0 0))) z_)))), (ua, .inl (cJ, 308, .inr (.inl (fun z_ => lN (WA z_))))), (ub, .inl (cJ, 308, .inr (.inl (fun z_ => lN (XB z_)))))]) ⟨hx, hb, hml, hown, hts⟩ (c_X2_quartersOf l dC dI cI cJ H.size u0 u1 u2 u3 ua ub BR RP rm 0 1 1 (by first | assumption | omega) (by first | assumption | omega) (by first | assumption | omega) (by first | assumption | omega) (by first | assumption | omega)) (cwV 3 hts gX2_start_X2_quartersOf rfl rfl rfl (by decide +kernel) ⟨Nat.le_of_ble_eq_true rfl, Nat.le_of_ble_eq_true rfl⟩) hA hK hP hD hS [0, 1, 2] [3, 4, 5] [3, 4, 5, 0, 1, 2] rfl rfl (by decide) (by decide) (by decide) nwA_ok hN (ci := 2) rfl rfl 0 rfl hl.1 (Nat.le_of_ble_eq_true rfl) ⟨Nat.le_refl _, Nat.le_refl _⟩ rfl rfl dX2_start_38 (fun (u : (Nat)) => [(u0, .inr (2, [.ref u1, .ref u2, .int (nI rm), .ref u3, .ref ua, .ref ub])), (u1, .inl (cI, 2, .inl (fun z_ => nI (BR z_)))), (u2, .inl (cI, 2, .inl (fun z_ => nI (RP z_)))), (u3, .inl (cI, 16, .inl (fun z_ => nI ((up (up (up (up (up CW 0 ((sp_qo BR RP 0 0 0) * (sp_qo BR RP 1 0 0))) 1 ((sp_qo BR RP 0 0 1) * (sp_qo BR RP 1 0 0))) 2 ((sp_qo BR RP 0 0 0) * (sp_qo BR RP 1 0 1))) 3 ((sp_qo BR RP 0 0 1) * (sp_qo BR RP 1 0 1))) 4 ((sp_qo BR RP 0 1 0) * (sp_qo BR RP 1 0 0))) z_)))), (ua, .inl (cJ, 308, .inr (.inl (fun z_ => lN (WA z_))))), (ub, .inl (cJ, 308, .inr (.inl (fun z_ => lN (XB z_)))))]) (fun u => rfl) (by decide) (fun r_38 u H locs hw hP hD hS => ?_)
  obtain ⟨rv_38, eu⟩ : ∃ z, z = u := ⟨_, rfl⟩
  subst eu
  have hP : va_P (dC, dI) vwCl [(u0, .inr (2, [.ref u1, .ref u2, .int (nI rm), .ref u3, .ref ua, .ref ub])), (u1, .inl (cI, 2, .inl (fun z_ => nI (BR z_)))), (u2, .inl (cI, 2, .inl (fun z_ => nI (RP z_)))), (u3, .inl (cI, 16, .inl (fun z_ => nI ((up (up (up (up (up CW 0 ((sp_qo BR RP 0 0 0) * (sp_qo BR RP 1 0 0))) 1 ((sp_qo BR RP 0 0 1) * (sp_qo BR RP 1 0 0))) 2 ((sp_qo BR RP 0 0 0) * (sp_qo BR RP 1 0 1))) 3 ((sp_qo BR RP 0 0 1) * (sp_qo BR RP 1 0 1))) 4 ((sp_qo BR RP 0 1 0) * (sp_qo BR RP 1 0 0))) z_)))), (ua, .inl (cJ, 308, .inr (.inl (fun z_ => lN (WA z_))))), (ub, .inl (cJ, 308, .inr (.inl (fun z_ => lN (XB z_)))))] H := hP
  have hD : va_D A [(u0, .inr (2, [.ref u1, .ref u2, .int (nI rm), .ref u3, .ref ua, .ref ub])), (u1, .inl (cI, 2, .inl (fun z_ => nI (BR z_)))), (u2, .inl (cI, 2, .inl (fun z_ => nI (RP z_)))), (u3, .inl (cI, 16, .inl (fun z_ => nI ((up (up (up (up (up CW 0 ((sp_qo BR RP 0 0 0) * (sp_qo BR RP 1 0 0))) 1 ((sp_qo BR RP 0 0 1) * (sp_qo BR RP 1 0 0))) 2 ((sp_qo BR RP 0 0 0) * (sp_qo BR RP 1 0 1))) 3 ((sp_qo BR RP 0 0 1) * (sp_qo BR RP 1 0 1))) 4 ((sp_qo BR RP 0 1 0) * (sp_qo BR RP 1 0 0))) z_)))), (ua, .inl (cJ, 308, .inr (.inl (fun z_ => lN (WA z_))))), (ub, .inl (cJ, 308, .inr (.inl (fun z_ => lN (XB z_)))))] := hD
  obtain ⟨er, p38_0⟩ := hw
  have p38_0 : rv_38 = sp_qo BR RP 0 1 1 := p38_0
  have er : r_38 = (nI rv_38) := er
  subst er
  subst p38_0
  refine lv_istore_n (lv' := [(3, .int (nI (sp_qo BR RP 0 1 1))), (2, .int (nI 1)), (4, .int (nI (sp_qo BR RP 1 0 0))), (1, .int (nI 1)), (0, .ref u0)]) hx hb dX2_start_41 rfl hl (by decide) rfl (fun ls hl => ?_)
  refine lv_aload_n hx hb dX2_start_42 rfl (lv_at hl 4 rfl) ?_
  refine lv_iconst (v := nI 1) hx hb dX2_start_43 (by decide) ?_
  refine lv_iload_n hx hb dX2_start_44 rfl (lv_at hl 3 rfl) ?_
  refine lv_iconst (v := nI 2) hx hb dX2_start_45 (by decide) ?_
  refine z_iand (v := nI 0) hx hb dX2_start_46 (by decide) ?_
  refine lv_if_eq (tgt := 54) hx hb dX2_start_47 (by decide) (fun _ => ?_) (fun c_x => absurd c_x (by decide))
  refine lv_iconst (v := nI 0) hx hb dX2_start_54 (by decide) ?_
  refine lv_iload_n hx hb dX2_start_55 rfl (lv_at hl 1 rfl) ?_
  refine lv_iconst (v := nI 2) hx hb dX2_start_56 (by decide) ?_
  refine z_iand (v := nI 0) hx hb dX2_start_57 (by decide) ?_
  refine lv_if_eq (tgt := 65) hx hb dX2_start_58 (by decide) (fun _ => ?_) (fun c_x => absurd c_x (by decide))
  refine lv_iconst (v := nI 0) hx hb dX2_start_65 (by decide) ?_
  refine z_callVi (As := [.int (nI 1), .int (nI 0), .int (nI 0)]) (rest := []) (wr := [(u3, .inl (cI, 16, .inl (fun z_ => nI ((up (up (up (up (up CW 0 ((sp_qo BR RP 0 0 0) * (sp_qo BR RP 1 0 0))) 1 ((sp_qo BR RP 0 0 1) * (sp_qo BR RP 1 0 0))) 2 ((sp_qo BR RP 0 0 0) * (sp_qo BR RP 1 0 1))) 3 ((sp_qo BR RP 0 0 1) * (sp_qo BR RP 1 0 1))) 4 ((sp_qo BR RP 0 1 0) * (sp_qo BR RP 1 0 0))) z_)))), (ua, .inl (cJ, 308, .inr (.inl (fun z_ => lN (WA z_))))), (ub, .inl (cJ, 308, .inr (.inl (fun z_ => lN (XB z_)))))]) ⟨hx, hb, hml, hown, hts⟩ (c_X2_quartersOf l dC dI cI cJ H.size u0 u1 u2 u3 ua ub BR RP rm 1 0 0 (by first | assumption | omega) (by first | assumption | omega) (by first | assumption | omega) (by first | assumption | omega) (by first | assumption | omega)) (cwV 3 hts gX2_start_X2_quartersOf rfl rfl rfl (by decide +kernel) ⟨Nat.le_of_ble_eq_true rfl, Nat.le_of_ble_eq_true rfl⟩) hA hK hP hD hS [0, 1, 2] [3, 4, 5] [3, 4, 5, 0, 1, 2] rfl rfl (by decide) (by decide) (by decide) nwA_ok hN (ci := 2) rfl rfl 0 rfl hl.1 (Nat.le_of_ble_eq_true rfl) ⟨Nat.le_refl _, Nat.le_refl _⟩ rfl rfl dX2_start_66 (fun (u : (Nat)) => [(u0, .inr (2, [.ref u1, .ref u2, .int (nI rm), .ref u3, .ref ua, .ref ub])), (u1, .inl (cI, 2, .inl (fun z_ => nI (BR z_)))), (u2, .inl (cI, 2, .inl (fun z_ => nI (RP z_)))), (u3, .inl (cI, 16, .inl (fun z_ => nI ((up (up (up (up (up CW 0 ((sp_qo BR RP 0 0 0) * (sp_qo BR RP 1 0 0))) 1 ((sp_qo BR RP 0 0 1) * (sp_qo BR RP 1 0 0))) 2 ((sp_qo BR RP 0 0 0) * (sp_qo BR RP 1 0 1))) 3 ((sp_qo BR RP 0 0 1) * (sp_qo BR RP 1 0 1))) 4 ((sp_qo BR RP 0 1 0) * (sp_qo BR RP 1 0 0))) z_)))), (ua, .inl (cJ, 308, .inr (.inl (fun z_ => lN (WA z_))))), (ub, .inl (cJ, 308, .inr (.inl (fun z_ => lN (XB z_)))))]) (fun u => rfl) (by decide) (fun r_66 u H locs hw hP hD hS => ?_)
  obtain ⟨rv_66, eu⟩ : ∃ z, z = u := ⟨_, rfl⟩
  subst eu
  have hP : va_P (dC, dI) vwCl [(u0, .inr (2, [.ref u1, .ref u2, .int (nI rm), .ref u3, .ref ua, .ref ub])), (u1, .inl (cI, 2, .inl (fun z_ => nI (BR z_)))), (u2, .inl (cI, 2, .inl (fun z_ => nI (RP z_)))), (u3, .inl (cI, 16, .inl (fun z_ => nI ((up (up (up (up (up CW 0 ((sp_qo BR RP 0 0 0) * (sp_qo BR RP 1 0 0))) 1 ((sp_qo BR RP 0 0 1) * (sp_qo BR RP 1 0 0))) 2 ((sp_qo BR RP 0 0 0) * (sp_qo BR RP 1 0 1))) 3 ((sp_qo BR RP 0 0 1) * (sp_qo BR RP 1 0 1))) 4 ((sp_qo BR RP 0 1 0) * (sp_qo BR RP 1 0 0))) z_)))), (ua, .inl (cJ, 308, .inr (.inl (fun z_ => lN (WA z_))))), (ub, .inl (cJ, 308, .inr (.inl (fun z_ => lN (XB z_)))))] H := hP
  have hD : va_D A [(u0, .inr (2, [.ref u1, .ref u2, .int (nI rm), .ref u3, .ref ua, .ref ub])), (u1, .inl (cI, 2, .inl (fun z_ => nI (BR z_)))), (u2, .inl (cI, 2, .inl (fun z_ => nI (RP z_)))), (u3, .inl (cI, 16, .inl (fun z_ => nI ((up (up (up (up (up CW 0 ((sp_qo BR RP 0 0 0) * (sp_qo BR RP 1 0 0))) 1 ((sp_qo BR RP 0 0 1) * (sp_qo BR RP 1 0 0))) 2 ((sp_qo BR RP 0 0 0) * (sp_qo BR RP 1 0 1))) 3 ((sp_qo BR RP 0 0 1) * (sp_qo BR RP 1 0 1))) 4 ((sp_qo BR RP 0 1 0) * (sp_qo BR RP 1 0 0))) z_)))), (ua, .inl (cJ, 308, .inr (.inl (fun z_ => lN (WA z_))))), (ub, .inl (cJ, 308, .inr (.inl (fun z_ => lN (XB z_)))))] := hD
  obtain ⟨er, p66_0⟩ := hw
  have p66_0 : rv_66 = sp_qo BR RP 1 0 0 := p66_0
  have er : r_66 = (nI rv_66) := er
  subst er
  subst p66_0
  refine lv_istore (lv' := [(4, .int (nI (sp_qo BR RP 1 0 0))), (3, .int (nI (sp_qo BR RP 0 1 1))), (2, .int (nI 1)), (1, .int (nI 1)), (0, .ref u0)]) hx hb dX2_start_69 hl (by decide) rfl (fun ls hl => ?_)
  refine lv_aload_n hx hb dX2_start_71 rfl (lv_at hl 4 rfl) ?_
  refine z_get (D := (dC, dI)) (ci := 2) (v := .ref u3) (C := RX2) (T := TX2) (N := 6) hx hb hts uX2 hown hK hP 0 rfl rfl 3 (by decide) w18 rfl rfl dX2_start_72 ?_
  refine lv_iload_n hx hb dX2_start_75 rfl (lv_at hl 3 rfl) ?_
  refine lv_iconst (v := nI 4) hx hb dX2_start_76 (by decide) ?_
  refine z_imul (v := (nI 4)) hx hb dX2_start_77 (by decide) ?_
  refine lv_iload_n hx hb dX2_start_78 rfl (lv_at hl 2 rfl) ?_
  refine z_iadd (v := (nI 5)) hx hb dX2_start_79 (by decide) ?_
  refine lv_iload_n hx hb dX2_start_80 rfl (lv_at hl 1 rfl) ?_
  refine lv_iload hx hb dX2_start_81 (lv_at hl 0 rfl) ?_
  refine z_imul (v := (nI ((sp_qo BR RP 0 1 1) * (sp_qo BR RP 1 0 0)))) hx hb dX2_start_83 (pk_mul _ _) ?_
  refine z_iast hx hb hK hP hD hS 3 0 rfl rfl 5 rfl (by omega) (upd_N (up (up (up (up (up CW 0 ((sp_qo BR RP 0 0 0) * (sp_qo BR RP 1 0 0))) 1 ((sp_qo BR RP 0 0 1) * (sp_qo BR RP 1 0 0))) 2 ((sp_qo BR RP 0 0 0) * (sp_qo BR RP 1 0 1))) 3 ((sp_qo BR RP 0 0 1) * (sp_qo BR RP 1 0 1))) 4 ((sp_qo BR RP 0 1 0) * (sp_qo BR RP 1 0 0))) 5 ((sp_qo BR RP 0 1 1) * (sp_qo BR RP 1 0 0))) [(u0, .inr (2, [.ref u1, .ref u2, .int (nI rm), .ref u3, .ref ua, .ref ub])), (u1, .inl (cI, 2, .inl (fun z_ => nI (BR z_)))), (u2, .inl (cI, 2, .inl (fun z_ => nI (RP z_)))), (u3, .inl (cI, 16, .inl (fun z_ => nI ((up (up (up (up (up (up CW 0 ((sp_qo BR RP 0 0 0) * (sp_qo BR RP 1 0 0))) 1 ((sp_qo BR RP 0 0 1) * (sp_qo BR RP 1 0 0))) 2 ((sp_qo BR RP 0 0 0) * (sp_qo BR RP 1 0 1))) 3 ((sp_qo BR RP 0 0 1) * (sp_qo BR RP 1 0 1))) 4 ((sp_qo BR RP 0 1 0) * (sp_qo BR RP 1 0 0))) 5 ((sp_qo BR RP 0 1 1) * (sp_qo BR RP 1 0 0))) z_)))), (ua, .inl (cJ, 308, .inr (.inl (fun z_ => lN (WA z_))))), (ub, .inl (cJ, 308, .inr (.inl (fun z_ => lN (XB z_)))))] rfl dX2_start_84 (fun H locs hP hD hS => ?_)
  refine lv_iinc (v := (nI 2)) (lv' := [(2, .int (nI 2)), (4, .int (nI (sp_qo BR RP 1 0 0))), (3, .int (nI (sp_qo BR RP 0 1 1))), (1, .int (nI 1)), (0, .ref u0)]) hx hb dX2_start_85 hl (k := 2) rfl (by decide) (by decide) rfl (fun ls hl => ?_)
  refine lv_goto (tgt := 9) hx hb dX2_start_88 (by decide) ?_
  refine lv_iload_n hx hb dX2_start_9 rfl (lv_at hl 0 rfl) ?_
  refine lv_iconst (v := nI 4) hx hb dX2_start_10 (by decide) ?_
  refine lv_icmp_ge (tgt := 91) hx hb dX2_start_11 (by decide) (fun c_x => absurd c_x (by decide)) (fun _ => ?_)
  refine lv_aload_n hx hb dX2_start_14 rfl (lv_at hl 4 rfl) ?_
  refine lv_iconst (v := nI 0) hx hb dX2_start_15 (by decide) ?_
  refine lv_iload_n hx hb dX2_start_16 rfl (lv_at hl 3 rfl) ?_
  refine lv_iconst (v := nI 1) hx hb dX2_start_17 (by decide) ?_
  refine z_iand (v := nI 1) hx hb dX2_start_18 (by decide) ?_
  refine lv_if_eq (tgt := 26) hx hb dX2_start_19 (by decide) (fun c_x => absurd c_x (by decide)) (fun _ => ?_)
  refine lv_iconst (v := nI 1) hx hb dX2_start_22 (by decide) ?_
  refine lv_goto (tgt := 27) hx hb dX2_start_23 (by decide) ?_
  refine lv_iload_n hx hb dX2_start_27 rfl (lv_at hl 0 rfl) ?_
  refine lv_iconst (v := nI 1) hx hb dX2_start_28 (by decide) ?_
  refine z_iand (v := nI 0) hx hb dX2_start_29 (by decide) ?_
  refine lv_if_eq (tgt := 37) hx hb dX2_start_30 (by decide) (fun _ => ?_) (fun c_x => absurd c_x (by decide))
  refine lv_iconst (v := nI 0) hx hb dX2_start_37 (by decide) ?_
  refine z_callVi (As := [.int (nI 0), .int (nI 1), .int (nI 0)]) (rest := []) (wr := [(u3, .inl (cI, 16, .inl (fun z_ => nI ((up (up (up (up (up (up CW 0 ((sp_qo BR RP 0 0 0) * (sp_qo BR RP 1 0 0))) 1 ((sp_qo BR RP 0 0 1) * (sp_qo BR RP 1 0 0))) 2 ((sp_qo BR RP 0 0 0) * (sp_qo BR RP 1 0 1))) 3 ((sp_qo BR RP 0 0 1) * (sp_qo BR RP 1 0 1))) 4 ((sp_qo BR RP 0 1 0) * (sp_qo BR RP 1 0 0))) 5 ((sp_qo BR RP 0 1 1) * (sp_qo BR RP 1 0 0))) z_)))), (ua, .inl (cJ, 308, .inr (.inl (fun z_ => lN (WA z_))))), (ub, .inl (cJ, 308, .inr (.inl (fun z_ => lN (XB z_)))))]) ⟨hx, hb, hml, hown, hts⟩ (c_X2_quartersOf l dC dI cI cJ H.size u0 u1 u2 u3 ua ub BR RP rm 0 1 0 (by first | assumption | omega) (by first | assumption | omega) (by first | assumption | omega) (by first | assumption | omega) (by first | assumption | omega)) (cwV 3 hts gX2_start_X2_quartersOf rfl rfl rfl (by decide +kernel) ⟨Nat.le_of_ble_eq_true rfl, Nat.le_of_ble_eq_true rfl⟩) hA hK hP hD hS [0, 1, 2] [3, 4, 5] [3, 4, 5, 0, 1, 2] rfl rfl (by decide) (by decide) (by decide) nwA_ok hN (ci := 2) rfl rfl 0 rfl hl.1 (Nat.le_of_ble_eq_true rfl) ⟨Nat.le_refl _, Nat.le_refl _⟩ rfl rfl dX2_start_38 (fun (u : (Nat)) => [(u0, .inr (2, [.ref u1, .ref u2, .int (nI rm), .ref u3, .ref ua, .ref ub])), (u1, .inl (cI, 2, .inl (fun z_ => nI (BR z_)))), (u2, .inl (cI, 2, .inl (fun z_ => nI (RP z_)))), (u3, .inl (cI, 16, .inl (fun z_ => nI ((up (up (up (up (up (up CW 0 ((sp_qo BR RP 0 0 0) * (sp_qo BR RP 1 0 0))) 1 ((sp_qo BR RP 0 0 1) * (sp_qo BR RP 1 0 0))) 2 ((sp_qo BR RP 0 0 0) * (sp_qo BR RP 1 0 1))) 3 ((sp_qo BR RP 0 0 1) * (sp_qo BR RP 1 0 1))) 4 ((sp_qo BR RP 0 1 0) * (sp_qo BR RP 1 0 0))) 5 ((sp_qo BR RP 0 1 1) * (sp_qo BR RP 1 0 0))) z_)))), (ua, .inl (cJ, 308, .inr (.inl (fun z_ => lN (WA z_))))), (ub, .inl (cJ, 308, .inr (.inl (fun z_ => lN (XB z_)))))]) (fun u => rfl) (by decide) (fun r_38 u H locs hw hP hD hS => ?_)
  obtain ⟨rv_38, eu⟩ : ∃ z, z = u := ⟨_, rfl⟩
  subst eu
  have hP : va_P (dC, dI) vwCl [(u0, .inr (2, [.ref u1, .ref u2, .int (nI rm), .ref u3, .ref ua, .ref ub])), (u1, .inl (cI, 2, .inl (fun z_ => nI (BR z_)))), (u2, .inl (cI, 2, .inl (fun z_ => nI (RP z_)))), (u3, .inl (cI, 16, .inl (fun z_ => nI ((up (up (up (up (up (up CW 0 ((sp_qo BR RP 0 0 0) * (sp_qo BR RP 1 0 0))) 1 ((sp_qo BR RP 0 0 1) * (sp_qo BR RP 1 0 0))) 2 ((sp_qo BR RP 0 0 0) * (sp_qo BR RP 1 0 1))) 3 ((sp_qo BR RP 0 0 1) * (sp_qo BR RP 1 0 1))) 4 ((sp_qo BR RP 0 1 0) * (sp_qo BR RP 1 0 0))) 5 ((sp_qo BR RP 0 1 1) * (sp_qo BR RP 1 0 0))) z_)))), (ua, .inl (cJ, 308, .inr (.inl (fun z_ => lN (WA z_))))), (ub, .inl (cJ, 308, .inr (.inl (fun z_ => lN (XB z_)))))] H := hP
  have hD : va_D A [(u0, .inr (2, [.ref u1, .ref u2, .int (nI rm), .ref u3, .ref ua, .ref ub])), (u1, .inl (cI, 2, .inl (fun z_ => nI (BR z_)))), (u2, .inl (cI, 2, .inl (fun z_ => nI (RP z_)))), (u3, .inl (cI, 16, .inl (fun z_ => nI ((up (up (up (up (up (up CW 0 ((sp_qo BR RP 0 0 0) * (sp_qo BR RP 1 0 0))) 1 ((sp_qo BR RP 0 0 1) * (sp_qo BR RP 1 0 0))) 2 ((sp_qo BR RP 0 0 0) * (sp_qo BR RP 1 0 1))) 3 ((sp_qo BR RP 0 0 1) * (sp_qo BR RP 1 0 1))) 4 ((sp_qo BR RP 0 1 0) * (sp_qo BR RP 1 0 0))) 5 ((sp_qo BR RP 0 1 1) * (sp_qo BR RP 1 0 0))) z_)))), (ua, .inl (cJ, 308, .inr (.inl (fun z_ => lN (WA z_))))), (ub, .inl (cJ, 308, .inr (.inl (fun z_ => lN (XB z_)))))] := hD
  obtain ⟨er, p38_0⟩ := hw
  have p38_0 : rv_38 = sp_qo BR RP 0 1 0 := p38_0
  have er : r_38 = (nI rv_38) := er
  subst er
  subst p38_0
  refine lv_istore_n (lv' := [(3, .int (nI (sp_qo BR RP 0 1 0))), (2, .int (nI 2)), (4, .int (nI (sp_qo BR RP 1 0 0))), (1, .int (nI 1)), (0, .ref u0)]) hx hb dX2_start_41 rfl hl (by decide) rfl (fun ls hl => ?_)
  refine lv_aload_n hx hb dX2_start_42 rfl (lv_at hl 4 rfl) ?_
  refine lv_iconst (v := nI 1) hx hb dX2_start_43 (by decide) ?_
  refine lv_iload_n hx hb dX2_start_44 rfl (lv_at hl 3 rfl) ?_
  refine lv_iconst (v := nI 2) hx hb dX2_start_45 (by decide) ?_
  refine z_iand (v := nI 0) hx hb dX2_start_46 (by decide) ?_
  refine lv_if_eq (tgt := 54) hx hb dX2_start_47 (by decide) (fun _ => ?_) (fun c_x => absurd c_x (by decide))
  refine lv_iconst (v := nI 0) hx hb dX2_start_54 (by decide) ?_
  refine lv_iload_n hx hb dX2_start_55 rfl (lv_at hl 1 rfl) ?_
  refine lv_iconst (v := nI 2) hx hb dX2_start_56 (by decide) ?_
  refine z_iand (v := nI 2) hx hb dX2_start_57 (by decide) ?_
  refine lv_if_eq (tgt := 65) hx hb dX2_start_58 (by decide) (fun c_x => absurd c_x (by decide)) (fun _ => ?_)
  refine lv_iconst (v := nI 1) hx hb dX2_start_61 (by decide) ?_
  refine lv_goto (tgt := 66) hx hb dX2_start_62 (by decide) ?_
  refine z_callVi (As := [.int (nI 1), .int (nI 0), .int (nI 1)]) (rest := []) (wr := [(u3, .inl (cI, 16, .inl (fun z_ => nI ((up (up (up (up (up (up CW 0 ((sp_qo BR RP 0 0 0) * (sp_qo BR RP 1 0 0))) 1 ((sp_qo BR RP 0 0 1) * (sp_qo BR RP 1 0 0))) 2 ((sp_qo BR RP 0 0 0) * (sp_qo BR RP 1 0 1))) 3 ((sp_qo BR RP 0 0 1) * (sp_qo BR RP 1 0 1))) 4 ((sp_qo BR RP 0 1 0) * (sp_qo BR RP 1 0 0))) 5 ((sp_qo BR RP 0 1 1) * (sp_qo BR RP 1 0 0))) z_)))), (ua, .inl (cJ, 308, .inr (.inl (fun z_ => lN (WA z_))))), (ub, .inl (cJ, 308, .inr (.inl (fun z_ => lN (XB z_)))))]) ⟨hx, hb, hml, hown, hts⟩ (c_X2_quartersOf l dC dI cI cJ H.size u0 u1 u2 u3 ua ub BR RP rm 1 0 1 (by first | assumption | omega) (by first | assumption | omega) (by first | assumption | omega) (by first | assumption | omega) (by first | assumption | omega)) (cwV 3 hts gX2_start_X2_quartersOf rfl rfl rfl (by decide +kernel) ⟨Nat.le_of_ble_eq_true rfl, Nat.le_of_ble_eq_true rfl⟩) hA hK hP hD hS [0, 1, 2] [3, 4, 5] [3, 4, 5, 0, 1, 2] rfl rfl (by decide) (by decide) (by decide) nwA_ok hN (ci := 2) rfl rfl 0 rfl hl.1 (Nat.le_of_ble_eq_true rfl) ⟨Nat.le_refl _, Nat.le_refl _⟩ rfl rfl dX2_start_66 (fun (u : (Nat)) => [(u0, .inr (2, [.ref u1, .ref u2, .int (nI rm), .ref u3, .ref ua, .ref ub])), (u1, .inl (cI, 2, .inl (fun z_ => nI (BR z_)))), (u2, .inl (cI, 2, .inl (fun z_ => nI (RP z_)))), (u3, .inl (cI, 16, .inl (fun z_ => nI ((up (up (up (up (up (up CW 0 ((sp_qo BR RP 0 0 0) * (sp_qo BR RP 1 0 0))) 1 ((sp_qo BR RP 0 0 1) * (sp_qo BR RP 1 0 0))) 2 ((sp_qo BR RP 0 0 0) * (sp_qo BR RP 1 0 1))) 3 ((sp_qo BR RP 0 0 1) * (sp_qo BR RP 1 0 1))) 4 ((sp_qo BR RP 0 1 0) * (sp_qo BR RP 1 0 0))) 5 ((sp_qo BR RP 0 1 1) * (sp_qo BR RP 1 0 0))) z_)))), (ua, .inl (cJ, 308, .inr (.inl (fun z_ => lN (WA z_))))), (ub, .inl (cJ, 308, .inr (.inl (fun z_ => lN (XB z_)))))]) (fun u => rfl) (by decide) (fun r_66 u H locs hw hP hD hS => ?_)
  obtain ⟨rv_66, eu⟩ : ∃ z, z = u := ⟨_, rfl⟩
  subst eu
  have hP : va_P (dC, dI) vwCl [(u0, .inr (2, [.ref u1, .ref u2, .int (nI rm), .ref u3, .ref ua, .ref ub])), (u1, .inl (cI, 2, .inl (fun z_ => nI (BR z_)))), (u2, .inl (cI, 2, .inl (fun z_ => nI (RP z_)))), (u3, .inl (cI, 16, .inl (fun z_ => nI ((up (up (up (up (up (up CW 0 ((sp_qo BR RP 0 0 0) * (sp_qo BR RP 1 0 0))) 1 ((sp_qo BR RP 0 0 1) * (sp_qo BR RP 1 0 0))) 2 ((sp_qo BR RP 0 0 0) * (sp_qo BR RP 1 0 1))) 3 ((sp_qo BR RP 0 0 1) * (sp_qo BR RP 1 0 1))) 4 ((sp_qo BR RP 0 1 0) * (sp_qo BR RP 1 0 0))) 5 ((sp_qo BR RP 0 1 1) * (sp_qo BR RP 1 0 0))) z_)))), (ua, .inl (cJ, 308, .inr (.inl (fun z_ => lN (WA z_))))), (ub, .inl (cJ, 308, .inr (.inl (fun z_ => lN (XB z_)))))] H := hP
  have hD : va_D A [(u0, .inr (2, [.ref u1, .ref u2, .int (nI rm), .ref u3, .ref ua, .ref ub])), (u1, .inl (cI, 2, .inl (fun z_ => nI (BR z_)))), (u2, .inl (cI, 2, .inl (fun z_ => nI (RP z_)))), (u3, .inl (cI, 16, .inl (fun z_ => nI ((up (up (up (up (up (up CW 0 ((sp_qo BR RP 0 0 0) * (sp_qo BR RP 1 0 0))) 1 ((sp_qo BR RP 0 0 1) * (sp_qo BR RP 1 0 0))) 2 ((sp_qo BR RP 0 0 0) * (sp_qo BR RP 1 0 1))) 3 ((sp_qo BR RP 0 0 1) * (sp_qo BR RP 1 0 1))) 4 ((sp_qo BR RP 0 1 0) * (sp_qo BR RP 1 0 0))) 5 ((sp_qo BR RP 0 1 1) * (sp_qo BR RP 1 0 0))) z_)))), (ua, .inl (cJ, 308, .inr (.inl (fun z_ => lN (WA z_))))), (ub, .inl (cJ, 308, .inr (.inl (fun z_ => lN (XB z_)))))] := hD
  obtain ⟨er, p66_0⟩ := hw
  have p66_0 : rv_66 = sp_qo BR RP 1 0 1 := p66_0
  have er : r_66 = (nI rv_66) := er
  subst er
  subst p66_0
  refine lv_istore (lv' := [(4, .int (nI (sp_qo BR RP 1 0 1))), (3, .int (nI (sp_qo BR RP 0 1 0))), (2, .int (nI 2)), (1, .int (nI 1)), (0, .ref u0)]) hx hb dX2_start_69 hl (by decide) rfl (fun ls hl => ?_)
  refine lv_aload_n hx hb dX2_start_71 rfl (lv_at hl 4 rfl) ?_
  refine z_get (D := (dC, dI)) (ci := 2) (v := .ref u3) (C := RX2) (T := TX2) (N := 6) hx hb hts uX2 hown hK hP 0 rfl rfl 3 (by decide) w18 rfl rfl dX2_start_72 ?_
  refine lv_iload_n hx hb dX2_start_75 rfl (lv_at hl 3 rfl) ?_
  refine lv_iconst (v := nI 4) hx hb dX2_start_76 (by decide) ?_
  refine z_imul (v := (nI 4)) hx hb dX2_start_77 (by decide) ?_
  refine lv_iload_n hx hb dX2_start_78 rfl (lv_at hl 2 rfl) ?_
  refine z_iadd (v := (nI 6)) hx hb dX2_start_79 (by decide) ?_
  refine lv_iload_n hx hb dX2_start_80 rfl (lv_at hl 1 rfl) ?_
  refine lv_iload hx hb dX2_start_81 (lv_at hl 0 rfl) ?_
  refine z_imul (v := (nI ((sp_qo BR RP 0 1 0) * (sp_qo BR RP 1 0 1)))) hx hb dX2_start_83 (pk_mul _ _) ?_
  refine z_iast hx hb hK hP hD hS 3 0 rfl rfl 6 rfl (by omega) (upd_N (up (up (up (up (up (up CW 0 ((sp_qo BR RP 0 0 0) * (sp_qo BR RP 1 0 0))) 1 ((sp_qo BR RP 0 0 1) * (sp_qo BR RP 1 0 0))) 2 ((sp_qo BR RP 0 0 0) * (sp_qo BR RP 1 0 1))) 3 ((sp_qo BR RP 0 0 1) * (sp_qo BR RP 1 0 1))) 4 ((sp_qo BR RP 0 1 0) * (sp_qo BR RP 1 0 0))) 5 ((sp_qo BR RP 0 1 1) * (sp_qo BR RP 1 0 0))) 6 ((sp_qo BR RP 0 1 0) * (sp_qo BR RP 1 0 1))) [(u0, .inr (2, [.ref u1, .ref u2, .int (nI rm), .ref u3, .ref ua, .ref ub])), (u1, .inl (cI, 2, .inl (fun z_ => nI (BR z_)))), (u2, .inl (cI, 2, .inl (fun z_ => nI (RP z_)))), (u3, .inl (cI, 16, .inl (fun z_ => nI ((up (up (up (up (up (up (up CW 0 ((sp_qo BR RP 0 0 0) * (sp_qo BR RP 1 0 0))) 1 ((sp_qo BR RP 0 0 1) * (sp_qo BR RP 1 0 0))) 2 ((sp_qo BR RP 0 0 0) * (sp_qo BR RP 1 0 1))) 3 ((sp_qo BR RP 0 0 1) * (sp_qo BR RP 1 0 1))) 4 ((sp_qo BR RP 0 1 0) * (sp_qo BR RP 1 0 0))) 5 ((sp_qo BR RP 0 1 1) * (sp_qo BR RP 1 0 0))) 6 ((sp_qo BR RP 0 1 0) * (sp_qo BR RP 1 0 1))) z_)))), (ua, .inl (cJ, 308, .inr (.inl (fun z_ => lN (WA z_))))), (ub, .inl (cJ, 308, .inr (.inl (fun z_ => lN (XB z_)))))] rfl dX2_start_84 (fun H locs hP hD hS => ?_)
  refine lv_iinc (v := (nI 3)) (lv' := [(2, .int (nI 3)), (4, .int (nI (sp_qo BR RP 1 0 1))), (3, .int (nI (sp_qo BR RP 0 1 0))), (1, .int (nI 1)), (0, .ref u0)]) hx hb dX2_start_85 hl (k := 2) rfl (by decide) (by decide) rfl (fun ls hl => ?_)
  refine lv_goto (tgt := 9) hx hb dX2_start_88 (by decide) ?_
  refine lv_iload_n hx hb dX2_start_9 rfl (lv_at hl 0 rfl) ?_
  refine lv_iconst (v := nI 4) hx hb dX2_start_10 (by decide) ?_
  refine lv_icmp_ge (tgt := 91) hx hb dX2_start_11 (by decide) (fun c_x => absurd c_x (by decide)) (fun _ => ?_)
  refine lv_aload_n hx hb dX2_start_14 rfl (lv_at hl 4 rfl) ?_
  refine lv_iconst (v := nI 0) hx hb dX2_start_15 (by decide) ?_
  refine lv_iload_n hx hb dX2_start_16 rfl (lv_at hl 3 rfl) ?_
  refine lv_iconst (v := nI 1) hx hb dX2_start_17 (by decide) ?_
  refine z_iand (v := nI 1) hx hb dX2_start_18 (by decide) ?_
  refine lv_if_eq (tgt := 26) hx hb dX2_start_19 (by decide) (fun c_x => absurd c_x (by decide)) (fun _ => ?_)
  refine lv_iconst (v := nI 1) hx hb dX2_start_22 (by decide) ?_
  refine lv_goto (tgt := 27) hx hb dX2_start_23 (by decide) ?_
  refine lv_iload_n hx hb dX2_start_27 rfl (lv_at hl 0 rfl) ?_
  refine lv_iconst (v := nI 1) hx hb dX2_start_28 (by decide) ?_
  refine z_iand (v := nI 1) hx hb dX2_start_29 (by decide) ?_
  refine lv_if_eq (tgt := 37) hx hb dX2_start_30 (by decide) (fun c_x => absurd c_x (by decide)) (fun _ => ?_)
  refine lv_iconst (v := nI 1) hx hb dX2_start_33 (by decide) ?_
  refine lv_goto (tgt := 38) hx hb dX2_start_34 (by decide) ?_
  refine z_callVi (As := [.int (nI 0), .int (nI 1), .int (nI 1)]) (rest := []) (wr := [(u3, .inl (cI, 16, .inl (fun z_ => nI ((up (up (up (up (up (up (up CW 0 ((sp_qo BR RP 0 0 0) * (sp_qo BR RP 1 0 0))) 1 ((sp_qo BR RP 0 0 1) * (sp_qo BR RP 1 0 0))) 2 ((sp_qo BR RP 0 0 0) * (sp_qo BR RP 1 0 1))) 3 ((sp_qo BR RP 0 0 1) * (sp_qo BR RP 1 0 1))) 4 ((sp_qo BR RP 0 1 0) * (sp_qo BR RP 1 0 0))) 5 ((sp_qo BR RP 0 1 1) * (sp_qo BR RP 1 0 0))) 6 ((sp_qo BR RP 0 1 0) * (sp_qo BR RP 1 0 1))) z_)))), (ua, .inl (cJ, 308, .inr (.inl (fun z_ => lN (WA z_))))), (ub, .inl (cJ, 308, .inr (.inl (fun z_ => lN (XB z_)))))]) ⟨hx, hb, hml, hown, hts⟩ (c_X2_quartersOf l dC dI cI cJ H.size u0 u1 u2 u3 ua ub BR RP rm 0 1 1 (by first | assumption | omega) (by first | assumption | omega) (by first | assumption | omega) (by first | assumption | omega) (by first | assumption | omega)) (cwV 3 hts gX2_start_X2_quartersOf rfl rfl rfl (by decide +kernel) ⟨Nat.le_of_ble_eq_true rfl, Nat.le_of_ble_eq_true rfl⟩) hA hK hP hD hS [0, 1, 2] [3, 4, 5] [3, 4, 5, 0, 1, 2] rfl rfl (by decide) (by decide) (by decide) nwA_ok hN (ci := 2) rfl rfl 0 rfl hl.1 (Nat.le_of_ble_eq_true rfl) ⟨Nat.le_refl _, Nat.le_refl _⟩ rfl rfl dX2_start_38 (fun (u : (Nat)) => [(u0, .inr (2, [.ref u1, .ref u2, .int (nI rm), .ref u3, .ref ua, .ref ub])), (u1, .inl (cI, 2, .inl (fun z_ => nI (BR z_)))), (u2, .inl (cI, 2, .inl (fun z_ => nI (RP z_)))), (u3, .inl (cI, 16, .inl (fun z_ => nI ((up (up (up (up (up (up (up CW 0 ((sp_qo BR RP 0 0 0) * (sp_qo BR RP 1 0 0))) 1 ((sp_qo BR RP 0 0 1) * (sp_qo BR RP 1 0 0))) 2 ((sp_qo BR RP 0 0 0) * (sp_qo BR RP 1 0 1))) 3 ((sp_qo BR RP 0 0 1) * (sp_qo BR RP 1 0 1))) 4 ((sp_qo BR RP 0 1 0) * (sp_qo BR RP 1 0 0))) 5 ((sp_qo BR RP 0 1 1) * (sp_qo BR RP 1 0 0))) 6 ((sp_qo BR RP 0 1 0) * (sp_qo BR RP 1 0 1))) z_)))), (ua, .inl (cJ, 308, .inr (.inl (fun z_ => lN (WA z_))))), (ub, .inl (cJ, 308, .inr (.inl (fun z_ => lN (XB z_)))))]) (fun u => rfl) (by decide) (fun r_38 u H locs hw hP hD hS => ?_)
  obtain ⟨rv_38, eu⟩ : ∃ z, z = u := ⟨_, rfl⟩
  subst eu
  have hP : va_P (dC, dI) vwCl [(u0, .inr (2, [.ref u1, .ref u2, .int (nI rm), .ref u3, .ref ua, .ref ub])), (u1, .inl (cI, 2, .inl (fun z_ => nI (BR z_)))), (u2, .inl (cI, 2, .inl (fun z_ => nI (RP z_)))), (u3, .inl (cI, 16, .inl (fun z_ => nI ((up (up (up (up (up (up (up CW 0 ((sp_qo BR RP 0 0 0) * (sp_qo BR RP 1 0 0))) 1 ((sp_qo BR RP 0 0 1) * (sp_qo BR RP 1 0 0))) 2 ((sp_qo BR RP 0 0 0) * (sp_qo BR RP 1 0 1))) 3 ((sp_qo BR RP 0 0 1) * (sp_qo BR RP 1 0 1))) 4 ((sp_qo BR RP 0 1 0) * (sp_qo BR RP 1 0 0))) 5 ((sp_qo BR RP 0 1 1) * (sp_qo BR RP 1 0 0))) 6 ((sp_qo BR RP 0 1 0) * (sp_qo BR RP 1 0 1))) z_)))), (ua, .inl (cJ, 308, .inr (.inl (fun z_ => lN (WA z_))))), (ub, .inl (cJ, 308, .inr (.inl (fun z_ => lN (XB z_)))))] H := hP
  have hD : va_D A [(u0, .inr (2, [.ref u1, .ref u2, .int (nI rm), .ref u3, .ref ua, .ref ub])), (u1, .inl (cI, 2, .inl (fun z_ => nI (BR z_)))), (u2, .inl (cI, 2, .inl (fun z_ => nI (RP z_)))), (u3, .inl (cI, 16, .inl (fun z_ => nI ((up (up (up (up (up (up (up CW 0 ((sp_qo BR RP 0 0 0) * (sp_qo BR RP 1 0 0))) 1 ((sp_qo BR RP 0 0 1) * (sp_qo BR RP 1 0 0))) 2 ((sp_qo BR RP 0 0 0) * (sp_qo BR RP 1 0 1))) 3 ((sp_qo BR RP 0 0 1) * (sp_qo BR RP 1 0 1))) 4 ((sp_qo BR RP 0 1 0) * (sp_qo BR RP 1 0 0))) 5 ((sp_qo BR RP 0 1 1) * (sp_qo BR RP 1 0 0))) 6 ((sp_qo BR RP 0 1 0) * (sp_qo BR RP 1 0 1))) z_)))), (ua, .inl (cJ, 308, .inr (.inl (fun z_ => lN (WA z_))))), (ub, .inl (cJ, 308, .inr (.inl (fun z_ => lN (XB z_)))))] := hD
  obtain ⟨er, p38_0⟩ := hw
  have p38_0 : rv_38 = sp_qo BR RP 0 1 1 := p38_0
  have er : r_38 = (nI rv_38) := er
  subst er
  subst p38_0
  refine lv_istore_n (lv' := [(3, .int (nI (sp_qo BR RP 0 1 1))), (2, .int (nI 3)), (4, .int (nI (sp_qo BR RP 1 0 1))), (1, .int (nI 1)), (0, .ref u0)]) hx hb dX2_start_41 rfl hl (by decide) rfl (fun ls hl => ?_)
  refine lv_aload_n hx hb dX2_start_42 rfl (lv_at hl 4 rfl) ?_
  refine lv_iconst (v := nI 1) hx hb dX2_start_43 (by decide) ?_
  refine lv_iload_n hx hb dX2_start_44 rfl (lv_at hl 3 rfl) ?_
  refine lv_iconst (v := nI 2) hx hb dX2_start_45 (by decide) ?_
  refine z_iand (v := nI 0) hx hb dX2_start_46 (by decide) ?_
  refine lv_if_eq (tgt := 54) hx hb dX2_start_47 (by decide) (fun _ => ?_) (fun c_x => absurd c_x (by decide))
  refine lv_iconst (v := nI 0) hx hb dX2_start_54 (by decide) ?_
  refine lv_iload_n hx hb dX2_start_55 rfl (lv_at hl 1 rfl) ?_
  refine lv_iconst (v := nI 2) hx hb dX2_start_56 (by decide) ?_
  refine z_iand (v := nI 2) hx hb dX2_start_57 (by decide) ?_
  refine lv_if_eq (tgt := 65) hx hb dX2_start_58 (by decide) (fun c_x => absurd c_x (by decide)) (fun _ => ?_)
  refine lv_iconst (v := nI 1) hx hb dX2_start_61 (by decide) ?_
  refine lv_goto (tgt := 66) hx hb dX2_start_62 (by decide) ?_
  refine z_callVi (As := [.int (nI 1), .int (nI 0), .int (nI 1)]) (rest := []) (wr := [(u3, .inl (cI, 16, .inl (fun z_ => nI ((up (up (up (up (up (up (up CW 0 ((sp_qo BR RP 0 0 0) * (sp_qo BR RP 1 0 0))) 1 ((sp_qo BR RP 0 0 1) * (sp_qo BR RP 1 0 0))) 2 ((sp_qo BR RP 0 0 0) * (sp_qo BR RP 1 0 1))) 3 ((sp_qo BR RP 0 0 1) * (sp_qo BR RP 1 0 1))) 4 ((sp_qo BR RP 0 1 0) * (sp_qo BR RP 1 0 0))) 5 ((sp_qo BR RP 0 1 1) * (sp_qo BR RP 1 0 0))) 6 ((sp_qo BR RP 0 1 0) * (sp_qo BR RP 1 0 1))) z_)))), (ua, .inl (cJ, 308, .inr (.inl (fun z_ => lN (WA z_))))), (ub, .inl (cJ, 308, .inr (.inl (fun z_ => lN (XB z_)))))]) ⟨hx, hb, hml, hown, hts⟩ (c_X2_quartersOf l dC dI cI cJ H.size u0 u1 u2 u3 ua ub BR RP rm 1 0 1 (by first | assumption | omega) (by first | assumption | omega) (by first | assumption | omega) (by first | assumption | omega) (by first | assumption | omega)) (cwV 3 hts gX2_start_X2_quartersOf rfl rfl rfl (by decide +kernel) ⟨Nat.le_of_ble_eq_true rfl, Nat.le_of_ble_eq_true rfl⟩) hA hK hP hD hS [0, 1, 2] [3, 4, 5] [3, 4, 5, 0, 1, 2] rfl rfl (by decide) (by decide) (by decide) nwA_ok hN (ci := 2) rfl rfl 0 rfl hl.1 (Nat.le_of_ble_eq_true rfl) ⟨Nat.le_refl _, Nat.le_refl _⟩ rfl rfl dX2_start_66 (fun (u : (Nat)) => [(u0, .inr (2, [.ref u1, .ref u2, .int (nI rm), .ref u3, .ref ua, .ref ub])), (u1, .inl (cI, 2, .inl (fun z_ => nI (BR z_)))), (u2, .inl (cI, 2, .inl (fun z_ => nI (RP z_)))), (u3, .inl (cI, 16, .inl (fun z_ => nI ((up (up (up (up (up (up (up CW 0 ((sp_qo BR RP 0 0 0) * (sp_qo BR RP 1 0 0))) 1 ((sp_qo BR RP 0 0 1) * (sp_qo BR RP 1 0 0))) 2 ((sp_qo BR RP 0 0 0) * (sp_qo BR RP 1 0 1))) 3 ((sp_qo BR RP 0 0 1) * (sp_qo BR RP 1 0 1))) 4 ((sp_qo BR RP 0 1 0) * (sp_qo BR RP 1 0 0))) 5 ((sp_qo BR RP 0 1 1) * (sp_qo BR RP 1 0 0))) 6 ((sp_qo BR RP 0 1 0) * (sp_qo BR RP 1 0 1))) z_)))), (ua, .inl (cJ, 308, .inr (.inl (fun z_ => lN (WA z_))))), (ub, .inl (cJ, 308, .inr (.inl (fun z_ => lN (XB z_)))))]) (fun u => rfl) (by decide) (fun r_66 u H locs hw hP hD hS => ?_)
  obtain ⟨rv_66, eu⟩ : ∃ z, z = u := ⟨_, rfl⟩
  subst eu
  have hP : va_P (dC, dI) vwCl [(u0, .inr (2, [.ref u1, .ref u2, .int (nI rm), .ref u3, .ref ua, .ref ub])), (u1, .inl (cI, 2, .inl (fun z_ => nI (BR z_)))), (u2, .inl (cI, 2, .inl (fun z_ => nI (RP z_)))), (u3, .inl (cI, 16, .inl (fun z_ => nI ((up (up (up (up (up (up (up CW 0 ((sp_qo BR RP 0 0 0) * (sp_qo BR RP 1 0 0))) 1 ((sp_qo BR RP 0 0 1) * (sp_qo BR RP 1 0 0))) 2 ((sp_qo BR RP 0 0 0) * (sp_qo BR RP 1 0 1))) 3 ((sp_qo BR RP 0 0 1) * (sp_qo BR RP 1 0 1))) 4 ((sp_qo BR RP 0 1 0) * (sp_qo BR RP 1 0 0))) 5 ((sp_qo BR RP 0 1 1) * (sp_qo BR RP 1 0 0))) 6 ((sp_qo BR RP 0 1 0) * (sp_qo BR RP 1 0 1))) z_)))), (ua, .inl (cJ, 308, .inr (.inl (fun z_ => lN (WA z_))))), (ub, .inl (cJ, 308, .inr (.inl (fun z_ => lN (XB z_)))))] H := hP
  have hD : va_D A [(u0, .inr (2, [.ref u1, .ref u2, .int (nI rm), .ref u3, .ref ua, .ref ub])), (u1, .inl (cI, 2, .inl (fun z_ => nI (BR z_)))), (u2, .inl (cI, 2, .inl (fun z_ => nI (RP z_)))), (u3, .inl (cI, 16, .inl (fun z_ => nI ((up (up (up (up (up (up (up CW 0 ((sp_qo BR RP 0 0 0) * (sp_qo BR RP 1 0 0))) 1 ((sp_qo BR RP 0 0 1) * (sp_qo BR RP 1 0 0))) 2 ((sp_qo BR RP 0 0 0) * (sp_qo BR RP 1 0 1))) 3 ((sp_qo BR RP 0 0 1) * (sp_qo BR RP 1 0 1))) 4 ((sp_qo BR RP 0 1 0) * (sp_qo BR RP 1 0 0))) 5 ((sp_qo BR RP 0 1 1) * (sp_qo BR RP 1 0 0))) 6 ((sp_qo BR RP 0 1 0) * (sp_qo BR RP 1 0 1))) z_)))), (ua, .inl (cJ, 308, .inr (.inl (fun z_ => lN (WA z_))))), (ub, .inl (cJ, 308, .inr (.inl (fun z_ => lN (XB z_)))))] := hD
  obtain ⟨er, p66_0⟩ := hw
  have p66_0 : rv_66 = sp_qo BR RP 1 0 1 := p66_0
  have er : r_66 = (nI rv_66) := er
  subst er
  subst p66_0
  refine lv_istore (lv' := [(4, .int (nI (sp_qo BR RP 1 0 1))), (3, .int (nI (sp_qo BR RP 0 1 1))), (2, .int (nI 3)), (1, .int (nI 1)), (0, .ref u0)]) hx hb dX2_start_69 hl (by decide) rfl (fun ls hl => ?_)
  refine lv_aload_n hx hb dX2_start_71 rfl (lv_at hl 4 rfl) ?_
  refine z_get (D := (dC, dI)) (ci := 2) (v := .ref u3) (C := RX2) (T := TX2) (N := 6) hx hb hts uX2 hown hK hP 0 rfl rfl 3 (by decide) w18 rfl rfl dX2_start_72 ?_
  refine lv_iload_n hx hb dX2_start_75 rfl (lv_at hl 3 rfl) ?_
  refine lv_iconst (v := nI 4) hx hb dX2_start_76 (by decide) ?_
  refine z_imul (v := (nI 4)) hx hb dX2_start_77 (by decide) ?_
  refine lv_iload_n hx hb dX2_start_78 rfl (lv_at hl 2 rfl) ?_
  refine z_iadd (v := (nI 7)) hx hb dX2_start_79 (by decide) ?_
  refine lv_iload_n hx hb dX2_start_80 rfl (lv_at hl 1 rfl) ?_
  refine lv_iload hx hb dX2_start_81 (lv_at hl 0 rfl) ?_
  refine z_imul (v := (nI ((sp_qo BR RP 0 1 1) * (sp_qo BR RP 1 0 1)))) hx hb dX2_start_83 (pk_mul _ _) ?_
  refine z_iast hx hb hK hP hD hS 3 0 rfl rfl 7 rfl (by omega) (upd_N (up (up (up (up (up (up (up CW 0 ((sp_qo BR RP 0 0 0) * (sp_qo BR RP 1 0 0))) 1 ((sp_qo BR RP 0 0 1) * (sp_qo BR RP 1 0 0))) 2 ((sp_qo BR RP 0 0 0) * (sp_qo BR RP 1 0 1))) 3 ((sp_qo BR RP 0 0 1) * (sp_qo BR RP 1 0 1))) 4 ((sp_qo BR RP 0 1 0) * (sp_qo BR RP 1 0 0))) 5 ((sp_qo BR RP 0 1 1) * (sp_qo BR RP 1 0 0))) 6 ((sp_qo BR RP 0 1 0) * (sp_qo BR RP 1 0 1))) 7 ((sp_qo BR RP 0 1 1) * (sp_qo BR RP 1 0 1))) [(u0, .inr (2, [.ref u1, .ref u2, .int (nI rm), .ref u3, .ref ua, .ref ub])), (u1, .inl (cI, 2, .inl (fun z_ => nI (BR z_)))), (u2, .inl (cI, 2, .inl (fun z_ => nI (RP z_)))), (u3, .inl (cI, 16, .inl (fun z_ => nI ((up (up (up (up (up (up (up (up CW 0 ((sp_qo BR RP 0 0 0) * (sp_qo BR RP 1 0 0))) 1 ((sp_qo BR RP 0 0 1) * (sp_qo BR RP 1 0 0))) 2 ((sp_qo BR RP 0 0 0) * (sp_qo BR RP 1 0 1))) 3 ((sp_qo BR RP 0 0 1) * (sp_qo BR RP 1 0 1))) 4 ((sp_qo BR RP 0 1 0) * (sp_qo BR RP 1 0 0))) 5 ((sp_qo BR RP 0 1 1) * (sp_qo BR RP 1 0 0))) 6 ((sp_qo BR RP 0 1 0) * (sp_qo BR RP 1 0 1))) 7 ((sp_qo BR RP 0 1 1) * (sp_qo BR RP 1 0 1))) z_)))), (ua, .inl (cJ, 308, .inr (.inl (fun z_ => lN (WA z_))))), (ub, .inl (cJ, 308, .inr (.inl (fun z_ => lN (XB z_)))))] rfl dX2_start_84 (fun H locs hP hD hS => ?_)
  refine lv_iinc (v := (nI 4)) (lv' := [(2, .int (nI 4)), (4, .int (nI (sp_qo BR RP 1 0 1))), (3, .int (nI (sp_qo BR RP 0 1 1))), (1, .int (nI 1)), (0, .ref u0)]) hx hb dX2_start_85 hl (k := 2) rfl (by decide) (by decide) rfl (fun ls hl => ?_)
  refine lv_goto (tgt := 9) hx hb dX2_start_88 (by decide) ?_
  refine lv_iload_n hx hb dX2_start_9 rfl (lv_at hl 0 rfl) ?_
  refine lv_iconst (v := nI 4) hx hb dX2_start_10 (by decide) ?_
  refine lv_icmp_ge (tgt := 91) hx hb dX2_start_11 (by decide) (fun _ => ?_) (fun c_x => absurd c_x (by decide))
  refine lv_iinc (v := (nI 2)) (lv' := [(1, .int (nI 2)), (2, .int (nI 4)), (4, .int (nI (sp_qo BR RP 1 0 1))), (3, .int (nI (sp_qo BR RP 0 1 1))), (0, .ref u0)]) hx hb dX2_start_91 hl (k := 3) rfl (by decide) (by decide) rfl (fun ls hl => ?_)
  refine lv_goto (tgt := 2) hx hb dX2_start_94 (by decide) ?_
  refine lv_iload_n hx hb dX2_start_2 rfl (lv_at hl 0 rfl) ?_
  refine lv_iconst (v := nI 4) hx hb dX2_start_3 (by decide) ?_
  refine lv_icmp_ge (tgt := 97) hx hb dX2_start_4 (by decide) (fun c_x => absurd c_x (by decide)) (fun _ => ?_)
  refine lv_iconst (v := nI 0) hx hb dX2_start_7 (by decide) ?_
  refine lv_istore_n (lv' := [(2, .int (nI 0)), (1, .int (nI 2)), (4, .int (nI (sp_qo BR RP 1 0 1))), (3, .int (nI (sp_qo BR RP 0 1 1))), (0, .ref u0)]) hx hb dX2_start_8 rfl hl (by decide) rfl (fun ls hl => ?_)
  refine lv_iload_n hx hb dX2_start_9 rfl (lv_at hl 0 rfl) ?_
  refine lv_iconst (v := nI 4) hx hb dX2_start_10 (by decide) ?_
  refine lv_icmp_ge (tgt := 91) hx hb dX2_start_11 (by decide) (fun c_x => absurd c_x (by decide)) (fun _ => ?_)
  refine lv_aload_n hx hb dX2_start_14 rfl (lv_at hl 4 rfl) ?_
  refine lv_iconst (v := nI 0) hx hb dX2_start_15 (by decide) ?_
  refine lv_iload_n hx hb dX2_start_16 rfl (lv_at hl 1 rfl) ?_
  refine lv_iconst (v := nI 1) hx hb dX2_start_17 (by decide) ?_
  refine z_iand (v := nI 0) hx hb dX2_start_18 (by decide) ?_
  refine lv_if_eq (tgt := 26) hx hb dX2_start_19 (by decide) (fun _ => ?_) (fun c_x => absurd c_x (by decide))
  refine lv_iconst (v := nI 0) hx hb dX2_start_26 (by decide) ?_
  refine lv_iload_n hx hb dX2_start_27 rfl (lv_at hl 0 rfl) ?_
  refine lv_iconst (v := nI 1) hx hb dX2_start_28 (by decide) ?_
  refine z_iand (v := nI 0) hx hb dX2_start_29 (by decide) ?_
  refine lv_if_eq (tgt := 37) hx hb dX2_start_30 (by decide) (fun _ => ?_) (fun c_x => absurd c_x (by decide))
  refine lv_iconst (v := nI 0) hx hb dX2_start_37 (by decide) ?_
  refine z_callVi (As := [.int (nI 0), .int (nI 0), .int (nI 0)]) (rest := []) (wr := [(u3, .inl (cI, 16, .inl (fun z_ => nI ((up (up (up (up (up (up (up (up CW 0 ((sp_qo BR RP 0 0 0) * (sp_qo BR RP 1 0 0))) 1 ((sp_qo BR RP 0 0 1) * (sp_qo BR RP 1 0 0))) 2 ((sp_qo BR RP 0 0 0) * (sp_qo BR RP 1 0 1))) 3 ((sp_qo BR RP 0 0 1) * (sp_qo BR RP 1 0 1))) 4 ((sp_qo BR RP 0 1 0) * (sp_qo BR RP 1 0 0))) 5 ((sp_qo BR RP 0 1 1) * (sp_qo BR RP 1 0 0))) 6 ((sp_qo BR RP 0 1 0) * (sp_qo BR RP 1 0 1))) 7 ((sp_qo BR RP 0 1 1) * (sp_qo BR RP 1 0 1))) z_)))), (ua, .inl (cJ, 308, .inr (.inl (fun z_ => lN (WA z_))))), (ub, .inl (cJ, 308, .inr (.inl (fun z_ => lN (XB z_)))))]) ⟨hx, hb, hml, hown, hts⟩ (c_X2_quartersOf l dC dI cI cJ H.size u0 u1 u2 u3 ua ub BR RP rm 0 0 0 (by first | assumption | omega) (by first | assumption | omega) (by first | assumption | omega) (by first | assumption | omega) (by first | assumption | omega)) (cwV 3 hts gX2_start_X2_quartersOf rfl rfl rfl (by decide +kernel) ⟨Nat.le_of_ble_eq_true rfl, Nat.le_of_ble_eq_true rfl⟩) hA hK hP hD hS [0, 1, 2] [3, 4, 5] [3, 4, 5, 0, 1, 2] rfl rfl (by decide) (by decide) (by decide) nwA_ok hN (ci := 2) rfl rfl 0 rfl hl.1 (Nat.le_of_ble_eq_true rfl) ⟨Nat.le_refl _, Nat.le_refl _⟩ rfl rfl dX2_start_38 (fun (u : (Nat)) => [(u0, .inr (2, [.ref u1, .ref u2, .int (nI rm), .ref u3, .ref ua, .ref ub])), (u1, .inl (cI, 2, .inl (fun z_ => nI (BR z_)))), (u2, .inl (cI, 2, .inl (fun z_ => nI (RP z_)))), (u3, .inl (cI, 16, .inl (fun z_ => nI ((up (up (up (up (up (up (up (up CW 0 ((sp_qo BR RP 0 0 0) * (sp_qo BR RP 1 0 0))) 1 ((sp_qo BR RP 0 0 1) * (sp_qo BR RP 1 0 0))) 2 ((sp_qo BR RP 0 0 0) * (sp_qo BR RP 1 0 1))) 3 ((sp_qo BR RP 0 0 1) * (sp_qo BR RP 1 0 1))) 4 ((sp_qo BR RP 0 1 0) * (sp_qo BR RP 1 0 0))) 5 ((sp_qo BR RP 0 1 1) * (sp_qo BR RP 1 0 0))) 6 ((sp_qo BR RP 0 1 0) * (sp_qo BR RP 1 0 1))) 7 ((sp_qo BR RP 0 1 1) * (sp_qo BR RP 1 0 1))) z_)))), (ua, .inl (cJ, 308, .inr (.inl (fun z_ => lN (WA z_))))), (ub, .inl (cJ, 308, .inr (.inl (fun z_ => lN (XB z_)))))]) (fun u => rfl) (by decide) (fun r_38 u H locs hw hP hD hS => ?_)
  obtain ⟨rv_38, eu⟩ : ∃ z, z = u := ⟨_, rfl⟩
  subst eu
  have hP : va_P (dC, dI) vwCl [(u0, .inr (2, [.ref u1, .ref u2, .int (nI rm), .ref u3, .ref ua, .ref ub])), (u1, .inl (cI, 2, .inl (fun z_ => nI (BR z_)))), (u2, .inl (cI, 2, .inl (fun z_ => nI (RP z_)))), (u3, .inl (cI, 16, .inl (fun z_ => nI ((up (up (up (up (up (up (up (up CW 0 ((sp_qo BR RP 0 0 0) * (sp_qo BR RP 1 0 0))) 1 ((sp_qo BR RP 0 0 1) * (sp_qo BR RP 1 0 0))) 2 ((sp_qo BR RP 0 0 0) * (sp_qo BR RP 1 0 1))) 3 ((sp_qo BR RP 0 0 1) * (sp_qo BR RP 1 0 1))) 4 ((sp_qo BR RP 0 1 0) * (sp_qo BR RP 1 0 0))) 5 ((sp_qo BR RP 0 1 1) * (sp_qo BR RP 1 0 0))) 6 ((sp_qo BR RP 0 1 0) * (sp_qo BR RP 1 0 1))) 7 ((sp_qo BR RP 0 1 1) * (sp_qo BR RP 1 0 1))) z_)))), (ua, .inl (cJ, 308, .inr (.inl (fun z_ => lN (WA z_))))), (ub, .inl (cJ, 308, .inr (.inl (fun z_ => lN (XB z_)))))] H := hP
  have hD : va_D A [(u0, .inr (2, [.ref u1, .ref u2, .int (nI rm), .ref u3, .ref ua, .ref ub])), (u1, .inl (cI, 2, .inl (fun z_ => nI (BR z_)))), (u2, .inl (cI, 2, .inl (fun z_ => nI (RP z_)))), (u3, .inl (cI, 16, .inl (fun z_ => nI ((up (up (up (up (up (up (up (up CW 0 ((sp_qo BR RP 0 0 0) * (sp_qo BR RP 1 0 0))) 1 ((sp_qo BR RP 0 0 1) * (sp_qo BR RP 1 0 0))) 2 ((sp_qo BR RP 0 0 0) * (sp_qo BR RP 1 0 1))) 3 ((sp_qo BR RP 0 0 1) * (sp_qo BR RP 1 0 1))) 4 ((sp_qo BR RP 0 1 0) * (sp_qo BR RP 1 0 0))) 5 ((sp_qo BR RP 0 1 1) * (sp_qo BR RP 1 0 0))) 6 ((sp_qo BR RP 0 1 0) * (sp_qo BR RP 1 0 1))) 7 ((sp_qo BR RP 0 1 1) * (sp_qo BR RP 1 0 1))) z_)))), (ua, .inl (cJ, 308, .inr (.inl (fun z_ => lN (WA z_))))), (ub, .inl (cJ, 308, .inr (.inl (fun z_ => lN (XB z_)))))] := hD
  obtain ⟨er, p38_0⟩ := hw
  have p38_0 : rv_38 = sp_qo BR RP 0 0 0 := p38_0
  have er : r_38 = (nI rv_38) := er
  subst er
  subst p38_0
  refine lv_istore_n (lv' := [(3, .int (nI (sp_qo BR RP 0 0 0))), (2, .int (nI 0)), (1, .int (nI 2)), (4, .int (nI (sp_qo BR RP 1 0 1))), (0, .ref u0)]) hx hb dX2_start_41 rfl hl (by decide) rfl (fun ls hl => ?_)
  refine lv_aload_n hx hb dX2_start_42 rfl (lv_at hl 4 rfl) ?_
  refine lv_iconst (v := nI 1) hx hb dX2_start_43 (by decide) ?_
  refine lv_iload_n hx hb dX2_start_44 rfl (lv_at hl 2 rfl) ?_
  refine lv_iconst (v := nI 2) hx hb dX2_start_45 (by decide) ?_
  refine z_iand (v := nI 2) hx hb dX2_start_46 (by decide) ?_
  refine lv_if_eq (tgt := 54) hx hb dX2_start_47 (by decide) (fun c_x => absurd c_x (by decide)) (fun _ => ?_)
  refine lv_iconst (v := nI 1) hx hb dX2_start_50 (by decide) ?_
  refine lv_goto (tgt := 55) hx hb dX2_start_51 (by decide) ?_
  refine lv_iload_n hx hb dX2_start_55 rfl (lv_at hl 1 rfl) ?_
  refine lv_iconst (v := nI 2) hx hb dX2_start_56 (by decide) ?_
  refine z_iand (v := nI 0) hx hb dX2_start_57 (by decide) ?_
  refine lv_if_eq (tgt := 65) hx hb dX2_start_58 (by decide) (fun _ => ?_) (fun c_x => absurd c_x (by decide))
  refine lv_iconst (v := nI 0) hx hb dX2_start_65 (by decide) ?_
  refine z_callVi (As := [.int (nI 1), .int (nI 1), .int (nI 0)]) (rest := []) (wr := [(u3, .inl (cI, 16, .inl (fun z_ => nI ((up (up (up (up (up (up (up (up CW 0 ((sp_qo BR RP 0 0 0) * (sp_qo BR RP 1 0 0))) 1 ((sp_qo BR RP 0 0 1) * (sp_qo BR RP 1 0 0))) 2 ((sp_qo BR RP 0 0 0) * (sp_qo BR RP 1 0 1))) 3 ((sp_qo BR RP 0 0 1) * (sp_qo BR RP 1 0 1))) 4 ((sp_qo BR RP 0 1 0) * (sp_qo BR RP 1 0 0))) 5 ((sp_qo BR RP 0 1 1) * (sp_qo BR RP 1 0 0))) 6 ((sp_qo BR RP 0 1 0) * (sp_qo BR RP 1 0 1))) 7 ((sp_qo BR RP 0 1 1) * (sp_qo BR RP 1 0 1))) z_)))), (ua, .inl (cJ, 308, .inr (.inl (fun z_ => lN (WA z_))))), (ub, .inl (cJ, 308, .inr (.inl (fun z_ => lN (XB z_)))))]) ⟨hx, hb, hml, hown, hts⟩ (c_X2_quartersOf l dC dI cI cJ H.size u0 u1 u2 u3 ua ub BR RP rm 1 1 0 (by first | assumption | omega) (by first | assumption | omega) (by first | assumption | omega) (by first | assumption | omega) (by first | assumption | omega)) (cwV 3 hts gX2_start_X2_quartersOf rfl rfl rfl (by decide +kernel) ⟨Nat.le_of_ble_eq_true rfl, Nat.le_of_ble_eq_true rfl⟩) hA hK hP hD hS [0, 1, 2] [3, 4, 5] [3, 4, 5, 0, 1, 2] rfl rfl (by decide) (by decide) (by decide) nwA_ok hN (ci := 2) rfl rfl 0 rfl hl.1 (Nat.le_of_ble_eq_true rfl) ⟨Nat.le_refl _, Nat.le_refl _⟩ rfl rfl dX2_start_66 (fun (u : (Nat)) => [(u0, .inr (2, [.ref u1, .ref u2, .int (nI rm), .ref u3, .ref ua, .ref ub])), (u1, .inl (cI, 2, .inl (fun z_ => nI (BR z_)))), (u2, .inl (cI, 2, .inl (fun z_ => nI (RP z_)))), (u3, .inl (cI, 16, .inl (fun z_ => nI ((up (up (up (up (up (up (up (up CW 0 ((sp_qo BR RP 0 0 0) * (sp_qo BR RP 1 0 0))) 1 ((sp_qo BR RP 0 0 1) * (sp_qo BR RP 1 0 0))) 2 ((sp_qo BR RP 0 0 0) * (sp_qo BR RP 1 0 1))) 3 ((sp_qo BR RP 0 0 1) * (sp_qo BR RP 1 0 1))) 4 ((sp_qo BR RP 0 1 0) * (sp_qo BR RP 1 0 0))) 5 ((sp_qo BR RP 0 1 1) * (sp_qo BR RP 1 0 0))) 6 ((sp_qo BR RP 0 1 0) * (sp_qo BR RP 1 0 1))) 7 ((sp_qo BR RP 0 1 1) * (sp_qo BR RP 1 0 1))) z_)))), (ua, .inl (cJ, 308, .inr (.inl (fun z_ => lN (WA z_))))), (ub, .inl (cJ, 308, .inr (.inl (fun z_ => lN (XB z_)))))]) (fun u => rfl) (by decide) (fun r_66 u H locs hw hP hD hS => ?_)
  obtain ⟨rv_66, eu⟩ : ∃ z, z = u := ⟨_, rfl⟩
  subst eu
  have hP : va_P (dC, dI) vwCl [(u0, .inr (2, [.ref u1, .ref u2, .int (nI rm), .ref u3, .ref ua, .ref ub])), (u1, .inl (cI, 2, .inl (fun z_ => nI (BR z_)))), (u2, .inl (cI, 2, .inl (fun z_ => nI (RP z_)))), (u3, .inl (cI, 16, .inl (fun z_ => nI ((up (up (up (up (up (up (up (up CW 0 ((sp_qo BR RP 0 0 0) * (sp_qo BR RP 1 0 0))) 1 ((sp_qo BR RP 0 0 1) * (sp_qo BR RP 1 0 0))) 2 ((sp_qo BR RP 0 0 0) * (sp_qo BR RP 1 0 1))) 3 ((sp_qo BR RP 0 0 1) * (sp_qo BR RP 1 0 1))) 4 ((sp_qo BR RP 0 1 0) * (sp_qo BR RP 1 0 0))) 5 ((sp_qo BR RP 0 1 1) * (sp_qo BR RP 1 0 0))) 6 ((sp_qo BR RP 0 1 0) * (sp_qo BR RP 1 0 1))) 7 ((sp_qo BR RP 0 1 1) * (sp_qo BR RP 1 0 1))) z_)))), (ua, .inl (cJ, 308, .inr (.inl (fun z_ => lN (WA z_))))), (ub, .inl (cJ, 308, .inr (.inl (fun z_ => lN (XB z_)))))] H := hP
  have hD : va_D A [(u0, .inr (2, [.ref u1, .ref u2, .int (nI rm), .ref u3, .ref ua, .ref ub])), (u1, .inl (cI, 2, .inl (fun z_ => nI (BR z_)))), (u2, .inl (cI, 2, .inl (fun z_ => nI (RP z_)))), (u3, .inl (cI, 16, .inl (fun z_ => nI ((up (up (up (up (up (up (up (up CW 0 ((sp_qo BR RP 0 0 0) * (sp_qo BR RP 1 0 0))) 1 ((sp_qo BR RP 0 0 1) * (sp_qo BR RP 1 0 0))) 2 ((sp_qo BR RP 0 0 0) * (sp_qo BR RP 1 0 1))) 3 ((sp_qo BR RP 0 0 1) * (sp_qo BR RP 1 0 1))) 4 ((sp_qo BR RP 0 1 0) * (sp_qo BR RP 1 0 0))) 5 ((sp_qo BR RP 0 1 1) * (sp_qo BR RP 1 0 0))) 6 ((sp_qo BR RP 0 1 0) * (sp_qo BR RP 1 0 1))) 7 ((sp_qo BR RP 0 1 1) * (sp_qo BR RP 1 0 1))) z_)))), (ua, .inl (cJ, 308, .inr (.inl (fun z_ => lN (WA z_))))), (ub, .inl (cJ, 308, .inr (.inl (fun z_ => lN (XB z_)))))] := hD
  obtain ⟨er, p66_0⟩ := hw
  have p66_0 : rv_66 = sp_qo BR RP 1 1 0 := p66_0
  have er : r_66 = (nI rv_66) := er
  subst er
  subst p66_0
  refine lv_istore (lv' := [(4, .int (nI (sp_qo BR RP 1 1 0))), (3, .int (nI (sp_qo BR RP 0 0 0))), (2, .int (nI 0)), (1, .int (nI 2)), (0, .ref u0)]) hx hb dX2_start_69 hl (by decide) rfl (fun ls hl => ?_)
  refine lv_aload_n hx hb dX2_start_71 rfl (lv_at hl 4 rfl) ?_
  refine z_get (D := (dC, dI)) (ci := 2) (v := .ref u3) (C := RX2) (T := TX2) (N := 6) hx hb hts uX2 hown hK hP 0 rfl rfl 3 (by decide) w18 rfl rfl dX2_start_72 ?_
  refine lv_iload_n hx hb dX2_start_75 rfl (lv_at hl 3 rfl) ?_
  refine lv_iconst (v := nI 4) hx hb dX2_start_76 (by decide) ?_
  refine z_imul (v := (nI 8)) hx hb dX2_start_77 (by decide) ?_
  refine lv_iload_n hx hb dX2_start_78 rfl (lv_at hl 2 rfl) ?_
  refine z_iadd (v := (nI 8)) hx hb dX2_start_79 (by decide) ?_
  refine lv_iload_n hx hb dX2_start_80 rfl (lv_at hl 1 rfl) ?_
  refine lv_iload hx hb dX2_start_81 (lv_at hl 0 rfl) ?_
  refine z_imul (v := (nI ((sp_qo BR RP 0 0 0) * (sp_qo BR RP 1 1 0)))) hx hb dX2_start_83 (pk_mul _ _) ?_
  refine z_iast hx hb hK hP hD hS 3 0 rfl rfl 8 rfl (by omega) (upd_N (up (up (up (up (up (up (up (up CW 0 ((sp_qo BR RP 0 0 0) * (sp_qo BR RP 1 0 0))) 1 ((sp_qo BR RP 0 0 1) * (sp_qo BR RP 1 0 0))) 2 ((sp_qo BR RP 0 0 0) * (sp_qo BR RP 1 0 1))) 3 ((sp_qo BR RP 0 0 1) * (sp_qo BR RP 1 0 1))) 4 ((sp_qo BR RP 0 1 0) * (sp_qo BR RP 1 0 0))) 5 ((sp_qo BR RP 0 1 1) * (sp_qo BR RP 1 0 0))) 6 ((sp_qo BR RP 0 1 0) * (sp_qo BR RP 1 0 1))) 7 ((sp_qo BR RP 0 1 1) * (sp_qo BR RP 1 0 1))) 8 ((sp_qo BR RP 0 0 0) * (sp_qo BR RP 1 1 0))) [(u0, .inr (2, [.ref u1, .ref u2, .int (nI rm), .ref u3, .ref ua, .ref ub])), (u1, .inl (cI, 2, .inl (fun z_ => nI (BR z_)))), (u2, .inl (cI, 2, .inl (fun z_ => nI (RP z_)))), (u3, .inl (cI, 16, .inl (fun z_ => nI ((up (up (up (up (up (up (up (up (up CW 0 ((sp_qo BR RP 0 0 0) * (sp_qo BR RP 1 0 0))) 1 ((sp_qo BR RP 0 0 1) * (sp_qo BR RP 1 0 0))) 2 ((sp_qo BR RP 0 0 0) * (sp_qo BR RP 1 0 1))) 3 ((sp_qo BR RP 0 0 1) * (sp_qo BR RP 1 0 1))) 4 ((sp_qo BR RP 0 1 0) * (sp_qo BR RP 1 0 0))) 5 ((sp_qo BR RP 0 1 1) * (sp_qo BR RP 1 0 0))) 6 ((sp_qo BR RP 0 1 0) * (sp_qo BR RP 1 0 1))) 7 ((sp_qo BR RP 0 1 1) * (sp_qo BR RP 1 0 1))) 8 ((sp_qo BR RP 0 0 0) * (sp_qo BR RP 1 1 0))) z_)))), (ua, .inl (cJ, 308, .inr (.inl (fun z_ => lN (WA z_))))), (ub, .inl (cJ, 308, .inr (.inl (fun z_ => lN (XB z_)))))] rfl dX2_start_84 (fun H locs hP hD hS => ?_)
  refine lv_iinc (v := (nI 1)) (lv' := [(2, .int (nI 1)), (4, .int (nI (sp_qo BR RP 1 1 0))), (3, .int (nI (sp_qo BR RP 0 0 0))), (1, .int (nI 2)), (0, .ref u0)]) hx hb dX2_start_85 hl (k := 2) rfl (by decide) (by decide) rfl (fun ls hl => ?_)
  refine lv_goto (tgt := 9) hx hb dX2_start_88 (by decide) ?_
  refine lv_iload_n hx hb dX2_start_9 rfl (lv_at hl 0 rfl) ?_
  refine lv_iconst (v := nI 4) hx hb dX2_start_10 (by decide) ?_
  refine lv_icmp_ge (tgt := 91) hx hb dX2_start_11 (by decide) (fun c_x => absurd c_x (by decide)) (fun _ => ?_)
  refine lv_aload_n hx hb dX2_start_14 rfl (lv_at hl 4 rfl) ?_
  refine lv_iconst (v := nI 0) hx hb dX2_start_15 (by decide) ?_
  refine lv_iload_n hx hb dX2_start_16 rfl (lv_at hl 3 rfl) ?_
  refine lv_iconst (v := nI 1) hx hb dX2_start_17 (by decide) ?_
  refine z_iand (v := nI 0) hx hb dX2_start_18 (by decide) ?_
  refine lv_if_eq (tgt := 26) hx hb dX2_start_19 (by decide) (fun _ => ?_) (fun c_x => absurd c_x (by decide))
  refine lv_iconst (v := nI 0) hx hb dX2_start_26 (by decide) ?_
  refine lv_iload_n hx hb dX2_start_27 rfl (lv_at hl 0 rfl) ?_
  refine lv_iconst (v := nI 1) hx hb dX2_start_28 (by decide) ?_
  refine z_iand (v := nI 1) hx hb dX2_start_29 (by decide) ?_
  refine lv_if_eq (tgt := 37) hx hb dX2_start_30 (by decide) (fun c_x => absurd c_x (by decide)) (fun _ => ?_)
  refine lv_iconst (v := nI 1) hx hb dX2_start_33 (by decide) ?_
  refine lv_goto (tgt := 38) hx hb dX2_start_34 (by decide) ?_
  refine z_callVi (As := [.int (nI 0), .int (nI 0), .int (nI 1)]) (rest := []) (wr := [(u3, .inl (cI, 16, .inl (fun z_ => nI ((up (up (up (up (up (up (up (up (up CW 0 ((sp_qo BR RP 0 0 0) * (sp_qo BR RP 1 0 0))) 1 ((sp_qo BR RP 0 0 1) * (sp_qo BR RP 1 0 0))) 2 ((sp_qo BR RP 0 0 0) * (sp_qo BR RP 1 0 1))) 3 ((sp_qo BR RP 0 0 1) * (sp_qo BR RP 1 0 1))) 4 ((sp_qo BR RP 0 1 0) * (sp_qo BR RP 1 0 0))) 5 ((sp_qo BR RP 0 1 1) * (sp_qo BR RP 1 0 0))) 6 ((sp_qo BR RP 0 1 0) * (sp_qo BR RP 1 0 1))) 7 ((sp_qo BR RP 0 1 1) * (sp_qo BR RP 1 0 1))) 8 ((sp_qo BR RP 0 0 0) * (sp_qo BR RP 1 1 0))) z_)))), (ua, .inl (cJ, 308, .inr (.inl (fun z_ => lN (WA z_))))), (ub, .inl (cJ, 308, .inr (.inl (fun z_ => lN (XB z_)))))]) ⟨hx, hb, hml, hown, hts⟩ (c_X2_quartersOf l dC dI cI cJ H.size u0 u1 u2 u3 ua ub BR RP rm 0 0 1 (by first | assumption | omega) (by first | assumption | omega) (by first | assumption | omega) (by first | assumption | omega) (by first | assumption | omega)) (cwV 3 hts gX2_start_X2_quartersOf rfl rfl rfl (by decide +kernel) ⟨Nat.le_of_ble_eq_true rfl, Nat.le_of_ble_eq_true rfl⟩) hA hK hP hD hS [0, 1, 2] [3, 4, 5] [3, 4, 5, 0, 1, 2] rfl rfl (by decide) (by decide) (by decide) nwA_ok hN (ci := 2) rfl rfl 0 rfl hl.1 (Nat.le_of_ble_eq_true rfl) ⟨Nat.le_refl _, Nat.le_refl _⟩ rfl rfl dX2_start_38 (fun (u : (Nat)) => [(u0, .inr (2, [.ref u1, .ref u2, .int (nI rm), .ref u3, .ref ua, .ref ub])), (u1, .inl (cI, 2, .inl (fun z_ => nI (BR z_)))), (u2, .inl (cI, 2, .inl (fun z_ => nI (RP z_)))), (u3, .inl (cI, 16, .inl (fun z_ => nI ((up (up (up (up (up (up (up (up (up CW 0 ((sp_qo BR RP 0 0 0) * (sp_qo BR RP 1 0 0))) 1 ((sp_qo BR RP 0 0 1) * (sp_qo BR RP 1 0 0))) 2 ((sp_qo BR RP 0 0 0) * (sp_qo BR RP 1 0 1))) 3 ((sp_qo BR RP 0 0 1) * (sp_qo BR RP 1 0 1))) 4 ((sp_qo BR RP 0 1 0) * (sp_qo BR RP 1 0 0))) 5 ((sp_qo BR RP 0 1 1) * (sp_qo BR RP 1 0 0))) 6 ((sp_qo BR RP 0 1 0) * (sp_qo BR RP 1 0 1))) 7 ((sp_qo BR RP 0 1 1) * (sp_qo BR RP 1 0 1))) 8 ((sp_qo BR RP 0 0 0) * (sp_qo BR RP 1 1 0))) z_)))), (ua, .inl (cJ, 308, .inr (.inl (fun z_ => lN (WA z_))))), (ub, .inl (cJ, 308, .inr (.inl (fun z_ => lN (XB z_)))))]) (fun u => rfl) (by decide) (fun r_38 u H locs hw hP hD hS => ?_)
  obtain ⟨rv_38, eu⟩ : ∃ z, z = u := ⟨_, rfl⟩
  subst eu
  have hP : va_P (dC, dI) vwCl [(u0, .inr (2, [.ref u1, .ref u2, .int (nI rm), .ref u3, .ref ua, .ref ub])), (u1, .inl (cI, 2, .inl (fun z_ => nI (BR z_)))), (u2, .inl (cI, 2, .inl (fun z_ => nI (RP z_)))), (u3, .inl (cI, 16, .inl (fun z_ => nI ((up (up (up (up (up (up (up (up (up CW 0 ((sp_qo BR RP 0 0 0) * (sp_qo BR RP 1 0 0))) 1 ((sp_qo BR RP 0 0 1) * (sp_qo BR RP 1 0 0))) 2 ((sp_qo BR RP 0 0 0) * (sp_qo BR RP 1 0 1))) 3 ((sp_qo BR RP 0 0 1) * (sp_qo BR RP 1 0 1))) 4 ((sp_qo BR RP 0 1 0) * (sp_qo BR RP 1 0 0))) 5 ((sp_qo BR RP 0 1 1) * (sp_qo BR RP 1 0 0))) 6 ((sp_qo BR RP 0 1 0) * (sp_qo BR RP 1 0 1))) 7 ((sp_qo BR RP 0 1 1) * (sp_qo BR RP 1 0 1))) 8 ((sp_qo BR RP 0 0 0) * (sp_qo BR RP 1 1 0))) z_)))), (ua, .inl (cJ, 308, .inr (.inl (fun z_ => lN (WA z_))))), (ub, .inl (cJ, 308, .inr (.inl (fun z_ => lN (XB z_)))))] H := hP
  have hD : va_D A [(u0, .inr (2, [.ref u1, .ref u2, .int (nI rm), .ref u3, .ref ua, .ref ub])), (u1, .inl (cI, 2, .inl (fun z_ => nI (BR z_)))), (u2, .inl (cI, 2, .inl (fun z_ => nI (RP z_)))), (u3, .inl (cI, 16, .inl (fun z_ => nI ((up (up (up (up (up (up (up (up (up CW 0 ((sp_qo BR RP 0 0 0) * (sp_qo BR RP 1 0 0))) 1 ((sp_qo BR RP 0 0 1) * (sp_qo BR RP 1 0 0))) 2 ((sp_qo BR RP 0 0 0) * (sp_qo BR RP 1 0 1))) 3 ((sp_qo BR RP 0 0 1) * (sp_qo BR RP 1 0 1))) 4 ((sp_qo BR RP 0 1 0) * (sp_qo BR RP 1 0 0))) 5 ((sp_qo BR RP 0 1 1) * (sp_qo BR RP 1 0 0))) 6 ((sp_qo BR RP 0 1 0) * (sp_qo BR RP 1 0 1))) 7 ((sp_qo BR RP 0 1 1) * (sp_qo BR RP 1 0 1))) 8 ((sp_qo BR RP 0 0 0) * (sp_qo BR RP 1 1 0))) z_)))), (ua, .inl (cJ, 308, .inr (.inl (fun z_ => lN (WA z_))))), (ub, .inl (cJ, 308, .inr (.inl (fun z_ => lN (XB z_)))))] := hD
  obtain ⟨er, p38_0⟩ := hw
  have p38_0 : rv_38 = sp_qo BR RP 0 0 1 := p38_0
  have er : r_38 = (nI rv_38) := er
  subst er
  subst p38_0
  refine lv_istore_n (lv' := [(3, .int (nI (sp_qo BR RP 0 0 1))), (2, .int (nI 1)), (4, .int (nI (sp_qo BR RP 1 1 0))), (1, .int (nI 2)), (0, .ref u0)]) hx hb dX2_start_41 rfl hl (by decide) rfl (fun ls hl => ?_)
  refine lv_aload_n hx hb dX2_start_42 rfl (lv_at hl 4 rfl) ?_
  refine lv_iconst (v := nI 1) hx hb dX2_start_43 (by decide) ?_
  refine lv_iload_n hx hb dX2_start_44 rfl (lv_at hl 3 rfl) ?_
  refine lv_iconst (v := nI 2) hx hb dX2_start_45 (by decide) ?_
  refine z_iand (v := nI 2) hx hb dX2_start_46 (by decide) ?_
  refine lv_if_eq (tgt := 54) hx hb dX2_start_47 (by decide) (fun c_x => absurd c_x (by decide)) (fun _ => ?_)
  refine lv_iconst (v := nI 1) hx hb dX2_start_50 (by decide) ?_
  refine lv_goto (tgt := 55) hx hb dX2_start_51 (by decide) ?_
  refine lv_iload_n hx hb dX2_start_55 rfl (lv_at hl 1 rfl) ?_
  refine lv_iconst (v := nI 2) hx hb dX2_start_56 (by decide) ?_
  refine z_iand (v := nI 0) hx hb dX2_start_57 (by decide) ?_
  refine lv_if_eq (tgt := 65) hx hb dX2_start_58 (by decide) (fun _ => ?_) (fun c_x => absurd c_x (by decide))
  refine lv_iconst (v := nI 0) hx hb dX2_start_65 (by decide) ?_
  refine z_callVi (As := [.int (nI 1), .int (nI 1), .int (nI 0)]) (rest := []) (wr := [(u3, .inl (cI, 16, .inl (fun z_ => nI ((up (up (up (up (up (up (up (up (up CW 0 ((sp_qo BR RP 0 0 0) * (sp_qo BR RP 1 0 0))) 1 ((sp_qo BR RP 0 0 1) * (sp_qo BR RP 1 0 0))) 2 ((sp_qo BR RP 0 0 0) * (sp_qo BR RP 1 0 1))) 3 ((sp_qo BR RP 0 0 1) * (sp_qo BR RP 1 0 1))) 4 ((sp_qo BR RP 0 1 0) * (sp_qo BR RP 1 0 0))) 5 ((sp_qo BR RP 0 1 1) * (sp_qo BR RP 1 0 0))) 6 ((sp_qo BR RP 0 1 0) * (sp_qo BR RP 1 0 1))) 7 ((sp_qo BR RP 0 1 1) * (sp_qo BR RP 1 0 1))) 8 ((sp_qo BR RP 0 0 0) * (sp_qo BR RP 1 1 0))) z_)))), (ua, .inl (cJ, 308, .inr (.inl (fun z_ => lN (WA z_))))), (ub, .inl (cJ, 308, .inr (.inl (fun z_ => lN (XB z_)))))]) ⟨hx, hb, hml, hown, hts⟩ (c_X2_quartersOf l dC dI cI cJ H.size u0 u1 u2 u3 ua ub BR RP rm 1 1 0 (by first | assumption | omega) (by first | assumption | omega) (by first | assumption | omega) (by first | assumption | omega) (by first | assumption | omega)) (cwV 3 hts gX2_start_X2_quartersOf rfl rfl rfl (by decide +kernel) ⟨Nat.le_of_ble_eq_true rfl, Nat.le_of_ble_eq_true rfl⟩) hA hK hP hD hS [0, 1, 2] [3, 4, 5] [3, 4, 5, 0, 1, 2] rfl rfl (by decide) (by decide) (by decide) nwA_ok hN (ci := 2) rfl rfl 0 rfl hl.1 (Nat.le_of_ble_eq_true rfl) ⟨Nat.le_refl _, Nat.le_refl _⟩ rfl rfl dX2_start_66 (fun (u : (Nat)) => [(u0, .inr (2, [.ref u1, .ref u2, .int (nI rm), .ref u3, .ref ua, .ref ub])), (u1, .inl (cI, 2, .inl (fun z_ => nI (BR z_)))), (u2, .inl (cI, 2, .inl (fun z_ => nI (RP z_)))), (u3, .inl (cI, 16, .inl (fun z_ => nI ((up (up (up (up (up (up (up (up (up CW 0 ((sp_qo BR RP 0 0 0) * (sp_qo BR RP 1 0 0))) 1 ((sp_qo BR RP 0 0 1) * (sp_qo BR RP 1 0 0))) 2 ((sp_qo BR RP 0 0 0) * (sp_qo BR RP 1 0 1))) 3 ((sp_qo BR RP 0 0 1) * (sp_qo BR RP 1 0 1))) 4 ((sp_qo BR RP 0 1 0) * (sp_qo BR RP 1 0 0))) 5 ((sp_qo BR RP 0 1 1) * (sp_qo BR RP 1 0 0))) 6 ((sp_qo BR RP 0 1 0) * (sp_qo BR RP 1 0 1))) 7 ((sp_qo BR RP 0 1 1) * (sp_qo BR RP 1 0 1))) 8 ((sp_qo BR RP 0 0 0) * (sp_qo BR RP 1 1 0))) z_)))), (ua, .inl (cJ, 308, .inr (.inl (fun z_ => lN (WA z_))))), (ub, .inl (cJ, 308, .inr (.inl (fun z_ => lN (XB z_)))))]) (fun u => rfl) (by decide) (fun r_66 u H locs hw hP hD hS => ?_)
  obtain ⟨rv_66, eu⟩ : ∃ z, z = u := ⟨_, rfl⟩
  subst eu
  have hP : va_P (dC, dI) vwCl [(u0, .inr (2, [.ref u1, .ref u2, .int (nI rm), .ref u3, .ref ua, .ref ub])), (u1, .inl (cI, 2, .inl (fun z_ => nI (BR z_)))), (u2, .inl (cI, 2, .inl (fun z_ => nI (RP z_)))), (u3, .inl (cI, 16, .inl (fun z_ => nI ((up (up (up (up (up (up (up (up (up CW 0 ((sp_qo BR RP 0 0 0) * (sp_qo BR RP 1 0 0))) 1 ((sp_qo BR RP 0 0 1) * (sp_qo BR RP 1 0 0))) 2 ((sp_qo BR RP 0 0 0) * (sp_qo BR RP 1 0 1))) 3 ((sp_qo BR RP 0 0 1) * (sp_qo BR RP 1 0 1))) 4 ((sp_qo BR RP 0 1 0) * (sp_qo BR RP 1 0 0))) 5 ((sp_qo BR RP 0 1 1) * (sp_qo BR RP 1 0 0))) 6 ((sp_qo BR RP 0 1 0) * (sp_qo BR RP 1 0 1))) 7 ((sp_qo BR RP 0 1 1) * (sp_qo BR RP 1 0 1))) 8 ((sp_qo BR RP 0 0 0) * (sp_qo BR RP 1 1 0))) z_)))), (ua, .inl (cJ, 308, .inr (.inl (fun z_ => lN (WA z_))))), (ub, .inl (cJ, 308, .inr (.inl (fun z_ => lN (XB z_)))))] H := hP
  have hD : va_D A [(u0, .inr (2, [.ref u1, .ref u2, .int (nI rm), .ref u3, .ref ua, .ref ub])), (u1, .inl (cI, 2, .inl (fun z_ => nI (BR z_)))), (u2, .inl (cI, 2, .inl (fun z_ => nI (RP z_)))), (u3, .inl (cI, 16, .inl (fun z_ => nI ((up (up (up (up (up (up (up (up (up CW 0 ((sp_qo BR RP 0 0 0) * (sp_qo BR RP 1 0 0))) 1 ((sp_qo BR RP 0 0 1) * (sp_qo BR RP 1 0 0))) 2 ((sp_qo BR RP 0 0 0) * (sp_qo BR RP 1 0 1))) 3 ((sp_qo BR RP 0 0 1) * (sp_qo BR RP 1 0 1))) 4 ((sp_qo BR RP 0 1 0) * (sp_qo BR RP 1 0 0))) 5 ((sp_qo BR RP 0 1 1) * (sp_qo BR RP 1 0 0))) 6 ((sp_qo BR RP 0 1 0) * (sp_qo BR RP 1 0 1))) 7 ((sp_qo BR RP 0 1 1) * (sp_qo BR RP 1 0 1))) 8 ((sp_qo BR RP 0 0 0) * (sp_qo BR RP 1 1 0))) z_)))), (ua, .inl (cJ, 308, .inr (.inl (fun z_ => lN (WA z_))))), (ub, .inl (cJ, 308, .inr (.inl (fun z_ => lN (XB z_)))))] := hD
  obtain ⟨er, p66_0⟩ := hw
  have p66_0 : rv_66 = sp_qo BR RP 1 1 0 := p66_0
  have er : r_66 = (nI rv_66) := er
  subst er
  subst p66_0
  refine lv_istore (lv' := [(4, .int (nI (sp_qo BR RP 1 1 0))), (3, .int (nI (sp_qo BR RP 0 0 1))), (2, .int (nI 1)), (1, .int (nI 2)), (0, .ref u0)]) hx hb dX2_start_69 hl (by decide) rfl (fun ls hl => ?_)
  refine lv_aload_n hx hb dX2_start_71 rfl (lv_at hl 4 rfl) ?_
  refine z_get (D := (dC, dI)) (ci := 2) (v := .ref u3) (C := RX2) (T := TX2) (N := 6) hx hb hts uX2 hown hK hP 0 rfl rfl 3 (by decide) w18 rfl rfl dX2_start_72 ?_
  refine lv_iload_n hx hb dX2_start_75 rfl (lv_at hl 3 rfl) ?_
  refine lv_iconst (v := nI 4) hx hb dX2_start_76 (by decide) ?_
  refine z_imul (v := (nI 8)) hx hb dX2_start_77 (by decide) ?_
  refine lv_iload_n hx hb dX2_start_78 rfl (lv_at hl 2 rfl) ?_
  refine z_iadd (v := (nI 9)) hx hb dX2_start_79 (by decide) ?_
  refine lv_iload_n hx hb dX2_start_80 rfl (lv_at hl 1 rfl) ?_
  refine lv_iload hx hb dX2_start_81 (lv_at hl 0 rfl) ?_
  refine z_imul (v := (nI ((sp_qo BR RP 0 0 1) * (sp_qo BR RP 1 1 0)))) hx hb dX2_start_83 (pk_mul _ _) ?_
  refine z_iast hx hb hK hP hD hS 3 0 rfl rfl 9 rfl (by omega) (upd_N (up (up (up (up (up (up (up (up (up CW 0 ((sp_qo BR RP 0 0 0) * (sp_qo BR RP 1 0 0))) 1 ((sp_qo BR RP 0 0 1) * (sp_qo BR RP 1 0 0))) 2 ((sp_qo BR RP 0 0 0) * (sp_qo BR RP 1 0 1))) 3 ((sp_qo BR RP 0 0 1) * (sp_qo BR RP 1 0 1))) 4 ((sp_qo BR RP 0 1 0) * (sp_qo BR RP 1 0 0))) 5 ((sp_qo BR RP 0 1 1) * (sp_qo BR RP 1 0 0))) 6 ((sp_qo BR RP 0 1 0) * (sp_qo BR RP 1 0 1))) 7 ((sp_qo BR RP 0 1 1) * (sp_qo BR RP 1 0 1))) 8 ((sp_qo BR RP 0 0 0) * (sp_qo BR RP 1 1 0))) 9 ((sp_qo BR RP 0 0 1) * (sp_qo BR RP 1 1 0))) [(u0, .inr (2, [.ref u1, .ref u2, .int (nI rm), .ref u3, .ref ua, .ref ub])), (u1, .inl (cI, 2, .inl (fun z_ => nI (BR z_)))), (u2, .inl (cI, 2, .inl (fun z_ => nI (RP z_)))), (u3, .inl (cI, 16, .inl (fun z_ => nI ((up (up (up (up (up (up (up (up (up (up CW 0 ((sp_qo BR RP 0 0 0) * (sp_qo BR RP 1 0 0))) 1 ((sp_qo BR RP 0 0 1) * (sp_qo BR RP 1 0 0))) 2 ((sp_qo BR RP 0 0 0) * (sp_qo BR RP 1 0 1))) 3 ((sp_qo BR RP 0 0 1) * (sp_qo BR RP 1 0 1))) 4 ((sp_qo BR RP 0 1 0) * (sp_qo BR RP 1 0 0))) 5 ((sp_qo BR RP 0 1 1) * (sp_qo BR RP 1 0 0))) 6 ((sp_qo BR RP 0 1 0) * (sp_qo BR RP 1 0 1))) 7 ((sp_qo BR RP 0 1 1) * (sp_qo BR RP 1 0 1))) 8 ((sp_qo BR RP 0 0 0) * (sp_qo BR RP 1 1 0))) 9 ((sp_qo BR RP 0 0 1) * (sp_qo BR RP 1 1 0))) z_)))), (ua, .inl (cJ, 308, .inr (.inl (fun z_ => lN (WA z_))))), (ub, .inl (cJ, 308, .inr (.inl (fun z_ => lN (XB z_)))))] rfl dX2_start_84 (fun H locs hP hD hS => ?_)
  refine lv_iinc (v := (nI 2)) (lv' := [(2, .int (nI 2)), (4, .int (nI (sp_qo BR RP 1 1 0))), (3, .int (nI (sp_qo BR RP 0 0 1))), (1, .int (nI 2)), (0, .ref u0)]) hx hb dX2_start_85 hl (k := 2) rfl (by decide) (by decide) rfl (fun ls hl => ?_)
  refine lv_goto (tgt := 9) hx hb dX2_start_88 (by decide) ?_
  refine lv_iload_n hx hb dX2_start_9 rfl (lv_at hl 0 rfl) ?_
  refine lv_iconst (v := nI 4) hx hb dX2_start_10 (by decide) ?_
  refine lv_icmp_ge (tgt := 91) hx hb dX2_start_11 (by decide) (fun c_x => absurd c_x (by decide)) (fun _ => ?_)
  refine lv_aload_n hx hb dX2_start_14 rfl (lv_at hl 4 rfl) ?_
  refine lv_iconst (v := nI 0) hx hb dX2_start_15 (by decide) ?_
  refine lv_iload_n hx hb dX2_start_16 rfl (lv_at hl 3 rfl) ?_
  refine lv_iconst (v := nI 1) hx hb dX2_start_17 (by decide) ?_
  refine z_iand (v := nI 0) hx hb dX2_start_18 (by decide) ?_
  refine lv_if_eq (tgt := 26) hx hb dX2_start_19 (by decide) (fun _ => ?_) (fun c_x => absurd c_x (by decide))
  refine lv_iconst (v := nI 0) hx hb dX2_start_26 (by decide) ?_
  refine lv_iload_n hx hb dX2_start_27 rfl (lv_at hl 0 rfl) ?_
  refine lv_iconst (v := nI 1) hx hb dX2_start_28 (by decide) ?_
  refine z_iand (v := nI 0) hx hb dX2_start_29 (by decide) ?_
  refine lv_if_eq (tgt := 37) hx hb dX2_start_30 (by decide) (fun _ => ?_) (fun c_x => absurd c_x (by decide))
  refine lv_iconst (v := nI 0) hx hb dX2_start_37 (by decide) ?_
  refine z_callVi (As := [.int (nI 0), .int (nI 0), .int (nI 0)]) (rest := []) (wr := [(u3, .inl (cI, 16, .inl (fun z_ => nI ((up (up (up (up (up (up (up (up (up (up CW 0 ((sp_qo BR RP 0 0 0) * (sp_qo BR RP 1 0 0))) 1 ((sp_qo BR RP 0 0 1) * (sp_qo BR RP 1 0 0))) 2 ((sp_qo BR RP 0 0 0) * (sp_qo BR RP 1 0 1))) 3 ((sp_qo BR RP 0 0 1) * (sp_qo BR RP 1 0 1))) 4 ((sp_qo BR RP 0 1 0) * (sp_qo BR RP 1 0 0))) 5 ((sp_qo BR RP 0 1 1) * (sp_qo BR RP 1 0 0))) 6 ((sp_qo BR RP 0 1 0) * (sp_qo BR RP 1 0 1))) 7 ((sp_qo BR RP 0 1 1) * (sp_qo BR RP 1 0 1))) 8 ((sp_qo BR RP 0 0 0) * (sp_qo BR RP 1 1 0))) 9 ((sp_qo BR RP 0 0 1) * (sp_qo BR RP 1 1 0))) z_)))), (ua, .inl (cJ, 308, .inr (.inl (fun z_ => lN (WA z_))))), (ub, .inl (cJ, 308, .inr (.inl (fun z_ => lN (XB z_)))))]) ⟨hx, hb, hml, hown, hts⟩ (c_X2_quartersOf l dC dI cI cJ H.size u0 u1 u2 u3 ua ub BR RP rm 0 0 0 (by first | assumption | omega) (by first | assumption | omega) (by first | assumption | omega) (by first | assumption | omega) (by first | assumption | omega)) (cwV 3 hts gX2_start_X2_quartersOf rfl rfl rfl (by decide +kernel) ⟨Nat.le_of_ble_eq_true rfl, Nat.le_of_ble_eq_true rfl⟩) hA hK hP hD hS [0, 1, 2] [3, 4, 5] [3, 4, 5, 0, 1, 2] rfl rfl (by decide) (by decide) (by decide) nwA_ok hN (ci := 2) rfl rfl 0 rfl hl.1 (Nat.le_of_ble_eq_true rfl) ⟨Nat.le_refl _, Nat.le_refl _⟩ rfl rfl dX2_start_38 (fun (u : (Nat)) => [(u0, .inr (2, [.ref u1, .ref u2, .int (nI rm), .ref u3, .ref ua, .ref ub])), (u1, .inl (cI, 2, .inl (fun z_ => nI (BR z_)))), (u2, .inl (cI, 2, .inl (fun z_ => nI (RP z_)))), (u3, .inl (cI, 16, .inl (fun z_ => nI ((up (up (up (up (up (up (up (up (up (up CW 0 ((sp_qo BR RP 0 0 0) * (sp_qo BR RP 1 0 0))) 1 ((sp_qo BR RP 0 0 1) * (sp_qo BR RP 1 0 0))) 2 ((sp_qo BR RP 0 0 0) * (sp_qo BR RP 1 0 1))) 3 ((sp_qo BR RP 0 0 1) * (sp_qo BR RP 1 0 1))) 4 ((sp_qo BR RP 0 1 0) * (sp_qo BR RP 1 0 0))) 5 ((sp_qo BR RP 0 1 1) * (sp_qo BR RP 1 0 0))) 6 ((sp_qo BR RP 0 1 0) * (sp_qo BR RP 1 0 1))) 7 ((sp_qo BR RP 0 1 1) * (sp_qo BR RP 1 0 1))) 8 ((sp_qo BR RP 0 0 0) * (sp_qo BR RP 1 1 0))) 9 ((sp_qo BR RP 0 0 1) * (sp_qo BR RP 1 1 0))) z_)))), (ua, .inl (cJ, 308, .inr (.inl (fun z_ => lN (WA z_))))), (ub, .inl (cJ, 308, .inr (.inl (fun z_ => lN (XB z_)))))]) (fun u => rfl) (by decide) (fun r_38 u H locs hw hP hD hS => ?_)
  obtain ⟨rv_38, eu⟩ : ∃ z, z = u := ⟨_, rfl⟩
  subst eu
  have hP : va_P (dC, dI) vwCl [(u0, .inr (2, [.ref u1, .ref u2, .int (nI rm), .ref u3, .ref ua, .ref ub])), (u1, .inl (cI, 2, .inl (fun z_ => nI (BR z_)))), (u2, .inl (cI, 2, .inl (fun z_ => nI (RP z_)))), (u3, .inl (cI, 16, .inl (fun z_ => nI ((up (up (up (up (up (up (up (up (up (up CW 0 ((sp_qo BR RP 0 0 0) * (sp_qo BR RP 1 0 0))) 1 ((sp_qo BR RP 0 0 1) * (sp_qo BR RP 1 0 0))) 2 ((sp_qo BR RP 0 0 0) * (sp_qo BR RP 1 0 1))) 3 ((sp_qo BR RP 0 0 1) * (sp_qo BR RP 1 0 1))) 4 ((sp_qo BR RP 0 1 0) * (sp_qo BR RP 1 0 0))) 5 ((sp_qo BR RP 0 1 1) * (sp_qo BR RP 1 0 0))) 6 ((sp_qo BR RP 0 1 0) * (sp_qo BR RP 1 0 1))) 7 ((sp_qo BR RP 0 1 1) * (sp_qo BR RP 1 0 1))) 8 ((sp_qo BR RP 0 0 0) * (sp_qo BR RP 1 1 0))) 9 ((sp_qo BR RP 0 0 1) * (sp_qo BR RP 1 1 0))) z_)))), (ua, .inl (cJ, 308, .inr (.inl (fun z_ => lN (WA z_))))), (ub, .inl (cJ, 308, .inr (.inl (fun z_ => lN (XB z_)))))] H := hP
  have hD : va_D A [(u0, .inr (2, [.ref u1, .ref u2, .int (nI rm), .ref u3, .ref ua, .ref ub])), (u1, .inl (cI, 2, .inl (fun z_ => nI (BR z_)))), (u2, .inl (cI, 2, .inl (fun z_ => nI (RP z_)))), (u3, .inl (cI, 16, .inl (fun z_ => nI ((up (up (up (up (up (up (up (up (up (up CW 0 ((sp_qo BR RP 0 0 0) * (sp_qo BR RP 1 0 0))) 1 ((sp_qo BR RP 0 0 1) * (sp_qo BR RP 1 0 0))) 2 ((sp_qo BR RP 0 0 0) * (sp_qo BR RP 1 0 1))) 3 ((sp_qo BR RP 0 0 1) * (sp_qo BR RP 1 0 1))) 4 ((sp_qo BR RP 0 1 0) * (sp_qo BR RP 1 0 0))) 5 ((sp_qo BR RP 0 1 1) * (sp_qo BR RP 1 0 0))) 6 ((sp_qo BR RP 0 1 0) * (sp_qo BR RP 1 0 1))) 7 ((sp_qo BR RP 0 1 1) * (sp_qo BR RP 1 0 1))) 8 ((sp_qo BR RP 0 0 0) * (sp_qo BR RP 1 1 0))) 9 ((sp_qo BR RP 0 0 1) * (sp_qo BR RP 1 1 0))) z_)))), (ua, .inl (cJ, 308, .inr (.inl (fun z_ => lN (WA z_))))), (ub, .inl (cJ, 308, .inr (.inl (fun z_ => lN (XB z_)))))] := hD
  obtain ⟨er, p38_0⟩ := hw
  have p38_0 : rv_38 = sp_qo BR RP 0 0 0 := p38_0
  have er : r_38 = (nI rv_38) := er
  subst er
  subst p38_0
  refine lv_istore_n (lv' := [(3, .int (nI (sp_qo BR RP 0 0 0))), (2, .int (nI 2)), (4, .int (nI (sp_qo BR RP 1 1 0))), (1, .int (nI 2)), (0, .ref u0)]) hx hb dX2_start_41 rfl hl (by decide) rfl (fun ls hl => ?_)
  refine lv_aload_n hx hb dX2_start_42 rfl (lv_at hl 4 rfl) ?_
  refine lv_iconst (v := nI 1) hx hb dX2_start_43 (by decide) ?_
  refine lv_iload_n hx hb dX2_start_44 rfl (lv_at hl 3 rfl) ?_
  refine lv_iconst (v := nI 2) hx hb dX2_start_45 (by decide) ?_
  refine z_iand (v := nI 2) hx hb dX2_start_46 (by decide) ?_
  refine lv_if_eq (tgt := 54) hx hb dX2_start_47 (by decide) (fun c_x => absurd c_x (by decide)) (fun _ => ?_)
  refine lv_iconst (v := nI 1) hx hb dX2_start_50 (by decide) ?_
  refine lv_goto (tgt := 55) hx hb dX2_start_51 (by decide) ?_
  refine lv_iload_n hx hb dX2_start_55 rfl (lv_at hl 1 rfl) ?_
  refine lv_iconst (v := nI 2) hx hb dX2_start_56 (by decide) ?_
  refine z_iand (v := nI 2) hx hb dX2_start_57 (by decide) ?_
  refine lv_if_eq (tgt := 65) hx hb dX2_start_58 (by decide) (fun c_x => absurd c_x (by decide)) (fun _ => ?_)
  refine lv_iconst (v := nI 1) hx hb dX2_start_61 (by decide) ?_
  refine lv_goto (tgt := 66) hx hb dX2_start_62 (by decide) ?_
  refine z_callVi (As := [.int (nI 1), .int (nI 1), .int (nI 1)]) (rest := []) (wr := [(u3, .inl (cI, 16, .inl (fun z_ => nI ((up (up (up (up (up (up (up (up (up (up CW 0 ((sp_qo BR RP 0 0 0) * (sp_qo BR RP 1 0 0))) 1 ((sp_qo BR RP 0 0 1) * (sp_qo BR RP 1 0 0))) 2 ((sp_qo BR RP 0 0 0) * (sp_qo BR RP 1 0 1))) 3 ((sp_qo BR RP 0 0 1) * (sp_qo BR RP 1 0 1))) 4 ((sp_qo BR RP 0 1 0) * (sp_qo BR RP 1 0 0))) 5 ((sp_qo BR RP 0 1 1) * (sp_qo BR RP 1 0 0))) 6 ((sp_qo BR RP 0 1 0) * (sp_qo BR RP 1 0 1))) 7 ((sp_qo BR RP 0 1 1) * (sp_qo BR RP 1 0 1))) 8 ((sp_qo BR RP 0 0 0) * (sp_qo BR RP 1 1 0))) 9 ((sp_qo BR RP 0 0 1) * (sp_qo BR RP 1 1 0))) z_)))), (ua, .inl (cJ, 308, .inr (.inl (fun z_ => lN (WA z_))))), (ub, .inl (cJ, 308, .inr (.inl (fun z_ => lN (XB z_)))))]) ⟨hx, hb, hml, hown, hts⟩ (c_X2_quartersOf l dC dI cI cJ H.size u0 u1 u2 u3 ua ub BR RP rm 1 1 1 (by first | assumption | omega) (by first | assumption | omega) (by first | assumption | omega) (by first | assumption | omega) (by first | assumption | omega)) (cwV 3 hts gX2_start_X2_quartersOf rfl rfl rfl (by decide +kernel) ⟨Nat.le_of_ble_eq_true rfl, Nat.le_of_ble_eq_true rfl⟩) hA hK hP hD hS [0, 1, 2] [3, 4, 5] [3, 4, 5, 0, 1, 2] rfl rfl (by decide) (by decide) (by decide) nwA_ok hN (ci := 2) rfl rfl 0 rfl hl.1 (Nat.le_of_ble_eq_true rfl) ⟨Nat.le_refl _, Nat.le_refl _⟩ rfl rfl dX2_start_66 (fun (u : (Nat)) => [(u0, .inr (2, [.ref u1, .ref u2, .int (nI rm), .ref u3, .ref ua, .ref ub])), (u1, .inl (cI, 2, .inl (fun z_ => nI (BR z_)))), (u2, .inl (cI, 2, .inl (fun z_ => nI (RP z_)))), (u3, .inl (cI, 16, .inl (fun z_ => nI ((up (up (up (up (up (up (up (up (up (up CW 0 ((sp_qo BR RP 0 0 0) * (sp_qo BR RP 1 0 0))) 1 ((sp_qo BR RP 0 0 1) * (sp_qo BR RP 1 0 0))) 2 ((sp_qo BR RP 0 0 0) * (sp_qo BR RP 1 0 1))) 3 ((sp_qo BR RP 0 0 1) * (sp_qo BR RP 1 0 1))) 4 ((sp_qo BR RP 0 1 0) * (sp_qo BR RP 1 0 0))) 5 ((sp_qo BR RP 0 1 1) * (sp_qo BR RP 1 0 0))) 6 ((sp_qo BR RP 0 1 0) * (sp_qo BR RP 1 0 1))) 7 ((sp_qo BR RP 0 1 1) * (sp_qo BR RP 1 0 1))) 8 ((sp_qo BR RP 0 0 0) * (sp_qo BR RP 1 1 0))) 9 ((sp_qo BR RP 0 0 1) * (sp_qo BR RP 1 1 0))) z_)))), (ua, .inl (cJ, 308, .inr (.inl (fun z_ => lN (WA z_))))), (ub, .inl (cJ, 308, .inr (.inl (fun z_ => lN (XB z_)))))]) (fun u => rfl) (by decide) (fun r_66 u H locs hw hP hD hS => ?_)
  obtain ⟨rv_66, eu⟩ : ∃ z, z = u := ⟨_, rfl⟩
  subst eu
  have hP : va_P (dC, dI) vwCl [(u0, .inr (2, [.ref u1, .ref u2, .int (nI rm), .ref u3, .ref ua, .ref ub])), (u1, .inl (cI, 2, .inl (fun z_ => nI (BR z_)))), (u2, .inl (cI, 2, .inl (fun z_ => nI (RP z_)))), (u3, .inl (cI, 16, .inl (fun z_ => nI ((up (up (up (up (up (up (up (up (up (up CW 0 ((sp_qo BR RP 0 0 0) * (sp_qo BR RP 1 0 0))) 1 ((sp_qo BR RP 0 0 1) * (sp_qo BR RP 1 0 0))) 2 ((sp_qo BR RP 0 0 0) * (sp_qo BR RP 1 0 1))) 3 ((sp_qo BR RP 0 0 1) * (sp_qo BR RP 1 0 1))) 4 ((sp_qo BR RP 0 1 0) * (sp_qo BR RP 1 0 0))) 5 ((sp_qo BR RP 0 1 1) * (sp_qo BR RP 1 0 0))) 6 ((sp_qo BR RP 0 1 0) * (sp_qo BR RP 1 0 1))) 7 ((sp_qo BR RP 0 1 1) * (sp_qo BR RP 1 0 1))) 8 ((sp_qo BR RP 0 0 0) * (sp_qo BR RP 1 1 0))) 9 ((sp_qo BR RP 0 0 1) * (sp_qo BR RP 1 1 0))) z_)))), (ua, .inl (cJ, 308, .inr (.inl (fun z_ => lN (WA z_))))), (ub, .inl (cJ, 308, .inr (.inl (fun z_ => lN (XB z_)))))] H := hP
  have hD : va_D A [(u0, .inr (2, [.ref u1, .ref u2, .int (nI rm), .ref u3, .ref ua, .ref ub])), (u1, .inl (cI, 2, .inl (fun z_ => nI (BR z_)))), (u2, .inl (cI, 2, .inl (fun z_ => nI (RP z_)))), (u3, .inl (cI, 16, .inl (fun z_ => nI ((up (up (up (up (up (up (up (up (up (up CW 0 ((sp_qo BR RP 0 0 0) * (sp_qo BR RP 1 0 0))) 1 ((sp_qo BR RP 0 0 1) * (sp_qo BR RP 1 0 0))) 2 ((sp_qo BR RP 0 0 0) * (sp_qo BR RP 1 0 1))) 3 ((sp_qo BR RP 0 0 1) * (sp_qo BR RP 1 0 1))) 4 ((sp_qo BR RP 0 1 0) * (sp_qo BR RP 1 0 0))) 5 ((sp_qo BR RP 0 1 1) * (sp_qo BR RP 1 0 0))) 6 ((sp_qo BR RP 0 1 0) * (sp_qo BR RP 1 0 1))) 7 ((sp_qo BR RP 0 1 1) * (sp_qo BR RP 1 0 1))) 8 ((sp_qo BR RP 0 0 0) * (sp_qo BR RP 1 1 0))) 9 ((sp_qo BR RP 0 0 1) * (sp_qo BR RP 1 1 0))) z_)))), (ua, .inl (cJ, 308, .inr (.inl (fun z_ => lN (WA z_))))), (ub, .inl (cJ, 308, .inr (.inl (fun z_ => lN (XB z_)))))] := hD
  obtain ⟨er, p66_0⟩ := hw
  have p66_0 : rv_66 = sp_qo BR RP 1 1 1 := p66_0
  have er : r_66 = (nI rv_66) := er
  subst er
  subst p66_0
  refine lv_istore (lv' := [(4, .int (nI (sp_qo BR RP 1 1 1))), (3, .int (nI (sp_qo BR RP 0 0 0))), (2, .int (nI 2)), (1, .int (nI 2)), (0, .ref u0)]) hx hb dX2_start_69 hl (by decide) rfl (fun ls hl => ?_)
  refine lv_aload_n hx hb dX2_start_71 rfl (lv_at hl 4 rfl) ?_
  refine z_get (D := (dC, dI)) (ci := 2) (v := .ref u3) (C := RX2) (T := TX2) (N := 6) hx hb hts uX2 hown hK hP 0 rfl rfl 3 (by decide) w18 rfl rfl dX2_start_72 ?_
  refine lv_iload_n hx hb dX2_start_75 rfl (lv_at hl 3 rfl) ?_
  refine lv_iconst (v := nI 4) hx hb dX2_start_76 (by decide) ?_
  refine z_imul (v := (nI 8)) hx hb dX2_start_77 (by decide) ?_
  refine lv_iload_n hx hb dX2_start_78 rfl (lv_at hl 2 rfl) ?_
  refine z_iadd (v := (nI 10)) hx hb dX2_start_79 (by decide) ?_
  refine lv_iload_n hx hb dX2_start_80 rfl (lv_at hl 1 rfl) ?_
  refine lv_iload hx hb dX2_start_81 (lv_at hl 0 rfl) ?_
  refine z_imul (v := (nI ((sp_qo BR RP 0 0 0) * (sp_qo BR RP 1 1 1)))) hx hb dX2_start_83 (pk_mul _ _) ?_
  refine z_iast hx hb hK hP hD hS 3 0 rfl rfl 10 rfl (by omega) (upd_N (up (up (up (up (up (up (up (up (up (up CW 0 ((sp_qo BR RP 0 0 0) * (sp_qo BR RP 1 0 0))) 1 ((sp_qo BR RP 0 0 1) * (sp_qo BR RP 1 0 0))) 2 ((sp_qo BR RP 0 0 0) * (sp_qo BR RP 1 0 1))) 3 ((sp_qo BR RP 0 0 1) * (sp_qo BR RP 1 0 1))) 4 ((sp_qo BR RP 0 1 0) * (sp_qo BR RP 1 0 0))) 5 ((sp_qo BR RP 0 1 1) * (sp_qo BR RP 1 0 0))) 6 ((sp_qo BR RP 0 1 0) * (sp_qo BR RP 1 0 1))) 7 ((sp_qo BR RP 0 1 1) * (sp_qo BR RP 1 0 1))) 8 ((sp_qo BR RP 0 0 0) * (sp_qo BR RP 1 1 0))) 9 ((sp_qo BR RP 0 0 1) * (sp_qo BR RP 1 1 0))) 10 ((sp_qo BR RP 0 0 0) * (sp_qo BR RP 1 1 1))) [(u0, .inr (2, [.ref u1, .ref u2, .int (nI rm), .ref u3, .ref ua, .ref ub])), (u1, .inl (cI, 2, .inl (fun z_ => nI (BR z_)))), (u2, .inl (cI, 2, .inl (fun z_ => nI (RP z_)))), (u3, .inl (cI, 16, .inl (fun z_ => nI ((up (up (up (up (up (up (up (up (up (up (up CW 0 ((sp_qo BR RP 0 0 0) * (sp_qo BR RP 1 0 0))) 1 ((sp_qo BR RP 0 0 1) * (sp_qo BR RP 1 0 0))) 2 ((sp_qo BR RP 0 0 0) * (sp_qo BR RP 1 0 1))) 3 ((sp_qo BR RP 0 0 1) * (sp_qo BR RP 1 0 1))) 4 ((sp_qo BR RP 0 1 0) * (sp_qo BR RP 1 0 0))) 5 ((sp_qo BR RP 0 1 1) * (sp_qo BR RP 1 0 0))) 6 ((sp_qo BR RP 0 1 0) * (sp_qo BR RP 1 0 1))) 7 ((sp_qo BR RP 0 1 1) * (sp_qo BR RP 1 0 1))) 8 ((sp_qo BR RP 0 0 0) * (sp_qo BR RP 1 1 0))) 9 ((sp_qo BR RP 0 0 1) * (sp_qo BR RP 1 1 0))) 10 ((sp_qo BR RP 0 0 0) * (sp_qo BR RP 1 1 1))) z_)))), (ua, .inl (cJ, 308, .inr (.inl (fun z_ => lN (WA z_))))), (ub, .inl (cJ, 308, .inr (.inl (fun z_ => lN (XB z_)))))] rfl dX2_start_84 (fun H locs hP hD hS => ?_)
  refine lv_iinc (v := (nI 3)) (lv' := [(2, .int (nI 3)), (4, .int (nI (sp_qo BR RP 1 1 1))), (3, .int (nI (sp_qo BR RP 0 0 0))), (1, .int (nI 2)), (0, .ref u0)]) hx hb dX2_start_85 hl (k := 2) rfl (by decide) (by decide) rfl (fun ls hl => ?_)
  refine lv_goto (tgt := 9) hx hb dX2_start_88 (by decide) ?_
  refine lv_iload_n hx hb dX2_start_9 rfl (lv_at hl 0 rfl) ?_
  refine lv_iconst (v := nI 4) hx hb dX2_start_10 (by decide) ?_
  refine lv_icmp_ge (tgt := 91) hx hb dX2_start_11 (by decide) (fun c_x => absurd c_x (by decide)) (fun _ => ?_)
  refine lv_aload_n hx hb dX2_start_14 rfl (lv_at hl 4 rfl) ?_
  refine lv_iconst (v := nI 0) hx hb dX2_start_15 (by decide) ?_
  refine lv_iload_n hx hb dX2_start_16 rfl (lv_at hl 3 rfl) ?_
  refine lv_iconst (v := nI 1) hx hb dX2_start_17 (by decide) ?_
  refine z_iand (v := nI 0) hx hb dX2_start_18 (by decide) ?_
  refine lv_if_eq (tgt := 26) hx hb dX2_start_19 (by decide) (fun _ => ?_) (fun c_x => absurd c_x (by decide))
  refine lv_iconst (v := nI 0) hx hb dX2_start_26 (by decide) ?_
  refine lv_iload_n hx hb dX2_start_27 rfl (lv_at hl 0 rfl) ?_
  refine lv_iconst (v := nI 1) hx hb dX2_start_28 (by decide) ?_
  refine z_iand (v := nI 1) hx hb dX2_start_29 (by decide) ?_
  refine lv_if_eq (tgt := 37) hx hb dX2_start_30 (by decide) (fun c_x => absurd c_x (by decide)) (fun _ => ?_)
  refine lv_iconst (v := nI 1) hx hb dX2_start_33 (by decide) ?_
  refine lv_goto (tgt := 38) hx hb dX2_start_34 (by decide) ?_
  refine z_callVi (As := [.int (nI 0), .int (nI 0), .int (nI 1)]) (rest := []) (wr := [(u3, .inl (cI, 16, .inl (fun z_ => nI ((up (up (up (up (up (up (up (up (up (up (up CW 0 ((sp_qo BR RP 0 0 0) * (sp_qo BR RP 1 0 0))) 1 ((sp_qo BR RP 0 0 1) * (sp_qo BR RP 1 0 0))) 2 ((sp_qo BR RP 0 0 0) * (sp_qo BR RP 1 0 1))) 3 ((sp_qo BR RP 0 0 1) * (sp_qo BR RP 1 0 1))) 4 ((sp_qo BR RP 0 1 0) * (sp_qo BR RP 1 0 0))) 5 ((sp_qo BR RP 0 1 1) * (sp_qo BR RP 1 0 0))) 6 ((sp_qo BR RP 0 1 0) * (sp_qo BR RP 1 0 1))) 7 ((sp_qo BR RP 0 1 1) * (sp_qo BR RP 1 0 1))) 8 ((sp_qo BR RP 0 0 0) * (sp_qo BR RP 1 1 0))) 9 ((sp_qo BR RP 0 0 1) * (sp_qo BR RP 1 1 0))) 10 ((sp_qo BR RP 0 0 0) * (sp_qo BR RP 1 1 1))) z_)))), (ua, .inl (cJ, 308, .inr (.inl (fun z_ => lN (WA z_))))), (ub, .inl (cJ, 308, .inr (.inl (fun z_ => lN (XB z_)))))]) ⟨hx, hb, hml, hown, hts⟩ (c_X2_quartersOf l dC dI cI cJ H.size u0 u1 u2 u3 ua ub BR RP rm 0 0 1 (by first | assumption | omega) (by first | assumption | omega) (by first | assumption | omega) (by first | assumption | omega) (by first | assumption | omega)) (cwV 3 hts gX2_start_X2_quartersOf rfl rfl rfl (by decide +kernel) ⟨Nat.le_of_ble_eq_true rfl, Nat.le_of_ble_eq_true rfl⟩) hA hK hP hD hS [0, 1, 2] [3, 4, 5] [3, 4, 5, 0, 1, 2] rfl rfl (by decide) (by decide) (by decide) nwA_ok hN (ci := 2) rfl rfl 0 rfl hl.1 (Nat.le_of_ble_eq_true rfl) ⟨Nat.le_refl _, Nat.le_refl _⟩ rfl rfl dX2_start_38 (fun (u : (Nat)) => [(u0, .inr (2, [.ref u1, .ref u2, .int (nI rm), .ref u3, .ref ua, .ref ub])), (u1, .inl (cI, 2, .inl (fun z_ => nI (BR z_)))), (u2, .inl (cI, 2, .inl (fun z_ => nI (RP z_)))), (u3, .inl (cI, 16, .inl (fun z_ => nI ((up (up (up (up (up (up (up (up (up (up (up CW 0 ((sp_qo BR RP 0 0 0) * (sp_qo BR RP 1 0 0))) 1 ((sp_qo BR RP 0 0 1) * (sp_qo BR RP 1 0 0))) 2 ((sp_qo BR RP 0 0 0) * (sp_qo BR RP 1 0 1))) 3 ((sp_qo BR RP 0 0 1) * (sp_qo BR RP 1 0 1))) 4 ((sp_qo BR RP 0 1 0) * (sp_qo BR RP 1 0 0))) 5 ((sp_qo BR RP 0 1 1) * (sp_qo BR RP 1 0 0))) 6 ((sp_qo BR RP 0 1 0) * (sp_qo BR RP 1 0 1))) 7 ((sp_qo BR RP 0 1 1) * (sp_qo BR RP 1 0 1))) 8 ((sp_qo BR RP 0 0 0) * (sp_qo BR RP 1 1 0))) 9 ((sp_qo BR RP 0 0 1) * (sp_qo BR RP 1 1 0))) 10 ((sp_qo BR RP 0 0 0) * (sp_qo BR RP 1 1 1))) z_)))), (ua, .inl (cJ, 308, .inr (.inl (fun z_ => lN (WA z_))))), (ub, .inl (cJ, 308, .inr (.inl (fun z_ => lN (XB z_)))))]) (fun u => rfl) (by decide) (fun r_38 u H locs hw hP hD hS => ?_)
  obtain ⟨rv_38, eu⟩ : ∃ z, z = u := ⟨_, rfl⟩
  subst eu
  have hP : va_P (dC, dI) vwCl [(u0, .inr (2, [.ref u1, .ref u2, .int (nI rm), .ref u3, .ref ua, .ref ub])), (u1, .inl (cI, 2, .inl (fun z_ => nI (BR z_)))), (u2, .inl (cI, 2, .inl (fun z_ => nI (RP z_)))), (u3, .inl (cI, 16, .inl (fun z_ => nI ((up (up (up (up (up (up (up (up (up (up (up CW 0 ((sp_qo BR RP 0 0 0) * (sp_qo BR RP 1 0 0))) 1 ((sp_qo BR RP 0 0 1) * (sp_qo BR RP 1 0 0))) 2 ((sp_qo BR RP 0 0 0) * (sp_qo BR RP 1 0 1))) 3 ((sp_qo BR RP 0 0 1) * (sp_qo BR RP 1 0 1))) 4 ((sp_qo BR RP 0 1 0) * (sp_qo BR RP 1 0 0))) 5 ((sp_qo BR RP 0 1 1) * (sp_qo BR RP 1 0 0))) 6 ((sp_qo BR RP 0 1 0) * (sp_qo BR RP 1 0 1))) 7 ((sp_qo BR RP 0 1 1) * (sp_qo BR RP 1 0 1))) 8 ((sp_qo BR RP 0 0 0) * (sp_qo BR RP 1 1 0))) 9 ((sp_qo BR RP 0 0 1) * (sp_qo BR RP 1 1 0))) 10 ((sp_qo BR RP 0 0 0) * (sp_qo BR RP 1 1 1))) z_)))), (ua, .inl (cJ, 308, .inr (.inl (fun z_ => lN (WA z_))))), (ub, .inl (cJ, 308, .inr (.inl (fun z_ => lN (XB z_)))))] H := hP
  have hD : va_D A [(u0, .inr (2, [.ref u1, .ref u2, .int (nI rm), .ref u3, .ref ua, .ref ub])), (u1, .inl (cI, 2, .inl (fun z_ => nI (BR z_)))), (u2, .inl (cI, 2, .inl (fun z_ => nI (RP z_)))), (u3, .inl (cI, 16, .inl (fun z_ => nI ((up (up (up (up (up (up (up (up (up (up (up CW 0 ((sp_qo BR RP 0 0 0) * (sp_qo BR RP 1 0 0))) 1 ((sp_qo BR RP 0 0 1) * (sp_qo BR RP 1 0 0))) 2 ((sp_qo BR RP 0 0 0) * (sp_qo BR RP 1 0 1))) 3 ((sp_qo BR RP 0 0 1) * (sp_qo BR RP 1 0 1))) 4 ((sp_qo BR RP 0 1 0) * (sp_qo BR RP 1 0 0))) 5 ((sp_qo BR RP 0 1 1) * (sp_qo BR RP 1 0 0))) 6 ((sp_qo BR RP 0 1 0) * (sp_qo BR RP 1 0 1))) 7 ((sp_qo BR RP 0 1 1) * (sp_qo BR RP 1 0 1))) 8 ((sp_qo BR RP 0 0 0) * (sp_qo BR RP 1 1 0))) 9 ((sp_qo BR RP 0 0 1) * (sp_qo BR RP 1 1 0))) 10 ((sp_qo BR RP 0 0 0) * (sp_qo BR RP 1 1 1))) z_)))), (ua, .inl (cJ, 308, .inr (.inl (fun z_ => lN (WA z_))))), (ub, .inl (cJ, 308, .inr (.inl (fun z_ => lN (XB z_)))))] := hD
  obtain ⟨er, p38_0⟩ := hw
  have p38_0 : rv_38 = sp_qo BR RP 0 0 1 := p38_0
  have er : r_38 = (nI rv_38) := er
  subst er
  subst p38_0
  refine lv_istore_n (lv' := [(3, .int (nI (sp_qo BR RP 0 0 1))), (2, .int (nI 3)), (4, .int (nI (sp_qo BR RP 1 1 1))), (1, .int (nI 2)), (0, .ref u0)]) hx hb dX2_start_41 rfl hl (by decide) rfl (fun ls hl => ?_)
  refine lv_aload_n hx hb dX2_start_42 rfl (lv_at hl 4 rfl) ?_
  refine lv_iconst (v := nI 1) hx hb dX2_start_43 (by decide) ?_
  refine lv_iload_n hx hb dX2_start_44 rfl (lv_at hl 3 rfl) ?_
  refine lv_iconst (v := nI 2) hx hb dX2_start_45 (by decide) ?_
  refine z_iand (v := nI 2) hx hb dX2_start_46 (by decide) ?_
  refine lv_if_eq (tgt := 54) hx hb dX2_start_47 (by decide) (fun c_x => absurd c_x (by decide)) (fun _ => ?_)
  refine lv_iconst (v := nI 1) hx hb dX2_start_50 (by decide) ?_
  refine lv_goto (tgt := 55) hx hb dX2_start_51 (by decide) ?_
  refine lv_iload_n hx hb dX2_start_55 rfl (lv_at hl 1 rfl) ?_
  refine lv_iconst (v := nI 2) hx hb dX2_start_56 (by decide) ?_
  refine z_iand (v := nI 2) hx hb dX2_start_57 (by decide) ?_
  refine lv_if_eq (tgt := 65) hx hb dX2_start_58 (by decide) (fun c_x => absurd c_x (by decide)) (fun _ => ?_)
  refine lv_iconst (v := nI 1) hx hb dX2_start_61 (by decide) ?_
  refine lv_goto (tgt := 66) hx hb dX2_start_62 (by decide) ?_
  refine z_callVi (As := [.int (nI 1), .int (nI 1), .int (nI 1)]) (rest := []) (wr := [(u3, .inl (cI, 16, .inl (fun z_ => nI ((up (up (up (up (up (up (up (up (up (up (up CW 0 ((sp_qo BR RP 0 0 0) * (sp_qo BR RP 1 0 0))) 1 ((sp_qo BR RP 0 0 1) * (sp_qo BR RP 1 0 0))) 2 ((sp_qo BR RP 0 0 0) * (sp_qo BR RP 1 0 1))) 3 ((sp_qo BR RP 0 0 1) * (sp_qo BR RP 1 0 1))) 4 ((sp_qo BR RP 0 1 0) * (sp_qo BR RP 1 0 0))) 5 ((sp_qo BR RP 0 1 1) * (sp_qo BR RP 1 0 0))) 6 ((sp_qo BR RP 0 1 0) * (sp_qo BR RP 1 0 1))) 7 ((sp_qo BR RP 0 1 1) * (sp_qo BR RP 1 0 1))) 8 ((sp_qo BR RP 0 0 0) * (sp_qo BR RP 1 1 0))) 9 ((sp_qo BR RP 0 0 1) * (sp_qo BR RP 1 1 0))) 10 ((sp_qo BR RP 0 0 0) * (sp_qo BR RP 1 1 1))) z_)))), (ua, .inl (cJ, 308, .inr (.inl (fun z_ => lN (WA z_))))), (ub, .inl (cJ, 308, .inr (.inl (fun z_ => lN (XB z_)))))]) ⟨hx, hb, hml, hown, hts⟩ (c_X2_quartersOf l dC dI cI cJ H.size u0 u1 u2 u3 ua ub BR RP rm 1 1 1 (by first | assumption | omega) (by first | assumption | omega) (by first | assumption | omega) (by first | assumption | omega) (by first | assumption | omega)) (cwV 3 hts gX2_start_X2_quartersOf rfl rfl rfl (by decide +kernel) ⟨Nat.le_of_ble_eq_true rfl, Nat.le_of_ble_eq_true rfl⟩) hA hK hP hD hS [0, 1, 2] [3, 4, 5] [3, 4, 5, 0, 1, 2] rfl rfl (by decide) (by decide) (by decide) nwA_ok hN (ci := 2) rfl rfl 0 rfl hl.1 (Nat.le_of_ble_eq_true rfl) ⟨Nat.le_refl _, Nat.le_refl _⟩ rfl rfl dX2_start_66 (fun (u : (Nat)) => [(u0, .inr (2, [.ref u1, .ref u2, .int (nI rm), .ref u3, .ref ua, .ref ub])), (u1, .inl (cI, 2, .inl (fun z_ => nI (BR z_)))), (u2, .inl (cI, 2, .inl (fun z_ => nI (RP z_)))), (u3, .inl (cI, 16, .inl (fun z_ => nI ((up (up (up (up (up (up (up (up (up (up (up CW 0 ((sp_qo BR RP 0 0 0) * (sp_qo BR RP 1 0 0))) 1 ((sp_qo BR RP 0 0 1) * (sp_qo BR RP 1 0 0))) 2 ((sp_qo BR RP 0 0 0) * (sp_qo BR RP 1 0 1))) 3 ((sp_qo BR RP 0 0 1) * (sp_qo BR RP 1 0 1))) 4 ((sp_qo BR RP 0 1 0) * (sp_qo BR RP 1 0 0))) 5 ((sp_qo BR RP 0 1 1) * (sp_qo BR RP 1 0 0))) 6 ((sp_qo BR RP 0 1 0) * (sp_qo BR RP 1 0 1))) 7 ((sp_qo BR RP 0 1 1) * (sp_qo BR RP 1 0 1))) 8 ((sp_qo BR RP 0 0 0) * (sp_qo BR RP 1 1 0))) 9 ((sp_qo BR RP 0 0 1) * (sp_qo BR RP 1 1 0))) 10 ((sp_qo BR RP 0 0 0) * (sp_qo BR RP 1 1 1))) z_)))), (ua, .inl (cJ, 308, .inr (.inl (fun z_ => lN (WA z_))))), (ub, .inl (cJ, 308, .inr (.inl (fun z_ => lN (XB z_)))))]) (fun u => rfl) (by decide) (fun r_66 u H locs hw hP hD hS => ?_)
  obtain ⟨rv_66, eu⟩ : ∃ z, z = u := ⟨_, rfl⟩
  subst eu
  have hP : va_P (dC, dI) vwCl [(u0, .inr (2, [.ref u1, .ref u2, .int (nI rm), .ref u3, .ref ua, .ref ub])), (u1, .inl (cI, 2, .inl (fun z_ => nI (BR z_)))), (u2, .inl (cI, 2, .inl (fun z_ => nI (RP z_)))), (u3, .inl (cI, 16, .inl (fun z_ => nI ((up (up (up (up (up (up (up (up (up (up (up CW 0 ((sp_qo BR RP 0 0 0) * (sp_qo BR RP 1 0 0))) 1 ((sp_qo BR RP 0 0 1) * (sp_qo BR RP 1 0 0))) 2 ((sp_qo BR RP 0 0 0) * (sp_qo BR RP 1 0 1))) 3 ((sp_qo BR RP 0 0 1) * (sp_qo BR RP 1 0 1))) 4 ((sp_qo BR RP 0 1 0) * (sp_qo BR RP 1 0 0))) 5 ((sp_qo BR RP 0 1 1) * (sp_qo BR RP 1 0 0))) 6 ((sp_qo BR RP 0 1 0) * (sp_qo BR RP 1 0 1))) 7 ((sp_qo BR RP 0 1 1) * (sp_qo BR RP 1 0 1))) 8 ((sp_qo BR RP 0 0 0) * (sp_qo BR RP 1 1 0))) 9 ((sp_qo BR RP 0 0 1) * (sp_qo BR RP 1 1 0))) 10 ((sp_qo BR RP 0 0 0) * (sp_qo BR RP 1 1 1))) z_)))), (ua, .inl (cJ, 308, .inr (.inl (fun z_ => lN (WA z_))))), (ub, .inl (cJ, 308, .inr (.inl (fun z_ => lN (XB z_)))))] H := hP
  have hD : va_D A [(u0, .inr (2, [.ref u1, .ref u2, .int (nI rm), .ref u3, .ref ua, .ref ub])), (u1, .inl (cI, 2, .inl (fun z_ => nI (BR z_)))), (u2, .inl (cI, 2, .inl (fun z_ => nI (RP z_)))), (u3, .inl (cI, 16, .inl (fun z_ => nI ((up (up (up (up (up (up (up (up (up (up (up CW 0 ((sp_qo BR RP 0 0 0) * (sp_qo BR RP 1 0 0))) 1 ((sp_qo BR RP 0 0 1) * (sp_qo BR RP 1 0 0))) 2 ((sp_qo BR RP 0 0 0) * (sp_qo BR RP 1 0 1))) 3 ((sp_qo BR RP 0 0 1) * (sp_qo BR RP 1 0 1))) 4 ((sp_qo BR RP 0 1 0) * (sp_qo BR RP 1 0 0))) 5 ((sp_qo BR RP 0 1 1) * (sp_qo BR RP 1 0 0))) 6 ((sp_qo BR RP 0 1 0) * (sp_qo BR RP 1 0 1))) 7 ((sp_qo BR RP 0 1 1) * (sp_qo BR RP 1 0 1))) 8 ((sp_qo BR RP 0 0 0) * (sp_qo BR RP 1 1 0))) 9 ((sp_qo BR RP 0 0 1) * (sp_qo BR RP 1 1 0))) 10 ((sp_qo BR RP 0 0 0) * (sp_qo BR RP 1 1 1))) z_)))), (ua, .inl (cJ, 308, .inr (.inl (fun z_ => lN (WA z_))))), (ub, .inl (cJ, 308, .inr (.inl (fun z_ => lN (XB z_)))))] := hD
  obtain ⟨er, p66_0⟩ := hw
  have p66_0 : rv_66 = sp_qo BR RP 1 1 1 := p66_0
  have er : r_66 = (nI rv_66) := er
  subst er
  subst p66_0
  refine lv_istore (lv' := [(4, .int (nI (sp_qo BR RP 1 1 1))), (3, .int (nI (sp_qo BR RP 0 0 1))), (2, .int (nI 3)), (1, .int (nI 2)), (0, .ref u0)]) hx hb dX2_start_69 hl (by decide) rfl (fun ls hl => ?_)
  refine lv_aload_n hx hb dX2_start_71 rfl (lv_at hl 4 rfl) ?_
  refine z_get (D := (dC, dI)) (ci := 2) (v := .ref u3) (C := RX2) (T := TX2) (N := 6) hx hb hts uX2 hown hK hP 0 rfl rfl 3 (by decide) w18 rfl rfl dX2_start_72 ?_
  refine lv_iload_n hx hb dX2_start_75 rfl (lv_at hl 3 rfl) ?_
  refine lv_iconst (v := nI 4) hx hb dX2_start_76 (by decide) ?_
  refine z_imul (v := (nI 8)) hx hb dX2_start_77 (by decide) ?_
  refine lv_iload_n hx hb dX2_start_78 rfl (lv_at hl 2 rfl) ?_
  refine z_iadd (v := (nI 11)) hx hb dX2_start_79 (by decide) ?_
  refine lv_iload_n hx hb dX2_start_80 rfl (lv_at hl 1 rfl) ?_
  refine lv_iload hx hb dX2_start_81 (lv_at hl 0 rfl) ?_
  refine z_imul (v := (nI ((sp_qo BR RP 0 0 1) * (sp_qo BR RP 1 1 1)))) hx hb dX2_start_83 (pk_mul _ _) ?_
  refine z_iast hx hb hK hP hD hS 3 0 rfl rfl 11 rfl (by omega) (upd_N (up (up (up (up (up (up (up (up (up (up (up CW 0 ((sp_qo BR RP 0 0 0) * (sp_qo BR RP 1 0 0))) 1 ((sp_qo BR RP 0 0 1) * (sp_qo BR RP 1 0 0))) 2 ((sp_qo BR RP 0 0 0) * (sp_qo BR RP 1 0 1))) 3 ((sp_qo BR RP 0 0 1) * (sp_qo BR RP 1 0 1))) 4 ((sp_qo BR RP 0 1 0) * (sp_qo BR RP 1 0 0))) 5 ((sp_qo BR RP 0 1 1) * (sp_qo BR RP 1 0 0))) 6 ((sp_qo BR RP 0 1 0) * (sp_qo BR RP 1 0 1))) 7 ((sp_qo BR RP 0 1 1) * (sp_qo BR RP 1 0 1))) 8 ((sp_qo BR RP 0 0 0) * (sp_qo BR RP 1 1 0))) 9 ((sp_qo BR RP 0 0 1) * (sp_qo BR RP 1 1 0))) 10 ((sp_qo BR RP 0 0 0) * (sp_qo BR RP 1 1 1))) 11 ((sp_qo BR RP 0 0 1) * (sp_qo BR RP 1 1 1))) [(u0, .inr (2, [.ref u1, .ref u2, .int (nI rm), .ref u3, .ref ua, .ref ub])), (u1, .inl (cI, 2, .inl (fun z_ => nI (BR z_)))), (u2, .inl (cI, 2, .inl (fun z_ => nI (RP z_)))), (u3, .inl (cI, 16, .inl (fun z_ => nI ((up (up (up (up (up (up (up (up (up (up (up (up CW 0 ((sp_qo BR RP 0 0 0) * (sp_qo BR RP 1 0 0))) 1 ((sp_qo BR RP 0 0 1) * (sp_qo BR RP 1 0 0))) 2 ((sp_qo BR RP 0 0 0) * (sp_qo BR RP 1 0 1))) 3 ((sp_qo BR RP 0 0 1) * (sp_qo BR RP 1 0 1))) 4 ((sp_qo BR RP 0 1 0) * (sp_qo BR RP 1 0 0))) 5 ((sp_qo BR RP 0 1 1) * (sp_qo BR RP 1 0 0))) 6 ((sp_qo BR RP 0 1 0) * (sp_qo BR RP 1 0 1))) 7 ((sp_qo BR RP 0 1 1) * (sp_qo BR RP 1 0 1))) 8 ((sp_qo BR RP 0 0 0) * (sp_qo BR RP 1 1 0))) 9 ((sp_qo BR RP 0 0 1) * (sp_qo BR RP 1 1 0))) 10 ((sp_qo BR RP 0 0 0) * (sp_qo BR RP 1 1 1))) 11 ((sp_qo BR RP 0 0 1) * (sp_qo BR RP 1 1 1))) z_)))), (ua, .inl (cJ, 308, .inr (.inl (fun z_ => lN (WA z_))))), (ub, .inl (cJ, 308, .inr (.inl (fun z_ => lN (XB z_)))))] rfl dX2_start_84 (fun H locs hP hD hS => ?_)
  refine lv_iinc (v := (nI 4)) (lv' := [(2, .int (nI 4)), (4, .int (nI (sp_qo BR RP 1 1 1))), (3, .int (nI (sp_qo BR RP 0 0 1))), (1, .int (nI 2)), (0, .ref u0)]) hx hb dX2_start_85 hl (k := 2) rfl (by decide) (by decide) rfl (fun ls hl => ?_)
  refine lv_goto (tgt := 9) hx hb dX2_start_88 (by decide) ?_
  refine lv_iload_n hx hb dX2_start_9 rfl (lv_at hl 0 rfl) ?_
  refine lv_iconst (v := nI 4) hx hb dX2_start_10 (by decide) ?_
  refine lv_icmp_ge (tgt := 91) hx hb dX2_start_11 (by decide) (fun _ => ?_) (fun c_x => absurd c_x (by decide))
  refine lv_iinc (v := (nI 3)) (lv' := [(1, .int (nI 3)), (2, .int (nI 4)), (4, .int (nI (sp_qo BR RP 1 1 1))), (3, .int (nI (sp_qo BR RP 0 0 1))), (0, .ref u0)]) hx hb dX2_start_91 hl (k := 3) rfl (by decide) (by decide) rfl (fun ls hl => ?_)
  refine lv_goto (tgt := 2) hx hb dX2_start_94 (by decide) ?_
  refine lv_iload_n hx hb dX2_start_2 rfl (lv_at hl 0 rfl) ?_
  refine lv_iconst (v := nI 4) hx hb dX2_start_3 (by decide) ?_
  refine lv_icmp_ge (tgt := 97) hx hb dX2_start_4 (by decide) (fun c_x => absurd c_x (by decide)) (fun _ => ?_)
  refine lv_iconst (v := nI 0) hx hb dX2_start_7 (by decide) ?_
  refine lv_istore_n (lv' := [(2, .int (nI 0)), (1, .int (nI 3)), (4, .int (nI (sp_qo BR RP 1 1 1))), (3, .int (nI (sp_qo BR RP 0 0 1))), (0, .ref u0)]) hx hb dX2_start_8 rfl hl (by decide) rfl (fun ls hl => ?_)
  refine lv_iload_n hx hb dX2_start_9 rfl (lv_at hl 0 rfl) ?_
  refine lv_iconst (v := nI 4) hx hb dX2_start_10 (by decide) ?_
  refine lv_icmp_ge (tgt := 91) hx hb dX2_start_11 (by decide) (fun c_x => absurd c_x (by decide)) (fun _ => ?_)
  refine lv_aload_n hx hb dX2_start_14 rfl (lv_at hl 4 rfl) ?_
  refine lv_iconst (v := nI 0) hx hb dX2_start_15 (by decide) ?_
  refine lv_iload_n hx hb dX2_start_16 rfl (lv_at hl 1 rfl) ?_
  refine lv_iconst (v := nI 1) hx hb dX2_start_17 (by decide) ?_
  refine z_iand (v := nI 1) hx hb dX2_start_18 (by decide) ?_
  refine lv_if_eq (tgt := 26) hx hb dX2_start_19 (by decide) (fun c_x => absurd c_x (by decide)) (fun _ => ?_)
  refine lv_iconst (v := nI 1) hx hb dX2_start_22 (by decide) ?_
  refine lv_goto (tgt := 27) hx hb dX2_start_23 (by decide) ?_
  refine lv_iload_n hx hb dX2_start_27 rfl (lv_at hl 0 rfl) ?_
  refine lv_iconst (v := nI 1) hx hb dX2_start_28 (by decide) ?_
  refine z_iand (v := nI 0) hx hb dX2_start_29 (by decide) ?_
  refine lv_if_eq (tgt := 37) hx hb dX2_start_30 (by decide) (fun _ => ?_) (fun c_x => absurd c_x (by decide))
  refine lv_iconst (v := nI 0) hx hb dX2_start_37 (by decide) ?_
  refine z_callVi (As := [.int (nI 0), .int (nI 1), .int (nI 0)]) (rest := []) (wr := [(u3, .inl (cI, 16, .inl (fun z_ => nI ((up (up (up (up (up (up (up (up (up (up (up (up CW 0 ((sp_qo BR RP 0 0 0) * (sp_qo BR RP 1 0 0))) 1 ((sp_qo BR RP 0 0 1) * (sp_qo BR RP 1 0 0))) 2 ((sp_qo BR RP 0 0 0) * (sp_qo BR RP 1 0 1))) 3 ((sp_qo BR RP 0 0 1) * (sp_qo BR RP 1 0 1))) 4 ((sp_qo BR RP 0 1 0) * (sp_qo BR RP 1 0 0))) 5 ((sp_qo BR RP 0 1 1) * (sp_qo BR RP 1 0 0))) 6 ((sp_qo BR RP 0 1 0) * (sp_qo BR RP 1 0 1))) 7 ((sp_qo BR RP 0 1 1) * (sp_qo BR RP 1 0 1))) 8 ((sp_qo BR RP 0 0 0) * (sp_qo BR RP 1 1 0))) 9 ((sp_qo BR RP 0 0 1) * (sp_qo BR RP 1 1 0))) 10 ((sp_qo BR RP 0 0 0) * (sp_qo BR RP 1 1 1))) 11 ((sp_qo BR RP 0 0 1) * (sp_qo BR RP 1 1 1))) z_)))), (ua, .inl (cJ, 308, .inr (.inl (fun z_ => lN (WA z_))))), (ub, .inl (cJ, 308, .inr (.inl (fun z_ => lN (XB z_)))))]) ⟨hx, hb, hml, hown, hts⟩ (c_X2_quartersOf l dC dI cI cJ H.size u0 u1 u2 u3 ua ub BR RP rm 0 1 0 (by first | assumption | omega) (by first | assumption | omega) (by first | assumption | omega) (by first | assumption | omega) (by first | assumption | omega)) (cwV 3 hts gX2_start_X2_quartersOf rfl rfl rfl (by decide +kernel) ⟨Nat.le_of_ble_eq_true rfl, Nat.le_of_ble_eq_true rfl⟩) hA hK hP hD hS [0, 1, 2] [3, 4, 5] [3, 4, 5, 0, 1, 2] rfl rfl (by decide) (by decide) (by decide) nwA_ok hN (ci := 2) rfl rfl 0 rfl hl.1 (Nat.le_of_ble_eq_true rfl) ⟨Nat.le_refl _, Nat.le_refl _⟩ rfl rfl dX2_start_38 (fun (u : (Nat)) => [(u0, .inr (2, [.ref u1, .ref u2, .int (nI rm), .ref u3, .ref ua, .ref ub])), (u1, .inl (cI, 2, .inl (fun z_ => nI (BR z_)))), (u2, .inl (cI, 2, .inl (fun z_ => nI (RP z_)))), (u3, .inl (cI, 16, .inl (fun z_ => nI ((up (up (up (up (up (up (up (up (up (up (up (up CW 0 ((sp_qo BR RP 0 0 0) * (sp_qo BR RP 1 0 0))) 1 ((sp_qo BR RP 0 0 1) * (sp_qo BR RP 1 0 0))) 2 ((sp_qo BR RP 0 0 0) * (sp_qo BR RP 1 0 1))) 3 ((sp_qo BR RP 0 0 1) * (sp_qo BR RP 1 0 1))) 4 ((sp_qo BR RP 0 1 0) * (sp_qo BR RP 1 0 0))) 5 ((sp_qo BR RP 0 1 1) * (sp_qo BR RP 1 0 0))) 6 ((sp_qo BR RP 0 1 0) * (sp_qo BR RP 1 0 1))) 7 ((sp_qo BR RP 0 1 1) * (sp_qo BR RP 1 0 1))) 8 ((sp_qo BR RP 0 0 0) * (sp_qo BR RP 1 1 0))) 9 ((sp_qo BR RP 0 0 1) * (sp_qo BR RP 1 1 0))) 10 ((sp_qo BR RP 0 0 0) * (sp_qo BR RP 1 1 1))) 11 ((sp_qo BR RP 0 0 1) * (sp_qo BR RP 1 1 1))) z_)))), (ua, .inl (cJ, 308, .inr (.inl (fun z_ => lN (WA z_))))), (ub, .inl (cJ, 308, .inr (.inl (fun z_ => lN (XB z_)))))]) (fun u => rfl) (by decide) (fun r_38 u H locs hw hP hD hS => ?_)
  obtain ⟨rv_38, eu⟩ : ∃ z, z = u := ⟨_, rfl⟩
  subst eu
  have hP : va_P (dC, dI) vwCl [(u0, .inr (2, [.ref u1, .ref u2, .int (nI rm), .ref u3, .ref ua, .ref ub])), (u1, .inl (cI, 2, .inl (fun z_ => nI (BR z_)))), (u2, .inl (cI, 2, .inl (fun z_ => nI (RP z_)))), (u3, .inl (cI, 16, .inl (fun z_ => nI ((up (up (up (up (up (up (up (up (up (up (up (up CW 0 ((sp_qo BR RP 0 0 0) * (sp_qo BR RP 1 0 0))) 1 ((sp_qo BR RP 0 0 1) * (sp_qo BR RP 1 0 0))) 2 ((sp_qo BR RP 0 0 0) * (sp_qo BR RP 1 0 1))) 3 ((sp_qo BR RP 0 0 1) * (sp_qo BR RP 1 0 1))) 4 ((sp_qo BR RP 0 1 0) * (sp_qo BR RP 1 0 0))) 5 ((sp_qo BR RP 0 1 1) * (sp_qo BR RP 1 0 0))) 6 ((sp_qo BR RP 0 1 0) * (sp_qo BR RP 1 0 1))) 7 ((sp_qo BR RP 0 1 1) * (sp_qo BR RP 1 0 1))) 8 ((sp_qo BR RP 0 0 0) * (sp_qo BR RP 1 1 0))) 9 ((sp_qo BR RP 0 0 1) * (sp_qo BR RP 1 1 0))) 10 ((sp_qo BR RP 0 0 0) * (sp_qo BR RP 1 1 1))) 11 ((sp_qo BR RP 0 0 1) * (sp_qo BR RP 1 1 1))) z_)))), (ua, .inl (cJ, 308, .inr (.inl (fun z_ => lN (WA z_))))), (ub, .inl (cJ, 308, .inr (.inl (fun z_ => lN (XB z_)))))] H := hP
  have hD : va_D A [(u0, .inr (2, [.ref u1, .ref u2, .int (nI rm), .ref u3, .ref ua, .ref ub])), (u1, .inl (cI, 2, .inl (fun z_ => nI (BR z_)))), (u2, .inl (cI, 2, .inl (fun z_ => nI (RP z_)))), (u3, .inl (cI, 16, .inl (fun z_ => nI ((up (up (up (up (up (up (up (up (up (up (up (up CW 0 ((sp_qo BR RP 0 0 0) * (sp_qo BR RP 1 0 0))) 1 ((sp_qo BR RP 0 0 1) * (sp_qo BR RP 1 0 0))) 2 ((sp_qo BR RP 0 0 0) * (sp_qo BR RP 1 0 1))) 3 ((sp_qo BR RP 0 0 1) * (sp_qo BR RP 1 0 1))) 4 ((sp_qo BR RP 0 1 0) * (sp_qo BR RP 1 0 0))) 5 ((sp_qo BR RP 0 1 1) * (sp_qo BR RP 1 0 0))) 6 ((sp_qo BR RP 0 1 0) * (sp_qo BR RP 1 0 1))) 7 ((sp_qo BR RP 0 1 1) * (sp_qo BR RP 1 0 1))) 8 ((sp_qo BR RP 0 0 0) * (sp_qo BR RP 1 1 0))) 9 ((sp_qo BR RP 0 0 1) * (sp_qo BR RP 1 1 0))) 10 ((sp_qo BR RP 0 0 0) * (sp_qo BR RP 1 1 1))) 11 ((sp_qo BR RP 0 0 1) * (sp_qo BR RP 1 1 1))) z_)))), (ua, .inl (cJ, 308, .inr (.inl (fun z_ => lN (WA z_))))), (ub, .inl (cJ, 308, .inr (.inl (fun z_ => lN (XB z_)))))] := hD
  obtain ⟨er, p38_0⟩ := hw
  have p38_0 : rv_38 = sp_qo BR RP 0 1 0 := p38_0
  have er : r_38 = (nI rv_38) := er
  subst er
  subst p38_0
  refine lv_istore_n (lv' := [(3, .int (nI (sp_qo BR RP 0 1 0))), (2, .int (nI 0)), (1, .int (nI 3)), (4, .int (nI (sp_qo BR RP 1 1 1))), (0, .ref u0)]) hx hb dX2_start_41 rfl hl (by decide) rfl (fun ls hl => ?_)
  refine lv_aload_n hx hb dX2_start_42 rfl (lv_at hl 4 rfl) ?_
  refine lv_iconst (v := nI 1) hx hb dX2_start_43 (by decide) ?_
  refine lv_iload_n hx hb dX2_start_44 rfl (lv_at hl 2 rfl) ?_
  refine lv_iconst (v := nI 2) hx hb dX2_start_45 (by decide) ?_
  refine z_iand (v := nI 2) hx hb dX2_start_46 (by decide) ?_
  refine lv_if_eq (tgt := 54) hx hb dX2_start_47 (by decide) (fun c_x => absurd c_x (by decide)) (fun _ => ?_)
  refine lv_iconst (v := nI 1) hx hb dX2_start_50 (by decide) ?_
  refine lv_goto (tgt := 55) hx hb dX2_start_51 (by decide) ?_
  refine lv_iload_n hx hb dX2_start_55 rfl (lv_at hl 1 rfl) ?_
  refine lv_iconst (v := nI 2) hx hb dX2_start_56 (by decide) ?_
  refine z_iand (v := nI 0) hx hb dX2_start_57 (by decide) ?_
  refine lv_if_eq (tgt := 65) hx hb dX2_start_58 (by decide) (fun _ => ?_) (fun c_x => absurd c_x (by decide))
  refine lv_iconst (v := nI 0) hx hb dX2_start_65 (by decide) ?_
  refine z_callVi (As := [.int (nI 1), .int (nI 1), .int (nI 0)]) (rest := []) (wr := [(u3, .inl (cI, 16, .inl (fun z_ => nI ((up (up (up (up (up (up (up (up (up (up (up (up CW 0 ((sp_qo BR RP 0 0 0) * (sp_qo BR RP 1 0 0))) 1 ((sp_qo BR RP 0 0 1) * (sp_qo BR RP 1 0 0))) 2 ((sp_qo BR RP 0 0 0) * (sp_qo BR RP 1 0 1))) 3 ((sp_qo BR RP 0 0 1) * (sp_qo BR RP 1 0 1))) 4 ((sp_qo BR RP 0 1 0) * (sp_qo BR RP 1 0 0))) 5 ((sp_qo BR RP 0 1 1) * (sp_qo BR RP 1 0 0))) 6 ((sp_qo BR RP 0 1 0) * (sp_qo BR RP 1 0 1))) 7 ((sp_qo BR RP 0 1 1) * (sp_qo BR RP 1 0 1))) 8 ((sp_qo BR RP 0 0 0) * (sp_qo BR RP 1 1 0))) 9 ((sp_qo BR RP 0 0 1) * (sp_qo BR RP 1 1 0))) 10 ((sp_qo BR RP 0 0 0) * (sp_qo BR RP 1 1 1))) 11 ((sp_qo BR RP 0 0 1) * (sp_qo BR RP 1 1 1))) z_)))), (ua, .inl (cJ, 308, .inr (.inl (fun z_ => lN (WA z_))))), (ub, .inl (cJ, 308, .inr (.inl (fun z_ => lN (XB z_)))))]) ⟨hx, hb, hml, hown, hts⟩ (c_X2_quartersOf l dC dI cI cJ H.size u0 u1 u2 u3 ua ub BR RP rm 1 1 0 (by first | assumption | omega) (by first | assumption | omega) (by first | assumption | omega) (by first | assumption | omega) (by first | assumption | omega)) (cwV 3 hts gX2_start_X2_quartersOf rfl rfl rfl (by decide +kernel) ⟨Nat.le_of_ble_eq_true rfl, Nat.le_of_ble_eq_true rfl⟩) hA hK hP hD hS [0, 1, 2] [3, 4, 5] [3, 4, 5, 0, 1, 2] rfl rfl (by decide) (by decide) (by decide) nwA_ok hN (ci := 2) rfl rfl 0 rfl hl.1 (Nat.le_of_ble_eq_true rfl) ⟨Nat.le_refl _, Nat.le_refl _⟩ rfl rfl dX2_start_66 (fun (u : (Nat)) => [(u0, .inr (2, [.ref u1, .ref u2, .int (nI rm), .ref u3, .ref ua, .ref ub])), (u1, .inl (cI, 2, .inl (fun z_ => nI (BR z_)))), (u2, .inl (cI, 2, .inl (fun z_ => nI (RP z_)))), (u3, .inl (cI, 16, .inl (fun z_ => nI ((up (up (up (up (up (up (up (up (up (up (up (up CW 0 ((sp_qo BR RP 0 0 0) * (sp_qo BR RP 1 0 0))) 1 ((sp_qo BR RP 0 0 1) * (sp_qo BR RP 1 0 0))) 2 ((sp_qo BR RP 0 0 0) * (sp_qo BR RP 1 0 1))) 3 ((sp_qo BR RP 0 0 1) * (sp_qo BR RP 1 0 1))) 4 ((sp_qo BR RP 0 1 0) * (sp_qo BR RP 1 0 0))) 5 ((sp_qo BR RP 0 1 1) * (sp_qo BR RP 1 0 0))) 6 ((sp_qo BR RP 0 1 0) * (sp_qo BR RP 1 0 1))) 7 ((sp_qo BR RP 0 1 1) * (sp_qo BR RP 1 0 1))) 8 ((sp_qo BR RP 0 0 0) * (sp_qo BR RP 1 1 0))) 9 ((sp_qo BR RP 0 0 1) * (sp_qo BR RP 1 1 0))) 10 ((sp_qo BR RP 0 0 0) * (sp_qo BR RP 1 1 1))) 11 ((sp_qo BR RP 0 0 1) * (sp_qo BR RP 1 1 1))) z_)))), (ua, .inl (cJ, 308, .inr (.inl (fun z_ => lN (WA z_))))), (ub, .inl (cJ, 308, .inr (.inl (fun z_ => lN (XB z_)))))]) (fun u => rfl) (by decide) (fun r_66 u H locs hw hP hD hS => ?_)
  obtain ⟨rv_66, eu⟩ : ∃ z, z = u := ⟨_, rfl⟩
  subst eu
  have hP : va_P (dC, dI) vwCl [(u0, .inr (2, [.ref u1, .ref u2, .int (nI rm), .ref u3, .ref ua, .ref ub])), (u1, .inl (cI, 2, .inl (fun z_ => nI (BR z_)))), (u2, .inl (cI, 2, .inl (fun z_ => nI (RP z_)))), (u3, .inl (cI, 16, .inl (fun z_ => nI ((up (up (up (up (up (up (up (up (up (up (up (up CW 0 ((sp_qo BR RP 0 0 0) * (sp_qo BR RP 1 0 0))) 1 ((sp_qo BR RP 0 0 1) * (sp_qo BR RP 1 0 0))) 2 ((sp_qo BR RP 0 0 0) * (sp_qo BR RP 1 0 1))) 3 ((sp_qo BR RP 0 0 1) * (sp_qo BR RP 1 0 1))) 4 ((sp_qo BR RP 0 1 0) * (sp_qo BR RP 1 0 0))) 5 ((sp_qo BR RP 0 1 1) * (sp_qo BR RP 1 0 0))) 6 ((sp_qo BR RP 0 1 0) * (sp_qo BR RP 1 0 1))) 7 ((sp_qo BR RP 0 1 1) * (sp_qo BR RP 1 0 1))) 8 ((sp_qo BR RP 0 0 0) * (sp_qo BR RP 1 1 0))) 9 ((sp_qo BR RP 0 0 1) * (sp_qo BR RP 1 1 0))) 10 ((sp_qo BR RP 0 0 0) * (sp_qo BR RP 1 1 1))) 11 ((sp_qo BR RP 0 0 1) * (sp_qo BR RP 1 1 1))) z_)))), (ua, .inl (cJ, 308, .inr (.inl (fun z_ => lN (WA z_))))), (ub, .inl (cJ, 308, .inr (.inl (fun z_ => lN (XB z_)))))] H := hP
  have hD : va_D A [(u0, .inr (2, [.ref u1, .ref u2, .int (nI rm), .ref u3, .ref ua, .ref ub])), (u1, .inl (cI, 2, .inl (fun z_ => nI (BR z_)))), (u2, .inl (cI, 2, .inl (fun z_ => nI (RP z_)))), (u3, .inl (cI, 16, .inl (fun z_ => nI ((up (up (up (up (up (up (up (up (up (up (up (up CW 0 ((sp_qo BR RP 0 0 0) * (sp_qo BR RP 1 0 0))) 1 ((sp_qo BR RP 0 0 1) * (sp_qo BR RP 1 0 0))) 2 ((sp_qo BR RP 0 0 0) * (sp_qo BR RP 1 0 1))) 3 ((sp_qo BR RP 0 0 1) * (sp_qo BR RP 1 0 1))) 4 ((sp_qo BR RP 0 1 0) * (sp_qo BR RP 1 0 0))) 5 ((sp_qo BR RP 0 1 1) * (sp_qo BR RP 1 0 0))) 6 ((sp_qo BR RP 0 1 0) * (sp_qo BR RP 1 0 1))) 7 ((sp_qo BR RP 0 1 1) * (sp_qo BR RP 1 0 1))) 8 ((sp_qo BR RP 0 0 0) * (sp_qo BR RP 1 1 0))) 9 ((sp_qo BR RP 0 0 1) * (sp_qo BR RP 1 1 0))) 10 ((sp_qo BR RP 0 0 0) * (sp_qo BR RP 1 1 1))) 11 ((sp_qo BR RP 0 0 1) * (sp_qo BR RP 1 1 1))) z_)))), (ua, .inl (cJ, 308, .inr (.inl (fun z_ => lN (WA z_))))), (ub, .inl (cJ, 308, .inr (.inl (fun z_ => lN (XB z_)))))] := hD
  obtain ⟨er, p66_0⟩ := hw
  have p66_0 : rv_66 = sp_qo BR RP 1 1 0 := p66_0
  have er : r_66 = (nI rv_66) := er
  subst er
  subst p66_0
  refine lv_istore (lv' := [(4, .int (nI (sp_qo BR RP 1 1 0))), (3, .int (nI (sp_qo BR RP 0 1 0))), (2, .int (nI 0)), (1, .int (nI 3)), (0, .ref u0)]) hx hb dX2_start_69 hl (by decide) rfl (fun ls hl => ?_)
  refine lv_aload_n hx hb dX2_start_71 rfl (lv_at hl 4 rfl) ?_
  refine z_get (D := (dC, dI)) (ci := 2) (v := .ref u3) (C := RX2) (T := TX2) (N := 6) hx hb hts uX2 hown hK hP 0 rfl rfl 3 (by decide) w18 rfl rfl dX2_start_72 ?_
  refine lv_iload_n hx hb dX2_start_75 rfl (lv_at hl 3 rfl) ?_
  refine lv_iconst (v := nI 4) hx hb dX2_start_76 (by decide) ?_
  refine z_imul (v := (nI 12)) hx hb dX2_start_77 (by decide) ?_
  refine lv_iload_n hx hb dX2_start_78 rfl (lv_at hl 2 rfl) ?_
  refine z_iadd (v := (nI 12)) hx hb dX2_start_79 (by decide) ?_
  refine lv_iload_n hx hb dX2_start_80 rfl (lv_at hl 1 rfl) ?_
  refine lv_iload hx hb dX2_start_81 (lv_at hl 0 rfl) ?_
  refine z_imul (v := (nI ((sp_qo BR RP 0 1 0) * (sp_qo BR RP 1 1 0)))) hx hb dX2_start_83 (pk_mul _ _) ?_
  refine z_iast hx hb hK hP hD hS 3 0 rfl rfl 12 rfl (by omega) (upd_N (up (up (up (up (up (up (up (up (up (up (up (up CW 0 ((sp_qo BR RP 0 0 0) * (sp_qo BR RP 1 0 0))) 1 ((sp_qo BR RP 0 0 1) * (sp_qo BR RP 1 0 0))) 2 ((sp_qo BR RP 0 0 0) * (sp_qo BR RP 1 0 1))) 3 ((sp_qo BR RP 0 0 1) * (sp_qo BR RP 1 0 1))) 4 ((sp_qo BR RP 0 1 0) * (sp_qo BR RP 1 0 0))) 5 ((sp_qo BR RP 0 1 1) * (sp_qo BR RP 1 0 0))) 6 ((sp_qo BR RP 0 1 0) * (sp_qo BR RP 1 0 1))) 7 ((sp_qo BR RP 0 1 1) * (sp_qo BR RP 1 0 1))) 8 ((sp_qo BR RP 0 0 0) * (sp_qo BR RP 1 1 0))) 9 ((sp_qo BR RP 0 0 1) * (sp_qo BR RP 1 1 0))) 10 ((sp_qo BR RP 0 0 0) * (sp_qo BR RP 1 1 1))) 11 ((sp_qo BR RP 0 0 1) * (sp_qo BR RP 1 1 1))) 12 ((sp_qo BR RP 0 1 0) * (sp_qo BR RP 1 1 0))) [(u0, .inr (2, [.ref u1, .ref u2, .int (nI rm), .ref u3, .ref ua, .ref ub])), (u1, .inl (cI, 2, .inl (fun z_ => nI (BR z_)))), (u2, .inl (cI, 2, .inl (fun z_ => nI (RP z_)))), (u3, .inl (cI, 16, .inl (fun z_ => nI ((up (up (up (up (up (up (up (up (up (up (up (up (up CW 0 ((sp_qo BR RP 0 0 0) * (sp_qo BR RP 1 0 0))) 1 ((sp_qo BR RP 0 0 1) * (sp_qo BR RP 1 0 0))) 2 ((sp_qo BR RP 0 0 0) * (sp_qo BR RP 1 0 1))) 3 ((sp_qo BR RP 0 0 1) * (sp_qo BR RP 1 0 1))) 4 ((sp_qo BR RP 0 1 0) * (sp_qo BR RP 1 0 0))) 5 ((sp_qo BR RP 0 1 1) * (sp_qo BR RP 1 0 0))) 6 ((sp_qo BR RP 0 1 0) * (sp_qo BR RP 1 0 1))) 7 ((sp_qo BR RP 0 1 1) * (sp_qo BR RP 1 0 1))) 8 ((sp_qo BR RP 0 0 0) * (sp_qo BR RP 1 1 0))) 9 ((sp_qo BR RP 0 0 1) * (sp_qo BR RP 1 1 0))) 10 ((sp_qo BR RP 0 0 0) * (sp_qo BR RP 1 1 1))) 11 ((sp_qo BR RP 0 0 1) * (sp_qo BR RP 1 1 1))) 12 ((sp_qo BR RP 0 1 0) * (sp_qo BR RP 1 1 0))) z_)))), (ua, .inl (cJ, 308, .inr (.inl (fun z_ => lN (WA z_))))), (ub, .inl (cJ, 308, .inr (.inl (fun z_ => lN (XB z_)))))] rfl dX2_start_84 (fun H locs hP hD hS => ?_)
  refine lv_iinc (v := (nI 1)) (lv' := [(2, .int (nI 1)), (4, .int (nI (sp_qo BR RP 1 1 0))), (3, .int (nI (sp_qo BR RP 0 1 0))), (1, .int (nI 3)), (0, .ref u0)]) hx hb dX2_start_85 hl (k := 2) rfl (by decide) (by decide) rfl (fun ls hl => ?_)
  refine lv_goto (tgt := 9) hx hb dX2_start_88 (by decide) ?_
  refine lv_iload_n hx hb dX2_start_9 rfl (lv_at hl 0 rfl) ?_
  refine lv_iconst (v := nI 4) hx hb dX2_start_10 (by decide) ?_
  refine lv_icmp_ge (tgt := 91) hx hb dX2_start_11 (by decide) (fun c_x => absurd c_x (by decide)) (fun _ => ?_)
  refine lv_aload_n hx hb dX2_start_14 rfl (lv_at hl 4 rfl) ?_
  refine lv_iconst (v := nI 0) hx hb dX2_start_15 (by decide) ?_
  refine lv_iload_n hx hb dX2_start_16 rfl (lv_at hl 3 rfl) ?_
  refine lv_iconst (v := nI 1) hx hb dX2_start_17 (by decide) ?_
  refine z_iand (v := nI 1) hx hb dX2_start_18 (by decide) ?_
  refine lv_if_eq (tgt := 26) hx hb dX2_start_19 (by decide) (fun c_x => absurd c_x (by decide)) (fun _ => ?_)
  refine lv_iconst (v := nI 1) hx hb dX2_start_22 (by decide) ?_
  refine lv_goto (tgt := 27) hx hb dX2_start_23 (by decide) ?_
  refine lv_iload_n hx hb dX2_start_27 rfl (lv_at hl 0 rfl) ?_
  refine lv_iconst (v := nI 1) hx hb dX2_start_28 (by decide) ?_
  refine z_iand (v := nI 1) hx hb dX2_start_29 (by decide) ?_
  refine lv_if_eq (tgt := 37) hx hb dX2_start_30 (by decide) (fun c_x => absurd c_x (by decide)) (fun _ => ?_)
  refine lv_iconst (v := nI 1) hx hb dX2_start_33 (by decide) ?_
  refine lv_goto (tgt := 38) hx hb dX2_start_34 (by decide) ?_
  refine z_callVi (As := [.int (nI 0), .int (nI 1), .int (nI 1)]) (rest := []) (wr := [(u3, .inl (cI, 16, .inl (fun z_ => nI ((up (up (up (up (up (up (up (up (up (up (up (up (up CW 0 ((sp_qo BR RP 0 0 0) * (sp_qo BR RP 1 0 0))) 1 ((sp_qo BR RP 0 0 1) * (sp_qo BR RP 1 0 0))) 2 ((sp_qo BR RP 0 0 0) * (sp_qo BR RP 1 0 1))) 3 ((sp_qo BR RP 0 0 1) * (sp_qo BR RP 1 0 1))) 4 ((sp_qo BR RP 0 1 0) * (sp_qo BR RP 1 0 0))) 5 ((sp_qo BR RP 0 1 1) * (sp_qo BR RP 1 0 0))) 6 ((sp_qo BR RP 0 1 0) * (sp_qo BR RP 1 0 1))) 7 ((sp_qo BR RP 0 1 1) * (sp_qo BR RP 1 0 1))) 8 ((sp_qo BR RP 0 0 0) * (sp_qo BR RP 1 1 0))) 9 ((sp_qo BR RP 0 0 1) * (sp_qo BR RP 1 1 0))) 10 ((sp_qo BR RP 0 0 0) * (sp_qo BR RP 1 1 1))) 11 ((sp_qo BR RP 0 0 1) * (sp_qo BR RP 1 1 1))) 12 ((sp_qo BR RP 0 1 0) * (sp_qo BR RP 1 1 0))) z_)))), (ua, .inl (cJ, 308, .inr (.inl (fun z_ => lN (WA z_))))), (ub, .inl (cJ, 308, .inr (.inl (fun z_ => lN (XB z_)))))]) ⟨hx, hb, hml, hown, hts⟩ (c_X2_quartersOf l dC dI cI cJ H.size u0 u1 u2 u3 ua ub BR RP rm 0 1 1 (by first | assumption | omega) (by first | assumption | omega) (by first | assumption | omega) (by first | assumption | omega) (by first | assumption | omega)) (cwV 3 hts gX2_start_X2_quartersOf rfl rfl rfl (by decide +kernel) ⟨Nat.le_of_ble_eq_true rfl, Nat.le_of_ble_eq_true rfl⟩) hA hK hP hD hS [0, 1, 2] [3, 4, 5] [3, 4, 5, 0, 1, 2] rfl rfl (by decide) (by decide) (by decide) nwA_ok hN (ci := 2) rfl rfl 0 rfl hl.1 (Nat.le_of_ble_eq_true rfl) ⟨Nat.le_refl _, Nat.le_refl _⟩ rfl rfl dX2_start_38 (fun (u : (Nat)) => [(u0, .inr (2, [.ref u1, .ref u2, .int (nI rm), .ref u3, .ref ua, .ref ub])), (u1, .inl (cI, 2, .inl (fun z_ => nI (BR z_)))), (u2, .inl (cI, 2, .inl (fun z_ => nI (RP z_)))), (u3, .inl (cI, 16, .inl (fun z_ => nI ((up (up (up (up (up (up (up (up (up (up (up (up (up CW 0 ((sp_qo BR RP 0 0 0) * (sp_qo BR RP 1 0 0))) 1 ((sp_qo BR RP 0 0 1) * (sp_qo BR RP 1 0 0))) 2 ((sp_qo BR RP 0 0 0) * (sp_qo BR RP 1 0 1))) 3 ((sp_qo BR RP 0 0 1) * (sp_qo BR RP 1 0 1))) 4 ((sp_qo BR RP 0 1 0) * (sp_qo BR RP 1 0 0))) 5 ((sp_qo BR RP 0 1 1) * (sp_qo BR RP 1 0 0))) 6 ((sp_qo BR RP 0 1 0) * (sp_qo BR RP 1 0 1))) 7 ((sp_qo BR RP 0 1 1) * (sp_qo BR RP 1 0 1))) 8 ((sp_qo BR RP 0 0 0) * (sp_qo BR RP 1 1 0))) 9 ((sp_qo BR RP 0 0 1) * (sp_qo BR RP 1 1 0))) 10 ((sp_qo BR RP 0 0 0) * (sp_qo BR RP 1 1 1))) 11 ((sp_qo BR RP 0 0 1) * (sp_qo BR RP 1 1 1))) 12 ((sp_qo BR RP 0 1 0) * (sp_qo BR RP 1 1 0))) z_)))), (ua, .inl (cJ, 308, .inr (.inl (fun z_ => lN (WA z_))))), (ub, .inl (cJ, 308, .inr (.inl (fun z_ => lN (XB z_)))))]) (fun u => rfl) (by decide) (fun r_38 u H locs hw hP hD hS => ?_)
  obtain ⟨rv_38, eu⟩ : ∃ z, z = u := ⟨_, rfl⟩
  subst eu
  have hP : va_P (dC, dI) vwCl [(u0, .inr (2, [.ref u1, .ref u2, .int (nI rm), .ref u3, .ref ua, .ref ub])), (u1, .inl (cI, 2, .inl (fun z_ => nI (BR z_)))), (u2, .inl (cI, 2, .inl (fun z_ => nI (RP z_)))), (u3, .inl (cI, 16, .inl (fun z_ => nI ((up (up (up (up (up (up (up (up (up (up (up (up (up CW 0 ((sp_qo BR RP 0 0 0) * (sp_qo BR RP 1 0 0))) 1 ((sp_qo BR RP 0 0 1) * (sp_qo BR RP 1 0 0))) 2 ((sp_qo BR RP 0 0 0) * (sp_qo BR RP 1 0 1))) 3 ((sp_qo BR RP 0 0 1) * (sp_qo BR RP 1 0 1))) 4 ((sp_qo BR RP 0 1 0) * (sp_qo BR RP 1 0 0))) 5 ((sp_qo BR RP 0 1 1) * (sp_qo BR RP 1 0 0))) 6 ((sp_qo BR RP 0 1 0) * (sp_qo BR RP 1 0 1))) 7 ((sp_qo BR RP 0 1 1) * (sp_qo BR RP 1 0 1))) 8 ((sp_qo BR RP 0 0 0) * (sp_qo BR RP 1 1 0))) 9 ((sp_qo BR RP 0 0 1) * (sp_qo BR RP 1 1 0))) 10 ((sp_qo BR RP 0 0 0) * (sp_qo BR RP 1 1 1))) 11 ((sp_qo BR RP 0 0 1) * (sp_qo BR RP 1 1 1))) 12 ((sp_qo BR RP 0 1 0) * (sp_qo BR RP 1 1 0))) z_)))), (ua, .inl (cJ, 308, .inr (.inl (fun z_ => lN (WA z_))))), (ub, .inl (cJ, 308, .inr (.inl (fun z_ => lN (XB z_)))))] H := hP
  have hD : va_D A [(u0, .inr (2, [.ref u1, .ref u2, .int (nI rm), .ref u3, .ref ua, .ref ub])), (u1, .inl (cI, 2, .inl (fun z_ => nI (BR z_)))), (u2, .inl (cI, 2, .inl (fun z_ => nI (RP z_)))), (u3, .inl (cI, 16, .inl (fun z_ => nI ((up (up (up (up (up (up (up (up (up (up (up (up (up CW 0 ((sp_qo BR RP 0 0 0) * (sp_qo BR RP 1 0 0))) 1 ((sp_qo BR RP 0 0 1) * (sp_qo BR RP 1 0 0))) 2 ((sp_qo BR RP 0 0 0) * (sp_qo BR RP 1 0 1))) 3 ((sp_qo BR RP 0 0 1) * (sp_qo BR RP 1 0 1))) 4 ((sp_qo BR RP 0 1 0) * (sp_qo BR RP 1 0 0))) 5 ((sp_qo BR RP 0 1 1) * (sp_qo BR RP 1 0 0))) 6 ((sp_qo BR RP 0 1 0) * (sp_qo BR RP 1 0 1))) 7 ((sp_qo BR RP 0 1 1) * (sp_qo BR RP 1 0 1))) 8 ((sp_qo BR RP 0 0 0) * (sp_qo BR RP 1 1 0))) 9 ((sp_qo BR RP 0 0 1) * (sp_qo BR RP 1 1 0))) 10 ((sp_qo BR RP 0 0 0) * (sp_qo BR RP 1 1 1))) 11 ((sp_qo BR RP 0 0 1) * (sp_qo BR RP 1 1 1))) 12 ((sp_qo BR RP 0 1 0) * (sp_qo BR RP 1 1 0))) z_)))), (ua, .inl (cJ, 308, .inr (.inl (fun z_ => lN (WA z_))))), (ub, .inl (cJ, 308, .inr (.inl (fun z_ => lN (XB z_)))))] := hD
  obtain ⟨er, p38_0⟩ := hw
  have p38_0 : rv_38 = sp_qo BR RP 0 1 1 := p38_0
  have er : r_38 = (nI rv_38) := er
  subst er
  subst p38_0
  refine lv_istore_n (lv' := [(3, .int (nI (sp_qo BR RP 0 1 1))), (2, .int (nI 1)), (4, .int (nI (sp_qo BR RP 1 1 0))), (1, .int (nI 3)), (0, .ref u0)]) hx hb dX2_start_41 rfl hl (by decide) rfl (fun ls hl => ?_)
  refine lv_aload_n hx hb dX2_start_42 rfl (lv_at hl 4 rfl) ?_
  refine lv_iconst (v := nI 1) hx hb dX2_start_43 (by decide) ?_
  refine lv_iload_n hx hb dX2_start_44 rfl (lv_at hl 3 rfl) ?_
  refine lv_iconst (v := nI 2) hx hb dX2_start_45 (by decide) ?_
  refine z_iand (v := nI 2) hx hb dX2_start_46 (by decide) ?_
  refine lv_if_eq (tgt := 54) hx hb dX2_start_47 (by decide) (fun c_x => absurd c_x (by decide)) (fun _ => ?_)
  refine lv_iconst (v := nI 1) hx hb dX2_start_50 (by decide) ?_
  refine lv_goto (tgt := 55) hx hb dX2_start_51 (by decide) ?_
  refine lv_iload_n hx hb dX2_start_55 rfl (lv_at hl 1 rfl) ?_
  refine lv_iconst (v := nI 2) hx hb dX2_start_56 (by decide) ?_
  refine z_iand (v := nI 0) hx hb dX2_start_57 (by decide) ?_
  refine lv_if_eq (tgt := 65) hx hb dX2_start_58 (by decide) (fun _ => ?_) (fun c_x => absurd c_x (by decide))
  refine lv_iconst (v := nI 0) hx hb dX2_start_65 (by decide) ?_
  refine z_callVi (As := [.int (nI 1), .int (nI 1), .int (nI 0)]) (rest := []) (wr := [(u3, .inl (cI, 16, .inl (fun z_ => nI ((up (up (up (up (up (up (up (up (up (up (up (up (up CW 0 ((sp_qo BR RP 0 0 0) * (sp_qo BR RP 1 0 0))) 1 ((sp_qo BR RP 0 0 1) * (sp_qo BR RP 1 0 0))) 2 ((sp_qo BR RP 0 0 0) * (sp_qo BR RP 1 0 1))) 3 ((sp_qo BR RP 0 0 1) * (sp_qo BR RP 1 0 1))) 4 ((sp_qo BR RP 0 1 0) * (sp_qo BR RP 1 0 0))) 5 ((sp_qo BR RP 0 1 1) * (sp_qo BR RP 1 0 0))) 6 ((sp_qo BR RP 0 1 0) * (sp_qo BR RP 1 0 1))) 7 ((sp_qo BR RP 0 1 1) * (sp_qo BR RP 1 0 1))) 8 ((sp_qo BR RP 0 0 0) * (sp_qo BR RP 1 1 0))) 9 ((sp_qo BR RP 0 0 1) * (sp_qo BR RP 1 1 0))) 10 ((sp_qo BR RP 0 0 0) * (sp_qo BR RP 1 1 1))) 11 ((sp_qo BR RP 0 0 1) * (sp_qo BR RP 1 1 1))) 12 ((sp_qo BR RP 0 1 0) * (sp_qo BR RP 1 1 0))) z_)))), (ua, .inl (cJ, 308, .inr (.inl (fun z_ => lN (WA z_))))), (ub, .inl (cJ, 308, .inr (.inl (fun z_ => lN (XB z_)))))]) ⟨hx, hb, hml, hown, hts⟩ (c_X2_quartersOf l dC dI cI cJ H.size u0 u1 u2 u3 ua ub BR RP rm 1 1 0 (by first | assumption | omega) (by first | assumption | omega) (by first | assumption | omega) (by first | assumption | omega) (by first | assumption | omega)) (cwV 3 hts gX2_start_X2_quartersOf rfl rfl rfl (by decide +kernel) ⟨Nat.le_of_ble_eq_true rfl, Nat.le_of_ble_eq_true rfl⟩) hA hK hP hD hS [0, 1, 2] [3, 4, 5] [3, 4, 5, 0, 1, 2] rfl rfl (by decide) (by decide) (by decide) nwA_ok hN (ci := 2) rfl rfl 0 rfl hl.1 (Nat.le_of_ble_eq_true rfl) ⟨Nat.le_refl _, Nat.le_refl _⟩ rfl rfl dX2_start_66 (fun (u : (Nat)) => [(u0, .inr (2, [.ref u1, .ref u2, .int (nI rm), .ref u3, .ref ua, .ref ub])), (u1, .inl (cI, 2, .inl (fun z_ => nI (BR z_)))), (u2, .inl (cI, 2, .inl (fun z_ => nI (RP z_)))), (u3, .inl (cI, 16, .inl (fun z_ => nI ((up (up (up (up (up (up (up (up (up (up (up (up (up CW 0 ((sp_qo BR RP 0 0 0) * (sp_qo BR RP 1 0 0))) 1 ((sp_qo BR RP 0 0 1) * (sp_qo BR RP 1 0 0))) 2 ((sp_qo BR RP 0 0 0) * (sp_qo BR RP 1 0 1))) 3 ((sp_qo BR RP 0 0 1) * (sp_qo BR RP 1 0 1))) 4 ((sp_qo BR RP 0 1 0) * (sp_qo BR RP 1 0 0))) 5 ((sp_qo BR RP 0 1 1) * (sp_qo BR RP 1 0 0))) 6 ((sp_qo BR RP 0 1 0) * (sp_qo BR RP 1 0 1))) 7 ((sp_qo BR RP 0 1 1) * (sp_qo BR RP 1 0 1))) 8 ((sp_qo BR RP 0 0 0) * (sp_qo BR RP 1 1 0))) 9 ((sp_qo BR RP 0 0 1) * (sp_qo BR RP 1 1 0))) 10 ((sp_qo BR RP 0 0 0) * (sp_qo BR RP 1 1 1))) 11 ((sp_qo BR RP 0 0 1) * (sp_qo BR RP 1 1 1))) 12 ((sp_qo BR RP 0 1 0) * (sp_qo BR RP 1 1 0))) z_)))), (ua, .inl (cJ, 308, .inr (.inl (fun z_ => lN (WA z_))))), (ub, .inl (cJ, 308, .inr (.inl (fun z_ => lN (XB z_)))))]) (fun u => rfl) (by decide) (fun r_66 u H locs hw hP hD hS => ?_)
  obtain ⟨rv_66, eu⟩ : ∃ z, z = u := ⟨_, rfl⟩
  subst eu
  have hP : va_P (dC, dI) vwCl [(u0, .inr (2, [.ref u1, .ref u2, .int (nI rm), .ref u3, .ref ua, .ref ub])), (u1, .inl (cI, 2, .inl (fun z_ => nI (BR z_)))), (u2, .inl (cI, 2, .inl (fun z_ => nI (RP z_)))), (u3, .inl (cI, 16, .inl (fun z_ => nI ((up (up (up (up (up (up (up (up (up (up (up (up (up CW 0 ((sp_qo BR RP 0 0 0) * (sp_qo BR RP 1 0 0))) 1 ((sp_qo BR RP 0 0 1) * (sp_qo BR RP 1 0 0))) 2 ((sp_qo BR RP 0 0 0) * (sp_qo BR RP 1 0 1))) 3 ((sp_qo BR RP 0 0 1) * (sp_qo BR RP 1 0 1))) 4 ((sp_qo BR RP 0 1 0) * (sp_qo BR RP 1 0 0))) 5 ((sp_qo BR RP 0 1 1) * (sp_qo BR RP 1 0 0))) 6 ((sp_qo BR RP 0 1 0) * (sp_qo BR RP 1 0 1))) 7 ((sp_qo BR RP 0 1 1) * (sp_qo BR RP 1 0 1))) 8 ((sp_qo BR RP 0 0 0) * (sp_qo BR RP 1 1 0))) 9 ((sp_qo BR RP 0 0 1) * (sp_qo BR RP 1 1 0))) 10 ((sp_qo BR RP 0 0 0) * (sp_qo BR RP 1 1 1))) 11 ((sp_qo BR RP 0 0 1) * (sp_qo BR RP 1 1 1))) 12 ((sp_qo BR RP 0 1 0) * (sp_qo BR RP 1 1 0))) z_)))), (ua, .inl (cJ, 308, .inr (.inl (fun z_ => lN (WA z_))))), (ub, .inl (cJ, 308, .inr (.inl (fun z_ => lN (XB z_)))))] H := hP
  have hD : va_D A [(u0, .inr (2, [.ref u1, .ref u2, .int (nI rm), .ref u3, .ref ua, .ref ub])), (u1, .inl (cI, 2, .inl (fun z_ => nI (BR z_)))), (u2, .inl (cI, 2, .inl (fun z_ => nI (RP z_)))), (u3, .inl (cI, 16, .inl (fun z_ => nI ((up (up (up (up (up (up (up (up (up (up (up (up (up CW 0 ((sp_qo BR RP 0 0 0) * (sp_qo BR RP 1 0 0))) 1 ((sp_qo BR RP 0 0 1) * (sp_qo BR RP 1 0 0))) 2 ((sp_qo BR RP 0 0 0) * (sp_qo BR RP 1 0 1))) 3 ((sp_qo BR RP 0 0 1) * (sp_qo BR RP 1 0 1))) 4 ((sp_qo BR RP 0 1 0) * (sp_qo BR RP 1 0 0))) 5 ((sp_qo BR RP 0 1 1) * (sp_qo BR RP 1 0 0))) 6 ((sp_qo BR RP 0 1 0) * (sp_qo BR RP 1 0 1))) 7 ((sp_qo BR RP 0 1 1) * (sp_qo BR RP 1 0 1))) 8 ((sp_qo BR RP 0 0 0) * (sp_qo BR RP 1 1 0))) 9 ((sp_qo BR RP 0 0 1) * (sp_qo BR RP 1 1 0))) 10 ((sp_qo BR RP 0 0 0) * (sp_qo BR RP 1 1 1))) 11 ((sp_qo BR RP 0 0 1) * (sp_qo BR RP 1 1 1))) 12 ((sp_qo BR RP 0 1 0) * (sp_qo BR RP 1 1 0))) z_)))), (ua, .inl (cJ, 308, .inr (.inl (fun z_ => lN (WA z_))))), (ub, .inl (cJ, 308, .inr (.inl (fun z_ => lN (XB z_)))))] := hD
  obtain ⟨er, p66_0⟩ := hw
  have p66_0 : rv_66 = sp_qo BR RP 1 1 0 := p66_0
  have er : r_66 = (nI rv_66) := er
  subst er
  subst p66_0
  refine lv_istore (lv' := [(4, .int (nI (sp_qo BR RP 1 1 0))), (3, .int (nI (sp_qo BR RP 0 1 1))), (2, .int (nI 1)), (1, .int (nI 3)), (0, .ref u0)]) hx hb dX2_start_69 hl (by decide) rfl (fun ls hl => ?_)
  refine lv_aload_n hx hb dX2_start_71 rfl (lv_at hl 4 rfl) ?_
  refine z_get (D := (dC, dI)) (ci := 2) (v := .ref u3) (C := RX2) (T := TX2) (N := 6) hx hb hts uX2 hown hK hP 0 rfl rfl 3 (by decide) w18 rfl rfl dX2_start_72 ?_
  refine lv_iload_n hx hb dX2_start_75 rfl (lv_at hl 3 rfl) ?_
  refine lv_iconst (v := nI 4) hx hb dX2_start_76 (by decide) ?_
  refine z_imul (v := (nI 12)) hx hb dX2_start_77 (by decide) ?_
  refine lv_iload_n hx hb dX2_start_78 rfl (lv_at hl 2 rfl) ?_
  refine z_iadd (v := (nI 13)) hx hb dX2_start_79 (by decide) ?_
  refine lv_iload_n hx hb dX2_start_80 rfl (lv_at hl 1 rfl) ?_
  refine lv_iload hx hb dX2_start_81 (lv_at hl 0 rfl) ?_
  refine z_imul (v := (nI ((sp_qo BR RP 0 1 1) * (sp_qo BR RP 1 1 0)))) hx hb dX2_start_83 (pk_mul _ _) ?_
  refine z_iast hx hb hK hP hD hS 3 0 rfl rfl 13 rfl (by omega) (upd_N (up (up (up (up (up (up (up (up (up (up (up (up (up CW 0 ((sp_qo BR RP 0 0 0) * (sp_qo BR RP 1 0 0))) 1 ((sp_qo BR RP 0 0 1) * (sp_qo BR RP 1 0 0))) 2 ((sp_qo BR RP 0 0 0) * (sp_qo BR RP 1 0 1))) 3 ((sp_qo BR RP 0 0 1) * (sp_qo BR RP 1 0 1))) 4 ((sp_qo BR RP 0 1 0) * (sp_qo BR RP 1 0 0))) 5 ((sp_qo BR RP 0 1 1) * (sp_qo BR RP 1 0 0))) 6 ((sp_qo BR RP 0 1 0) * (sp_qo BR RP 1 0 1))) 7 ((sp_qo BR RP 0 1 1) * (sp_qo BR RP 1 0 1))) 8 ((sp_qo BR RP 0 0 0) * (sp_qo BR RP 1 1 0))) 9 ((sp_qo BR RP 0 0 1) * (sp_qo BR RP 1 1 0))) 10 ((sp_qo BR RP 0 0 0) * (sp_qo BR RP 1 1 1))) 11 ((sp_qo BR RP 0 0 1) * (sp_qo BR RP 1 1 1))) 12 ((sp_qo BR RP 0 1 0) * (sp_qo BR RP 1 1 0))) 13 ((sp_qo BR RP 0 1 1) * (sp_qo BR RP 1 1 0))) [(u0, .inr (2, [.ref u1, .ref u2, .int (nI rm), .ref u3, .ref ua, .ref ub])), (u1, .inl (cI, 2, .inl (fun z_ => nI (BR z_)))), (u2, .inl (cI, 2, .inl (fun z_ => nI (RP z_)))), (u3, .inl (cI, 16, .inl (fun z_ => nI ((up (up (up (up (up (up (up (up (up (up (up (up (up (up CW 0 ((sp_qo BR RP 0 0 0) * (sp_qo BR RP 1 0 0))) 1 ((sp_qo BR RP 0 0 1) * (sp_qo BR RP 1 0 0))) 2 ((sp_qo BR RP 0 0 0) * (sp_qo BR RP 1 0 1))) 3 ((sp_qo BR RP 0 0 1) * (sp_qo BR RP 1 0 1))) 4 ((sp_qo BR RP 0 1 0) * (sp_qo BR RP 1 0 0))) 5 ((sp_qo BR RP 0 1 1) * (sp_qo BR RP 1 0 0))) 6 ((sp_qo BR RP 0 1 0) * (sp_qo BR RP 1 0 1))) 7 ((sp_qo BR RP 0 1 1) * (sp_qo BR RP 1 0 1))) 8 ((sp_qo BR RP 0 0 0) * (sp_qo BR RP 1 1 0))) 9 ((sp_qo BR RP 0 0 1) * (sp_qo BR RP 1 1 0))) 10 ((sp_qo BR RP 0 0 0) * (sp_qo BR RP 1 1 1))) 11 ((sp_qo BR RP 0 0 1) * (sp_qo BR RP 1 1 1))) 12 ((sp_qo BR RP 0 1 0) * (sp_qo BR RP 1 1 0))) 13 ((sp_qo BR RP 0 1 1) * (sp_qo BR RP 1 1 0))) z_)))), (ua, .inl (cJ, 308, .inr (.inl (fun z_ => lN (WA z_))))), (ub, .inl (cJ, 308, .inr (.inl (fun z_ => lN (XB z_)))))] rfl dX2_start_84 (fun H locs hP hD hS => ?_)
  refine lv_iinc (v := (nI 2)) (lv' := [(2, .int (nI 2)), (4, .int (nI (sp_qo BR RP 1 1 0))), (3, .int (nI (sp_qo BR RP 0 1 1))), (1, .int (nI 3)), (0, .ref u0)]) hx hb dX2_start_85 hl (k := 2) rfl (by decide) (by decide) rfl (fun ls hl => ?_)
  refine lv_goto (tgt := 9) hx hb dX2_start_88 (by decide) ?_
  refine lv_iload_n hx hb dX2_start_9 rfl (lv_at hl 0 rfl) ?_
  refine lv_iconst (v := nI 4) hx hb dX2_start_10 (by decide) ?_
  refine lv_icmp_ge (tgt := 91) hx hb dX2_start_11 (by decide) (fun c_x => absurd c_x (by decide)) (fun _ => ?_)
  refine lv_aload_n hx hb dX2_start_14 rfl (lv_at hl 4 rfl) ?_
  refine lv_iconst (v := nI 0) hx hb dX2_start_15 (by decide) ?_
  refine lv_iload_n hx hb dX2_start_16 rfl (lv_at hl 3 rfl) ?_
  refine lv_iconst (v := nI 1) hx hb dX2_start_17 (by decide) ?_
  refine z_iand (v := nI 1) hx hb dX2_start_18 (by decide) ?_
  refine lv_if_eq (tgt := 26) hx hb dX2_start_19 (by decide) (fun c_x => absurd c_x (by decide)) (fun _ => ?_)
  refine lv_iconst (v := nI 1) hx hb dX2_start_22 (by decide) ?_
  refine lv_goto (tgt := 27) hx hb dX2_start_23 (by decide) ?_
  refine lv_iload_n hx hb dX2_start_27 rfl (lv_at hl 0 rfl) ?_
  refine lv_iconst (v := nI 1) hx hb dX2_start_28 (by decide) ?_
  refine z_iand (v := nI 0) hx hb dX2_start_29 (by decide) ?_
  refine lv_if_eq (tgt := 37) hx hb dX2_start_30 (by decide) (fun _ => ?_) (fun c_x => absurd c_x (by decide))
  refine lv_iconst (v := nI 0) hx hb dX2_start_37 (by decide) ?_
  refine z_callVi (As := [.int (nI 0), .int (nI 1), .int (nI 0)]) (rest := []) (wr := [(u3, .inl (cI, 16, .inl (fun z_ => nI ((up (up (up (up (up (up (up (up (up (up (up (up (up (up CW 0 ((sp_qo BR RP 0 0 0) * (sp_qo BR RP 1 0 0))) 1 ((sp_qo BR RP 0 0 1) * (sp_qo BR RP 1 0 0))) 2 ((sp_qo BR RP 0 0 0) * (sp_qo BR RP 1 0 1))) 3 ((sp_qo BR RP 0 0 1) * (sp_qo BR RP 1 0 1))) 4 ((sp_qo BR RP 0 1 0) * (sp_qo BR RP 1 0 0))) 5 ((sp_qo BR RP 0 1 1) * (sp_qo BR RP 1 0 0))) 6 ((sp_qo BR RP 0 1 0) * (sp_qo BR RP 1 0 1))) 7 ((sp_qo BR RP 0 1 1) * (sp_qo BR RP 1 0 1))) 8 ((sp_qo BR RP 0 0 0) * (sp_qo BR RP 1 1 0))) 9 ((sp_qo BR RP 0 0 1) * (sp_qo BR RP 1 1 0))) 10 ((sp_qo BR RP 0 0 0) * (sp_qo BR RP 1 1 1))) 11 ((sp_qo BR RP 0 0 1) * (sp_qo BR RP 1 1 1))) 12 ((sp_qo BR RP 0 1 0) * (sp_qo BR RP 1 1 0))) 13 ((sp_qo BR RP 0 1 1) * (sp_qo BR RP 1 1 0))) z_)))), (ua, .inl (cJ, 308, .inr (.inl (fun z_ => lN (WA z_))))), (ub, .inl (cJ, 308, .inr (.inl (fun z_ => lN (XB z_)))))]) ⟨hx, hb, hml, hown, hts⟩ (c_X2_quartersOf l dC dI cI cJ H.size u0 u1 u2 u3 ua ub BR RP rm 0 1 0 (by first | assumption | omega) (by first | assumption | omega) (by first | assumption | omega) (by first | assumption | omega) (by first | assumption | omega)) (cwV 3 hts gX2_start_X2_quartersOf rfl rfl rfl (by decide +kernel) ⟨Nat.le_of_ble_eq_true rfl, Nat.le_of_ble_eq_true rfl⟩) hA hK hP hD hS [0, 1, 2] [3, 4, 5] [3, 4, 5, 0, 1, 2] rfl rfl (by decide) (by decide) (by decide) nwA_ok hN (ci := 2) rfl rfl 0 rfl hl.1 (Nat.le_of_ble_eq_true rfl) ⟨Nat.le_refl _, Nat.le_refl _⟩ rfl rfl dX2_start_38 (fun (u : (Nat)) => [(u0, .inr (2, [.ref u1, .ref u2, .int (nI rm), .ref u3, .ref ua, .ref ub])), (u1, .inl (cI, 2, .inl (fun z_ => nI (BR z_)))), (u2, .inl (cI, 2, .inl (fun z_ => nI (RP z_)))), (u3, .inl (cI, 16, .inl (fun z_ => nI ((up (up (up (up (up (up (up (up (up (up (up (up (up (up CW 0 ((sp_qo BR RP 0 0 0) * (sp_qo BR RP 1 0 0))) 1 ((sp_qo BR RP 0 0 1) * (sp_qo BR RP 1 0 0))) 2 ((sp_qo BR RP 0 0 0) * (sp_qo BR RP 1 0 1))) 3 ((sp_qo BR RP 0 0 1) * (sp_qo BR RP 1 0 1))) 4 ((sp_qo BR RP 0 1 0) * (sp_qo BR RP 1 0 0))) 5 ((sp_qo BR RP 0 1 1) * (sp_qo BR RP 1 0 0))) 6 ((sp_qo BR RP 0 1 0) * (sp_qo BR RP 1 0 1))) 7 ((sp_qo BR RP 0 1 1) * (sp_qo BR RP 1 0 1))) 8 ((sp_qo BR RP 0 0 0) * (sp_qo BR RP 1 1 0))) 9 ((sp_qo BR RP 0 0 1) * (sp_qo BR RP 1 1 0))) 10 ((sp_qo BR RP 0 0 0) * (sp_qo BR RP 1 1 1))) 11 ((sp_qo BR RP 0 0 1) * (sp_qo BR RP 1 1 1))) 12 ((sp_qo BR RP 0 1 0) * (sp_qo BR RP 1 1 0))) 13 ((sp_qo BR RP 0 1 1) * (sp_qo BR RP 1 1 0))) z_)))), (ua, .inl (cJ, 308, .inr (.inl (fun z_ => lN (WA z_))))), (ub, .inl (cJ, 308, .inr (.inl (fun z_ => lN (XB z_)))))]) (fun u => rfl) (by decide) (fun r_38 u H locs hw hP hD hS => ?_)
  obtain ⟨rv_38, eu⟩ : ∃ z, z = u := ⟨_, rfl⟩
  subst eu
  have hP : va_P (dC, dI) vwCl [(u0, .inr (2, [.ref u1, .ref u2, .int (nI rm), .ref u3, .ref ua, .ref ub])), (u1, .inl (cI, 2, .inl (fun z_ => nI (BR z_)))), (u2, .inl (cI, 2, .inl (fun z_ => nI (RP z_)))), (u3, .inl (cI, 16, .inl (fun z_ => nI ((up (up (up (up (up (up (up (up (up (up (up (up (up (up CW 0 ((sp_qo BR RP 0 0 0) * (sp_qo BR RP 1 0 0))) 1 ((sp_qo BR RP 0 0 1) * (sp_qo BR RP 1 0 0))) 2 ((sp_qo BR RP 0 0 0) * (sp_qo BR RP 1 0 1))) 3 ((sp_qo BR RP 0 0 1) * (sp_qo BR RP 1 0 1))) 4 ((sp_qo BR RP 0 1 0) * (sp_qo BR RP 1 0 0))) 5 ((sp_qo BR RP 0 1 1) * (sp_qo BR RP 1 0 0))) 6 ((sp_qo BR RP 0 1 0) * (sp_qo BR RP 1 0 1))) 7 ((sp_qo BR RP 0 1 1) * (sp_qo BR RP 1 0 1))) 8 ((sp_qo BR RP 0 0 0) * (sp_qo BR RP 1 1 0))) 9 ((sp_qo BR RP 0 0 1) * (sp_qo BR RP 1 1 0))) 10 ((sp_qo BR RP 0 0 0) * (sp_qo BR RP 1 1 1))) 11 ((sp_qo BR RP 0 0 1) * (sp_qo BR RP 1 1 1))) 12 ((sp_qo BR RP 0 1 0) * (sp_qo BR RP 1 1 0))) 13 ((sp_qo BR RP 0 1 1) * (sp_qo BR RP 1 1 0))) z_)))), (ua, .inl (cJ, 308, .inr (.inl (fun z_ => lN (WA z_))))), (ub, .inl (cJ, 308, .inr (.inl (fun z_ => lN (XB z_)))))] H := hP
  have hD : va_D A [(u0, .inr (2, [.ref u1, .ref u2, .int (nI rm), .ref u3, .ref ua, .ref ub])), (u1, .inl (cI, 2, .inl (fun z_ => nI (BR z_)))), (u2, .inl (cI, 2, .inl (fun z_ => nI (RP z_)))), (u3, .inl (cI, 16, .inl (fun z_ => nI ((up (up (up (up (up (up (up (up (up (up (up (up (up (up CW 0 ((sp_qo BR RP 0 0 0) * (sp_qo BR RP 1 0 0))) 1 ((sp_qo BR RP 0 0 1) * (sp_qo BR RP 1 0 0))) 2 ((sp_qo BR RP 0 0 0) * (sp_qo BR RP 1 0 1))) 3 ((sp_qo BR RP 0 0 1) * (sp_qo BR RP 1 0 1))) 4 ((sp_qo BR RP 0 1 0) * (sp_qo BR RP 1 0 0))) 5 ((sp_qo BR RP 0 1 1) * (sp_qo BR RP 1 0 0))) 6 ((sp_qo BR RP 0 1 0) * (sp_qo BR RP 1 0 1))) 7 ((sp_qo BR RP 0 1 1) * (sp_qo BR RP 1 0 1))) 8 ((sp_qo BR RP 0 0 0) * (sp_qo BR RP 1 1 0))) 9 ((sp_qo BR RP 0 0 1) * (sp_qo BR RP 1 1 0))) 10 ((sp_qo BR RP 0 0 0) * (sp_qo BR RP 1 1 1))) 11 ((sp_qo BR RP 0 0 1) * (sp_qo BR RP 1 1 1))) 12 ((sp_qo BR RP 0 1 0) * (sp_qo BR RP 1 1 0))) 13 ((sp_qo BR RP 0 1 1) * (sp_qo BR RP 1 1 0))) z_)))), (ua, .inl (cJ, 308, .inr (.inl (fun z_ => lN (WA z_))))), (ub, .inl (cJ, 308, .inr (.inl (fun z_ => lN (XB z_)))))] := hD
  obtain ⟨er, p38_0⟩ := hw
  have p38_0 : rv_38 = sp_qo BR RP 0 1 0 := p38_0
  have er : r_38 = (nI rv_38) := er
  subst er
  subst p38_0
  refine lv_istore_n (lv' := [(3, .int (nI (sp_qo BR RP 0 1 0))), (2, .int (nI 2)), (4, .int (nI (sp_qo BR RP 1 1 0))), (1, .int (nI 3)), (0, .ref u0)]) hx hb dX2_start_41 rfl hl (by decide) rfl (fun ls hl => ?_)
  refine lv_aload_n hx hb dX2_start_42 rfl (lv_at hl 4 rfl) ?_
  refine lv_iconst (v := nI 1) hx hb dX2_start_43 (by decide) ?_
  refine lv_iload_n hx hb dX2_start_44 rfl (lv_at hl 3 rfl) ?_
  refine lv_iconst (v := nI 2) hx hb dX2_start_45 (by decide) ?_
  refine z_iand (v := nI 2) hx hb dX2_start_46 (by decide) ?_
  refine lv_if_eq (tgt := 54) hx hb dX2_start_47 (by decide) (fun c_x => absurd c_x (by decide)) (fun _ => ?_)
  refine lv_iconst (v := nI 1) hx hb dX2_start_50 (by decide) ?_
  refine lv_goto (tgt := 55) hx hb dX2_start_51 (by decide) ?_
  refine lv_iload_n hx hb dX2_start_55 rfl (lv_at hl 1 rfl) ?_
  refine lv_iconst (v := nI 2) hx hb dX2_start_56 (by decide) ?_
  refine z_iand (v := nI 2) hx hb dX2_start_57 (by decide) ?_
  refine lv_if_eq (tgt := 65) hx hb dX2_start_58 (by decide) (fun c_x => absurd c_x (by decide)) (fun _ => ?_)
  refine lv_iconst (v := nI 1) hx hb dX2_start_61 (by decide) ?_
  refine lv_goto (tgt := 66) hx hb dX2_start_62 (by decide) ?_
  refine z_callVi (As := [.int (nI 1), .int (nI 1), .int (nI 1)]) (rest := []) (wr := [(u3, .inl (cI, 16, .inl (fun z_ => nI ((up (up (up (up (up (up (up (up (up (up (up (up (up (up CW 0 ((sp_qo BR RP 0 0 0) * (sp_qo BR RP 1 0 0))) 1 ((sp_qo BR RP 0 0 1) * (sp_qo BR RP 1 0 0))) 2 ((sp_qo BR RP 0 0 0) * (sp_qo BR RP 1 0 1))) 3 ((sp_qo BR RP 0 0 1) * (sp_qo BR RP 1 0 1))) 4 ((sp_qo BR RP 0 1 0) * (sp_qo BR RP 1 0 0))) 5 ((sp_qo BR RP 0 1 1) * (sp_qo BR RP 1 0 0))) 6 ((sp_qo BR RP 0 1 0) * (sp_qo BR RP 1 0 1))) 7 ((sp_qo BR RP 0 1 1) * (sp_qo BR RP 1 0 1))) 8 ((sp_qo BR RP 0 0 0) * (sp_qo BR RP 1 1 0))) 9 ((sp_qo BR RP 0 0 1) * (sp_qo BR RP 1 1 0))) 10 ((sp_qo BR RP 0 0 0) * (sp_qo BR RP 1 1 1))) 11 ((sp_qo BR RP 0 0 1) * (sp_qo BR RP 1 1 1))) 12 ((sp_qo BR RP 0 1 0) * (sp_qo BR RP 1 1 0))) 13 ((sp_qo BR RP 0 1 1) * (sp_qo BR RP 1 1 0))) z_)))), (ua, .inl (cJ, 308, .inr (.inl (fun z_ => lN (WA z_))))), (ub, .inl (cJ, 308, .inr (.inl (fun z_ => lN (XB z_)))))]) ⟨hx, hb, hml, hown, hts⟩ (c_X2_quartersOf l dC dI cI cJ H.size u0 u1 u2 u3 ua ub BR RP rm 1 1 1 (by first | assumption | omega) (by first | assumption | omega) (by first | assumption | omega) (by first | assumption | omega) (by first | assumption | omega)) (cwV 3 hts gX2_start_X2_quartersOf rfl rfl rfl (by decide +kernel) ⟨Nat.le_of_ble_eq_true rfl, Nat.le_of_ble_eq_true rfl⟩) hA hK hP hD hS [0, 1, 2] [3, 4, 5] [3, 4, 5, 0, 1, 2] rfl rfl (by decide) (by decide) (by decide) nwA_ok hN (ci := 2) rfl rfl 0 rfl hl.1 (Nat.le_of_ble_eq_true rfl) ⟨Nat.le_refl _, Nat.le_refl _⟩ rfl rfl dX2_start_66 (fun (u : (Nat)) => [(u0, .inr (2, [.ref u1, .ref u2, .int (nI rm), .ref u3, .ref ua, .ref ub])), (u1, .inl (cI, 2, .inl (fun z_ => nI (BR z_)))), (u2, .inl (cI, 2, .inl (fun z_ => nI (RP z_)))), (u3, .inl (cI, 16, .inl (fun z_ => nI ((up (up (up (up (up (up (up (up (up (up (up (up (up (up CW 0 ((sp_qo BR RP 0 0 0) * (sp_qo BR RP 1 0 0))) 1 ((sp_qo BR RP 0 0 1) * (sp_qo BR RP 1 0 0))) 2 ((sp_qo BR RP 0 0 0) * (sp_qo BR RP 1 0 1))) 3 ((sp_qo BR RP 0 0 1) * (sp_qo BR RP 1 0 1))) 4 ((sp_qo BR RP 0 1 0) * (sp_qo BR RP 1 0 0))) 5 ((sp_qo BR RP 0 1 1) * (sp_qo BR RP 1 0 0))) 6 ((sp_qo BR RP 0 1 0) * (sp_qo BR RP 1 0 1))) 7 ((sp_qo BR RP 0 1 1) * (sp_qo BR RP 1 0 1))) 8 ((sp_qo BR RP 0 0 0) * (sp_qo BR RP 1 1 0))) 9 ((sp_qo BR RP 0 0 1) * (sp_qo BR RP 1 1 0))) 10 ((sp_qo BR RP 0 0 0) * (sp_qo BR RP 1 1 1))) 11 ((sp_qo BR RP 0 0 1) * (sp_qo BR RP 1 1 1))) 12 ((sp_qo BR RP 0 1 0) * (sp_qo BR RP 1 1 0))) 13 ((sp_qo BR RP 0 1 1) * (sp_qo BR RP 1 1 0))) z_)))), (ua, .inl (cJ, 308, .inr (.inl (fun z_ => lN (WA z_))))), (ub, .inl (cJ, 308, .inr (.inl (fun z_ => lN (XB z_)))))]) (fun u => rfl) (by decide) (fun r_66 u H locs hw hP hD hS => ?_)
  obtain ⟨rv_66, eu⟩ : ∃ z, z = u := ⟨_, rfl⟩
  subst eu
  have hP : va_P (dC, dI) vwCl [(u0, .inr (2, [.ref u1, .ref u2, .int (nI rm), .ref u3, .ref ua, .ref ub])), (u1, .inl (cI, 2, .inl (fun z_ => nI (BR z_)))), (u2, .inl (cI, 2, .inl (fun z_ => nI (RP z_)))), (u3, .inl (cI, 16, .inl (fun z_ => nI ((up (up (up (up (up (up (up (up (up (up (up (up (up (up CW 0 ((sp_qo BR RP 0 0 0) * (sp_qo BR RP 1 0 0))) 1 ((sp_qo BR RP 0 0 1) * (sp_qo BR RP 1 0 0))) 2 ((sp_qo BR RP 0 0 0) * (sp_qo BR RP 1 0 1))) 3 ((sp_qo BR RP 0 0 1) * (sp_qo BR RP 1 0 1))) 4 ((sp_qo BR RP 0 1 0) * (sp_qo BR RP 1 0 0))) 5 ((sp_qo BR RP 0 1 1) * (sp_qo BR RP 1 0 0))) 6 ((sp_qo BR RP 0 1 0) * (sp_qo BR RP 1 0 1))) 7 ((sp_qo BR RP 0 1 1) * (sp_qo BR RP 1 0 1))) 8 ((sp_qo BR RP 0 0 0) * (sp_qo BR RP 1 1 0))) 9 ((sp_qo BR RP 0 0 1) * (sp_qo BR RP 1 1 0))) 10 ((sp_qo BR RP 0 0 0) * (sp_qo BR RP 1 1 1))) 11 ((sp_qo BR RP 0 0 1) * (sp_qo BR RP 1 1 1))) 12 ((sp_qo BR RP 0 1 0) * (sp_qo BR RP 1 1 0))) 13 ((sp_qo BR RP 0 1 1) * (sp_qo BR RP 1 1 0))) z_)))), (ua, .inl (cJ, 308, .inr (.inl (fun z_ => lN (WA z_))))), (ub, .inl (cJ, 308, .inr (.inl (fun z_ => lN (XB z_)))))] H := hP
  have hD : va_D A [(u0, .inr (2, [.ref u1, .ref u2, .int (nI rm), .ref u3, .ref ua, .ref ub])), (u1, .inl (cI, 2, .inl (fun z_ => nI (BR z_)))), (u2, .inl (cI, 2, .inl (fun z_ => nI (RP z_)))), (u3, .inl (cI, 16, .inl (fun z_ => nI ((up (up (up (up (up (up (up (up (up (up (up (up (up (up CW 0 ((sp_qo BR RP 0 0 0) * (sp_qo BR RP 1 0 0))) 1 ((sp_qo BR RP 0 0 1) * (sp_qo BR RP 1 0 0))) 2 ((sp_qo BR RP 0 0 0) * (sp_qo BR RP 1 0 1))) 3 ((sp_qo BR RP 0 0 1) * (sp_qo BR RP 1 0 1))) 4 ((sp_qo BR RP 0 1 0) * (sp_qo BR RP 1 0 0))) 5 ((sp_qo BR RP 0 1 1) * (sp_qo BR RP 1 0 0))) 6 ((sp_qo BR RP 0 1 0) * (sp_qo BR RP 1 0 1))) 7 ((sp_qo BR RP 0 1 1) * (sp_qo BR RP 1 0 1))) 8 ((sp_qo BR RP 0 0 0) * (sp_qo BR RP 1 1 0))) 9 ((sp_qo BR RP 0 0 1) * (sp_qo BR RP 1 1 0))) 10 ((sp_qo BR RP 0 0 0) * (sp_qo BR RP 1 1 1))) 11 ((sp_qo BR RP 0 0 1) * (sp_qo BR RP 1 1 1))) 12 ((sp_qo BR RP 0 1 0) * (sp_qo BR RP 1 1 0))) 13 ((sp_qo BR RP 0 1 1) * (sp_qo BR RP 1 1 0))) z_)))), (ua, .inl (cJ, 308, .inr (.inl (fun z_ => lN (WA z_))))), (ub, .inl (cJ, 308, .inr (.inl (fun z_ => lN (XB z_)))))] := hD
  obtain ⟨er, p66_0⟩ := hw
  have p66_0 : rv_66 = sp_qo BR RP 1 1 1 := p66_0
  have er : r_66 = (nI rv_66) := er
  subst er
  subst p66_0
  refine lv_istore (lv' := [(4, .int (nI (sp_qo BR RP 1 1 1))), (3, .int (nI (sp_qo BR RP 0 1 0))), (2, .int (nI 2)), (1, .int (nI 3)), (0, .ref u0)]) hx hb dX2_start_69 hl (by decide) rfl (fun ls hl => ?_)
  refine lv_aload_n hx hb dX2_start_71 rfl (lv_at hl 4 rfl) ?_
  refine z_get (D := (dC, dI)) (ci := 2) (v := .ref u3) (C := RX2) (T := TX2) (N := 6) hx hb hts uX2 hown hK hP 0 rfl rfl 3 (by decide) w18 rfl rfl dX2_start_72 ?_
  refine lv_iload_n hx hb dX2_start_75 rfl (lv_at hl 3 rfl) ?_
  refine lv_iconst (v := nI 4) hx hb dX2_start_76 (by decide) ?_
  refine z_imul (v := (nI 12)) hx hb dX2_start_77 (by decide) ?_
  refine lv_iload_n hx hb dX2_start_78 rfl (lv_at hl 2 rfl) ?_
  refine z_iadd (v := (nI 14)) hx hb dX2_start_79 (by decide) ?_
  refine lv_iload_n hx hb dX2_start_80 rfl (lv_at hl 1 rfl) ?_
  refine lv_iload hx hb dX2_start_81 (lv_at hl 0 rfl) ?_
  refine z_imul (v := (nI ((sp_qo BR RP 0 1 0) * (sp_qo BR RP 1 1 1)))) hx hb dX2_start_83 (pk_mul _ _) ?_
  refine z_iast hx hb hK hP hD hS 3 0 rfl rfl 14 rfl (by omega) (upd_N (up (up (up (up (up (up (up (up (up (up (up (up (up (up CW 0 ((sp_qo BR RP 0 0 0) * (sp_qo BR RP 1 0 0))) 1 ((sp_qo BR RP 0 0 1) * (sp_qo BR RP 1 0 0))) 2 ((sp_qo BR RP 0 0 0) * (sp_qo BR RP 1 0 1))) 3 ((sp_qo BR RP 0 0 1) * (sp_qo BR RP 1 0 1))) 4 ((sp_qo BR RP 0 1 0) * (sp_qo BR RP 1 0 0))) 5 ((sp_qo BR RP 0 1 1) * (sp_qo BR RP 1 0 0))) 6 ((sp_qo BR RP 0 1 0) * (sp_qo BR RP 1 0 1))) 7 ((sp_qo BR RP 0 1 1) * (sp_qo BR RP 1 0 1))) 8 ((sp_qo BR RP 0 0 0) * (sp_qo BR RP 1 1 0))) 9 ((sp_qo BR RP 0 0 1) * (sp_qo BR RP 1 1 0))) 10 ((sp_qo BR RP 0 0 0) * (sp_qo BR RP 1 1 1))) 11 ((sp_qo BR RP 0 0 1) * (sp_qo BR RP 1 1 1))) 12 ((sp_qo BR RP 0 1 0) * (sp_qo BR RP 1 1 0))) 13 ((sp_qo BR RP 0 1 1) * (sp_qo BR RP 1 1 0))) 14 ((sp_qo BR RP 0 1 0) * (sp_qo BR RP 1 1 1))) [(u0, .inr (2, [.ref u1, .ref u2, .int (nI rm), .ref u3, .ref ua, .ref ub])), (u1, .inl (cI, 2, .inl (fun z_ => nI (BR z_)))), (u2, .inl (cI, 2, .inl (fun z_ => nI (RP z_)))), (u3, .inl (cI, 16, .inl (fun z_ => nI ((up (up (up (up (up (up (up (up (up (up (up (up (up (up (up CW 0 ((sp_qo BR RP 0 0 0) * (sp_qo BR RP 1 0 0))) 1 ((sp_qo BR RP 0 0 1) * (sp_qo BR RP 1 0 0))) 2 ((sp_qo BR RP 0 0 0) * (sp_qo BR RP 1 0 1))) 3 ((sp_qo BR RP 0 0 1) * (sp_qo BR RP 1 0 1))) 4 ((sp_qo BR RP 0 1 0) * (sp_qo BR RP 1 0 0))) 5 ((sp_qo BR RP 0 1 1) * (sp_qo BR RP 1 0 0))) 6 ((sp_qo BR RP 0 1 0) * (sp_qo BR RP 1 0 1))) 7 ((sp_qo BR RP 0 1 1) * (sp_qo BR RP 1 0 1))) 8 ((sp_qo BR RP 0 0 0) * (sp_qo BR RP 1 1 0))) 9 ((sp_qo BR RP 0 0 1) * (sp_qo BR RP 1 1 0))) 10 ((sp_qo BR RP 0 0 0) * (sp_qo BR RP 1 1 1))) 11 ((sp_qo BR RP 0 0 1) * (sp_qo BR RP 1 1 1))) 12 ((sp_qo BR RP 0 1 0) * (sp_qo BR RP 1 1 0))) 13 ((sp_qo BR RP 0 1 1) * (sp_qo BR RP 1 1 0))) 14 ((sp_qo BR RP 0 1 0) * (sp_qo BR RP 1 1 1))) z_)))), (ua, .inl (cJ, 308, .inr (.inl (fun z_ => lN (WA z_))))), (ub, .inl (cJ, 308, .inr (.inl (fun z_ => lN (XB z_)))))] rfl dX2_start_84 (fun H locs hP hD hS => ?_)
  refine lv_iinc (v := (nI 3)) (lv' := [(2, .int (nI 3)), (4, .int (nI (sp_qo BR RP 1 1 1))), (3, .int (nI (sp_qo BR RP 0 1 0))), (1, .int (nI 3)), (0, .ref u0)]) hx hb dX2_start_85 hl (k := 2) rfl (by decide) (by decide) rfl (fun ls hl => ?_)
  refine lv_goto (tgt := 9) hx hb dX2_start_88 (by decide) ?_
  refine lv_iload_n hx hb dX2_start_9 rfl (lv_at hl 0 rfl) ?_
  refine lv_iconst (v := nI 4) hx hb dX2_start_10 (by decide) ?_
  refine lv_icmp_ge (tgt := 91) hx hb dX2_start_11 (by decide) (fun c_x => absurd c_x (by decide)) (fun _ => ?_)
  refine lv_aload_n hx hb dX2_start_14 rfl (lv_at hl 4 rfl) ?_
  refine lv_iconst (v := nI 0) hx hb dX2_start_15 (by decide) ?_
  refine lv_iload_n hx hb dX2_start_16 rfl (lv_at hl 3 rfl) ?_
  refine lv_iconst (v := nI 1) hx hb dX2_start_17 (by decide) ?_
  refine z_iand (v := nI 1) hx hb dX2_start_18 (by decide) ?_
  refine lv_if_eq (tgt := 26) hx hb dX2_start_19 (by decide) (fun c_x => absurd c_x (by decide)) (fun _ => ?_)
  refine lv_iconst (v := nI 1) hx hb dX2_start_22 (by decide) ?_
  refine lv_goto (tgt := 27) hx hb dX2_start_23 (by decide) ?_
  refine lv_iload_n hx hb dX2_start_27 rfl (lv_at hl 0 rfl) ?_
  refine lv_iconst (v := nI 1) hx hb dX2_start_28 (by decide) ?_
  refine z_iand (v := nI 1) hx hb dX2_start_29 (by decide) ?_
  refine lv_if_eq (tgt := 37) hx hb dX2_start_30 (by decide) (fun c_x => absurd c_x (by decide)) (fun _ => ?_)
  refine lv_iconst (v := nI 1) hx hb dX2_start_33 (by decide) ?_
  refine lv_goto (tgt := 38) hx hb dX2_start_34 (by decide) ?_
  refine z_callVi (As := [.int (nI 0), .int (nI 1), .int (nI 1)]) (rest := []) (wr := [(u3, .inl (cI, 16, .inl (fun z_ => nI ((up (up (up (up (up (up (up (up (up (up (up (up (up (up (up CW 0 ((sp_qo BR RP 0 0 0) * (sp_qo BR RP 1 0 0))) 1 ((sp_qo BR RP 0 0 1) * (sp_qo BR RP 1 0 0))) 2 ((sp_qo BR RP 0 0 0) * (sp_qo BR RP 1 0 1))) 3 ((sp_qo BR RP 0 0 1) * (sp_qo BR RP 1 0 1))) 4 ((sp_qo BR RP 0 1 0) * (sp_qo BR RP 1 0 0))) 5 ((sp_qo BR RP 0 1 1) * (sp_qo BR RP 1 0 0))) 6 ((sp_qo BR RP 0 1 0) * (sp_qo BR RP 1 0 1))) 7 ((sp_qo BR RP 0 1 1) * (sp_qo BR RP 1 0 1))) 8 ((sp_qo BR RP 0 0 0) * (sp_qo BR RP 1 1 0))) 9 ((sp_qo BR RP 0 0 1) * (sp_qo BR RP 1 1 0))) 10 ((sp_qo BR RP 0 0 0) * (sp_qo BR RP 1 1 1))) 11 ((sp_qo BR RP 0 0 1) * (sp_qo BR RP 1 1 1))) 12 ((sp_qo BR RP 0 1 0) * (sp_qo BR RP 1 1 0))) 13 ((sp_qo BR RP 0 1 1) * (sp_qo BR RP 1 1 0))) 14 ((sp_qo BR RP 0 1 0) * (sp_qo BR RP 1 1 1))) z_)))), (ua, .inl (cJ, 308, .inr (.inl (fun z_ => lN (WA z_))))), (ub, .inl (cJ, 308, .inr (.inl (fun z_ => lN (XB z_)))))]) ⟨hx, hb, hml, hown, hts⟩ (c_X2_quartersOf l dC dI cI cJ H.size u0 u1 u2 u3 ua ub BR RP rm 0 1 1 (by first | assumption | omega) (by first | assumption | omega) (by first | assumption | omega) (by first | assumption | omega) (by first | assumption | omega)) (cwV 3 hts gX2_start_X2_quartersOf rfl rfl rfl (by decide +kernel) ⟨Nat.le_of_ble_eq_true rfl, Nat.le_of_ble_eq_true rfl⟩) hA hK hP hD hS [0, 1, 2] [3, 4, 5] [3, 4, 5, 0, 1, 2] rfl rfl (by decide) (by decide) (by decide) nwA_ok hN (ci := 2) rfl rfl 0 rfl hl.1 (Nat.le_of_ble_eq_true rfl) ⟨Nat.le_refl _, Nat.le_refl _⟩ rfl rfl dX2_start_38 (fun (u : (Nat)) => [(u0, .inr (2, [.ref u1, .ref u2, .int (nI rm), .ref u3, .ref ua, .ref ub])), (u1, .inl (cI, 2, .inl (fun z_ => nI (BR z_)))), (u2, .inl (cI, 2, .inl (fun z_ => nI (RP z_)))), (u3, .inl (cI, 16, .inl (fun z_ => nI ((up (up (up (up (up (up (up (up (up (up (up (up (up (up (up CW 0 ((sp_qo BR RP 0 0 0) * (sp_qo BR RP 1 0 0))) 1 ((sp_qo BR RP 0 0 1) * (sp_qo BR RP 1 0 0))) 2 ((sp_qo BR RP 0 0 0) * (sp_qo BR RP 1 0 1))) 3 ((sp_qo BR RP 0 0 1) * (sp_qo BR RP 1 0 1))) 4 ((sp_qo BR RP 0 1 0) * (sp_qo BR RP 1 0 0))) 5 ((sp_qo BR RP 0 1 1) * (sp_qo BR RP 1 0 0))) 6 ((sp_qo BR RP 0 1 0) * (sp_qo BR RP 1 0 1))) 7 ((sp_qo BR RP 0 1 1) * (sp_qo BR RP 1 0 1))) 8 ((sp_qo BR RP 0 0 0) * (sp_qo BR RP 1 1 0))) 9 ((sp_qo BR RP 0 0 1) * (sp_qo BR RP 1 1 0))) 10 ((sp_qo BR RP 0 0 0) * (sp_qo BR RP 1 1 1))) 11 ((sp_qo BR RP 0 0 1) * (sp_qo BR RP 1 1 1))) 12 ((sp_qo BR RP 0 1 0) * (sp_qo BR RP 1 1 0))) 13 ((sp_qo BR RP 0 1 1) * (sp_qo BR RP 1 1 0))) 14 ((sp_qo BR RP 0 1 0) * (sp_qo BR RP 1 1 1))) z_)))), (ua, .inl (cJ, 308, .inr (.inl (fun z_ => lN (WA z_))))), (ub, .inl (cJ, 308, .inr (.inl (fun z_ => lN (XB z_)))))]) (fun u => rfl) (by decide) (fun r_38 u H locs hw hP hD hS => ?_)
  obtain ⟨rv_38, eu⟩ : ∃ z, z = u := ⟨_, rfl⟩
  subst eu
  have hP : va_P (dC, dI) vwCl [(u0, .inr (2, [.ref u1, .ref u2, .int (nI rm), .ref u3, .ref ua, .ref ub])), (u1, .inl (cI, 2, .inl (fun z_ => nI (BR z_)))), (u2, .inl (cI, 2, .inl (fun z_ => nI (RP z_)))), (u3, .inl (cI, 16, .inl (fun z_ => nI ((up (up (up (up (up (up (up (up (up (up (up (up (up (up (up CW 0 ((sp_qo BR RP 0 0 0) * (sp_qo BR RP 1 0 0))) 1 ((sp_qo BR RP 0 0 1) * (sp_qo BR RP 1 0 0))) 2 ((sp_qo BR RP 0 0 0) * (sp_qo BR RP 1 0 1))) 3 ((sp_qo BR RP 0 0 1) * (sp_qo BR RP 1 0 1))) 4 ((sp_qo BR RP 0 1 0) * (sp_qo BR RP 1 0 0))) 5 ((sp_qo BR RP 0 1 1) * (sp_qo BR RP 1 0 0))) 6 ((sp_qo BR RP 0 1 0) * (sp_qo BR RP 1 0 1))) 7 ((sp_qo BR RP 0 1 1) * (sp_qo BR RP 1 0 1))) 8 ((sp_qo BR RP 0 0 0) * (sp_qo BR RP 1 1 0))) 9 ((sp_qo BR RP 0 0 1) * (sp_qo BR RP 1 1 0))) 10 ((sp_qo BR RP 0 0 0) * (sp_qo BR RP 1 1 1))) 11 ((sp_qo BR RP 0 0 1) * (sp_qo BR RP 1 1 1))) 12 ((sp_qo BR RP 0 1 0) * (sp_qo BR RP 1 1 0))) 13 ((sp_qo BR RP 0 1 1) * (sp_qo BR RP 1 1 0))) 14 ((sp_qo BR RP 0 1 0) * (sp_qo BR RP 1 1 1))) z_)))), (ua, .inl (cJ, 308, .inr (.inl (fun z_ => lN (WA z_))))), (ub, .inl (cJ, 308, .inr (.inl (fun z_ => lN (XB z_)))))] H := hP
  have hD : va_D A [(u0, .inr (2, [.ref u1, .ref u2, .int (nI rm), .ref u3, .ref ua, .ref ub])), (u1, .inl (cI, 2, .inl (fun z_ => nI (BR z_)))), (u2, .inl (cI, 2, .inl (fun z_ => nI (RP z_)))), (u3, .inl (cI, 16, .inl (fun z_ => nI ((up (up (up (up (up (up (up (up (up (up (up (up (up (up (up CW 0 ((sp_qo BR RP 0 0 0) * (sp_qo BR RP 1 0 0))) 1 ((sp_qo BR RP 0 0 1) * (sp_qo BR RP 1 0 0))) 2 ((sp_qo BR RP 0 0 0) * (sp_qo BR RP 1 0 1))) 3 ((sp_qo BR RP 0 0 1) * (sp_qo BR RP 1 0 1))) 4 ((sp_qo BR RP 0 1 0) * (sp_qo BR RP 1 0 0))) 5 ((sp_qo BR RP 0 1 1) * (sp_qo BR RP 1 0 0))) 6 ((sp_qo BR RP 0 1 0) * (sp_qo BR RP 1 0 1))) 7 ((sp_qo BR RP 0 1 1) * (sp_qo BR RP 1 0 1))) 8 ((sp_qo BR RP 0 0 0) * (sp_qo BR RP 1 1 0))) 9 ((sp_qo BR RP 0 0 1) * (sp_qo BR RP 1 1 0))) 10 ((sp_qo BR RP 0 0 0) * (sp_qo BR RP 1 1 1))) 11 ((sp_qo BR RP 0 0 1) * (sp_qo BR RP 1 1 1))) 12 ((sp_qo BR RP 0 1 0) * (sp_qo BR RP 1 1 0))) 13 ((sp_qo BR RP 0 1 1) * (sp_qo BR RP 1 1 0))) 14 ((sp_qo BR RP 0 1 0) * (sp_qo BR RP 1 1 1))) z_)))), (ua, .inl (cJ, 308, .inr (.inl (fun z_ => lN (WA z_))))), (ub, .inl (cJ, 308, .inr (.inl (fun z_ => lN (XB z_)))))] := hD
  obtain ⟨er, p38_0⟩ := hw
  have p38_0 : rv_38 = sp_qo BR RP 0 1 1 := p38_0
  have er : r_38 = (nI rv_38) := er
  subst er
  subst p38_0
  refine lv_istore_n (lv' := [(3, .int (nI (sp_qo BR RP 0 1 1))), (2, .int (nI 3)), (4, .int (nI (sp_qo BR RP 1 1 1))), (1, .int (nI 3)), (0, .ref u0)]) hx hb dX2_start_41 rfl hl (by decide) rfl (fun ls hl => ?_)
  refine lv_aload_n hx hb dX2_start_42 rfl (lv_at hl 4 rfl) ?_
  refine lv_iconst (v := nI 1) hx hb dX2_start_43 (by decide) ?_
  refine lv_iload_n hx hb dX2_start_44 rfl (lv_at hl 3 rfl) ?_
  refine lv_iconst (v := nI 2) hx hb dX2_start_45 (by decide) ?_
  refine z_iand (v := nI 2) hx hb dX2_start_46 (by decide) ?_
  refine lv_if_eq (tgt := 54) hx hb dX2_start_47 (by decide) (fun c_x => absurd c_x (by decide)) (fun _ => ?_)
  refine lv_iconst (v := nI 1) hx hb dX2_start_50 (by decide) ?_
  refine lv_goto (tgt := 55) hx hb dX2_start_51 (by decide) ?_
  refine lv_iload_n hx hb dX2_start_55 rfl (lv_at hl 1 rfl) ?_
  refine lv_iconst (v := nI 2) hx hb dX2_start_56 (by decide) ?_
  refine z_iand (v := nI 2) hx hb dX2_start_57 (by decide) ?_
  refine lv_if_eq (tgt := 65) hx hb dX2_start_58 (by decide) (fun c_x => absurd c_x (by decide)) (fun _ => ?_)
  refine lv_iconst (v := nI 1) hx hb dX2_start_61 (by decide) ?_
  refine lv_goto (tgt := 66) hx hb dX2_start_62 (by decide) ?_
  refine z_callVi (As := [.int (nI 1), .int (nI 1), .int (nI 1)]) (rest := []) (wr := [(u3, .inl (cI, 16, .inl (fun z_ => nI ((up (up (up (up (up (up (up (up (up (up (up (up (up (up (up CW 0 ((sp_qo BR RP 0 0 0) * (sp_qo BR RP 1 0 0))) 1 ((sp_qo BR RP 0 0 1) * (sp_qo BR RP 1 0 0))) 2 ((sp_qo BR RP 0 0 0) * (sp_qo BR RP 1 0 1))) 3 ((sp_qo BR RP 0 0 1) * (sp_qo BR RP 1 0 1))) 4 ((sp_qo BR RP 0 1 0) * (sp_qo BR RP 1 0 0))) 5 ((sp_qo BR RP 0 1 1) * (sp_qo BR RP 1 0 0))) 6 ((sp_qo BR RP 0 1 0) * (sp_qo BR RP 1 0 1))) 7 ((sp_qo BR RP 0 1 1) * (sp_qo BR RP 1 0 1))) 8 ((sp_qo BR RP 0 0 0) * (sp_qo BR RP 1 1 0))) 9 ((sp_qo BR RP 0 0 1) * (sp_qo BR RP 1 1 0))) 10 ((sp_qo BR RP 0 0 0) * (sp_qo BR RP 1 1 1))) 11 ((sp_qo BR RP 0 0 1) * (sp_qo BR RP 1 1 1))) 12 ((sp_qo BR RP 0 1 0) * (sp_qo BR RP 1 1 0))) 13 ((sp_qo BR RP 0 1 1) * (sp_qo BR RP 1 1 0))) 14 ((sp_qo BR RP 0 1 0) * (sp_qo BR RP 1 1 1))) z_)))), (ua, .inl (cJ, 308, .inr (.inl (fun z_ => lN (WA z_))))), (ub, .inl (cJ, 308, .inr (.inl (fun z_ => lN (XB z_)))))]) ⟨hx, hb, hml, hown, hts⟩ (c_X2_quartersOf l dC dI cI cJ H.size u0 u1 u2 u3 ua ub BR RP rm 1 1 1 (by first | assumption | omega) (by first | assumption | omega) (by first | assumption | omega) (by first | assumption | omega) (by first | assumption | omega)) (cwV 3 hts gX2_start_X2_quartersOf rfl rfl rfl (by decide +kernel) ⟨Nat.le_of_ble_eq_true rfl, Nat.le_of_ble_eq_true rfl⟩) hA hK hP hD hS [0, 1, 2] [3, 4, 5] [3, 4, 5, 0, 1, 2] rfl rfl (by decide) (by decide) (by decide) nwA_ok hN (ci := 2) rfl rfl 0 rfl hl.1 (Nat.le_of_ble_eq_true rfl) ⟨Nat.le_refl _, Nat.le_refl _⟩ rfl rfl dX2_start_66 (fun (u : (Nat)) => [(u0, .inr (2, [.ref u1, .ref u2, .int (nI rm), .ref u3, .ref ua, .ref ub])), (u1, .inl (cI, 2, .inl (fun z_ => nI (BR z_)))), (u2, .inl (cI, 2, .inl (fun z_ => nI (RP z_)))), (u3, .inl (cI, 16, .inl (fun z_ => nI ((up (up (up (up (up (up (up (up (up (up (up (up (up (up (up CW 0 ((sp_qo BR RP 0 0 0) * (sp_qo BR RP 1 0 0))) 1 ((sp_qo BR RP 0 0 1) * (sp_qo BR RP 1 0 0))) 2 ((sp_qo BR RP 0 0 0) * (sp_qo BR RP 1 0 1))) 3 ((sp_qo BR RP 0 0 1) * (sp_qo BR RP 1 0 1))) 4 ((sp_qo BR RP 0 1 0) * (sp_qo BR RP 1 0 0))) 5 ((sp_qo BR RP 0 1 1) * (sp_qo BR RP 1 0 0))) 6 ((sp_qo BR RP 0 1 0) * (sp_qo BR RP 1 0 1))) 7 ((sp_qo BR RP 0 1 1) * (sp_qo BR RP 1 0 1))) 8 ((sp_qo BR RP 0 0 0) * (sp_qo BR RP 1 1 0))) 9 ((sp_qo BR RP 0 0 1) * (sp_qo BR RP 1 1 0))) 10 ((sp_qo BR RP 0 0 0) * (sp_qo BR RP 1 1 1))) 11 ((sp_qo BR RP 0 0 1) * (sp_qo BR RP 1 1 1))) 12 ((sp_qo BR RP 0 1 0) * (sp_qo BR RP 1 1 0))) 13 ((sp_qo BR RP 0 1 1) * (sp_qo BR RP 1 1 0))) 14 ((sp_qo BR RP 0 1 0) * (sp_qo BR RP 1 1 1))) z_)))), (ua, .inl (cJ, 308, .inr (.inl (fun z_ => lN (WA z_))))), (ub, .inl (cJ, 308, .inr (.inl (fun z_ => lN (XB z_)))))]) (fun u => rfl) (by decide) (fun r_66 u H locs hw hP hD hS => ?_)
  obtain ⟨rv_66, eu⟩ : ∃ z, z = u := ⟨_, rfl⟩
  subst eu
  have hP : va_P (dC, dI) vwCl [(u0, .inr (2, [.ref u1, .ref u2, .int (nI rm), .ref u3, .ref ua, .ref ub])), (u1, .inl (cI, 2, .inl (fun z_ => nI (BR z_)))), (u2, .inl (cI, 2, .inl (fun z_ => nI (RP z_)))), (u3, .inl (cI, 16, .inl (fun z_ => nI ((up (up (up (up (up (up (up (up (up (up (up (up (up (up (up CW 0 ((sp_qo BR RP 0 0 0) * (sp_qo BR RP 1 0 0))) 1 ((sp_qo BR RP 0 0 1) * (sp_qo BR RP 1 0 0))) 2 ((sp_qo BR RP 0 0 0) * (sp_qo BR RP 1 0 1))) 3 ((sp_qo BR RP 0 0 1) * (sp_qo BR RP 1 0 1))) 4 ((sp_qo BR RP 0 1 0) * (sp_qo BR RP 1 0 0))) 5 ((sp_qo BR RP 0 1 1) * (sp_qo BR RP 1 0 0))) 6 ((sp_qo BR RP 0 1 0) * (sp_qo BR RP 1 0 1))) 7 ((sp_qo BR RP 0 1 1) * (sp_qo BR RP 1 0 1))) 8 ((sp_qo BR RP 0 0 0) * (sp_qo BR RP 1 1 0))) 9 ((sp_qo BR RP 0 0 1) * (sp_qo BR RP 1 1 0))) 10 ((sp_qo BR RP 0 0 0) * (sp_qo BR RP 1 1 1))) 11 ((sp_qo BR RP 0 0 1) * (sp_qo BR RP 1 1 1))) 12 ((sp_qo BR RP 0 1 0) * (sp_qo BR RP 1 1 0))) 13 ((sp_qo BR RP 0 1 1) * (sp_qo BR RP 1 1 0))) 14 ((sp_qo BR RP 0 1 0) * (sp_qo BR RP 1 1 1))) z_)))), (ua, .inl (cJ, 308, .inr (.inl (fun z_ => lN (WA z_))))), (ub, .inl (cJ, 308, .inr (.inl (fun z_ => lN (XB z_)))))] H := hP
  have hD : va_D A [(u0, .inr (2, [.ref u1, .ref u2, .int (nI rm), .ref u3, .ref ua, .ref ub])), (u1, .inl (cI, 2, .inl (fun z_ => nI (BR z_)))), (u2, .inl (cI, 2, .inl (fun z_ => nI (RP z_)))), (u3, .inl (cI, 16, .inl (fun z_ => nI ((up (up (up (up (up (up (up (up (up (up (up (up (up (up (up CW 0 ((sp_qo BR RP 0 0 0) * (sp_qo BR RP 1 0 0))) 1 ((sp_qo BR RP 0 0 1) * (sp_qo BR RP 1 0 0))) 2 ((sp_qo BR RP 0 0 0) * (sp_qo BR RP 1 0 1))) 3 ((sp_qo BR RP 0 0 1) * (sp_qo BR RP 1 0 1))) 4 ((sp_qo BR RP 0 1 0) * (sp_qo BR RP 1 0 0))) 5 ((sp_qo BR RP 0 1 1) * (sp_qo BR RP 1 0 0))) 6 ((sp_qo BR RP 0 1 0) * (sp_qo BR RP 1 0 1))) 7 ((sp_qo BR RP 0 1 1) * (sp_qo BR RP 1 0 1))) 8 ((sp_qo BR RP 0 0 0) * (sp_qo BR RP 1 1 0))) 9 ((sp_qo BR RP 0 0 1) * (sp_qo BR RP 1 1 0))) 10 ((sp_qo BR RP 0 0 0) * (sp_qo BR RP 1 1 1))) 11 ((sp_qo BR RP 0 0 1) * (sp_qo BR RP 1 1 1))) 12 ((sp_qo BR RP 0 1 0) * (sp_qo BR RP 1 1 0))) 13 ((sp_qo BR RP 0 1 1) * (sp_qo BR RP 1 1 0))) 14 ((sp_qo BR RP 0 1 0) * (sp_qo BR RP 1 1 1))) z_)))), (ua, .inl (cJ, 308, .inr (.inl (fun z_ => lN (WA z_))))), (ub, .inl (cJ, 308, .inr (.inl (fun z_ => lN (XB z_)))))] := hD
  obtain ⟨er, p66_0⟩ := hw
  have p66_0 : rv_66 = sp_qo BR RP 1 1 1 := p66_0
  have er : r_66 = (nI rv_66) := er
  subst er
  subst p66_0
  refine lv_istore (lv' := [(4, .int (nI (sp_qo BR RP 1 1 1))), (3, .int (nI (sp_qo BR RP 0 1 1))), (2, .int (nI 3)), (1, .int (nI 3)), (0, .ref u0)]) hx hb dX2_start_69 hl (by decide) rfl (fun ls hl => ?_)
  refine lv_aload_n hx hb dX2_start_71 rfl (lv_at hl 4 rfl) ?_
  refine z_get (D := (dC, dI)) (ci := 2) (v := .ref u3) (C := RX2) (T := TX2) (N := 6) hx hb hts uX2 hown hK hP 0 rfl rfl 3 (by decide) w18 rfl rfl dX2_start_72 ?_
  refine lv_iload_n hx hb dX2_start_75 rfl (lv_at hl 3 rfl) ?_
  refine lv_iconst (v := nI 4) hx hb dX2_start_76 (by decide) ?_
  refine z_imul (v := (nI 12)) hx hb dX2_start_77 (by decide) ?_
  refine lv_iload_n hx hb dX2_start_78 rfl (lv_at hl 2 rfl) ?_
  refine z_iadd (v := (nI 15)) hx hb dX2_start_79 (by decide) ?_
  refine lv_iload_n hx hb dX2_start_80 rfl (lv_at hl 1 rfl) ?_
  refine lv_iload hx hb dX2_start_81 (lv_at hl 0 rfl) ?_
  refine z_imul (v := (nI ((sp_qo BR RP 0 1 1) * (sp_qo BR RP 1 1 1)))) hx hb dX2_start_83 (pk_mul _ _) ?_
  refine z_iast hx hb hK hP hD hS 3 0 rfl rfl 15 rfl (by omega) (upd_N (up (up (up (up (up (up (up (up (up (up (up (up (up (up (up CW 0 ((sp_qo BR RP 0 0 0) * (sp_qo BR RP 1 0 0))) 1 ((sp_qo BR RP 0 0 1) * (sp_qo BR RP 1 0 0))) 2 ((sp_qo BR RP 0 0 0) * (sp_qo BR RP 1 0 1))) 3 ((sp_qo BR RP 0 0 1) * (sp_qo BR RP 1 0 1))) 4 ((sp_qo BR RP 0 1 0) * (sp_qo BR RP 1 0 0))) 5 ((sp_qo BR RP 0 1 1) * (sp_qo BR RP 1 0 0))) 6 ((sp_qo BR RP 0 1 0) * (sp_qo BR RP 1 0 1))) 7 ((sp_qo BR RP 0 1 1) * (sp_qo BR RP 1 0 1))) 8 ((sp_qo BR RP 0 0 0) * (sp_qo BR RP 1 1 0))) 9 ((sp_qo BR RP 0 0 1) * (sp_qo BR RP 1 1 0))) 10 ((sp_qo BR RP 0 0 0) * (sp_qo BR RP 1 1 1))) 11 ((sp_qo BR RP 0 0 1) * (sp_qo BR RP 1 1 1))) 12 ((sp_qo BR RP 0 1 0) * (sp_qo BR RP 1 1 0))) 13 ((sp_qo BR RP 0 1 1) * (sp_qo BR RP 1 1 0))) 14 ((sp_qo BR RP 0 1 0) * (sp_qo BR RP 1 1 1))) 15 ((sp_qo BR RP 0 1 1) * (sp_qo BR RP 1 1 1))) [(u0, .inr (2, [.ref u1, .ref u2, .int (nI rm), .ref u3, .ref ua, .ref ub])), (u1, .inl (cI, 2, .inl (fun z_ => nI (BR z_)))), (u2, .inl (cI, 2, .inl (fun z_ => nI (RP z_)))), (u3, .inl (cI, 16, .inl (fun z_ => nI ((up (up (up (up (up (up (up (up (up (up (up (up (up (up (up (up CW 0 ((sp_qo BR RP 0 0 0) * (sp_qo BR RP 1 0 0))) 1 ((sp_qo BR RP 0 0 1) * (sp_qo BR RP 1 0 0))) 2 ((sp_qo BR RP 0 0 0) * (sp_qo BR RP 1 0 1))) 3 ((sp_qo BR RP 0 0 1) * (sp_qo BR RP 1 0 1))) 4 ((sp_qo BR RP 0 1 0) * (sp_qo BR RP 1 0 0))) 5 ((sp_qo BR RP 0 1 1) * (sp_qo BR RP 1 0 0))) 6 ((sp_qo BR RP 0 1 0) * (sp_qo BR RP 1 0 1))) 7 ((sp_qo BR RP 0 1 1) * (sp_qo BR RP 1 0 1))) 8 ((sp_qo BR RP 0 0 0) * (sp_qo BR RP 1 1 0))) 9 ((sp_qo BR RP 0 0 1) * (sp_qo BR RP 1 1 0))) 10 ((sp_qo BR RP 0 0 0) * (sp_qo BR RP 1 1 1))) 11 ((sp_qo BR RP 0 0 1) * (sp_qo BR RP 1 1 1))) 12 ((sp_qo BR RP 0 1 0) * (sp_qo BR RP 1 1 0))) 13 ((sp_qo BR RP 0 1 1) * (sp_qo BR RP 1 1 0))) 14 ((sp_qo BR RP 0 1 0) * (sp_qo BR RP 1 1 1))) 15 ((sp_qo BR RP 0 1 1) * (sp_qo BR RP 1 1 1))) z_)))), (ua, .inl (cJ, 308, .inr (.inl (fun z_ => lN (WA z_))))), (ub, .inl (cJ, 308, .inr (.inl (fun z_ => lN (XB z_)))))] rfl dX2_start_84 (fun H locs hP hD hS => ?_)
  refine lv_iinc (v := (nI 4)) (lv' := [(2, .int (nI 4)), (4, .int (nI (sp_qo BR RP 1 1 1))), (3, .int (nI (sp_qo BR RP 0 1 1))), (1, .int (nI 3)), (0, .ref u0)]) hx hb dX2_start_85 hl (k := 2) rfl (by decide) (by decide) rfl (fun ls hl => ?_)
  refine lv_goto (tgt := 9) hx hb dX2_start_88 (by decide) ?_
  refine lv_iload_n hx hb dX2_start_9 rfl (lv_at hl 0 rfl) ?_
  refine lv_iconst (v := nI 4) hx hb dX2_start_10 (by decide) ?_
  refine lv_icmp_ge (tgt := 91) hx hb dX2_start_11 (by decide) (fun _ => ?_) (fun c_x => absurd c_x (by decide))
  refine lv_iinc (v := (nI 4)) (lv' := [(1, .int (nI 4)), (2, .int (nI 4)), (4, .int (nI (sp_qo BR RP 1 1 1))), (3, .int (nI (sp_qo BR RP 0 1 1))), (0, .ref u0)]) hx hb dX2_start_91 hl (k := 3) rfl (by decide) (by decide) rfl (fun ls hl => ?_)
  refine lv_goto (tgt := 2) hx hb dX2_start_94 (by decide) ?_
  refine lv_iload_n hx hb dX2_start_2 rfl (lv_at hl 0 rfl) ?_
  refine lv_iconst (v := nI 4) hx hb dX2_start_3 (by decide) ?_
  refine lv_icmp_ge (tgt := 97) hx hb dX2_start_4 (by decide) (fun _ => ?_) (fun c_x => absurd c_x (by decide))
  refine lv_aload_n hx hb dX2_start_97 rfl (lv_at hl 4 rfl) ?_
  refine z_get (D := (dC, dI)) (ci := 2) (v := .ref ua) (C := RX2) (T := TX2) (N := 6) hx hb hts uX2 hown hK hP 0 rfl rfl 4 (by decide) w21 rfl rfl dX2_start_98 ?_
  refine lv_lconst (v := lN 0) hx hb dX2_start_101 (by decide) ?_
  refine z_callSv (As := [.ref ua, .long (lN 0)]) (rest := []) (wr := [(u0, .inr (2, [.ref u1, .ref u2, .int (nI rm), .ref u3, .ref ua, .ref ub])), (u1, .inl (cI, 2, .inl (fun z_ => nI (BR z_)))), (u2, .inl (cI, 2, .inl (fun z_ => nI (RP z_)))), (u3, .inl (cI, 16, .inl (fun z_ => nI ((up (up (up (up (up (up (up (up (up (up (up (up (up (up (up (up CW 0 ((sp_qo BR RP 0 0 0) * (sp_qo BR RP 1 0 0))) 1 ((sp_qo BR RP 0 0 1) * (sp_qo BR RP 1 0 0))) 2 ((sp_qo BR RP 0 0 0) * (sp_qo BR RP 1 0 1))) 3 ((sp_qo BR RP 0 0 1) * (sp_qo BR RP 1 0 1))) 4 ((sp_qo BR RP 0 1 0) * (sp_qo BR RP 1 0 0))) 5 ((sp_qo BR RP 0 1 1) * (sp_qo BR RP 1 0 0))) 6 ((sp_qo BR RP 0 1 0) * (sp_qo BR RP 1 0 1))) 7 ((sp_qo BR RP 0 1 1) * (sp_qo BR RP 1 0 1))) 8 ((sp_qo BR RP 0 0 0) * (sp_qo BR RP 1 1 0))) 9 ((sp_qo BR RP 0 0 1) * (sp_qo BR RP 1 1 0))) 10 ((sp_qo BR RP 0 0 0) * (sp_qo BR RP 1 1 1))) 11 ((sp_qo BR RP 0 0 1) * (sp_qo BR RP 1 1 1))) 12 ((sp_qo BR RP 0 1 0) * (sp_qo BR RP 1 1 0))) 13 ((sp_qo BR RP 0 1 1) * (sp_qo BR RP 1 1 0))) 14 ((sp_qo BR RP 0 1 0) * (sp_qo BR RP 1 1 1))) 15 ((sp_qo BR RP 0 1 1) * (sp_qo BR RP 1 1 1))) z_)))), (ub, .inl (cJ, 308, .inr (.inl (fun z_ => lN (XB z_)))))]) ⟨hx, hb, hml, hown, hts⟩ (c_J7_fill_d0a16 l dC dI cI cJ H.size ua 0 WA ) (va_cwS 2 hts gX2_start_J7_fill_d0a16 rfl rfl rfl (by decide +kernel) ⟨Nat.le_of_ble_eq_true rfl, Nat.le_of_ble_eq_true rfl⟩) hA hK hP hD hS [4] [0, 1, 2, 3, 5] [0, 1, 2, 3, 5, 4] rfl rfl (by decide) (by decide) (by decide) nwA_ok hN hl.1 (Nat.le_of_ble_eq_true rfl) ⟨Nat.le_refl _, Nat.le_refl _⟩ rfl rfl dX2_start_102 (fun (u : (Nat → Nat)) => [(u0, .inr (2, [.ref u1, .ref u2, .int (nI rm), .ref u3, .ref ua, .ref ub])), (u1, .inl (cI, 2, .inl (fun z_ => nI (BR z_)))), (u2, .inl (cI, 2, .inl (fun z_ => nI (RP z_)))), (u3, .inl (cI, 16, .inl (fun z_ => nI ((up (up (up (up (up (up (up (up (up (up (up (up (up (up (up (up CW 0 ((sp_qo BR RP 0 0 0) * (sp_qo BR RP 1 0 0))) 1 ((sp_qo BR RP 0 0 1) * (sp_qo BR RP 1 0 0))) 2 ((sp_qo BR RP 0 0 0) * (sp_qo BR RP 1 0 1))) 3 ((sp_qo BR RP 0 0 1) * (sp_qo BR RP 1 0 1))) 4 ((sp_qo BR RP 0 1 0) * (sp_qo BR RP 1 0 0))) 5 ((sp_qo BR RP 0 1 1) * (sp_qo BR RP 1 0 0))) 6 ((sp_qo BR RP 0 1 0) * (sp_qo BR RP 1 0 1))) 7 ((sp_qo BR RP 0 1 1) * (sp_qo BR RP 1 0 1))) 8 ((sp_qo BR RP 0 0 0) * (sp_qo BR RP 1 1 0))) 9 ((sp_qo BR RP 0 0 1) * (sp_qo BR RP 1 1 0))) 10 ((sp_qo BR RP 0 0 0) * (sp_qo BR RP 1 1 1))) 11 ((sp_qo BR RP 0 0 1) * (sp_qo BR RP 1 1 1))) 12 ((sp_qo BR RP 0 1 0) * (sp_qo BR RP 1 1 0))) 13 ((sp_qo BR RP 0 1 1) * (sp_qo BR RP 1 1 0))) 14 ((sp_qo BR RP 0 1 0) * (sp_qo BR RP 1 1 1))) 15 ((sp_qo BR RP 0 1 1) * (sp_qo BR RP 1 1 1))) z_)))), (ua, .inl (cJ, 308, .inr (.inl (fun z_ => lN (u z_))))), (ub, .inl (cJ, 308, .inr (.inl (fun z_ => lN (XB z_)))))]) (fun u => rfl) (by decide) (fun u H locs hw hP hD hS => ?_)
  obtain ⟨X2_102, eu⟩ : ∃ z, z = u := ⟨_, rfl⟩
  subst eu
  have hP : va_P (dC, dI) vwCl [(u0, .inr (2, [.ref u1, .ref u2, .int (nI rm), .ref u3, .ref ua, .ref ub])), (u1, .inl (cI, 2, .inl (fun z_ => nI (BR z_)))), (u2, .inl (cI, 2, .inl (fun z_ => nI (RP z_)))), (u3, .inl (cI, 16, .inl (fun z_ => nI ((up (up (up (up (up (up (up (up (up (up (up (up (up (up (up (up CW 0 ((sp_qo BR RP 0 0 0) * (sp_qo BR RP 1 0 0))) 1 ((sp_qo BR RP 0 0 1) * (sp_qo BR RP 1 0 0))) 2 ((sp_qo BR RP 0 0 0) * (sp_qo BR RP 1 0 1))) 3 ((sp_qo BR RP 0 0 1) * (sp_qo BR RP 1 0 1))) 4 ((sp_qo BR RP 0 1 0) * (sp_qo BR RP 1 0 0))) 5 ((sp_qo BR RP 0 1 1) * (sp_qo BR RP 1 0 0))) 6 ((sp_qo BR RP 0 1 0) * (sp_qo BR RP 1 0 1))) 7 ((sp_qo BR RP 0 1 1) * (sp_qo BR RP 1 0 1))) 8 ((sp_qo BR RP 0 0 0) * (sp_qo BR RP 1 1 0))) 9 ((sp_qo BR RP 0 0 1) * (sp_qo BR RP 1 1 0))) 10 ((sp_qo BR RP 0 0 0) * (sp_qo BR RP 1 1 1))) 11 ((sp_qo BR RP 0 0 1) * (sp_qo BR RP 1 1 1))) 12 ((sp_qo BR RP 0 1 0) * (sp_qo BR RP 1 1 0))) 13 ((sp_qo BR RP 0 1 1) * (sp_qo BR RP 1 1 0))) 14 ((sp_qo BR RP 0 1 0) * (sp_qo BR RP 1 1 1))) 15 ((sp_qo BR RP 0 1 1) * (sp_qo BR RP 1 1 1))) z_)))), (ua, .inl (cJ, 308, .inr (.inl (fun z_ => lN (X2_102 z_))))), (ub, .inl (cJ, 308, .inr (.inl (fun z_ => lN (XB z_)))))] H := hP
  have hD : va_D A [(u0, .inr (2, [.ref u1, .ref u2, .int (nI rm), .ref u3, .ref ua, .ref ub])), (u1, .inl (cI, 2, .inl (fun z_ => nI (BR z_)))), (u2, .inl (cI, 2, .inl (fun z_ => nI (RP z_)))), (u3, .inl (cI, 16, .inl (fun z_ => nI ((up (up (up (up (up (up (up (up (up (up (up (up (up (up (up (up CW 0 ((sp_qo BR RP 0 0 0) * (sp_qo BR RP 1 0 0))) 1 ((sp_qo BR RP 0 0 1) * (sp_qo BR RP 1 0 0))) 2 ((sp_qo BR RP 0 0 0) * (sp_qo BR RP 1 0 1))) 3 ((sp_qo BR RP 0 0 1) * (sp_qo BR RP 1 0 1))) 4 ((sp_qo BR RP 0 1 0) * (sp_qo BR RP 1 0 0))) 5 ((sp_qo BR RP 0 1 1) * (sp_qo BR RP 1 0 0))) 6 ((sp_qo BR RP 0 1 0) * (sp_qo BR RP 1 0 1))) 7 ((sp_qo BR RP 0 1 1) * (sp_qo BR RP 1 0 1))) 8 ((sp_qo BR RP 0 0 0) * (sp_qo BR RP 1 1 0))) 9 ((sp_qo BR RP 0 0 1) * (sp_qo BR RP 1 1 0))) 10 ((sp_qo BR RP 0 0 0) * (sp_qo BR RP 1 1 1))) 11 ((sp_qo BR RP 0 0 1) * (sp_qo BR RP 1 1 1))) 12 ((sp_qo BR RP 0 1 0) * (sp_qo BR RP 1 1 0))) 13 ((sp_qo BR RP 0 1 1) * (sp_qo BR RP 1 1 0))) 14 ((sp_qo BR RP 0 1 0) * (sp_qo BR RP 1 1 1))) 15 ((sp_qo BR RP 0 1 1) * (sp_qo BR RP 1 1 1))) z_)))), (ua, .inl (cJ, 308, .inr (.inl (fun z_ => lN (X2_102 z_))))), (ub, .inl (cJ, 308, .inr (.inl (fun z_ => lN (XB z_)))))] := hD
  have p102_0 := hw
  have p102_0 : ∀ k, k < 308 → X2_102 k = 0 := p102_0
  refine lv_aload_n hx hb dX2_start_105 rfl (lv_at hl 4 rfl) ?_
  refine z_get (D := (dC, dI)) (ci := 2) (v := .ref ua) (C := RX2) (T := TX2) (N := 6) hx hb hts uX2 hown hK hP 0 rfl rfl 4 (by decide) w21 rfl rfl dX2_start_106 ?_
  refine lv_iconst (v := nI 3) hx hb dX2_start_109 (by decide) ?_
  refine lv_iconst (v := nI 0) hx hb dX2_start_110 (by decide) ?_
  refine lv_iconst (v := nI 0) hx hb dX2_start_111 (by decide) ?_
  refine z_callSi (As := [.int (nI 3), .int (nI 0), .int (nI 0)]) (rest := [.ref ua]) (wr := [(u0, .inr (2, [.ref u1, .ref u2, .int (nI rm), .ref u3, .ref ua, .ref ub])), (u1, .inl (cI, 2, .inl (fun z_ => nI (BR z_)))), (u2, .inl (cI, 2, .inl (fun z_ => nI (RP z_)))), (u3, .inl (cI, 16, .inl (fun z_ => nI ((up (up (up (up (up (up (up (up (up (up (up (up (up (up (up (up CW 0 ((sp_qo BR RP 0 0 0) * (sp_qo BR RP 1 0 0))) 1 ((sp_qo BR RP 0 0 1) * (sp_qo BR RP 1 0 0))) 2 ((sp_qo BR RP 0 0 0) * (sp_qo BR RP 1 0 1))) 3 ((sp_qo BR RP 0 0 1) * (sp_qo BR RP 1 0 1))) 4 ((sp_qo BR RP 0 1 0) * (sp_qo BR RP 1 0 0))) 5 ((sp_qo BR RP 0 1 1) * (sp_qo BR RP 1 0 0))) 6 ((sp_qo BR RP 0 1 0) * (sp_qo BR RP 1 0 1))) 7 ((sp_qo BR RP 0 1 1) * (sp_qo BR RP 1 0 1))) 8 ((sp_qo BR RP 0 0 0) * (sp_qo BR RP 1 1 0))) 9 ((sp_qo BR RP 0 0 1) * (sp_qo BR RP 1 1 0))) 10 ((sp_qo BR RP 0 0 0) * (sp_qo BR RP 1 1 1))) 11 ((sp_qo BR RP 0 0 1) * (sp_qo BR RP 1 1 1))) 12 ((sp_qo BR RP 0 1 0) * (sp_qo BR RP 1 1 0))) 13 ((sp_qo BR RP 0 1 1) * (sp_qo BR RP 1 1 0))) 14 ((sp_qo BR RP 0 1 0) * (sp_qo BR RP 1 1 1))) 15 ((sp_qo BR RP 0 1 1) * (sp_qo BR RP 1 1 1))) z_)))), (ua, .inl (cJ, 308, .inr (.inl (fun z_ => lN (X2_102 z_))))), (ub, .inl (cJ, 308, .inr (.inl (fun z_ => lN (XB z_)))))]) ⟨hx, hb, hml, hown, hts⟩ (c_X2_cell l dC dI cI cJ H.size 3 0 0 ) (va_cwS 3 hts gX2_start_X2_cell rfl rfl rfl (by decide +kernel) ⟨Nat.le_of_ble_eq_true rfl, Nat.le_of_ble_eq_true rfl⟩) hA hK hP hD hS [] [0, 1, 2, 3, 4, 5] [0, 1, 2, 3, 4, 5] rfl rfl (by decide) (by decide) (by decide) nwA_ok hN hl.1 (Nat.le_of_ble_eq_true rfl) ⟨Nat.le_refl _, Nat.le_refl _⟩ rfl rfl dX2_start_112 (fun (u : Unit) => [(u0, .inr (2, [.ref u1, .ref u2, .int (nI rm), .ref u3, .ref ua, .ref ub])), (u1, .inl (cI, 2, .inl (fun z_ => nI (BR z_)))), (u2, .inl (cI, 2, .inl (fun z_ => nI (RP z_)))), (u3, .inl (cI, 16, .inl (fun z_ => nI ((up (up (up (up (up (up (up (up (up (up (up (up (up (up (up (up CW 0 ((sp_qo BR RP 0 0 0) * (sp_qo BR RP 1 0 0))) 1 ((sp_qo BR RP 0 0 1) * (sp_qo BR RP 1 0 0))) 2 ((sp_qo BR RP 0 0 0) * (sp_qo BR RP 1 0 1))) 3 ((sp_qo BR RP 0 0 1) * (sp_qo BR RP 1 0 1))) 4 ((sp_qo BR RP 0 1 0) * (sp_qo BR RP 1 0 0))) 5 ((sp_qo BR RP 0 1 1) * (sp_qo BR RP 1 0 0))) 6 ((sp_qo BR RP 0 1 0) * (sp_qo BR RP 1 0 1))) 7 ((sp_qo BR RP 0 1 1) * (sp_qo BR RP 1 0 1))) 8 ((sp_qo BR RP 0 0 0) * (sp_qo BR RP 1 1 0))) 9 ((sp_qo BR RP 0 0 1) * (sp_qo BR RP 1 1 0))) 10 ((sp_qo BR RP 0 0 0) * (sp_qo BR RP 1 1 1))) 11 ((sp_qo BR RP 0 0 1) * (sp_qo BR RP 1 1 1))) 12 ((sp_qo BR RP 0 1 0) * (sp_qo BR RP 1 1 0))) 13 ((sp_qo BR RP 0 1 1) * (sp_qo BR RP 1 1 0))) 14 ((sp_qo BR RP 0 1 0) * (sp_qo BR RP 1 1 1))) 15 ((sp_qo BR RP 0 1 1) * (sp_qo BR RP 1 1 1))) z_)))), (ua, .inl (cJ, 308, .inr (.inl (fun z_ => lN (X2_102 z_))))), (ub, .inl (cJ, 308, .inr (.inl (fun z_ => lN (XB z_)))))]) (fun u => rfl) (by decide) (fun r_112 u H locs hw hP hD hS => ?_)
  have hP : va_P (dC, dI) vwCl [(u0, .inr (2, [.ref u1, .ref u2, .int (nI rm), .ref u3, .ref ua, .ref ub])), (u1, .inl (cI, 2, .inl (fun z_ => nI (BR z_)))), (u2, .inl (cI, 2, .inl (fun z_ => nI (RP z_)))), (u3, .inl (cI, 16, .inl (fun z_ => nI ((up (up (up (up (up (up (up (up (up (up (up (up (up (up (up (up CW 0 ((sp_qo BR RP 0 0 0) * (sp_qo BR RP 1 0 0))) 1 ((sp_qo BR RP 0 0 1) * (sp_qo BR RP 1 0 0))) 2 ((sp_qo BR RP 0 0 0) * (sp_qo BR RP 1 0 1))) 3 ((sp_qo BR RP 0 0 1) * (sp_qo BR RP 1 0 1))) 4 ((sp_qo BR RP 0 1 0) * (sp_qo BR RP 1 0 0))) 5 ((sp_qo BR RP 0 1 1) * (sp_qo BR RP 1 0 0))) 6 ((sp_qo BR RP 0 1 0) * (sp_qo BR RP 1 0 1))) 7 ((sp_qo BR RP 0 1 1) * (sp_qo BR RP 1 0 1))) 8 ((sp_qo BR RP 0 0 0) * (sp_qo BR RP 1 1 0))) 9 ((sp_qo BR RP 0 0 1) * (sp_qo BR RP 1 1 0))) 10 ((sp_qo BR RP 0 0 0) * (sp_qo BR RP 1 1 1))) 11 ((sp_qo BR RP 0 0 1) * (sp_qo BR RP 1 1 1))) 12 ((sp_qo BR RP 0 1 0) * (sp_qo BR RP 1 1 0))) 13 ((sp_qo BR RP 0 1 1) * (sp_qo BR RP 1 1 0))) 14 ((sp_qo BR RP 0 1 0) * (sp_qo BR RP 1 1 1))) 15 ((sp_qo BR RP 0 1 1) * (sp_qo BR RP 1 1 1))) z_)))), (ua, .inl (cJ, 308, .inr (.inl (fun z_ => lN (X2_102 z_))))), (ub, .inl (cJ, 308, .inr (.inl (fun z_ => lN (XB z_)))))] H := hP
  have hD : va_D A [(u0, .inr (2, [.ref u1, .ref u2, .int (nI rm), .ref u3, .ref ua, .ref ub])), (u1, .inl (cI, 2, .inl (fun z_ => nI (BR z_)))), (u2, .inl (cI, 2, .inl (fun z_ => nI (RP z_)))), (u3, .inl (cI, 16, .inl (fun z_ => nI ((up (up (up (up (up (up (up (up (up (up (up (up (up (up (up (up CW 0 ((sp_qo BR RP 0 0 0) * (sp_qo BR RP 1 0 0))) 1 ((sp_qo BR RP 0 0 1) * (sp_qo BR RP 1 0 0))) 2 ((sp_qo BR RP 0 0 0) * (sp_qo BR RP 1 0 1))) 3 ((sp_qo BR RP 0 0 1) * (sp_qo BR RP 1 0 1))) 4 ((sp_qo BR RP 0 1 0) * (sp_qo BR RP 1 0 0))) 5 ((sp_qo BR RP 0 1 1) * (sp_qo BR RP 1 0 0))) 6 ((sp_qo BR RP 0 1 0) * (sp_qo BR RP 1 0 1))) 7 ((sp_qo BR RP 0 1 1) * (sp_qo BR RP 1 0 1))) 8 ((sp_qo BR RP 0 0 0) * (sp_qo BR RP 1 1 0))) 9 ((sp_qo BR RP 0 0 1) * (sp_qo BR RP 1 1 0))) 10 ((sp_qo BR RP 0 0 0) * (sp_qo BR RP 1 1 1))) 11 ((sp_qo BR RP 0 0 1) * (sp_qo BR RP 1 1 1))) 12 ((sp_qo BR RP 0 1 0) * (sp_qo BR RP 1 1 0))) 13 ((sp_qo BR RP 0 1 1) * (sp_qo BR RP 1 1 0))) 14 ((sp_qo BR RP 0 1 0) * (sp_qo BR RP 1 1 1))) 15 ((sp_qo BR RP 0 1 1) * (sp_qo BR RP 1 1 1))) z_)))), (ua, .inl (cJ, 308, .inr (.inl (fun z_ => lN (X2_102 z_))))), (ub, .inl (cJ, 308, .inr (.inl (fun z_ => lN (XB z_)))))] := hD
  have er := hw
  have er : r_112 = (nI (sp_ix 3 0 0)) := er
  subst er
  refine lv_lconst (v := lN 1) hx hb dX2_start_115 (by decide) ?_
  refine z_last hx hb hK hP hD hS 4 1 rfl rfl (sp_ix 3 0 0) rfl (by decide) (upd_L X2_102 (sp_ix 3 0 0) 1) [(u0, .inr (2, [.ref u1, .ref u2, .int (nI rm), .ref u3, .ref ua, .ref ub])), (u1, .inl (cI, 2, .inl (fun z_ => nI (BR z_)))), (u2, .inl (cI, 2, .inl (fun z_ => nI (RP z_)))), (u3, .inl (cI, 16, .inl (fun z_ => nI ((up (up (up (up (up (up (up (up (up (up (up (up (up (up (up (up CW 0 ((sp_qo BR RP 0 0 0) * (sp_qo BR RP 1 0 0))) 1 ((sp_qo BR RP 0 0 1) * (sp_qo BR RP 1 0 0))) 2 ((sp_qo BR RP 0 0 0) * (sp_qo BR RP 1 0 1))) 3 ((sp_qo BR RP 0 0 1) * (sp_qo BR RP 1 0 1))) 4 ((sp_qo BR RP 0 1 0) * (sp_qo BR RP 1 0 0))) 5 ((sp_qo BR RP 0 1 1) * (sp_qo BR RP 1 0 0))) 6 ((sp_qo BR RP 0 1 0) * (sp_qo BR RP 1 0 1))) 7 ((sp_qo BR RP 0 1 1) * (sp_qo BR RP 1 0 1))) 8 ((sp_qo BR RP 0 0 0) * (sp_qo BR RP 1 1 0))) 9 ((sp_qo BR RP 0 0 1) * (sp_qo BR RP 1 1 0))) 10 ((sp_qo BR RP 0 0 0) * (sp_qo BR RP 1 1 1))) 11 ((sp_qo BR RP 0 0 1) * (sp_qo BR RP 1 1 1))) 12 ((sp_qo BR RP 0 1 0) * (sp_qo BR RP 1 1 0))) 13 ((sp_qo BR RP 0 1 1) * (sp_qo BR RP 1 1 0))) 14 ((sp_qo BR RP 0 1 0) * (sp_qo BR RP 1 1 1))) 15 ((sp_qo BR RP 0 1 1) * (sp_qo BR RP 1 1 1))) z_)))), (ua, .inl (cJ, 308, .inr (.inl (fun z_ => lN ((up X2_102 (sp_ix 3 0 0) 1) z_))))), (ub, .inl (cJ, 308, .inr (.inl (fun z_ => lN (XB z_)))))] rfl dX2_start_116 (fun H locs hP hD hS => ?_)
  have q_0 : ∀ i, i < 16 → (up (up (up (up (up (up (up (up (up (up (up (up (up (up (up (up CW 0 ((sp_qo BR RP 0 0 0) * (sp_qo BR RP 1 0 0))) 1 ((sp_qo BR RP 0 0 1) * (sp_qo BR RP 1 0 0))) 2 ((sp_qo BR RP 0 0 0) * (sp_qo BR RP 1 0 1))) 3 ((sp_qo BR RP 0 0 1) * (sp_qo BR RP 1 0 1))) 4 ((sp_qo BR RP 0 1 0) * (sp_qo BR RP 1 0 0))) 5 ((sp_qo BR RP 0 1 1) * (sp_qo BR RP 1 0 0))) 6 ((sp_qo BR RP 0 1 0) * (sp_qo BR RP 1 0 1))) 7 ((sp_qo BR RP 0 1 1) * (sp_qo BR RP 1 0 1))) 8 ((sp_qo BR RP 0 0 0) * (sp_qo BR RP 1 1 0))) 9 ((sp_qo BR RP 0 0 1) * (sp_qo BR RP 1 1 0))) 10 ((sp_qo BR RP 0 0 0) * (sp_qo BR RP 1 1 1))) 11 ((sp_qo BR RP 0 0 1) * (sp_qo BR RP 1 1 1))) 12 ((sp_qo BR RP 0 1 0) * (sp_qo BR RP 1 1 0))) 13 ((sp_qo BR RP 0 1 1) * (sp_qo BR RP 1 1 0))) 14 ((sp_qo BR RP 0 1 0) * (sp_qo BR RP 1 1 1))) 15 ((sp_qo BR RP 0 1 1) * (sp_qo BR RP 1 1 1))) i = sp_cw BR RP i := by intro i hi; rcases (show i = 0 ∨ i = 1 ∨ i = 2 ∨ i = 3 ∨ i = 4 ∨ i = 5 ∨ i = 6 ∨ i = 7 ∨ i = 8 ∨ i = 9 ∨ i = 10 ∨ i = 11 ∨ i = 12 ∨ i = 13 ∨ i = 14 ∨ i = 15 by omega) with rfl | rfl | rfl | rfl | rfl | rfl | rfl | rfl | rfl | rfl | rfl | rfl | rfl | rfl | rfl | rfl <;> first | rfl | simp [up_e, sp_cw]
  have q_1 : ∀ k, k < 308 → (up X2_102 (sp_ix 3 0 0) 1) k = if k = 231 then 1 else 0 := by intro k hk; (by_cases q : k = 231); (rw [if_pos q]; exact if_pos q); (rw [if_neg q, up_n _ _ (show ¬ k = sp_ix 3 0 0 from q)]; exact p102_0 k hk)
  exact hRET _ ls H locs (up (up (up (up (up (up (up (up (up (up (up (up (up (up (up (up CW 0 ((sp_qo BR RP 0 0 0) * (sp_qo BR RP 1 0 0))) 1 ((sp_qo BR RP 0 0 1) * (sp_qo BR RP 1 0 0))) 2 ((sp_qo BR RP 0 0 0) * (sp_qo BR RP 1 0 1))) 3 ((sp_qo BR RP 0 0 1) * (sp_qo BR RP 1 0 1))) 4 ((sp_qo BR RP 0 1 0) * (sp_qo BR RP 1 0 0))) 5 ((sp_qo BR RP 0 1 1) * (sp_qo BR RP 1 0 0))) 6 ((sp_qo BR RP 0 1 0) * (sp_qo BR RP 1 0 1))) 7 ((sp_qo BR RP 0 1 1) * (sp_qo BR RP 1 0 1))) 8 ((sp_qo BR RP 0 0 0) * (sp_qo BR RP 1 1 0))) 9 ((sp_qo BR RP 0 0 1) * (sp_qo BR RP 1 1 0))) 10 ((sp_qo BR RP 0 0 0) * (sp_qo BR RP 1 1 1))) 11 ((sp_qo BR RP 0 0 1) * (sp_qo BR RP 1 1 1))) 12 ((sp_qo BR RP 0 1 0) * (sp_qo BR RP 1 1 0))) 13 ((sp_qo BR RP 0 1 1) * (sp_qo BR RP 1 1 0))) 14 ((sp_qo BR RP 0 1 0) * (sp_qo BR RP 1 1 1))) 15 ((sp_qo BR RP 0 1 1) * (sp_qo BR RP 1 1 1)), up X2_102 (sp_ix 3 0 0) 1) dX2_start_117 ⟨q_0, q_1⟩ hP hD hS

set_option maxHeartbeats 4000000 in
set_option maxRecDepth 100000 in
theorem c_X2_spread (l : Launch) (dC : Nat → ClassId) (dI : Nat → Nat → Nat) (cI cJ : ClassId) (sz : Nat) (u0 : Nat) (u1 : Nat) (u2 : Nat) (u3 : Nat) (ua : Nat) (ub : Nat) (BR : Nat → Nat) (RP : Nat → Nat) (CW : Nat → Nat) (WA : Nat → Nat) (XB : Nat → Nat) (rm : Nat) (x : Nat) (lv : Nat) (ct : Nat) (mo : Nat) (mg : Nat) (cn : Nat) (bCW : ∀ i, i < 16 → CW i ≤ 16) (bx : x < 4) (bl : lv ≤ mo) (bm : mo ≤ 6) (bc : ct ≤ mg) (bg : mg ≤ 10) (bn : cn ≤ 1) (hz : sp_zr XB mo mg) (hww : WA (sp_ix x lv ct) < 1152921504606846976) : Met l yX2_spread wsX2_spread (zR 2 0 0 47) (va_Pc [.ref u0, .int (nI x), .int (nI lv), .int (nI ct), .int (nI mo), .int (nI mg), .int (nI cn)] (zP (dC, dI) [(cI, .int), (cJ, .long)] [(u0, .inr (2, [.ref u1, .ref u2, .int (nI rm), .ref u3, .ref ua, .ref ub])), (u1, .inl (cI, 2, .inl (fun z_ => nI (BR z_)))), (u2, .inl (cI, 2, .inl (fun z_ => nI (RP z_)))), (u3, .inl (cI, 16, .inl (fun z_ => nI (CW z_)))), (ua, .inl (cJ, 308, .inr (.inl (fun z_ => lN (WA z_))))), (ub, .inl (cJ, 308, .inr (.inl (fun z_ => lN (XB z_)))))] sz nwA)) (va_Ql (fun (r : Int64) (u : (Nat) × (Nat → Nat)) => r = (lN u.1) ∧ (u.1 = WA (sp_ix x lv ct) * sp_gf CW (sp_ix x lv ct)) ∧ (∀ φ, sp_S u.2 φ = sp_S XB φ + WA (sp_ix x lv ct) * sp_Pf CW mo mg cn φ (sp_ix x lv ct)) ∧ (sp_zr u.2 mo mg)) (zB (dC, dI) (fun (u : (Nat) × (Nat → Nat)) => [(u0, .inr (2, [.ref u1, .ref u2, .int (nI rm), .ref u3, .ref ua, .ref ub])), (u1, .inl (cI, 2, .inl (fun z_ => nI (BR z_)))), (u2, .inl (cI, 2, .inl (fun z_ => nI (RP z_)))), (u3, .inl (cI, 16, .inl (fun z_ => nI (CW z_)))), (ua, .inl (cJ, 308, .inr (.inl (fun z_ => lN (WA z_))))), (ub, .inl (cJ, 308, .inr (.inl (fun z_ => lN (u.2 z_)))))]) (va_A [(u0, .inr (2, [.ref u1, .ref u2, .int (nI rm), .ref u3, .ref ua, .ref ub])), (u1, .inl (cI, 2, .inl (fun z_ => nI (BR z_)))), (u2, .inl (cI, 2, .inl (fun z_ => nI (RP z_)))), (u3, .inl (cI, 16, .inl (fun z_ => nI (CW z_)))), (ua, .inl (cJ, 308, .inr (.inl (fun z_ => lN (WA z_))))), (ub, .inl (cJ, 308, .inr (.inl (fun z_ => lN (XB z_)))))] sz)) (va_A [(u0, .inr (2, [.ref u1, .ref u2, .int (nI rm), .ref u3, .ref ua, .ref ub])), (u1, .inl (cI, 2, .inl (fun z_ => nI (BR z_)))), (u2, .inl (cI, 2, .inl (fun z_ => nI (RP z_)))), (u3, .inl (cI, 16, .inl (fun z_ => nI (CW z_)))), (ua, .inl (cJ, 308, .inr (.inl (fun z_ => lN (WA z_))))), (ub, .inl (cJ, 308, .inr (.inl (fun z_ => lN (XB z_)))))] sz)) 0 0 (va_A [(u0, .inr (2, [.ref u1, .ref u2, .int (nI rm), .ref u3, .ref ua, .ref ub])), (u1, .inl (cI, 2, .inl (fun z_ => nI (BR z_)))), (u2, .inl (cI, 2, .inl (fun z_ => nI (RP z_)))), (u3, .inl (cI, 16, .inl (fun z_ => nI (CW z_)))), (ua, .inl (cJ, 308, .inr (.inl (fun z_ => lN (WA z_))))), (ub, .inl (cJ, 308, .inr (.inl (fun z_ => lN (XB z_)))))] sz) := by
  refine z_met_l (cc := cX2_spread) (maxL := 16) (by decide) rfl (Nat.le_of_ble_eq_true rfl) ?_
  intro p e s m args below meth c Q A ls hx hb hml hown hts hin hA hK hP hD hN hl hRET
  have hown : s.vm.findClass RX2 = some m.cls := hown
  obtain ⟨H, eH⟩ : ∃ H : Heap, H = s.heap := ⟨_, rfl⟩
  rw [← eH] at hP
  obtain ⟨locs, eL⟩ : ∃ z : List Loc, z = [] := ⟨_, rfl⟩
  rw [← eH, ← eL]
  have hS : va_S A s.heap H locs := by rw [eH, eL]; exact va_S.rf
  have hl : lv_has ls 16 [(0, .ref u0), (1, .int (nI x)), (2, .int (nI lv)), (3, .int (nI ct)), (4, .int (nI mo)), (5, .int (nI mg)), (6, .int (nI cn))] := hl
  have w21 := hts (.fieldLink RX2 21 "PullCards$Pair" "weights" "[J") (by decide +kernel)
  have uX2 : ∀ w ∈ wsX20, w ∈ wsX2_spread := by decide +kernel
  have w18 := hts (.fieldLink RX2 18 "PullCards$Pair" "changeWeights" "[I") (by decide +kernel)
  have w25 := hts (.fieldLink RX2 25 "PullCards$Pair" "nextWeights" "[J") (by decide +kernel)
  refine lv_aload_n hx hb dX2_spread_0 rfl (lv_at hl 0 rfl) ?_
  refine z_get (D := (dC, dI)) (ci := 2) (v := .ref ua) (C := RX2) (T := TX2) (N := 6) hx hb hts uX2 hown hK hP 0 rfl rfl 4 (by decide) w21 rfl rfl dX2_spread_1 ?_
  refine lv_iload_n hx hb dX2_spread_4 rfl (lv_at hl 1 rfl) ?_
  refine lv_iload_n hx hb dX2_spread_5 rfl (lv_at hl 2 rfl) ?_
  refine lv_iload_n hx hb dX2_spread_6 rfl (lv_at hl 3 rfl) ?_
  refine z_callSi (As := [.int (nI x), .int (nI lv), .int (nI ct)]) (rest := [.ref ua]) (wr := [(u0, .inr (2, [.ref u1, .ref u2, .int (nI rm), .ref u3, .ref ua, .ref ub])), (u1, .inl (cI, 2, .inl (fun z_ => nI (BR z_)))), (u2, .inl (cI, 2, .inl (fun z_ => nI (RP z_)))), (u3, .inl (cI, 16, .inl (fun z_ => nI (CW z_)))), (ua, .inl (cJ, 308, .inr (.inl (fun z_ => lN (WA z_))))), (ub, .inl (cJ, 308, .inr (.inl (fun z_ => lN (XB z_)))))]) ⟨hx, hb, hml, hown, hts⟩ (c_X2_cell l dC dI cI cJ H.size x lv ct ) (va_cwS 3 hts gX2_spread_X2_cell rfl rfl rfl (by decide +kernel) ⟨Nat.le_of_ble_eq_true rfl, Nat.le_of_ble_eq_true rfl⟩) hA hK hP hD hS [] [0, 1, 2, 3, 4, 5] [0, 1, 2, 3, 4, 5] rfl rfl (by decide) (by decide) (by decide) nwA_ok hN hl.1 (Nat.le_of_ble_eq_true rfl) ⟨Nat.le_refl _, Nat.le_refl _⟩ rfl rfl dX2_spread_7 (fun (u : Unit) => [(u0, .inr (2, [.ref u1, .ref u2, .int (nI rm), .ref u3, .ref ua, .ref ub])), (u1, .inl (cI, 2, .inl (fun z_ => nI (BR z_)))), (u2, .inl (cI, 2, .inl (fun z_ => nI (RP z_)))), (u3, .inl (cI, 16, .inl (fun z_ => nI (CW z_)))), (ua, .inl (cJ, 308, .inr (.inl (fun z_ => lN (WA z_))))), (ub, .inl (cJ, 308, .inr (.inl (fun z_ => lN (XB z_)))))]) (fun u => rfl) (by decide) (fun r_7 u H locs hw hP hD hS => ?_)
  have hP : va_P (dC, dI) vwCl [(u0, .inr (2, [.ref u1, .ref u2, .int (nI rm), .ref u3, .ref ua, .ref ub])), (u1, .inl (cI, 2, .inl (fun z_ => nI (BR z_)))), (u2, .inl (cI, 2, .inl (fun z_ => nI (RP z_)))), (u3, .inl (cI, 16, .inl (fun z_ => nI (CW z_)))), (ua, .inl (cJ, 308, .inr (.inl (fun z_ => lN (WA z_))))), (ub, .inl (cJ, 308, .inr (.inl (fun z_ => lN (XB z_)))))] H := hP
  have hD : va_D A [(u0, .inr (2, [.ref u1, .ref u2, .int (nI rm), .ref u3, .ref ua, .ref ub])), (u1, .inl (cI, 2, .inl (fun z_ => nI (BR z_)))), (u2, .inl (cI, 2, .inl (fun z_ => nI (RP z_)))), (u3, .inl (cI, 16, .inl (fun z_ => nI (CW z_)))), (ua, .inl (cJ, 308, .inr (.inl (fun z_ => lN (WA z_))))), (ub, .inl (cJ, 308, .inr (.inl (fun z_ => lN (XB z_)))))] := hD
  have er := hw
  have er : r_7 = (nI (sp_ix x lv ct)) := er
  subst er
  refine z_lald (v := (lN (WA (sp_ix x lv ct)))) hx hb hK hP 4 1 rfl rfl (sp_ix x lv ct) rfl (by unfold sp_ix; omega) rfl dX2_spread_10 ?_
  obtain ⟨wt, ewt⟩ : ∃ z : Nat, z = (WA (sp_ix x lv ct)) := ⟨_, rfl⟩
  refine z_l0 (v := lN wt) (by rw [ewt]) ?_
  refine lv_lstore (lv' := [(7, .long (lN wt)), (0, .ref u0), (1, .int (nI x)), (2, .int (nI lv)), (3, .int (nI ct)), (4, .int (nI mo)), (5, .int (nI mg)), (6, .int (nI cn))]) hx hb dX2_spread_11 hl (by decide) rfl (fun ls hl => ?_)
  have hwt : wt < 1152921504606846976 := by rw [ewt]; exact hww
  refine lv_lload hx hb dX2_spread_13 (lv_at hl 0 rfl) ?_
  refine lv_lconst (v := lN 0) hx hb dX2_spread_15 (by decide) ?_
  refine W.lcmp hx hb dX2_spread_16 ?_
  refine z_if_ne (tgt := 22) hx hb dX2_spread_17 (by decide) ((zm_eq _ _).trans (zl_eq (a := ((wt : Nat) : Int)) (b := 0) (lI_N _) (lI_N _) (by omega))) (fun c_17 => ?_) (fun c_17 => ?_)
  · skip
    refine lv_lconst (v := lN 0) hx hb dX2_spread_22 (by decide) ?_
    refine lv_lstore (lv' := [(9, .long (lN 0)), (7, .long (lN wt)), (0, .ref u0), (1, .int (nI x)), (2, .int (nI lv)), (3, .int (nI ct)), (4, .int (nI mo)), (5, .int (nI mg)), (6, .int (nI cn))]) hx hb dX2_spread_23 hl (by decide) rfl (fun ls hl => ?_)
    refine lv_iconst (v := nI 0) hx hb dX2_spread_25 (by decide) ?_
    refine lv_istore (lv' := [(11, .int (nI 0)), (9, .long (lN 0)), (7, .long (lN wt)), (0, .ref u0), (1, .int (nI x)), (2, .int (nI lv)), (3, .int (nI ct)), (4, .int (nI mo)), (5, .int (nI mg)), (6, .int (nI cn))]) hx hb dX2_spread_26 hl (by decide) rfl (fun ls hl => ?_)
    have L28 : ∀ (n28 : Nat) (j : Nat) (X1 : Nat → Nat) (g1 : Nat), (4 - j) < n28 → (j ≤ 4) → (∀ φ, sp_S X1 φ = sp_S XB φ + wt * fb_sm (sp_Pq CW mo mg cn φ x lv ct) j) → (g1 = wt * fb_sm (sp_gq CW x lv) j) → (sp_zr X1 mo mg) → ∀ (H : Heap) (locs : List Loc), va_P (dC, dI) vwCl [(u0, .inr (2, [.ref u1, .ref u2, .int (nI rm), .ref u3, .ref ua, .ref ub])), (u1, .inl (cI, 2, .inl (fun z_ => nI (BR z_)))), (u2, .inl (cI, 2, .inl (fun z_ => nI (RP z_)))), (u3, .inl (cI, 16, .inl (fun z_ => nI (CW z_)))), (ua, .inl (cJ, 308, .inr (.inl (fun z_ => lN (WA z_))))), (ub, .inl (cJ, 308, .inr (.inl (fun z_ => lN (X1 z_)))))] H → va_D A [(u0, .inr (2, [.ref u1, .ref u2, .int (nI rm), .ref u3, .ref ua, .ref ub])), (u1, .inl (cI, 2, .inl (fun z_ => nI (BR z_)))), (u2, .inl (cI, 2, .inl (fun z_ => nI (RP z_)))), (u3, .inl (cI, 16, .inl (fun z_ => nI (CW z_)))), (ua, .inl (cJ, 308, .inr (.inl (fun z_ => lN (WA z_))))), (ub, .inl (cJ, 308, .inr (.inl (fun z_ => lN (X1 z_)))))] → va_S A s.heap H locs → ∀ (ls : Array Slot), lv_has ls 16 [(0, .ref u0), (1, .int (nI x)), (2, .int (nI lv)), (3, .int (nI ct)), (4, .int (nI mo)), (5, .int (nI mg)), (6, .int (nI cn)), (7, .long (lN wt)), (9, .long (lN g1)), (11, .int (nI j))] → W p l e (zR 2 0 0 47) s m args below meth c H locs 0 0 Q (F0 m 28 ls []) := by
      intro n28
      induction n28 with
      | zero => intro j X1 g1 hn; exact absurd hn (Nat.not_lt_zero _)
      | succ n28 ih =>
        intro j X1 g1 hn i1 i2 i3 i4 H locs hP hD hS ls hl
        have ih28 := ih
        have hn28 := hn
        clear ih hn
        refine lv_iload hx hb dX2_spread_28 (lv_at hl 9 rfl) ?_
        refine lv_iconst (v := nI 4) hx hb dX2_spread_30 (by decide) ?_
        refine z_icmp_ge (tgt := 123) hx hb dX2_spread_31 (by decide) (zcn_le (a := 4) (b := j) rfl rfl (by omega)) (fun c_31 => ?_) (fun c_31 => ?_)
        · skip
          refine lv_lload hx hb dX2_spread_123 (lv_at hl 8 rfl) ?_
          have q_0 : g1 = WA (sp_ix x lv ct) * sp_gf CW (sp_ix x lv ct) := by rw [sp_gf_ix (by omega) (by omega), ← ewt, i3, show j = 4 by omega]
          have q_1 : ∀ φ, sp_S X1 φ = sp_S XB φ + WA (sp_ix x lv ct) * sp_Pf CW mo mg cn φ (sp_ix x lv ct) := by intro φ; rw [sp_Pf_ix (by omega) (by omega), ← ewt, i2 φ, show j = 4 by omega]
          have q_2 : sp_zr X1 mo mg := by exact i4
          exact hRET _ ls H locs ((lN g1)) (g1, X1) dX2_spread_125 ⟨rfl, q_0, q_1, q_2⟩ hP hD hS
        · skip
          refine lv_lload hx hb dX2_spread_34 (lv_at hl 7 rfl) ?_
          refine lv_aload_n hx hb dX2_spread_36 rfl (lv_at hl 0 rfl) ?_
          refine z_get (D := (dC, dI)) (ci := 2) (v := .ref u3) (C := RX2) (T := TX2) (N := 6) hx hb hts uX2 hown hK hP 0 rfl rfl 3 (by decide) w18 rfl rfl dX2_spread_37 ?_
          refine lv_iload_n hx hb dX2_spread_40 rfl (lv_at hl 1 rfl) ?_
          refine lv_iconst (v := nI 4) hx hb dX2_spread_41 (by decide) ?_
          refine z_imul (v := (nI (x * 4))) hx hb dX2_spread_42 (pk_mul _ _) ?_
          refine lv_iload hx hb dX2_spread_43 (lv_at hl 9 rfl) ?_
          refine z_iadd (v := (nI ((x * 4) + j))) hx hb dX2_spread_45 (nI_add _ _) ?_
          refine z_iald (v := (nI (CW ((x * 4) + j)))) hx hb hK hP 3 0 rfl rfl ((x * 4) + j) rfl (by omega) rfl dX2_spread_46 ?_
          have hcw := bCW (x * 4 + j) (by omega)
          refine lv_i2l (v := (lN (CW ((x * 4) + j)))) hx hb dX2_spread_47 (zl_i2lN rfl (by omega)) ?_
          refine z_lmul (v := (lN (wt * (CW ((x * 4) + j))))) hx hb dX2_spread_48 (lN_mul _ _) ?_
          refine lv_lstore (lv' := [(12, .long (lN (wt * (CW ((x * 4) + j))))), (0, .ref u0), (1, .int (nI x)), (2, .int (nI lv)), (3, .int (nI ct)), (4, .int (nI mo)), (5, .int (nI mg)), (6, .int (nI cn)), (7, .long (lN wt)), (9, .long (lN g1)), (11, .int (nI j))]) hx hb dX2_spread_49 hl (by decide) rfl (fun ls hl => ?_)
          refine lv_iload hx hb dX2_spread_51 (lv_at hl 10 rfl) ?_
          refine lv_iload_n hx hb dX2_spread_53 rfl (lv_at hl 3 rfl) ?_
          refine z_callSi (As := [.int (nI j), .int (nI lv)]) (rest := []) (wr := [(u0, .inr (2, [.ref u1, .ref u2, .int (nI rm), .ref u3, .ref ua, .ref ub])), (u1, .inl (cI, 2, .inl (fun z_ => nI (BR z_)))), (u2, .inl (cI, 2, .inl (fun z_ => nI (RP z_)))), (u3, .inl (cI, 16, .inl (fun z_ => nI (CW z_)))), (ua, .inl (cJ, 308, .inr (.inl (fun z_ => lN (WA z_))))), (ub, .inl (cJ, 308, .inr (.inl (fun z_ => lN (X1 z_)))))]) ⟨hx, hb, hml, hown, hts⟩ (c_X2_gives l dC dI cI cJ H.size j lv (by first | assumption | omega) (by first | assumption | omega)) (va_cwS 2 hts gX2_spread_X2_gives rfl rfl rfl (by decide +kernel) ⟨Nat.le_of_ble_eq_true rfl, Nat.le_of_ble_eq_true rfl⟩) hA hK hP hD hS [] [0, 1, 2, 3, 4, 5] [0, 1, 2, 3, 4, 5] rfl rfl (by decide) (by decide) (by decide) nwA_ok hN hl.1 (Nat.le_of_ble_eq_true rfl) ⟨Nat.le_refl _, Nat.le_refl _⟩ rfl rfl dX2_spread_54 (fun (u : (Nat)) => [(u0, .inr (2, [.ref u1, .ref u2, .int (nI rm), .ref u3, .ref ua, .ref ub])), (u1, .inl (cI, 2, .inl (fun z_ => nI (BR z_)))), (u2, .inl (cI, 2, .inl (fun z_ => nI (RP z_)))), (u3, .inl (cI, 16, .inl (fun z_ => nI (CW z_)))), (ua, .inl (cJ, 308, .inr (.inl (fun z_ => lN (WA z_))))), (ub, .inl (cJ, 308, .inr (.inl (fun z_ => lN (X1 z_)))))]) (fun u => rfl) (by decide) (fun r_54 u H locs hw hP hD hS => ?_)
          obtain ⟨rv_54, eu⟩ : ∃ z, z = u := ⟨_, rfl⟩
          subst eu
          have hP : va_P (dC, dI) vwCl [(u0, .inr (2, [.ref u1, .ref u2, .int (nI rm), .ref u3, .ref ua, .ref ub])), (u1, .inl (cI, 2, .inl (fun z_ => nI (BR z_)))), (u2, .inl (cI, 2, .inl (fun z_ => nI (RP z_)))), (u3, .inl (cI, 16, .inl (fun z_ => nI (CW z_)))), (ua, .inl (cJ, 308, .inr (.inl (fun z_ => lN (WA z_))))), (ub, .inl (cJ, 308, .inr (.inl (fun z_ => lN (X1 z_)))))] H := hP
          have hD : va_D A [(u0, .inr (2, [.ref u1, .ref u2, .int (nI rm), .ref u3, .ref ua, .ref ub])), (u1, .inl (cI, 2, .inl (fun z_ => nI (BR z_)))), (u2, .inl (cI, 2, .inl (fun z_ => nI (RP z_)))), (u3, .inl (cI, 16, .inl (fun z_ => nI (CW z_)))), (ua, .inl (cJ, 308, .inr (.inl (fun z_ => lN (WA z_))))), (ub, .inl (cJ, 308, .inr (.inl (fun z_ => lN (X1 z_)))))] := hD
          obtain ⟨er, p54_0⟩ := hw
          have p54_0 : rv_54 = sp_gv j lv := p54_0
          have er : r_54 = (nI rv_54) := er
          subst er
          subst p54_0
          have hgv := sp_gv_le j lv
          refine lv_istore (lv' := [(14, .int (nI (sp_gv j lv))), (12, .long (lN (wt * (CW ((x * 4) + j))))), (0, .ref u0), (1, .int (nI x)), (2, .int (nI lv)), (3, .int (nI ct)), (4, .int (nI mo)), (5, .int (nI mg)), (6, .int (nI cn)), (7, .long (lN wt)), (9, .long (lN g1)), (11, .int (nI j))]) hx hb dX2_spread_57 hl (by decide) rfl (fun ls hl => ?_)
          refine lv_lload hx hb dX2_spread_59 (lv_at hl 10 rfl) ?_
          refine lv_lload hx hb dX2_spread_61 (lv_at hl 1 rfl) ?_
          refine lv_iload hx hb dX2_spread_63 (lv_at hl 0 rfl) ?_
          refine lv_i2l (v := (lN (sp_gv j lv))) hx hb dX2_spread_65 (zl_i2lN rfl (by omega)) ?_
          refine z_lmul (v := (lN ((wt * (CW ((x * 4) + j))) * (sp_gv j lv)))) hx hb dX2_spread_66 (lN_mul _ _) ?_
          refine z_ladd (v := (lN (g1 + ((wt * (CW ((x * 4) + j))) * (sp_gv j lv))))) hx hb dX2_spread_67 (lN_add _ _) ?_
          refine lv_lstore (lv' := [(9, .long (lN (g1 + ((wt * (CW ((x * 4) + j))) * (sp_gv j lv))))), (14, .int (nI (sp_gv j lv))), (12, .long (lN (wt * (CW ((x * 4) + j))))), (0, .ref u0), (1, .int (nI x)), (2, .int (nI lv)), (3, .int (nI ct)), (4, .int (nI mo)), (5, .int (nI mg)), (6, .int (nI cn)), (7, .long (lN wt)), (11, .int (nI j))]) hx hb dX2_spread_68 hl (by decide) rfl (fun ls hl => ?_)
          refine lv_iload hx hb dX2_spread_70 (lv_at hl 9 rfl) ?_
          refine z_if_eq (tgt := 82) hx hb dX2_spread_72 (by decide) (zcn_eq (a := cn) (b := 0) rfl nI_00 (by omega)) (fun c_72 => ?_) (fun c_72 => ?_)
          · skip
            have hct : ct + cn * sp_gv j lv = ct := by rw [c_72, Nat.zero_mul]; rfl
            refine lv_iload_n hx hb dX2_spread_82 rfl (lv_at hl 6 rfl) ?_
            have hla := sp_la_le (x := j) (mo := mo) bl
            refine lv_istore (lv' := [(15, .int (nI ct)), (9, .long (lN (g1 + ((wt * (CW ((x * 4) + j))) * (sp_gv j lv))))), (14, .int (nI (sp_gv j lv))), (12, .long (lN (wt * (CW ((x * 4) + j))))), (0, .ref u0), (1, .int (nI x)), (2, .int (nI lv)), (3, .int (nI ct)), (4, .int (nI mo)), (5, .int (nI mg)), (6, .int (nI cn)), (7, .long (lN wt)), (11, .int (nI j))]) hx hb dX2_spread_83 hl (by decide) rfl (fun ls hl => ?_)
            refine lv_iload hx hb dX2_spread_85 (lv_at hl 0 rfl) ?_
            refine lv_iload hx hb dX2_spread_87 (lv_at hl 9 rfl) ?_
            refine z_icmp_gt (tgt := 117) hx hb dX2_spread_89 (by decide) (zcn_lt (a := mg) (b := ct) rfl rfl (by omega)) (fun c_89 => ?_) (fun c_89 => ?_)
            · skip
              refine lv_iinc (v := (nI (j + 1))) (lv' := [(11, .int (nI (j + 1))), (15, .int (nI ct)), (9, .long (lN (g1 + ((wt * (CW ((x * 4) + j))) * (sp_gv j lv))))), (14, .int (nI (sp_gv j lv))), (12, .long (lN (wt * (CW ((x * 4) + j))))), (0, .ref u0), (1, .int (nI x)), (2, .int (nI lv)), (3, .int (nI ct)), (4, .int (nI mo)), (5, .int (nI mg)), (6, .int (nI cn)), (7, .long (lN wt))]) hx hb dX2_spread_117 hl (k := 12) rfl (z_incN j 1 (by decide)) (by decide) rfl (fun ls hl => ?_)
              refine lv_goto (tgt := 28) hx hb dX2_spread_120 (by decide) ?_
              have o_i1 : (j + 1) ≤ 4 := by first | assumption | omega
              have o_i2 : ∀ φ, sp_S X1 φ = sp_S XB φ + wt * fb_sm (sp_Pq CW mo mg cn φ x lv ct) (j + 1) := by intro φ; (first | (rw [sp_S_up hix φ, i2 φ, fb_sm_succ, Nat.mul_add, ← Nat.add_assoc]; have hp : sp_Pq CW mo mg cn φ x lv ct j = CW (x * 4 + j) * φ (sp_ix j (sp_la j lv mo) (ct + cn * sp_gv j lv)) := (by unfold sp_Pq; rw [if_pos (by omega)]); rw [hp, hct, Nat.mul_assoc]) | (rw [i2 φ, fb_sm_succ, Nat.mul_add, ← Nat.add_assoc]; have hp : sp_Pq CW mo mg cn φ x lv ct j = 0 := (by unfold sp_Pq; rw [if_neg (by omega)]); rw [hp, Nat.mul_zero]; rfl))
              have o_i3 : (g1 + ((wt * (CW ((x * 4) + j))) * (sp_gv j lv))) = wt * fb_sm (sp_gq CW x lv) (j + 1) := by rw [fb_sm_succ, Nat.mul_add, ← i3, Nat.mul_assoc]; rfl
              have o_i4 : sp_zr X1 mo mg := by first | exact i4 | exact sp_zr_up i4 hla (by omega) bm bg
              have o_mu : (4 - (j + 1)) < n28 := by omega
              exact ih28 (j + 1) X1 (g1 + ((wt * (CW ((x * 4) + j))) * (sp_gv j lv))) o_mu o_i1 o_i2 o_i3 o_i4 H locs hP hD hS ls (lv_sub hl [5, 6, 7, 8, 9, 10, 11, 12, 2, 0] rfl)
            · skip
              refine lv_aload_n hx hb dX2_spread_92 rfl (lv_at hl 4 rfl) ?_
              refine z_get (D := (dC, dI)) (ci := 2) (v := .ref ub) (C := RX2) (T := TX2) (N := 6) hx hb hts uX2 hown hK hP 0 rfl rfl 5 (by decide) w25 rfl rfl dX2_spread_93 ?_
              refine lv_iload hx hb dX2_spread_96 (lv_at hl 12 rfl) ?_
              refine lv_iload hx hb dX2_spread_98 (lv_at hl 12 rfl) ?_
              refine lv_iload_n hx hb dX2_spread_100 rfl (lv_at hl 6 rfl) ?_
              refine lv_iload hx hb dX2_spread_101 (lv_at hl 8 rfl) ?_
              refine z_callSi (As := [.int (nI j), .int (nI lv), .int (nI mo)]) (rest := [.int (nI j), .ref ub]) (wr := [(u0, .inr (2, [.ref u1, .ref u2, .int (nI rm), .ref u3, .ref ua, .ref ub])), (u1, .inl (cI, 2, .inl (fun z_ => nI (BR z_)))), (u2, .inl (cI, 2, .inl (fun z_ => nI (RP z_)))), (u3, .inl (cI, 16, .inl (fun z_ => nI (CW z_)))), (ua, .inl (cJ, 308, .inr (.inl (fun z_ => lN (WA z_))))), (ub, .inl (cJ, 308, .inr (.inl (fun z_ => lN (X1 z_)))))]) ⟨hx, hb, hml, hown, hts⟩ (c_X2_levelAfter l dC dI cI cJ H.size j lv mo (by first | assumption | omega) (by first | assumption | omega) (by first | assumption | omega)) (va_cwS 3 hts gX2_spread_X2_levelAfter rfl rfl rfl (by decide +kernel) ⟨Nat.le_of_ble_eq_true rfl, Nat.le_of_ble_eq_true rfl⟩) hA hK hP hD hS [] [0, 1, 2, 3, 4, 5] [0, 1, 2, 3, 4, 5] rfl rfl (by decide) (by decide) (by decide) nwA_ok hN hl.1 (Nat.le_of_ble_eq_true rfl) ⟨Nat.le_refl _, Nat.le_refl _⟩ rfl rfl dX2_spread_103 (fun (u : (Nat)) => [(u0, .inr (2, [.ref u1, .ref u2, .int (nI rm), .ref u3, .ref ua, .ref ub])), (u1, .inl (cI, 2, .inl (fun z_ => nI (BR z_)))), (u2, .inl (cI, 2, .inl (fun z_ => nI (RP z_)))), (u3, .inl (cI, 16, .inl (fun z_ => nI (CW z_)))), (ua, .inl (cJ, 308, .inr (.inl (fun z_ => lN (WA z_))))), (ub, .inl (cJ, 308, .inr (.inl (fun z_ => lN (X1 z_)))))]) (fun u => rfl) (by decide) (fun r_103 u H locs hw hP hD hS => ?_)
              obtain ⟨rv_103, eu⟩ : ∃ z, z = u := ⟨_, rfl⟩
              subst eu
              have hP : va_P (dC, dI) vwCl [(u0, .inr (2, [.ref u1, .ref u2, .int (nI rm), .ref u3, .ref ua, .ref ub])), (u1, .inl (cI, 2, .inl (fun z_ => nI (BR z_)))), (u2, .inl (cI, 2, .inl (fun z_ => nI (RP z_)))), (u3, .inl (cI, 16, .inl (fun z_ => nI (CW z_)))), (ua, .inl (cJ, 308, .inr (.inl (fun z_ => lN (WA z_))))), (ub, .inl (cJ, 308, .inr (.inl (fun z_ => lN (X1 z_)))))] H := hP
              have hD : va_D A [(u0, .inr (2, [.ref u1, .ref u2, .int (nI rm), .ref u3, .ref ua, .ref ub])), (u1, .inl (cI, 2, .inl (fun z_ => nI (BR z_)))), (u2, .inl (cI, 2, .inl (fun z_ => nI (RP z_)))), (u3, .inl (cI, 16, .inl (fun z_ => nI (CW z_)))), (ua, .inl (cJ, 308, .inr (.inl (fun z_ => lN (WA z_))))), (ub, .inl (cJ, 308, .inr (.inl (fun z_ => lN (X1 z_)))))] := hD
              obtain ⟨er, p103_0⟩ := hw
              have p103_0 : rv_103 = sp_la j lv mo := p103_0
              have er : r_103 = (nI rv_103) := er
              subst er
              subst p103_0
              refine lv_iload hx hb dX2_spread_106 (lv_at hl 0 rfl) ?_
              refine z_callSi (As := [.int (nI j), .int (nI (sp_la j lv mo)), .int (nI ct)]) (rest := [.ref ub]) (wr := [(u0, .inr (2, [.ref u1, .ref u2, .int (nI rm), .ref u3, .ref ua, .ref ub])), (u1, .inl (cI, 2, .inl (fun z_ => nI (BR z_)))), (u2, .inl (cI, 2, .inl (fun z_ => nI (RP z_)))), (u3, .inl (cI, 16, .inl (fun z_ => nI (CW z_)))), (ua, .inl (cJ, 308, .inr (.inl (fun z_ => lN (WA z_))))), (ub, .inl (cJ, 308, .inr (.inl (fun z_ => lN (X1 z_)))))]) ⟨hx, hb, hml, hown, hts⟩ (c_X2_cell l dC dI cI cJ H.size j (sp_la j lv mo) ct ) (va_cwS 3 hts gX2_spread_X2_cell rfl rfl rfl (by decide +kernel) ⟨Nat.le_of_ble_eq_true rfl, Nat.le_of_ble_eq_true rfl⟩) hA hK hP hD hS [] [0, 1, 2, 3, 4, 5] [0, 1, 2, 3, 4, 5] rfl rfl (by decide) (by decide) (by decide) nwA_ok hN hl.1 (Nat.le_of_ble_eq_true rfl) ⟨Nat.le_refl _, Nat.le_refl _⟩ rfl rfl dX2_spread_108 (fun (u : Unit) => [(u0, .inr (2, [.ref u1, .ref u2, .int (nI rm), .ref u3, .ref ua, .ref ub])), (u1, .inl (cI, 2, .inl (fun z_ => nI (BR z_)))), (u2, .inl (cI, 2, .inl (fun z_ => nI (RP z_)))), (u3, .inl (cI, 16, .inl (fun z_ => nI (CW z_)))), (ua, .inl (cJ, 308, .inr (.inl (fun z_ => lN (WA z_))))), (ub, .inl (cJ, 308, .inr (.inl (fun z_ => lN (X1 z_)))))]) (fun u => rfl) (by decide) (fun r_108 u H locs hw hP hD hS => ?_)
              have hP : va_P (dC, dI) vwCl [(u0, .inr (2, [.ref u1, .ref u2, .int (nI rm), .ref u3, .ref ua, .ref ub])), (u1, .inl (cI, 2, .inl (fun z_ => nI (BR z_)))), (u2, .inl (cI, 2, .inl (fun z_ => nI (RP z_)))), (u3, .inl (cI, 16, .inl (fun z_ => nI (CW z_)))), (ua, .inl (cJ, 308, .inr (.inl (fun z_ => lN (WA z_))))), (ub, .inl (cJ, 308, .inr (.inl (fun z_ => lN (X1 z_)))))] H := hP
              have hD : va_D A [(u0, .inr (2, [.ref u1, .ref u2, .int (nI rm), .ref u3, .ref ua, .ref ub])), (u1, .inl (cI, 2, .inl (fun z_ => nI (BR z_)))), (u2, .inl (cI, 2, .inl (fun z_ => nI (RP z_)))), (u3, .inl (cI, 16, .inl (fun z_ => nI (CW z_)))), (ua, .inl (cJ, 308, .inr (.inl (fun z_ => lN (WA z_))))), (ub, .inl (cJ, 308, .inr (.inl (fun z_ => lN (X1 z_)))))] := hD
              have er := hw
              have er : r_108 = (nI (sp_ix j (sp_la j lv mo) ct)) := er
              subst er
              have hix : ((sp_ix j (sp_la j lv mo) ct)) < 308 := by unfold sp_ix; omega
              refine lv_dup2_11 hx hb dX2_spread_111 rfl rfl ?_
              refine z_lald (v := (lN (X1 (sp_ix j (sp_la j lv mo) ct)))) hx hb hK hP 5 1 rfl rfl (sp_ix j (sp_la j lv mo) ct) rfl (by omega) rfl dX2_spread_112 ?_
              refine lv_lload hx hb dX2_spread_113 (lv_at hl 3 rfl) ?_
              refine z_ladd (v := (lN ((X1 (sp_ix j (sp_la j lv mo) ct)) + (wt * (CW ((x * 4) + j)))))) hx hb dX2_spread_115 (lN_add _ _) ?_
              refine z_last hx hb hK hP hD hS 5 1 rfl rfl (sp_ix j (sp_la j lv mo) ct) rfl (by omega) (upd_L X1 (sp_ix j (sp_la j lv mo) ct) ((X1 (sp_ix j (sp_la j lv mo) ct)) + (wt * (CW ((x * 4) + j))))) [(u0, .inr (2, [.ref u1, .ref u2, .int (nI rm), .ref u3, .ref ua, .ref ub])), (u1, .inl (cI, 2, .inl (fun z_ => nI (BR z_)))), (u2, .inl (cI, 2, .inl (fun z_ => nI (RP z_)))), (u3, .inl (cI, 16, .inl (fun z_ => nI (CW z_)))), (ua, .inl (cJ, 308, .inr (.inl (fun z_ => lN (WA z_))))), (ub, .inl (cJ, 308, .inr (.inl (fun z_ => lN ((up X1 (sp_ix j (sp_la j lv mo) ct) ((X1 (sp_ix j (sp_la j lv mo) ct)) + (wt * (CW ((x * 4) + j))))) z_)))))] rfl dX2_spread_116 (fun H locs hP hD hS => ?_)
              refine lv_iinc (v := (nI (j + 1))) (lv' := [(11, .int (nI (j + 1))), (15, .int (nI ct)), (9, .long (lN (g1 + ((wt * (CW ((x * 4) + j))) * (sp_gv j lv))))), (14, .int (nI (sp_gv j lv))), (12, .long (lN (wt * (CW ((x * 4) + j))))), (0, .ref u0), (1, .int (nI x)), (2, .int (nI lv)), (3, .int (nI ct)), (4, .int (nI mo)), (5, .int (nI mg)), (6, .int (nI cn)), (7, .long (lN wt))]) hx hb dX2_spread_117 hl (k := 12) rfl (z_incN j 1 (by decide)) (by decide) rfl (fun ls hl => ?_)
              refine lv_goto (tgt := 28) hx hb dX2_spread_120 (by decide) ?_
              have o_i1 : (j + 1) ≤ 4 := by first | assumption | omega
              have o_i2 : ∀ φ, sp_S (up X1 (sp_ix j (sp_la j lv mo) ct) ((X1 (sp_ix j (sp_la j lv mo) ct)) + (wt * (CW ((x * 4) + j))))) φ = sp_S XB φ + wt * fb_sm (sp_Pq CW mo mg cn φ x lv ct) (j + 1) := by intro φ; (first | (rw [sp_S_up hix φ, i2 φ, fb_sm_succ, Nat.mul_add, ← Nat.add_assoc]; have hp : sp_Pq CW mo mg cn φ x lv ct j = CW (x * 4 + j) * φ (sp_ix j (sp_la j lv mo) (ct + cn * sp_gv j lv)) := (by unfold sp_Pq; rw [if_pos (by omega)]); rw [hp, hct, Nat.mul_assoc]) | (rw [i2 φ, fb_sm_succ, Nat.mul_add, ← Nat.add_assoc]; have hp : sp_Pq CW mo mg cn φ x lv ct j = 0 := (by unfold sp_Pq; rw [if_neg (by omega)]); rw [hp, Nat.mul_zero]; rfl))
              have o_i3 : (g1 + ((wt * (CW ((x * 4) + j))) * (sp_gv j lv))) = wt * fb_sm (sp_gq CW x lv) (j + 1) := by rw [fb_sm_succ, Nat.mul_add, ← i3, Nat.mul_assoc]; rfl
              have o_i4 : sp_zr (up X1 (sp_ix j (sp_la j lv mo) ct) ((X1 (sp_ix j (sp_la j lv mo) ct)) + (wt * (CW ((x * 4) + j))))) mo mg := by first | exact i4 | exact sp_zr_up i4 hla (by omega) bm bg
              have o_mu : (4 - (j + 1)) < n28 := by omega
              exact ih28 (j + 1) (up X1 (sp_ix j (sp_la j lv mo) ct) ((X1 (sp_ix j (sp_la j lv mo) ct)) + (wt * (CW ((x * 4) + j))))) (g1 + ((wt * (CW ((x * 4) + j))) * (sp_gv j lv))) o_mu o_i1 o_i2 o_i3 o_i4 H locs hP hD hS ls (lv_sub hl [5, 6, 7, 8, 9, 10, 11, 12, 2, 0] rfl)
          · skip
            have hct : ct + cn * sp_gv j lv = ct + sp_gv j lv := by rw [show cn = 1 by omega, Nat.one_mul]
            refine lv_iload_n hx hb dX2_spread_75 rfl (lv_at hl 6 rfl) ?_
            refine lv_iload hx hb dX2_spread_76 (lv_at hl 1 rfl) ?_
            refine z_iadd (v := (nI (ct + (sp_gv j lv)))) hx hb dX2_spread_78 (nI_add _ _) ?_
            refine lv_goto (tgt := 83) hx hb dX2_spread_79 (by decide) ?_
            have hla := sp_la_le (x := j) (mo := mo) bl
            refine lv_istore (lv' := [(15, .int (nI (ct + (sp_gv j lv)))), (9, .long (lN (g1 + ((wt * (CW ((x * 4) + j))) * (sp_gv j lv))))), (14, .int (nI (sp_gv j lv))), (12, .long (lN (wt * (CW ((x * 4) + j))))), (0, .ref u0), (1, .int (nI x)), (2, .int (nI lv)), (3, .int (nI ct)), (4, .int (nI mo)), (5, .int (nI mg)), (6, .int (nI cn)), (7, .long (lN wt)), (11, .int (nI j))]) hx hb dX2_spread_83 hl (by decide) rfl (fun ls hl => ?_)
            refine lv_iload hx hb dX2_spread_85 (lv_at hl 0 rfl) ?_
            refine lv_iload hx hb dX2_spread_87 (lv_at hl 9 rfl) ?_
            refine z_icmp_gt (tgt := 117) hx hb dX2_spread_89 (by decide) (zcn_lt (a := mg) (b := ct + (sp_gv j lv)) rfl rfl (by omega)) (fun c_89 => ?_) (fun c_89 => ?_)
            · skip
              refine lv_iinc (v := (nI (j + 1))) (lv' := [(11, .int (nI (j + 1))), (15, .int (nI (ct + (sp_gv j lv)))), (9, .long (lN (g1 + ((wt * (CW ((x * 4) + j))) * (sp_gv j lv))))), (14, .int (nI (sp_gv j lv))), (12, .long (lN (wt * (CW ((x * 4) + j))))), (0, .ref u0), (1, .int (nI x)), (2, .int (nI lv)), (3, .int (nI ct)), (4, .int (nI mo)), (5, .int (nI mg)), (6, .int (nI cn)), (7, .long (lN wt))]) hx hb dX2_spread_117 hl (k := 12) rfl (z_incN j 1 (by decide)) (by decide) rfl (fun ls hl => ?_)
              refine lv_goto (tgt := 28) hx hb dX2_spread_120 (by decide) ?_
              have o_i1 : (j + 1) ≤ 4 := by first | assumption | omega
              have o_i2 : ∀ φ, sp_S X1 φ = sp_S XB φ + wt * fb_sm (sp_Pq CW mo mg cn φ x lv ct) (j + 1) := by intro φ; (first | (rw [sp_S_up hix φ, i2 φ, fb_sm_succ, Nat.mul_add, ← Nat.add_assoc]; have hp : sp_Pq CW mo mg cn φ x lv ct j = CW (x * 4 + j) * φ (sp_ix j (sp_la j lv mo) (ct + cn * sp_gv j lv)) := (by unfold sp_Pq; rw [if_pos (by omega)]); rw [hp, hct, Nat.mul_assoc]) | (rw [i2 φ, fb_sm_succ, Nat.mul_add, ← Nat.add_assoc]; have hp : sp_Pq CW mo mg cn φ x lv ct j = 0 := (by unfold sp_Pq; rw [if_neg (by omega)]); rw [hp, Nat.mul_zero]; rfl))
              have o_i3 : (g1 + ((wt * (CW ((x * 4) + j))) * (sp_gv j lv))) = wt * fb_sm (sp_gq CW x lv) (j + 1) := by rw [fb_sm_succ, Nat.mul_add, ← i3, Nat.mul_assoc]; rfl
              have o_i4 : sp_zr X1 mo mg := by first | exact i4 | exact sp_zr_up i4 hla (by omega) bm bg
              have o_mu : (4 - (j + 1)) < n28 := by omega
              exact ih28 (j + 1) X1 (g1 + ((wt * (CW ((x * 4) + j))) * (sp_gv j lv))) o_mu o_i1 o_i2 o_i3 o_i4 H locs hP hD hS ls (lv_sub hl [5, 6, 7, 8, 9, 10, 11, 12, 2, 0] rfl)
            · skip
              refine lv_aload_n hx hb dX2_spread_92 rfl (lv_at hl 4 rfl) ?_
              refine z_get (D := (dC, dI)) (ci := 2) (v := .ref ub) (C := RX2) (T := TX2) (N := 6) hx hb hts uX2 hown hK hP 0 rfl rfl 5 (by decide) w25 rfl rfl dX2_spread_93 ?_
              refine lv_iload hx hb dX2_spread_96 (lv_at hl 12 rfl) ?_
              refine lv_iload hx hb dX2_spread_98 (lv_at hl 12 rfl) ?_
              refine lv_iload_n hx hb dX2_spread_100 rfl (lv_at hl 6 rfl) ?_
              refine lv_iload hx hb dX2_spread_101 (lv_at hl 8 rfl) ?_
              refine z_callSi (As := [.int (nI j), .int (nI lv), .int (nI mo)]) (rest := [.int (nI j), .ref ub]) (wr := [(u0, .inr (2, [.ref u1, .ref u2, .int (nI rm), .ref u3, .ref ua, .ref ub])), (u1, .inl (cI, 2, .inl (fun z_ => nI (BR z_)))), (u2, .inl (cI, 2, .inl (fun z_ => nI (RP z_)))), (u3, .inl (cI, 16, .inl (fun z_ => nI (CW z_)))), (ua, .inl (cJ, 308, .inr (.inl (fun z_ => lN (WA z_))))), (ub, .inl (cJ, 308, .inr (.inl (fun z_ => lN (X1 z_)))))]) ⟨hx, hb, hml, hown, hts⟩ (c_X2_levelAfter l dC dI cI cJ H.size j lv mo (by first | assumption | omega) (by first | assumption | omega) (by first | assumption | omega)) (va_cwS 3 hts gX2_spread_X2_levelAfter rfl rfl rfl (by decide +kernel) ⟨Nat.le_of_ble_eq_true rfl, Nat.le_of_ble_eq_true rfl⟩) hA hK hP hD hS [] [0, 1, 2, 3, 4, 5] [0, 1, 2, 3, 4, 5] rfl rfl (by decide) (by decide) (by decide) nwA_ok hN hl.1 (Nat.le_of_ble_eq_true rfl) ⟨Nat.le_refl _, Nat.le_refl _⟩ rfl rfl dX2_spread_103 (fun (u : (Nat)) => [(u0, .inr (2, [.ref u1, .ref u2, .int (nI rm), .ref u3, .ref ua, .ref ub])), (u1, .inl (cI, 2, .inl (fun z_ => nI (BR z_)))), (u2, .inl (cI, 2, .inl (fun z_ => nI (RP z_)))), (u3, .inl (cI, 16, .inl (fun z_ => nI (CW z_)))), (ua, .inl (cJ, 308, .inr (.inl (fun z_ => lN (WA z_))))), (ub, .inl (cJ, 308, .inr (.inl (fun z_ => lN (X1 z_)))))]) (fun u => rfl) (by decide) (fun r_103 u H locs hw hP hD hS => ?_)
              obtain ⟨rv_103, eu⟩ : ∃ z, z = u := ⟨_, rfl⟩
              subst eu
              have hP : va_P (dC, dI) vwCl [(u0, .inr (2, [.ref u1, .ref u2, .int (nI rm), .ref u3, .ref ua, .ref ub])), (u1, .inl (cI, 2, .inl (fun z_ => nI (BR z_)))), (u2, .inl (cI, 2, .inl (fun z_ => nI (RP z_)))), (u3, .inl (cI, 16, .inl (fun z_ => nI (CW z_)))), (ua, .inl (cJ, 308, .inr (.inl (fun z_ => lN (WA z_))))), (ub, .inl (cJ, 308, .inr (.inl (fun z_ => lN (X1 z_)))))] H := hP
              have hD : va_D A [(u0, .inr (2, [.ref u1, .ref u2, .int (nI rm), .ref u3, .ref ua, .ref ub])), (u1, .inl (cI, 2, .inl (fun z_ => nI (BR z_)))), (u2, .inl (cI, 2, .inl (fun z_ => nI (RP z_)))), (u3, .inl (cI, 16, .inl (fun z_ => nI (CW z_)))), (ua, .inl (cJ, 308, .inr (.inl (fun z_ => lN (WA z_))))), (ub, .inl (cJ, 308, .inr (.inl (fun z_ => lN (X1 z_)))))] := hD
              obtain ⟨er, p103_0⟩ := hw
              have p103_0 : rv_103 = sp_la j lv mo := p103_0
              have er : r_103 = (nI rv_103) := er
              subst er
              subst p103_0
              refine lv_iload hx hb dX2_spread_106 (lv_at hl 0 rfl) ?_
              refine z_callSi (As := [.int (nI j), .int (nI (sp_la j lv mo)), .int (nI (ct + (sp_gv j lv)))]) (rest := [.ref ub]) (wr := [(u0, .inr (2, [.ref u1, .ref u2, .int (nI rm), .ref u3, .ref ua, .ref ub])), (u1, .inl (cI, 2, .inl (fun z_ => nI (BR z_)))), (u2, .inl (cI, 2, .inl (fun z_ => nI (RP z_)))), (u3, .inl (cI, 16, .inl (fun z_ => nI (CW z_)))), (ua, .inl (cJ, 308, .inr (.inl (fun z_ => lN (WA z_))))), (ub, .inl (cJ, 308, .inr (.inl (fun z_ => lN (X1 z_)))))]) ⟨hx, hb, hml, hown, hts⟩ (c_X2_cell l dC dI cI cJ H.size j (sp_la j lv mo) (ct + (sp_gv j lv)) ) (va_cwS 3 hts gX2_spread_X2_cell rfl rfl rfl (by decide +kernel) ⟨Nat.le_of_ble_eq_true rfl, Nat.le_of_ble_eq_true rfl⟩) hA hK hP hD hS [] [0, 1, 2, 3, 4, 5] [0, 1, 2, 3, 4, 5] rfl rfl (by decide) (by decide) (by decide) nwA_ok hN hl.1 (Nat.le_of_ble_eq_true rfl) ⟨Nat.le_refl _, Nat.le_refl _⟩ rfl rfl dX2_spread_108 (fun (u : Unit) => [(u0, .inr (2, [.ref u1, .ref u2, .int (nI rm), .ref u3, .ref ua, .ref ub])), (u1, .inl (cI, 2, .inl (fun z_ => nI (BR z_)))), (u2, .inl (cI, 2, .inl (fun z_ => nI (RP z_)))), (u3, .inl (cI, 16, .inl (fun z_ => nI (CW z_)))), (ua, .inl (cJ, 308, .inr (.inl (fun z_ => lN (WA z_))))), (ub, .inl (cJ, 308, .inr (.inl (fun z_ => lN (X1 z_)))))]) (fun u => rfl) (by decide) (fun r_108 u H locs hw hP hD hS => ?_)
              have hP : va_P (dC, dI) vwCl [(u0, .inr (2, [.ref u1, .ref u2, .int (nI rm), .ref u3, .ref ua, .ref ub])), (u1, .inl (cI, 2, .inl (fun z_ => nI (BR z_)))), (u2, .inl (cI, 2, .inl (fun z_ => nI (RP z_)))), (u3, .inl (cI, 16, .inl (fun z_ => nI (CW z_)))), (ua, .inl (cJ, 308, .inr (.inl (fun z_ => lN (WA z_))))), (ub, .inl (cJ, 308, .inr (.inl (fun z_ => lN (X1 z_)))))] H := hP
              have hD : va_D A [(u0, .inr (2, [.ref u1, .ref u2, .int (nI rm), .ref u3, .ref ua, .ref ub])), (u1, .inl (cI, 2, .inl (fun z_ => nI (BR z_)))), (u2, .inl (cI, 2, .inl (fun z_ => nI (RP z_)))), (u3, .inl (cI, 16, .inl (fun z_ => nI (CW z_)))), (ua, .inl (cJ, 308, .inr (.inl (fun z_ => lN (WA z_))))), (ub, .inl (cJ, 308, .inr (.inl (fun z_ => lN (X1 z_)))))] := hD
              have er := hw
              have er : r_108 = (nI (sp_ix j (sp_la j lv mo) (ct + (sp_gv j lv)))) := er
              subst er
              have hix : ((sp_ix j (sp_la j lv mo) (ct + (sp_gv j lv)))) < 308 := by unfold sp_ix; omega
              refine lv_dup2_11 hx hb dX2_spread_111 rfl rfl ?_
              refine z_lald (v := (lN (X1 (sp_ix j (sp_la j lv mo) (ct + (sp_gv j lv)))))) hx hb hK hP 5 1 rfl rfl (sp_ix j (sp_la j lv mo) (ct + (sp_gv j lv))) rfl (by omega) rfl dX2_spread_112 ?_
              refine lv_lload hx hb dX2_spread_113 (lv_at hl 3 rfl) ?_
              refine z_ladd (v := (lN ((X1 (sp_ix j (sp_la j lv mo) (ct + (sp_gv j lv)))) + (wt * (CW ((x * 4) + j)))))) hx hb dX2_spread_115 (lN_add _ _) ?_
              refine z_last hx hb hK hP hD hS 5 1 rfl rfl (sp_ix j (sp_la j lv mo) (ct + (sp_gv j lv))) rfl (by omega) (upd_L X1 (sp_ix j (sp_la j lv mo) (ct + (sp_gv j lv))) ((X1 (sp_ix j (sp_la j lv mo) (ct + (sp_gv j lv)))) + (wt * (CW ((x * 4) + j))))) [(u0, .inr (2, [.ref u1, .ref u2, .int (nI rm), .ref u3, .ref ua, .ref ub])), (u1, .inl (cI, 2, .inl (fun z_ => nI (BR z_)))), (u2, .inl (cI, 2, .inl (fun z_ => nI (RP z_)))), (u3, .inl (cI, 16, .inl (fun z_ => nI (CW z_)))), (ua, .inl (cJ, 308, .inr (.inl (fun z_ => lN (WA z_))))), (ub, .inl (cJ, 308, .inr (.inl (fun z_ => lN ((up X1 (sp_ix j (sp_la j lv mo) (ct + (sp_gv j lv))) ((X1 (sp_ix j (sp_la j lv mo) (ct + (sp_gv j lv)))) + (wt * (CW ((x * 4) + j))))) z_)))))] rfl dX2_spread_116 (fun H locs hP hD hS => ?_)
              refine lv_iinc (v := (nI (j + 1))) (lv' := [(11, .int (nI (j + 1))), (15, .int (nI (ct + (sp_gv j lv)))), (9, .long (lN (g1 + ((wt * (CW ((x * 4) + j))) * (sp_gv j lv))))), (14, .int (nI (sp_gv j lv))), (12, .long (lN (wt * (CW ((x * 4) + j))))), (0, .ref u0), (1, .int (nI x)), (2, .int (nI lv)), (3, .int (nI ct)), (4, .int (nI mo)), (5, .int (nI mg)), (6, .int (nI cn)), (7, .long (lN wt))]) hx hb dX2_spread_117 hl (k := 12) rfl (z_incN j 1 (by decide)) (by decide) rfl (fun ls hl => ?_)
              refine lv_goto (tgt := 28) hx hb dX2_spread_120 (by decide) ?_
              have o_i1 : (j + 1) ≤ 4 := by first | assumption | omega
              have o_i2 : ∀ φ, sp_S (up X1 (sp_ix j (sp_la j lv mo) (ct + (sp_gv j lv))) ((X1 (sp_ix j (sp_la j lv mo) (ct + (sp_gv j lv)))) + (wt * (CW ((x * 4) + j))))) φ = sp_S XB φ + wt * fb_sm (sp_Pq CW mo mg cn φ x lv ct) (j + 1) := by intro φ; (first | (rw [sp_S_up hix φ, i2 φ, fb_sm_succ, Nat.mul_add, ← Nat.add_assoc]; have hp : sp_Pq CW mo mg cn φ x lv ct j = CW (x * 4 + j) * φ (sp_ix j (sp_la j lv mo) (ct + cn * sp_gv j lv)) := (by unfold sp_Pq; rw [if_pos (by omega)]); rw [hp, hct, Nat.mul_assoc]) | (rw [i2 φ, fb_sm_succ, Nat.mul_add, ← Nat.add_assoc]; have hp : sp_Pq CW mo mg cn φ x lv ct j = 0 := (by unfold sp_Pq; rw [if_neg (by omega)]); rw [hp, Nat.mul_zero]; rfl))
              have o_i3 : (g1 + ((wt * (CW ((x * 4) + j))) * (sp_gv j lv))) = wt * fb_sm (sp_gq CW x lv) (j + 1) := by rw [fb_sm_succ, Nat.mul_add, ← i3, Nat.mul_assoc]; rfl
              have o_i4 : sp_zr (up X1 (sp_ix j (sp_la j lv mo) (ct + (sp_gv j lv))) ((X1 (sp_ix j (sp_la j lv mo) (ct + (sp_gv j lv)))) + (wt * (CW ((x * 4) + j))))) mo mg := by first | exact i4 | exact sp_zr_up i4 hla (by omega) bm bg
              have o_mu : (4 - (j + 1)) < n28 := by omega
              exact ih28 (j + 1) (up X1 (sp_ix j (sp_la j lv mo) (ct + (sp_gv j lv))) ((X1 (sp_ix j (sp_la j lv mo) (ct + (sp_gv j lv)))) + (wt * (CW ((x * 4) + j))))) (g1 + ((wt * (CW ((x * 4) + j))) * (sp_gv j lv))) o_mu o_i1 o_i2 o_i3 o_i4 H locs hP hD hS ls (lv_sub hl [5, 6, 7, 8, 9, 10, 11, 12, 2, 0] rfl)
    have o_i1 : 0 ≤ 4 := by first | assumption | omega
    have o_i2 : ∀ φ, sp_S XB φ = sp_S XB φ + wt * fb_sm (sp_Pq CW mo mg cn φ x lv ct) 0 := by intro φ; rfl
    have o_i3 : 0 = wt * fb_sm (sp_gq CW x lv) 0 := by rfl
    have o_i4 : sp_zr XB mo mg := by exact hz
    exact L28 ((4 - 0) + 1) 0 XB 0 (Nat.lt_succ_self _) o_i1 o_i2 o_i3 o_i4 H locs hP hD hS ls (lv_sub hl [3, 4, 5, 6, 7, 8, 9, 2, 1, 0] rfl)
  · skip
    have hw0 : WA (sp_ix x lv ct) = 0 := by rw [← ewt]; omega
    refine lv_lconst (v := lN 0) hx hb dX2_spread_20 (by decide) ?_
    have q_0 : 0 = WA (sp_ix x lv ct) * sp_gf CW (sp_ix x lv ct) := by rw [hw0, Nat.zero_mul]
    have q_1 : ∀ φ, sp_S XB φ = sp_S XB φ + WA (sp_ix x lv ct) * sp_Pf CW mo mg cn φ (sp_ix x lv ct) := by intro φ; rw [hw0, Nat.zero_mul]; rfl
    have q_2 : sp_zr XB mo mg := by exact hz
    exact hRET _ ls H locs ((lN 0)) (0, XB) dX2_spread_21 ⟨rfl, q_0, q_1, q_2⟩ hP hD hS

set_option maxHeartbeats 4000000 in
set_option maxRecDepth 100000 in
theorem c_X2_runTick (l : Launch) (dC : Nat → ClassId) (dI : Nat → Nat → Nat) (cI cJ : ClassId) (sz : Nat) (u0 : Nat) (u1 : Nat) (u2 : Nat) (u3 : Nat) (ua : Nat) (ub : Nat) (BR : Nat → Nat) (RP : Nat → Nat) (CW : Nat → Nat) (WA : Nat → Nat) (XB : Nat → Nat) (rm : Nat) (mo : Nat) (mg : Nat) (cn : Nat) (bCW : ∀ i, i < 16 → CW i ≤ 16) (bm : mo ≤ 6) (bg : mg ≤ 10) (bn : cn ≤ 1) (hz : sp_zr WA mo mg) (hww : ∀ k, k < 308 → WA k < 1152921504606846976) : Met l yX2_runTick wsX2_runTick (zR 3 0 0 82) (va_Pc [.ref u0, .int (nI mo), .int (nI mg), .int (nI cn)] (zP (dC, dI) [(cI, .int), (cJ, .long)] [(u0, .inr (2, [.ref u1, .ref u2, .int (nI rm), .ref u3, .ref ua, .ref ub])), (u1, .inl (cI, 2, .inl (fun z_ => nI (BR z_)))), (u2, .inl (cI, 2, .inl (fun z_ => nI (RP z_)))), (u3, .inl (cI, 16, .inl (fun z_ => nI (CW z_)))), (ua, .inl (cJ, 308, .inr (.inl (fun z_ => lN (WA z_))))), (ub, .inl (cJ, 308, .inr (.inl (fun z_ => lN (XB z_)))))] sz nwA)) (va_Ql (fun (r : Int64) (u : (Nat) × (Nat → Nat)) => r = (lN u.1) ∧ (u.1 = sp_S WA (sp_gf CW)) ∧ (∀ φ, sp_S u.2 φ = sp_S WA (sp_Pf CW mo mg cn φ)) ∧ (sp_zr u.2 mo mg)) (zB (dC, dI) (fun (u : (Nat) × (Nat → Nat)) => [(u0, .inr (2, [.ref u1, .ref u2, .int (nI rm), .ref u3, .ref ub, .ref ua])), (u1, .inl (cI, 2, .inl (fun z_ => nI (BR z_)))), (u2, .inl (cI, 2, .inl (fun z_ => nI (RP z_)))), (u3, .inl (cI, 16, .inl (fun z_ => nI (CW z_)))), (ua, .inl (cJ, 308, .inr (.inl (fun z_ => lN (WA z_))))), (ub, .inl (cJ, 308, .inr (.inl (fun z_ => lN (u.2 z_)))))]) (va_A [(u0, .inr (2, [.ref u1, .ref u2, .int (nI rm), .ref u3, .ref ua, .ref ub])), (u1, .inl (cI, 2, .inl (fun z_ => nI (BR z_)))), (u2, .inl (cI, 2, .inl (fun z_ => nI (RP z_)))), (u3, .inl (cI, 16, .inl (fun z_ => nI (CW z_)))), (ua, .inl (cJ, 308, .inr (.inl (fun z_ => lN (WA z_))))), (ub, .inl (cJ, 308, .inr (.inl (fun z_ => lN (XB z_)))))] sz)) (va_A [(u0, .inr (2, [.ref u1, .ref u2, .int (nI rm), .ref u3, .ref ua, .ref ub])), (u1, .inl (cI, 2, .inl (fun z_ => nI (BR z_)))), (u2, .inl (cI, 2, .inl (fun z_ => nI (RP z_)))), (u3, .inl (cI, 16, .inl (fun z_ => nI (CW z_)))), (ua, .inl (cJ, 308, .inr (.inl (fun z_ => lN (WA z_))))), (ub, .inl (cJ, 308, .inr (.inl (fun z_ => lN (XB z_)))))] sz)) 0 0 (va_A [(u0, .inr (2, [.ref u1, .ref u2, .int (nI rm), .ref u3, .ref ua, .ref ub])), (u1, .inl (cI, 2, .inl (fun z_ => nI (BR z_)))), (u2, .inl (cI, 2, .inl (fun z_ => nI (RP z_)))), (u3, .inl (cI, 16, .inl (fun z_ => nI (CW z_)))), (ua, .inl (cJ, 308, .inr (.inl (fun z_ => lN (WA z_))))), (ub, .inl (cJ, 308, .inr (.inl (fun z_ => lN (XB z_)))))] sz) := by
  refine z_met_l (cc := cX2_runTick) (maxL := 9) (by decide) rfl (Nat.le_of_ble_eq_true rfl) ?_
  intro p e s m args below meth c Q A ls hx hb hml hown hts hin hA hK hP hD hN hl hRET
  have hown : s.vm.findClass RX2 = some m.cls := hown
  obtain ⟨H, eH⟩ : ∃ H : Heap, H = s.heap := ⟨_, rfl⟩
  rw [← eH] at hP
  obtain ⟨locs, eL⟩ : ∃ z : List Loc, z = [] := ⟨_, rfl⟩
  rw [← eH, ← eL]
  have hS : va_S A s.heap H locs := by rw [eH, eL]; exact va_S.rf
  have hl : lv_has ls 9 [(0, .ref u0), (1, .int (nI mo)), (2, .int (nI mg)), (3, .int (nI cn))] := hl
  have w25 := hts (.fieldLink RX2 25 "PullCards$Pair" "nextWeights" "[J") (by decide +kernel)
  have uX2 : ∀ w ∈ wsX20, w ∈ wsX2_runTick := by decide +kernel
  have w21 := hts (.fieldLink RX2 21 "PullCards$Pair" "weights" "[J") (by decide +kernel)
  refine lv_aload_n hx hb dX2_runTick_0 rfl (lv_at hl 0 rfl) ?_
  refine z_get (D := (dC, dI)) (ci := 2) (v := .ref ub) (C := RX2) (T := TX2) (N := 6) hx hb hts uX2 hown hK hP 0 rfl rfl 5 (by decide) w25 rfl rfl dX2_runTick_1 ?_
  refine lv_lconst (v := lN 0) hx hb dX2_runTick_4 (by decide) ?_
  refine z_callSv (As := [.ref ub, .long (lN 0)]) (rest := []) (wr := [(u0, .inr (2, [.ref u1, .ref u2, .int (nI rm), .ref u3, .ref ua, .ref ub])), (u1, .inl (cI, 2, .inl (fun z_ => nI (BR z_)))), (u2, .inl (cI, 2, .inl (fun z_ => nI (RP z_)))), (u3, .inl (cI, 16, .inl (fun z_ => nI (CW z_)))), (ua, .inl (cJ, 308, .inr (.inl (fun z_ => lN (WA z_)))))]) ⟨hx, hb, hml, hown, hts⟩ (c_J7_fill_d0a16 l dC dI cI cJ H.size ub 0 XB ) (va_cwS 2 hts gX2_runTick_J7_fill_d0a16 rfl rfl rfl (by decide +kernel) ⟨Nat.le_of_ble_eq_true rfl, Nat.le_of_ble_eq_true rfl⟩) hA hK hP hD hS [5] [0, 1, 2, 3, 4] [0, 1, 2, 3, 4, 5] rfl rfl (by decide) (by decide) (by decide) nwA_ok hN hl.1 (Nat.le_of_ble_eq_true rfl) ⟨Nat.le_refl _, Nat.le_refl _⟩ rfl rfl dX2_runTick_5 (fun (u : (Nat → Nat)) => [(u0, .inr (2, [.ref u1, .ref u2, .int (nI rm), .ref u3, .ref ua, .ref ub])), (u1, .inl (cI, 2, .inl (fun z_ => nI (BR z_)))), (u2, .inl (cI, 2, .inl (fun z_ => nI (RP z_)))), (u3, .inl (cI, 16, .inl (fun z_ => nI (CW z_)))), (ua, .inl (cJ, 308, .inr (.inl (fun z_ => lN (WA z_))))), (ub, .inl (cJ, 308, .inr (.inl (fun z_ => lN (u z_)))))]) (fun u => rfl) (by decide) (fun u H locs hw hP hD hS => ?_)
  obtain ⟨X2_5, eu⟩ : ∃ z, z = u := ⟨_, rfl⟩
  subst eu
  have hP : va_P (dC, dI) vwCl [(u0, .inr (2, [.ref u1, .ref u2, .int (nI rm), .ref u3, .ref ua, .ref ub])), (u1, .inl (cI, 2, .inl (fun z_ => nI (BR z_)))), (u2, .inl (cI, 2, .inl (fun z_ => nI (RP z_)))), (u3, .inl (cI, 16, .inl (fun z_ => nI (CW z_)))), (ua, .inl (cJ, 308, .inr (.inl (fun z_ => lN (WA z_))))), (ub, .inl (cJ, 308, .inr (.inl (fun z_ => lN (X2_5 z_)))))] H := hP
  have hD : va_D A [(u0, .inr (2, [.ref u1, .ref u2, .int (nI rm), .ref u3, .ref ua, .ref ub])), (u1, .inl (cI, 2, .inl (fun z_ => nI (BR z_)))), (u2, .inl (cI, 2, .inl (fun z_ => nI (RP z_)))), (u3, .inl (cI, 16, .inl (fun z_ => nI (CW z_)))), (ua, .inl (cJ, 308, .inr (.inl (fun z_ => lN (WA z_))))), (ub, .inl (cJ, 308, .inr (.inl (fun z_ => lN (X2_5 z_)))))] := hD
  have p5_0 := hw
  have p5_0 : ∀ k, k < 308 → X2_5 k = 0 := p5_0
  refine lv_lconst (v := lN 0) hx hb dX2_runTick_8 (by decide) ?_
  refine lv_lstore (lv' := [(4, .long (lN 0)), (0, .ref u0), (1, .int (nI mo)), (2, .int (nI mg)), (3, .int (nI cn))]) hx hb dX2_runTick_9 hl (by decide) rfl (fun ls hl => ?_)
  refine lv_iconst (v := nI 0) hx hb dX2_runTick_11 (by decide) ?_
  refine lv_istore (lv' := [(6, .int (nI 0)), (4, .long (lN 0)), (0, .ref u0), (1, .int (nI mo)), (2, .int (nI mg)), (3, .int (nI cn))]) hx hb dX2_runTick_12 hl (by decide) rfl (fun ls hl => ?_)
  have L14 : ∀ (n14 : Nat) (x : Nat) (X1 : Nat → Nat) (g1 : Nat), (4 - x) < n14 → (x ≤ 4) → (∀ φ, sp_S X1 φ = fb_sm (fun k => WA k * sp_Pf CW mo mg cn φ k) (x * 77)) → (g1 = fb_sm (fun k => WA k * sp_gf CW k) (x * 77)) → (sp_zr X1 mo mg) → ∀ (H : Heap) (locs : List Loc), va_P (dC, dI) vwCl [(u0, .inr (2, [.ref u1, .ref u2, .int (nI rm), .ref u3, .ref ua, .ref ub])), (u1, .inl (cI, 2, .inl (fun z_ => nI (BR z_)))), (u2, .inl (cI, 2, .inl (fun z_ => nI (RP z_)))), (u3, .inl (cI, 16, .inl (fun z_ => nI (CW z_)))), (ua, .inl (cJ, 308, .inr (.inl (fun z_ => lN (WA z_))))), (ub, .inl (cJ, 308, .inr (.inl (fun z_ => lN (X1 z_)))))] H → va_D A [(u0, .inr (2, [.ref u1, .ref u2, .int (nI rm), .ref u3, .ref ua, .ref ub])), (u1, .inl (cI, 2, .inl (fun z_ => nI (BR z_)))), (u2, .inl (cI, 2, .inl (fun z_ => nI (RP z_)))), (u3, .inl (cI, 16, .inl (fun z_ => nI (CW z_)))), (ua, .inl (cJ, 308, .inr (.inl (fun z_ => lN (WA z_))))), (ub, .inl (cJ, 308, .inr (.inl (fun z_ => lN (X1 z_)))))] → va_S A s.heap H locs → ∀ (ls : Array Slot), lv_has ls 9 [(0, .ref u0), (1, .int (nI mo)), (2, .int (nI mg)), (3, .int (nI cn)), (4, .long (lN g1)), (6, .int (nI x))] → W p l e (zR 3 0 0 82) s m args below meth c H locs 0 0 Q (F0 m 14 ls []) := by
    intro n14
    induction n14 with
    | zero => intro x X1 g1 hn; exact absurd hn (Nat.not_lt_zero _)
    | succ n14 ih =>
      intro x X1 g1 hn i1 i2 i3 i4 H locs hP hD hS ls hl
      have ih14 := ih
      have hn14 := hn
      clear ih hn
      refine lv_iload hx hb dX2_runTick_14 (lv_at hl 5 rfl) ?_
      refine lv_iconst (v := nI 4) hx hb dX2_runTick_16 (by decide) ?_
      refine z_icmp_ge (tgt := 74) hx hb dX2_runTick_17 (by decide) (zcn_le (a := 4) (b := x) rfl rfl (by omega)) (fun c_17 => ?_) (fun c_17 => ?_)
      · skip
        refine lv_aload_n hx hb dX2_runTick_74 rfl (lv_at hl 0 rfl) ?_
        refine z_get (D := (dC, dI)) (ci := 2) (v := .ref ua) (C := RX2) (T := TX2) (N := 6) hx hb hts uX2 hown hK hP 0 rfl rfl 4 (by decide) w21 rfl rfl dX2_runTick_75 ?_
        refine lv_astore (lv' := [(6, .ref ua), (0, .ref u0), (1, .int (nI mo)), (2, .int (nI mg)), (3, .int (nI cn)), (4, .long (lN g1))]) hx hb dX2_runTick_78 hl (by decide) rfl (fun ls hl => ?_)
        refine lv_aload_n hx hb dX2_runTick_80 rfl (lv_at hl 1 rfl) ?_
        refine lv_aload_n hx hb dX2_runTick_81 rfl (lv_at hl 1 rfl) ?_
        refine z_get (D := (dC, dI)) (ci := 2) (v := .ref ub) (C := RX2) (T := TX2) (N := 6) hx hb hts uX2 hown hK hP 0 rfl rfl 5 (by decide) w25 rfl rfl dX2_runTick_82 ?_
        refine z_put (D := (dC, dI)) (ci := 2) (v := .ref ub) (C := RX2) (T := TX2) (N := 6) hx hb hts uX2 tyX2 tyX2_ok nmX2 hown hK hP hD hS 0 rfl rfl 4 (by decide) w21 rfl rfl rfl rfl (Nat.le_of_ble_eq_true rfl) [(u0, .inr (2, [.ref u1, .ref u2, .int (nI rm), .ref u3, .ref ub, .ref ub])), (u1, .inl (cI, 2, .inl (fun z_ => nI (BR z_)))), (u2, .inl (cI, 2, .inl (fun z_ => nI (RP z_)))), (u3, .inl (cI, 16, .inl (fun z_ => nI (CW z_)))), (ua, .inl (cJ, 308, .inr (.inl (fun z_ => lN (WA z_))))), (ub, .inl (cJ, 308, .inr (.inl (fun z_ => lN (X1 z_)))))] rfl dX2_runTick_85 (fun H locs hP hD hS => ?_)
        refine lv_aload_n hx hb dX2_runTick_88 rfl (lv_at hl 1 rfl) ?_
        refine lv_aload hx hb dX2_runTick_89 (lv_at hl 0 rfl) ?_
        refine z_put (D := (dC, dI)) (ci := 2) (v := .ref ua) (C := RX2) (T := TX2) (N := 6) hx hb hts uX2 tyX2 tyX2_ok nmX2 hown hK hP hD hS 0 rfl rfl 5 (by decide) w25 rfl rfl rfl rfl (Nat.le_of_ble_eq_true rfl) [(u0, .inr (2, [.ref u1, .ref u2, .int (nI rm), .ref u3, .ref ub, .ref ua])), (u1, .inl (cI, 2, .inl (fun z_ => nI (BR z_)))), (u2, .inl (cI, 2, .inl (fun z_ => nI (RP z_)))), (u3, .inl (cI, 16, .inl (fun z_ => nI (CW z_)))), (ua, .inl (cJ, 308, .inr (.inl (fun z_ => lN (WA z_))))), (ub, .inl (cJ, 308, .inr (.inl (fun z_ => lN (X1 z_)))))] rfl dX2_runTick_91 (fun H locs hP hD hS => ?_)
        refine lv_lload hx hb dX2_runTick_94 (lv_at hl 5 rfl) ?_
        have q_0 : g1 = sp_S WA (sp_gf CW) := by rw [i3, show x = 4 by omega]; rfl
        have q_1 : ∀ φ, sp_S X1 φ = sp_S WA (sp_Pf CW mo mg cn φ) := by intro φ; rw [i2 φ, show x = 4 by omega]; rfl
        have q_2 : sp_zr X1 mo mg := by exact i4
        exact hRET _ ls H locs ((lN g1)) (g1, X1) dX2_runTick_96 ⟨rfl, q_0, q_1, q_2⟩ hP hD hS
      · skip
        refine lv_iconst (v := nI 0) hx hb dX2_runTick_20 (by decide) ?_
        refine lv_istore (lv' := [(7, .int (nI 0)), (0, .ref u0), (1, .int (nI mo)), (2, .int (nI mg)), (3, .int (nI cn)), (4, .long (lN g1)), (6, .int (nI x))]) hx hb dX2_runTick_21 hl (by decide) rfl (fun ls hl => ?_)
        have L23 : ∀ (n23 : Nat) (lv : Nat) (X3 : Nat → Nat) (g3 : Nat), (mo + 1 - lv) < n23 → (lv ≤ mo + 1) → (∀ φ, sp_S X3 φ = fb_sm (fun k => WA k * sp_Pf CW mo mg cn φ k) ((x * 7 + lv) * 11)) → (g3 = fb_sm (fun k => WA k * sp_gf CW k) ((x * 7 + lv) * 11)) → (sp_zr X3 mo mg) → ∀ (H : Heap) (locs : List Loc), va_P (dC, dI) vwCl [(u0, .inr (2, [.ref u1, .ref u2, .int (nI rm), .ref u3, .ref ua, .ref ub])), (u1, .inl (cI, 2, .inl (fun z_ => nI (BR z_)))), (u2, .inl (cI, 2, .inl (fun z_ => nI (RP z_)))), (u3, .inl (cI, 16, .inl (fun z_ => nI (CW z_)))), (ua, .inl (cJ, 308, .inr (.inl (fun z_ => lN (WA z_))))), (ub, .inl (cJ, 308, .inr (.inl (fun z_ => lN (X3 z_)))))] H → va_D A [(u0, .inr (2, [.ref u1, .ref u2, .int (nI rm), .ref u3, .ref ua, .ref ub])), (u1, .inl (cI, 2, .inl (fun z_ => nI (BR z_)))), (u2, .inl (cI, 2, .inl (fun z_ => nI (RP z_)))), (u3, .inl (cI, 16, .inl (fun z_ => nI (CW z_)))), (ua, .inl (cJ, 308, .inr (.inl (fun z_ => lN (WA z_))))), (ub, .inl (cJ, 308, .inr (.inl (fun z_ => lN (X3 z_)))))] → va_S A s.heap H locs → ∀ (ls : Array Slot), lv_has ls 9 [(0, .ref u0), (1, .int (nI mo)), (2, .int (nI mg)), (3, .int (nI cn)), (4, .long (lN g3)), (6, .int (nI x)), (7, .int (nI lv))] → W p l e (zR 3 0 0 82) s m args below meth c H locs 0 0 Q (F0 m 23 ls []) := by
          intro n23
          induction n23 with
          | zero => intro lv X3 g3 hn; exact absurd hn (Nat.not_lt_zero _)
          | succ n23 ih =>
            intro lv X3 g3 hn j1 j2 j3 j4 H locs hP hD hS ls hl
            have ih23 := ih
            have hn23 := hn
            clear ih hn
            refine lv_iload hx hb dX2_runTick_23 (lv_at hl 6 rfl) ?_
            refine lv_iload_n hx hb dX2_runTick_25 rfl (lv_at hl 1 rfl) ?_
            refine z_icmp_gt (tgt := 68) hx hb dX2_runTick_26 (by decide) (zcn_lt (a := mo) (b := lv) rfl rfl (by omega)) (fun c_26 => ?_) (fun c_26 => ?_)
            · skip
              refine lv_iinc (v := (nI (x + 1))) (lv' := [(6, .int (nI (x + 1))), (0, .ref u0), (1, .int (nI mo)), (2, .int (nI mg)), (3, .int (nI cn)), (4, .long (lN g3)), (7, .int (nI lv))]) hx hb dX2_runTick_68 hl (k := 5) rfl (z_incN x 1 (by decide)) (by decide) rfl (fun ls hl => ?_)
              refine lv_goto (tgt := 14) hx hb dX2_runTick_71 (by decide) ?_
              have o_i1 : (x + 1) ≤ 4 := by first | assumption | omega
              have o_i2 : ∀ φ, sp_S X3 φ = fb_sm (fun k => WA k * sp_Pf CW mo mg cn φ k) ((x + 1) * 77) := by intro φ; rw [j2 φ]; exact (sp_Sp_l hz (by omega) (by omega) (by omega)).symm
              have o_i3 : g3 = fb_sm (fun k => WA k * sp_gf CW k) ((x + 1) * 77) := by rw [j3]; exact (sp_Sp_l hz (by omega) (by omega) (by omega)).symm
              have o_i4 : sp_zr X3 mo mg := by exact j4
              have o_mu : (4 - (x + 1)) < n14 := by omega
              exact ih14 (x + 1) X3 g3 o_mu o_i1 o_i2 o_i3 o_i4 H locs hP hD hS ls (lv_sub hl [1, 2, 3, 4, 5, 0] rfl)
            · skip
              refine lv_iconst (v := nI 0) hx hb dX2_runTick_29 (by decide) ?_
              refine lv_istore (lv' := [(8, .int (nI 0)), (0, .ref u0), (1, .int (nI mo)), (2, .int (nI mg)), (3, .int (nI cn)), (4, .long (lN g3)), (6, .int (nI x)), (7, .int (nI lv))]) hx hb dX2_runTick_30 hl (by decide) rfl (fun ls hl => ?_)
              have L32 : ∀ (n32 : Nat) (ct : Nat) (X5 : Nat → Nat) (g5 : Nat), (mg + 1 - ct) < n32 → (ct ≤ mg + 1) → (∀ φ, sp_S X5 φ = fb_sm (fun k => WA k * sp_Pf CW mo mg cn φ k) ((x * 7 + lv) * 11 + ct)) → (g5 = fb_sm (fun k => WA k * sp_gf CW k) ((x * 7 + lv) * 11 + ct)) → (sp_zr X5 mo mg) → ∀ (H : Heap) (locs : List Loc), va_P (dC, dI) vwCl [(u0, .inr (2, [.ref u1, .ref u2, .int (nI rm), .ref u3, .ref ua, .ref ub])), (u1, .inl (cI, 2, .inl (fun z_ => nI (BR z_)))), (u2, .inl (cI, 2, .inl (fun z_ => nI (RP z_)))), (u3, .inl (cI, 16, .inl (fun z_ => nI (CW z_)))), (ua, .inl (cJ, 308, .inr (.inl (fun z_ => lN (WA z_))))), (ub, .inl (cJ, 308, .inr (.inl (fun z_ => lN (X5 z_)))))] H → va_D A [(u0, .inr (2, [.ref u1, .ref u2, .int (nI rm), .ref u3, .ref ua, .ref ub])), (u1, .inl (cI, 2, .inl (fun z_ => nI (BR z_)))), (u2, .inl (cI, 2, .inl (fun z_ => nI (RP z_)))), (u3, .inl (cI, 16, .inl (fun z_ => nI (CW z_)))), (ua, .inl (cJ, 308, .inr (.inl (fun z_ => lN (WA z_))))), (ub, .inl (cJ, 308, .inr (.inl (fun z_ => lN (X5 z_)))))] → va_S A s.heap H locs → ∀ (ls : Array Slot), lv_has ls 9 [(0, .ref u0), (1, .int (nI mo)), (2, .int (nI mg)), (3, .int (nI cn)), (4, .long (lN g5)), (6, .int (nI x)), (7, .int (nI lv)), (8, .int (nI ct))] → W p l e (zR 3 0 0 82) s m args below meth c H locs 0 0 Q (F0 m 32 ls []) := by
                intro n32
                induction n32 with
                | zero => intro ct X5 g5 hn; exact absurd hn (Nat.not_lt_zero _)
                | succ n32 ih =>
                  intro ct X5 g5 hn k1 k2 k3 k4 H locs hP hD hS ls hl
                  have ih32 := ih
                  have hn32 := hn
                  clear ih hn
                  refine lv_iload hx hb dX2_runTick_32 (lv_at hl 7 rfl) ?_
                  refine lv_iload_n hx hb dX2_runTick_34 rfl (lv_at hl 2 rfl) ?_
                  refine z_icmp_gt (tgt := 62) hx hb dX2_runTick_35 (by decide) (zcn_lt (a := mg) (b := ct) rfl rfl (by omega)) (fun c_35 => ?_) (fun c_35 => ?_)
                  · skip
                    refine lv_iinc (v := (nI (lv + 1))) (lv' := [(7, .int (nI (lv + 1))), (0, .ref u0), (1, .int (nI mo)), (2, .int (nI mg)), (3, .int (nI cn)), (4, .long (lN g5)), (6, .int (nI x)), (8, .int (nI ct))]) hx hb dX2_runTick_62 hl (k := 6) rfl (z_incN lv 1 (by decide)) (by decide) rfl (fun ls hl => ?_)
                    refine lv_goto (tgt := 23) hx hb dX2_runTick_65 (by decide) ?_
                    have o_j1 : (lv + 1) ≤ mo + 1 := by first | assumption | omega
                    have o_j2 : ∀ φ, sp_S X5 φ = fb_sm (fun k => WA k * sp_Pf CW mo mg cn φ k) ((x * 7 + (lv + 1)) * 11) := by intro φ; rw [k2 φ]; exact (sp_Sp_c hz (by omega) (by omega) (by omega) (by omega)).symm
                    have o_j3 : g5 = fb_sm (fun k => WA k * sp_gf CW k) ((x * 7 + (lv + 1)) * 11) := by rw [k3]; exact (sp_Sp_c hz (by omega) (by omega) (by omega) (by omega)).symm
                    have o_j4 : sp_zr X5 mo mg := by exact k4
                    have o_mu : (mo + 1 - (lv + 1)) < n23 := by omega
                    exact ih23 (lv + 1) X5 g5 o_mu o_j1 o_j2 o_j3 o_j4 H locs hP hD hS ls (lv_sub hl [1, 2, 3, 4, 5, 6, 0] rfl)
                  · skip
                    refine lv_lload hx hb dX2_runTick_38 (lv_at hl 4 rfl) ?_
                    refine lv_aload_n hx hb dX2_runTick_40 rfl (lv_at hl 0 rfl) ?_
                    refine lv_iload hx hb dX2_runTick_41 (lv_at hl 5 rfl) ?_
                    refine lv_iload hx hb dX2_runTick_43 (lv_at hl 6 rfl) ?_
                    refine lv_iload hx hb dX2_runTick_45 (lv_at hl 7 rfl) ?_
                    refine lv_iload_n hx hb dX2_runTick_47 rfl (lv_at hl 1 rfl) ?_
                    refine lv_iload_n hx hb dX2_runTick_48 rfl (lv_at hl 2 rfl) ?_
                    refine lv_iload_n hx hb dX2_runTick_49 rfl (lv_at hl 3 rfl) ?_
                    refine z_callVl (As := [.int (nI x), .int (nI lv), .int (nI ct), .int (nI mo), .int (nI mg), .int (nI cn)]) (rest := [.long (lN g5)]) (wr := []) ⟨hx, hb, hml, hown, hts⟩ (c_X2_spread l dC dI cI cJ H.size u0 u1 u2 u3 ua ub BR RP CW WA X5 rm x lv ct mo mg cn (by first | assumption | omega) (by first | assumption | omega) (by first | assumption | omega) (by first | assumption | omega) (by first | assumption | omega) (by first | assumption | omega) (by first | assumption | omega) (by exact k4) (by exact hww _ (show (x * 7 + lv) * 11 + ct < 308 by omega))) (cwV 6 hts gX2_runTick_X2_spread rfl rfl rfl (by decide +kernel) ⟨Nat.le_of_ble_eq_true rfl, Nat.le_of_ble_eq_true rfl⟩) hA hK hP hD hS [0, 1, 2, 3, 4, 5] [] [0, 1, 2, 3, 4, 5] rfl rfl (by decide) (by decide) (by decide) nwA_ok hN (ci := 2) rfl rfl 0 rfl hl.1 (Nat.le_of_ble_eq_true rfl) ⟨Nat.le_refl _, Nat.le_refl _⟩ rfl rfl dX2_runTick_50 (fun (u : (Nat) × (Nat → Nat)) => [(u0, .inr (2, [.ref u1, .ref u2, .int (nI rm), .ref u3, .ref ua, .ref ub])), (u1, .inl (cI, 2, .inl (fun z_ => nI (BR z_)))), (u2, .inl (cI, 2, .inl (fun z_ => nI (RP z_)))), (u3, .inl (cI, 16, .inl (fun z_ => nI (CW z_)))), (ua, .inl (cJ, 308, .inr (.inl (fun z_ => lN (WA z_))))), (ub, .inl (cJ, 308, .inr (.inl (fun z_ => lN (u.2 z_)))))]) (fun u => rfl) (by decide) (fun r_50 u H locs hw hP hD hS => ?_)
                    obtain ⟨rv_50, X2_50⟩ := u
                    have hP : va_P (dC, dI) vwCl [(u0, .inr (2, [.ref u1, .ref u2, .int (nI rm), .ref u3, .ref ua, .ref ub])), (u1, .inl (cI, 2, .inl (fun z_ => nI (BR z_)))), (u2, .inl (cI, 2, .inl (fun z_ => nI (RP z_)))), (u3, .inl (cI, 16, .inl (fun z_ => nI (CW z_)))), (ua, .inl (cJ, 308, .inr (.inl (fun z_ => lN (WA z_))))), (ub, .inl (cJ, 308, .inr (.inl (fun z_ => lN (X2_50 z_)))))] H := hP
                    have hD : va_D A [(u0, .inr (2, [.ref u1, .ref u2, .int (nI rm), .ref u3, .ref ua, .ref ub])), (u1, .inl (cI, 2, .inl (fun z_ => nI (BR z_)))), (u2, .inl (cI, 2, .inl (fun z_ => nI (RP z_)))), (u3, .inl (cI, 16, .inl (fun z_ => nI (CW z_)))), (ua, .inl (cJ, 308, .inr (.inl (fun z_ => lN (WA z_))))), (ub, .inl (cJ, 308, .inr (.inl (fun z_ => lN (X2_50 z_)))))] := hD
                    obtain ⟨er, p50_0, p50_1, p50_2⟩ := hw
                    have p50_0 : rv_50 = WA (sp_ix x lv ct) * sp_gf CW (sp_ix x lv ct) := p50_0
                    have p50_1 : ∀ φ, sp_S X2_50 φ = sp_S X5 φ + WA (sp_ix x lv ct) * sp_Pf CW mo mg cn φ (sp_ix x lv ct) := p50_1
                    have p50_2 : sp_zr X2_50 mo mg := p50_2
                    have er : r_50 = (lN rv_50) := er
                    subst er
                    refine z_ladd (v := (lN (g5 + rv_50))) hx hb dX2_runTick_53 (lN_add _ _) ?_
                    refine lv_lstore (lv' := [(4, .long (lN (g5 + rv_50))), (0, .ref u0), (1, .int (nI mo)), (2, .int (nI mg)), (3, .int (nI cn)), (6, .int (nI x)), (7, .int (nI lv)), (8, .int (nI ct))]) hx hb dX2_runTick_54 hl (by decide) rfl (fun ls hl => ?_)
                    refine lv_iinc (v := (nI (ct + 1))) (lv' := [(8, .int (nI (ct + 1))), (4, .long (lN (g5 + rv_50))), (0, .ref u0), (1, .int (nI mo)), (2, .int (nI mg)), (3, .int (nI cn)), (6, .int (nI x)), (7, .int (nI lv))]) hx hb dX2_runTick_56 hl (k := 7) rfl (z_incN ct 1 (by decide)) (by decide) rfl (fun ls hl => ?_)
                    refine lv_goto (tgt := 32) hx hb dX2_runTick_59 (by decide) ?_
                    have o_k1 : (ct + 1) ≤ mg + 1 := by first | assumption | omega
                    have o_k2 : ∀ φ, sp_S X2_50 φ = fb_sm (fun k => WA k * sp_Pf CW mo mg cn φ k) ((x * 7 + lv) * 11 + (ct + 1)) := by intro φ; rw [p50_1 φ, k2 φ]; rfl
                    have o_k3 : (g5 + rv_50) = fb_sm (fun k => WA k * sp_gf CW k) ((x * 7 + lv) * 11 + (ct + 1)) := by rw [p50_0, k3]; rfl
                    have o_k4 : sp_zr X2_50 mo mg := by exact p50_2
                    have o_mu : (mg + 1 - (ct + 1)) < n32 := by omega
                    exact ih32 (ct + 1) X2_50 (g5 + rv_50) o_mu o_k1 o_k2 o_k3 o_k4 H locs hP hD hS ls (lv_sub hl [2, 3, 4, 5, 1, 6, 7, 0] rfl)
              have o_k1 : 0 ≤ mg + 1 := by first | assumption | omega
              have o_k2 : ∀ φ, sp_S X3 φ = fb_sm (fun k => WA k * sp_Pf CW mo mg cn φ k) ((x * 7 + lv) * 11 + 0) := by exact j2
              have o_k3 : g3 = fb_sm (fun k => WA k * sp_gf CW k) ((x * 7 + lv) * 11 + 0) := by exact j3
              have o_k4 : sp_zr X3 mo mg := by exact j4
              exact L32 ((mg + 1 - 0) + 1) 0 X3 g3 (Nat.lt_succ_self _) o_k1 o_k2 o_k3 o_k4 H locs hP hD hS ls (lv_sub hl [1, 2, 3, 4, 5, 6, 7, 0] rfl)
        have o_j1 : 0 ≤ mo + 1 := by first | assumption | omega
        have o_j2 : ∀ φ, sp_S X1 φ = fb_sm (fun k => WA k * sp_Pf CW mo mg cn φ k) ((x * 7 + 0) * 11) := by intro φ; rw [i2 φ, show (x * 7 + 0) * 11 = x * 77 by omega]
        have o_j3 : g1 = fb_sm (fun k => WA k * sp_gf CW k) ((x * 7 + 0) * 11) := by rw [i3, show (x * 7 + 0) * 11 = x * 77 by omega]
        have o_j4 : sp_zr X1 mo mg := by exact i4
        exact L23 ((mo + 1 - 0) + 1) 0 X1 g1 (Nat.lt_succ_self _) o_j1 o_j2 o_j3 o_j4 H locs hP hD hS ls (lv_sub hl [1, 2, 3, 4, 5, 6, 0] rfl)
  have o_i1 : 0 ≤ 4 := by first | assumption | omega
  have o_i2 : ∀ φ, sp_S X2_5 φ = fb_sm (fun k => WA k * sp_Pf CW mo mg cn φ k) (0 * 77) := by intro φ; rw [sp_S_0 p5_0]; rfl
  have o_i3 : 0 = fb_sm (fun k => WA k * sp_gf CW k) (0 * 77) := by rfl
  have o_i4 : sp_zr X2_5 mo mg := by intro k hk _; exact p5_0 k hk
  exact L14 ((4 - 0) + 1) 0 X2_5 0 (Nat.lt_succ_self _) o_i1 o_i2 o_i3 o_i4 H locs hP hD hS ls (lv_sub hl [2, 3, 4, 5, 1, 0] rfl)

set_option maxHeartbeats 4000000 in
set_option maxRecDepth 100000 in
theorem c_X2_weighMean (l : Launch) (dC : Nat → ClassId) (dI : Nat → Nat → Nat) (cI cJ : ClassId) (sz : Nat) (u0 : Nat) (u1 : Nat) (u2 : Nat) (u3 : Nat) (ua : Nat) (ub : Nat) (BR : Nat → Nat) (RP : Nat → Nat) (CW : Nat → Nat) (WA : Nat → Nat) (XB : Nat → Nat) (rm : Nat) (tk : Nat) (mo : Nat) (bBR : ∀ i, BR i ≤ 4) (bRP : ∀ i, RP i ≤ 4) (bt : tk ≤ 10) (bm : mo ≤ 6) : Met l yX2_weighMean wsX2_weighMean (zR 4 0 0 110) (va_Pc [.ref u0, .int (nI tk), .int (nI mo)] (zP (dC, dI) [(cI, .int), (cJ, .long)] [(u0, .inr (2, [.ref u1, .ref u2, .int (nI rm), .ref u3, .ref ua, .ref ub])), (u1, .inl (cI, 2, .inl (fun z_ => nI (BR z_)))), (u2, .inl (cI, 2, .inl (fun z_ => nI (RP z_)))), (u3, .inl (cI, 16, .inl (fun z_ => nI (CW z_)))), (ua, .inl (cJ, 308, .inr (.inl (fun z_ => lN (WA z_))))), (ub, .inl (cJ, 308, .inr (.inl (fun z_ => lN (XB z_)))))] sz nwA)) (va_Ql (fun (r : Int64) (u : (Nat) × (Nat → Nat) × (Nat → Nat) × (Nat → Nat) × (Nat) × (Nat)) => r = (lN u.1) ∧ (u.1 = sp_mn (sp_cw BR RP) mo tk)) (zB (dC, dI) (fun (u : (Nat) × (Nat → Nat) × (Nat → Nat) × (Nat → Nat) × (Nat) × (Nat)) => [(u0, .inr (2, [.ref u1, .ref u2, .int (nI rm), .ref u3, .ref u.2.2.2.2.1, .ref u.2.2.2.2.2])), (u1, .inl (cI, 2, .inl (fun z_ => nI (BR z_)))), (u2, .inl (cI, 2, .inl (fun z_ => nI (RP z_)))), (u3, .inl (cI, 16, .inl (fun z_ => nI (u.2.1 z_)))), (u.2.2.2.2.1, .inl (cJ, 308, .inr (.inl (fun z_ => lN (u.2.2.1 z_))))), (u.2.2.2.2.2, .inl (cJ, 308, .inr (.inl (fun z_ => lN (u.2.2.2.1 z_)))))]) (va_A [(u0, .inr (2, [.ref u1, .ref u2, .int (nI rm), .ref u3, .ref ua, .ref ub])), (u1, .inl (cI, 2, .inl (fun z_ => nI (BR z_)))), (u2, .inl (cI, 2, .inl (fun z_ => nI (RP z_)))), (u3, .inl (cI, 16, .inl (fun z_ => nI (CW z_)))), (ua, .inl (cJ, 308, .inr (.inl (fun z_ => lN (WA z_))))), (ub, .inl (cJ, 308, .inr (.inl (fun z_ => lN (XB z_)))))] sz)) (va_A [(u0, .inr (2, [.ref u1, .ref u2, .int (nI rm), .ref u3, .ref ua, .ref ub])), (u1, .inl (cI, 2, .inl (fun z_ => nI (BR z_)))), (u2, .inl (cI, 2, .inl (fun z_ => nI (RP z_)))), (u3, .inl (cI, 16, .inl (fun z_ => nI (CW z_)))), (ua, .inl (cJ, 308, .inr (.inl (fun z_ => lN (WA z_))))), (ub, .inl (cJ, 308, .inr (.inl (fun z_ => lN (XB z_)))))] sz)) 0 0 (va_A [(u0, .inr (2, [.ref u1, .ref u2, .int (nI rm), .ref u3, .ref ua, .ref ub])), (u1, .inl (cI, 2, .inl (fun z_ => nI (BR z_)))), (u2, .inl (cI, 2, .inl (fun z_ => nI (RP z_)))), (u3, .inl (cI, 16, .inl (fun z_ => nI (CW z_)))), (ua, .inl (cJ, 308, .inr (.inl (fun z_ => lN (WA z_))))), (ub, .inl (cJ, 308, .inr (.inl (fun z_ => lN (XB z_)))))] sz) := by
  refine z_met_l (cc := cX2_weighMean) (maxL := 6) (by decide) rfl (Nat.le_of_ble_eq_true rfl) ?_
  intro p e s m args below meth c Q A ls hx hb hml hown hts hin hA hK hP hD hN hl hRET
  have hown : s.vm.findClass RX2 = some m.cls := hown
  obtain ⟨H, eH⟩ : ∃ H : Heap, H = s.heap := ⟨_, rfl⟩
  rw [← eH] at hP
  obtain ⟨locs, eL⟩ : ∃ z : List Loc, z = [] := ⟨_, rfl⟩
  rw [← eH, ← eL]
  have hS : va_S A s.heap H locs := by rw [eH, eL]; exact va_S.rf
  have hl : lv_has ls 6 [(0, .ref u0), (1, .int (nI tk)), (2, .int (nI mo))] := hl
  refine lv_aload_n hx hb dX2_weighMean_0 rfl (lv_at hl 0 rfl) ?_
  refine z_callVv (As := []) (rest := []) (wr := []) ⟨hx, hb, hml, hown, hts⟩ (c_X2_start l dC dI cI cJ H.size u0 u1 u2 u3 ua ub BR RP CW WA XB rm (by first | assumption | omega) (by first | assumption | omega)) (cwV 0 hts gX2_weighMean_X2_start rfl rfl rfl (by decide +kernel) ⟨Nat.le_of_ble_eq_true rfl, Nat.le_of_ble_eq_true rfl⟩) hA hK hP hD hS [0, 1, 2, 3, 4, 5] [] [0, 1, 2, 3, 4, 5] rfl rfl (by decide) (by decide) (by decide) nwA_ok hN (ci := 2) rfl rfl 0 rfl hl.1 (Nat.le_of_ble_eq_true rfl) ⟨Nat.le_refl _, Nat.le_refl _⟩ rfl rfl dX2_weighMean_1 (fun (u : (Nat → Nat) × (Nat → Nat)) => [(u0, .inr (2, [.ref u1, .ref u2, .int (nI rm), .ref u3, .ref ua, .ref ub])), (u1, .inl (cI, 2, .inl (fun z_ => nI (BR z_)))), (u2, .inl (cI, 2, .inl (fun z_ => nI (RP z_)))), (u3, .inl (cI, 16, .inl (fun z_ => nI (u.1 z_)))), (ua, .inl (cJ, 308, .inr (.inl (fun z_ => lN (u.2 z_))))), (ub, .inl (cJ, 308, .inr (.inl (fun z_ => lN (XB z_)))))]) (fun u => rfl) (by decide) (fun u H locs hw hP hD hS => ?_)
  obtain ⟨CV, W2_1⟩ := u
  have hP : va_P (dC, dI) vwCl [(u0, .inr (2, [.ref u1, .ref u2, .int (nI rm), .ref u3, .ref ua, .ref ub])), (u1, .inl (cI, 2, .inl (fun z_ => nI (BR z_)))), (u2, .inl (cI, 2, .inl (fun z_ => nI (RP z_)))), (u3, .inl (cI, 16, .inl (fun z_ => nI (CV z_)))), (ua, .inl (cJ, 308, .inr (.inl (fun z_ => lN (W2_1 z_))))), (ub, .inl (cJ, 308, .inr (.inl (fun z_ => lN (XB z_)))))] H := hP
  have hD : va_D A [(u0, .inr (2, [.ref u1, .ref u2, .int (nI rm), .ref u3, .ref ua, .ref ub])), (u1, .inl (cI, 2, .inl (fun z_ => nI (BR z_)))), (u2, .inl (cI, 2, .inl (fun z_ => nI (RP z_)))), (u3, .inl (cI, 16, .inl (fun z_ => nI (CV z_)))), (ua, .inl (cJ, 308, .inr (.inl (fun z_ => lN (W2_1 z_))))), (ub, .inl (cJ, 308, .inr (.inl (fun z_ => lN (XB z_)))))] := hD
  obtain ⟨p1_0, p1_1⟩ := hw
  have p1_0 : ∀ i, i < 16 → CV i = sp_cw BR RP i := p1_0
  have p1_1 : ∀ k, k < 308 → W2_1 k = if k = 231 then 1 else 0 := p1_1
  have hrow : sp_row CV := sp_row_cw p1_0 (sp_cw_row bBR bRP)
  have bCV : ∀ i, i < 16 → CV i ≤ 16 := fun i hi => by rw [p1_0 i hi]; exact Nat.mul_le_mul (sp_qo_le bBR bRP 0 _ _) (sp_qo_le bBR bRP 1 _ _)
  refine lv_lconst (v := lN 0) hx hb dX2_weighMean_4 (by decide) ?_
  refine lv_lstore_n (lv' := [(3, .long (lN 0)), (0, .ref u0), (1, .int (nI tk)), (2, .int (nI mo))]) hx hb dX2_weighMean_5 rfl hl (by decide) rfl (fun ls hl => ?_)
  refine lv_iconst (v := nI 0) hx hb dX2_weighMean_6 (by decide) ?_
  refine lv_istore (lv' := [(5, .int (nI 0)), (3, .long (lN 0)), (0, .ref u0), (1, .int (nI tk)), (2, .int (nI mo))]) hx hb dX2_weighMean_7 hl (by decide) rfl (fun ls hl => ?_)
  have L9 : ∀ (n9 : Nat) (t : Nat) (W1 : Nat → Nat) (X1 : Nat → Nat) (qa : Nat) (qb : Nat) (mn : Nat), (tk - t) < n9 → (t ≤ tk) → (∀ φ, sp_S W1 φ = sp_Pi CV mo 0 0 t φ 231) → (mn = sp_mn CV mo t) → (sp_zr W1 mo 0) → ∀ (H : Heap) (locs : List Loc), va_P (dC, dI) vwCl [(u0, .inr (2, [.ref u1, .ref u2, .int (nI rm), .ref u3, .ref qa, .ref qb])), (u1, .inl (cI, 2, .inl (fun z_ => nI (BR z_)))), (u2, .inl (cI, 2, .inl (fun z_ => nI (RP z_)))), (u3, .inl (cI, 16, .inl (fun z_ => nI (CV z_)))), (qa, .inl (cJ, 308, .inr (.inl (fun z_ => lN (W1 z_))))), (qb, .inl (cJ, 308, .inr (.inl (fun z_ => lN (X1 z_)))))] H → va_D A [(u0, .inr (2, [.ref u1, .ref u2, .int (nI rm), .ref u3, .ref qa, .ref qb])), (u1, .inl (cI, 2, .inl (fun z_ => nI (BR z_)))), (u2, .inl (cI, 2, .inl (fun z_ => nI (RP z_)))), (u3, .inl (cI, 16, .inl (fun z_ => nI (CV z_)))), (qa, .inl (cJ, 308, .inr (.inl (fun z_ => lN (W1 z_))))), (qb, .inl (cJ, 308, .inr (.inl (fun z_ => lN (X1 z_)))))] → va_S A s.heap H locs → ∀ (ls : Array Slot), lv_has ls 6 [(0, .ref u0), (1, .int (nI tk)), (2, .int (nI mo)), (3, .long (lN mn)), (5, .int (nI t))] → W p l e (zR 4 0 0 110) s m args below meth c H locs 0 0 Q (F0 m 9 ls []) := by
    intro n9
    induction n9 with
    | zero => intro t W1 X1 qa qb mn hn; exact absurd hn (Nat.not_lt_zero _)
    | succ n9 ih =>
      intro t W1 X1 qa qb mn hn i1 i2 i3 i4 H locs hP hD hS ls hl
      have ih9 := ih
      have hn9 := hn
      clear ih hn
      have hW := sp_W_le bm (show 0 ≤ 10 by omega) hrow (show t ≤ 10 by omega) i2
      refine lv_iload hx hb dX2_weighMean_9 (lv_at hl 4 rfl) ?_
      refine lv_iload_n hx hb dX2_weighMean_11 rfl (lv_at hl 1 rfl) ?_
      refine z_icmp_ge (tgt := 39) hx hb dX2_weighMean_12 (by decide) (zcn_le (a := tk) (b := t) rfl rfl (by omega)) (fun c_12 => ?_) (fun c_12 => ?_)
      · skip
        refine lv_lload_n hx hb dX2_weighMean_39 rfl (lv_at hl 3 rfl) ?_
        have q_0 : mn = sp_mn (sp_cw BR RP) mo tk := by rw [i3, show t = tk by omega]; exact sp_mn_cw p1_0 bm tk
        exact hRET _ ls H locs ((lN mn)) (mn, CV, W1, X1, qa, qb) dX2_weighMean_40 ⟨rfl, q_0⟩ hP hD hS
      · skip
        refine lv_lload_n hx hb dX2_weighMean_15 rfl (lv_at hl 3 rfl) ?_
        refine lv_ldc2 (v := (4 : Int64)) hx hb hown (hts (.constantLong RX2 31 (4)) (by decide +kernel)) dX2_weighMean_16 ?_
        refine z_l0 (v := (lN 4)) (by decide) ?_
        refine z_lmul (v := (lN (mn * 4))) hx hb dX2_weighMean_19 (lN_mul _ _) ?_
        refine lv_ldc2 (v := (4 : Int64)) hx hb hown (hts (.constantLong RX2 31 (4)) (by decide +kernel)) dX2_weighMean_20 ?_
        refine z_l0 (v := (lN 4)) (by decide) ?_
        refine z_lmul (v := (lN ((mn * 4) * 4))) hx hb dX2_weighMean_23 (lN_mul _ _) ?_
        refine lv_aload_n hx hb dX2_weighMean_24 rfl (lv_at hl 0 rfl) ?_
        refine lv_iload_n hx hb dX2_weighMean_25 rfl (lv_at hl 2 rfl) ?_
        refine lv_iconst (v := nI 0) hx hb dX2_weighMean_26 (by decide) ?_
        refine lv_iconst (v := nI 0) hx hb dX2_weighMean_27 (by decide) ?_
        refine z_callVl (As := [.int (nI mo), .int (nI 0), .int (nI 0)]) (rest := [.long (lN ((mn * 4) * 4))]) (wr := []) ⟨hx, hb, hml, hown, hts⟩ (c_X2_runTick l dC dI cI cJ H.size u0 u1 u2 u3 qa qb BR RP CV W1 X1 rm mo 0 0 (by exact bCV) (by first | assumption | omega) (by first | assumption | omega) (by first | assumption | omega) (by exact i4) (by intro k hk; have := hW k hk; omega)) (cwV 3 hts gX2_weighMean_X2_runTick rfl rfl rfl (by decide +kernel) ⟨Nat.le_of_ble_eq_true rfl, Nat.le_of_ble_eq_true rfl⟩) hA hK hP hD hS [0, 1, 2, 3, 4, 5] [] [0, 1, 2, 3, 4, 5] rfl rfl (by decide) (by decide) (by decide) nwA_ok hN (ci := 2) rfl rfl 0 rfl hl.1 (Nat.le_of_ble_eq_true rfl) ⟨Nat.le_refl _, Nat.le_refl _⟩ rfl rfl dX2_weighMean_28 (fun (u : (Nat) × (Nat → Nat)) => [(u0, .inr (2, [.ref u1, .ref u2, .int (nI rm), .ref u3, .ref qb, .ref qa])), (u1, .inl (cI, 2, .inl (fun z_ => nI (BR z_)))), (u2, .inl (cI, 2, .inl (fun z_ => nI (RP z_)))), (u3, .inl (cI, 16, .inl (fun z_ => nI (CV z_)))), (qa, .inl (cJ, 308, .inr (.inl (fun z_ => lN (W1 z_))))), (qb, .inl (cJ, 308, .inr (.inl (fun z_ => lN (u.2 z_)))))]) (fun u => rfl) (by decide) (fun r_28 u H locs hw hP hD hS => ?_)
        obtain ⟨rv_28, X2_28⟩ := u
        have hP : va_P (dC, dI) vwCl [(u0, .inr (2, [.ref u1, .ref u2, .int (nI rm), .ref u3, .ref qb, .ref qa])), (u1, .inl (cI, 2, .inl (fun z_ => nI (BR z_)))), (u2, .inl (cI, 2, .inl (fun z_ => nI (RP z_)))), (u3, .inl (cI, 16, .inl (fun z_ => nI (CV z_)))), (qa, .inl (cJ, 308, .inr (.inl (fun z_ => lN (W1 z_))))), (qb, .inl (cJ, 308, .inr (.inl (fun z_ => lN (X2_28 z_)))))] H := hP
        have hD : va_D A [(u0, .inr (2, [.ref u1, .ref u2, .int (nI rm), .ref u3, .ref qb, .ref qa])), (u1, .inl (cI, 2, .inl (fun z_ => nI (BR z_)))), (u2, .inl (cI, 2, .inl (fun z_ => nI (RP z_)))), (u3, .inl (cI, 16, .inl (fun z_ => nI (CV z_)))), (qa, .inl (cJ, 308, .inr (.inl (fun z_ => lN (W1 z_))))), (qb, .inl (cJ, 308, .inr (.inl (fun z_ => lN (X2_28 z_)))))] := hD
        obtain ⟨er, p28_0, p28_1, p28_2⟩ := hw
        have p28_0 : rv_28 = sp_S W1 (sp_gf CV) := p28_0
        have p28_1 : ∀ φ, sp_S X2_28 φ = sp_S W1 (sp_Pf CV mo 0 0 φ) := p28_1
        have p28_2 : sp_zr X2_28 mo 0 := p28_2
        have er : r_28 = (lN rv_28) := er
        subst er
        have hP := z_subP hP [0, 1, 2, 3, 5, 4] (wc := [(u0, .inr (2, [.ref u1, .ref u2, .int (nI rm), .ref u3, .ref qb, .ref qa])), (u1, .inl (cI, 2, .inl (fun z_ => nI (BR z_)))), (u2, .inl (cI, 2, .inl (fun z_ => nI (RP z_)))), (u3, .inl (cI, 16, .inl (fun z_ => nI (CV z_)))), (qb, .inl (cJ, 308, .inr (.inl (fun z_ => lN (X2_28 z_))))), (qa, .inl (cJ, 308, .inr (.inl (fun z_ => lN (W1 z_)))))]) rfl
        have hD := hD.sub [0, 1, 2, 3, 5, 4] (by decide) (ws' := [(u0, .inr (2, [.ref u1, .ref u2, .int (nI rm), .ref u3, .ref qb, .ref qa])), (u1, .inl (cI, 2, .inl (fun z_ => nI (BR z_)))), (u2, .inl (cI, 2, .inl (fun z_ => nI (RP z_)))), (u3, .inl (cI, 16, .inl (fun z_ => nI (CV z_)))), (qb, .inl (cJ, 308, .inr (.inl (fun z_ => lN (X2_28 z_))))), (qa, .inl (cJ, 308, .inr (.inl (fun z_ => lN (W1 z_)))))]) rfl
        refine z_ladd (v := (lN (((mn * 4) * 4) + rv_28))) hx hb dX2_weighMean_31 (lN_add _ _) ?_
        refine lv_lstore_n (lv' := [(3, .long (lN (((mn * 4) * 4) + rv_28))), (0, .ref u0), (1, .int (nI tk)), (2, .int (nI mo)), (5, .int (nI t))]) hx hb dX2_weighMean_32 rfl hl (by decide) rfl (fun ls hl => ?_)
        refine lv_iinc (v := (nI (t + 1))) (lv' := [(5, .int (nI (t + 1))), (3, .long (lN (((mn * 4) * 4) + rv_28))), (0, .ref u0), (1, .int (nI tk)), (2, .int (nI mo))]) hx hb dX2_weighMean_33 hl (k := 4) rfl (z_incN t 1 (by decide)) (by decide) rfl (fun ls hl => ?_)
        refine lv_goto (tgt := 9) hx hb dX2_weighMean_36 (by decide) ?_
        have o_i1 : (t + 1) ≤ tk := by first | assumption | omega
        have o_i2 : ∀ φ, sp_S X2_28 φ = sp_Pi CV mo 0 0 (t + 1) φ 231 := by intro φ; rw [p28_1 φ, i2, sp_Pi_s]
        have o_i3 : (((mn * 4) * 4) + rv_28) = sp_mn CV mo (t + 1) := by rw [sp_mn_s, ← i3, p28_0, i2]
        have o_i4 : sp_zr X2_28 mo 0 := by exact p28_2
        have o_mu : (tk - (t + 1)) < n9 := by omega
        exact ih9 (t + 1) X2_28 W1 qb qa (((mn * 4) * 4) + rv_28) o_mu o_i1 o_i2 o_i3 o_i4 H locs hP hD hS ls (lv_sub hl [2, 3, 4, 1, 0] rfl)
  have o_i1 : 0 ≤ tk := by first | assumption | omega
  have o_i2 : ∀ φ, sp_S W2_1 φ = sp_Pi CV mo 0 0 0 φ 231 := by exact sp_S_start p1_1
  have o_i3 : 0 = sp_mn CV mo 0 := by rfl
  have o_i4 : sp_zr W2_1 mo 0 := by intro k hk hc; rw [p1_1 k hk, if_neg (by omega)]
  exact L9 ((tk - 0) + 1) 0 W2_1 XB ua ub 0 (Nat.lt_succ_self _) o_i1 o_i2 o_i3 o_i4 H locs hP hD hS ls (lv_sub hl [2, 3, 4, 1, 0] rfl)

set_option maxHeartbeats 4000000 in
set_option maxRecDepth 100000 in
theorem c_X2_weighCount (l : Launch) (dC : Nat → ClassId) (dI : Nat → Nat → Nat) (cI cJ : ClassId) (sz : Nat) (u0 : Nat) (u1 : Nat) (u2 : Nat) (u3 : Nat) (ua : Nat) (ub : Nat) (BR : Nat → Nat) (RP : Nat → Nat) (CW : Nat → Nat) (WA : Nat → Nat) (XB : Nat → Nat) (rm : Nat) (tk : Nat) (mg : Nat) (bBR : ∀ i, BR i ≤ 4) (bRP : ∀ i, RP i ≤ 4) (bt : tk ≤ 10) (bg : mg ≤ 10) (brm : rm ≤ 6) : Met l yX2_weighCount wsX2_weighCount (zR 4 0 0 110) (va_Pc [.ref u0, .int (nI tk), .int (nI mg)] (zP (dC, dI) [(cI, .int), (cJ, .long)] [(u0, .inr (2, [.ref u1, .ref u2, .int (nI rm), .ref u3, .ref ua, .ref ub])), (u1, .inl (cI, 2, .inl (fun z_ => nI (BR z_)))), (u2, .inl (cI, 2, .inl (fun z_ => nI (RP z_)))), (u3, .inl (cI, 16, .inl (fun z_ => nI (CW z_)))), (ua, .inl (cJ, 308, .inr (.inl (fun z_ => lN (WA z_))))), (ub, .inl (cJ, 308, .inr (.inl (fun z_ => lN (XB z_)))))] sz nwA)) (va_Ql (fun (r : Int64) (u : (Nat) × (Nat → Nat) × (Nat → Nat) × (Nat → Nat) × (Nat) × (Nat)) => r = (lN u.1) ∧ (u.1 = sp_js (sp_cw BR RP) rm mg tk)) (zB (dC, dI) (fun (u : (Nat) × (Nat → Nat) × (Nat → Nat) × (Nat → Nat) × (Nat) × (Nat)) => [(u0, .inr (2, [.ref u1, .ref u2, .int (nI rm), .ref u3, .ref u.2.2.2.2.1, .ref u.2.2.2.2.2])), (u1, .inl (cI, 2, .inl (fun z_ => nI (BR z_)))), (u2, .inl (cI, 2, .inl (fun z_ => nI (RP z_)))), (u3, .inl (cI, 16, .inl (fun z_ => nI (u.2.1 z_)))), (u.2.2.2.2.1, .inl (cJ, 308, .inr (.inl (fun z_ => lN (u.2.2.1 z_))))), (u.2.2.2.2.2, .inl (cJ, 308, .inr (.inl (fun z_ => lN (u.2.2.2.1 z_)))))]) (va_A [(u0, .inr (2, [.ref u1, .ref u2, .int (nI rm), .ref u3, .ref ua, .ref ub])), (u1, .inl (cI, 2, .inl (fun z_ => nI (BR z_)))), (u2, .inl (cI, 2, .inl (fun z_ => nI (RP z_)))), (u3, .inl (cI, 16, .inl (fun z_ => nI (CW z_)))), (ua, .inl (cJ, 308, .inr (.inl (fun z_ => lN (WA z_))))), (ub, .inl (cJ, 308, .inr (.inl (fun z_ => lN (XB z_)))))] sz)) (va_A [(u0, .inr (2, [.ref u1, .ref u2, .int (nI rm), .ref u3, .ref ua, .ref ub])), (u1, .inl (cI, 2, .inl (fun z_ => nI (BR z_)))), (u2, .inl (cI, 2, .inl (fun z_ => nI (RP z_)))), (u3, .inl (cI, 16, .inl (fun z_ => nI (CW z_)))), (ua, .inl (cJ, 308, .inr (.inl (fun z_ => lN (WA z_))))), (ub, .inl (cJ, 308, .inr (.inl (fun z_ => lN (XB z_)))))] sz)) 0 0 (va_A [(u0, .inr (2, [.ref u1, .ref u2, .int (nI rm), .ref u3, .ref ua, .ref ub])), (u1, .inl (cI, 2, .inl (fun z_ => nI (BR z_)))), (u2, .inl (cI, 2, .inl (fun z_ => nI (RP z_)))), (u3, .inl (cI, 16, .inl (fun z_ => nI (CW z_)))), (ua, .inl (cJ, 308, .inr (.inl (fun z_ => lN (WA z_))))), (ub, .inl (cJ, 308, .inr (.inl (fun z_ => lN (XB z_)))))] sz) := by
  refine z_met_l (cc := cX2_weighCount) (maxL := 7) (by decide) rfl (Nat.le_of_ble_eq_true rfl) ?_
  intro p e s m args below meth c Q A ls hx hb hml hown hts hin hA hK hP hD hN hl hRET
  have hown : s.vm.findClass RX2 = some m.cls := hown
  obtain ⟨H, eH⟩ : ∃ H : Heap, H = s.heap := ⟨_, rfl⟩
  rw [← eH] at hP
  obtain ⟨locs, eL⟩ : ∃ z : List Loc, z = [] := ⟨_, rfl⟩
  rw [← eH, ← eL]
  have hS : va_S A s.heap H locs := by rw [eH, eL]; exact va_S.rf
  have hl : lv_has ls 7 [(0, .ref u0), (1, .int (nI tk)), (2, .int (nI mg))] := hl
  have w37 := hts (.fieldLink RX2 37 "PullCards$Pair" "room" "I") (by decide +kernel)
  have uX2 : ∀ w ∈ wsX20, w ∈ wsX2_weighCount := by decide +kernel
  have w21 := hts (.fieldLink RX2 21 "PullCards$Pair" "weights" "[J") (by decide +kernel)
  refine lv_aload_n hx hb dX2_weighCount_0 rfl (lv_at hl 0 rfl) ?_
  refine z_callVv (As := []) (rest := []) (wr := []) ⟨hx, hb, hml, hown, hts⟩ (c_X2_start l dC dI cI cJ H.size u0 u1 u2 u3 ua ub BR RP CW WA XB rm (by first | assumption | omega) (by first | assumption | omega)) (cwV 0 hts gX2_weighCount_X2_start rfl rfl rfl (by decide +kernel) ⟨Nat.le_of_ble_eq_true rfl, Nat.le_of_ble_eq_true rfl⟩) hA hK hP hD hS [0, 1, 2, 3, 4, 5] [] [0, 1, 2, 3, 4, 5] rfl rfl (by decide) (by decide) (by decide) nwA_ok hN (ci := 2) rfl rfl 0 rfl hl.1 (Nat.le_of_ble_eq_true rfl) ⟨Nat.le_refl _, Nat.le_refl _⟩ rfl rfl dX2_weighCount_1 (fun (u : (Nat → Nat) × (Nat → Nat)) => [(u0, .inr (2, [.ref u1, .ref u2, .int (nI rm), .ref u3, .ref ua, .ref ub])), (u1, .inl (cI, 2, .inl (fun z_ => nI (BR z_)))), (u2, .inl (cI, 2, .inl (fun z_ => nI (RP z_)))), (u3, .inl (cI, 16, .inl (fun z_ => nI (u.1 z_)))), (ua, .inl (cJ, 308, .inr (.inl (fun z_ => lN (u.2 z_))))), (ub, .inl (cJ, 308, .inr (.inl (fun z_ => lN (XB z_)))))]) (fun u => rfl) (by decide) (fun u H locs hw hP hD hS => ?_)
  obtain ⟨CV, W2_1⟩ := u
  have hP : va_P (dC, dI) vwCl [(u0, .inr (2, [.ref u1, .ref u2, .int (nI rm), .ref u3, .ref ua, .ref ub])), (u1, .inl (cI, 2, .inl (fun z_ => nI (BR z_)))), (u2, .inl (cI, 2, .inl (fun z_ => nI (RP z_)))), (u3, .inl (cI, 16, .inl (fun z_ => nI (CV z_)))), (ua, .inl (cJ, 308, .inr (.inl (fun z_ => lN (W2_1 z_))))), (ub, .inl (cJ, 308, .inr (.inl (fun z_ => lN (XB z_)))))] H := hP
  have hD : va_D A [(u0, .inr (2, [.ref u1, .ref u2, .int (nI rm), .ref u3, .ref ua, .ref ub])), (u1, .inl (cI, 2, .inl (fun z_ => nI (BR z_)))), (u2, .inl (cI, 2, .inl (fun z_ => nI (RP z_)))), (u3, .inl (cI, 16, .inl (fun z_ => nI (CV z_)))), (ua, .inl (cJ, 308, .inr (.inl (fun z_ => lN (W2_1 z_))))), (ub, .inl (cJ, 308, .inr (.inl (fun z_ => lN (XB z_)))))] := hD
  obtain ⟨p1_0, p1_1⟩ := hw
  have p1_0 : ∀ i, i < 16 → CV i = sp_cw BR RP i := p1_0
  have p1_1 : ∀ k, k < 308 → W2_1 k = if k = 231 then 1 else 0 := p1_1
  have hrow : sp_row CV := sp_row_cw p1_0 (sp_cw_row bBR bRP)
  have bCV : ∀ i, i < 16 → CV i ≤ 16 := fun i hi => by rw [p1_0 i hi]; exact Nat.mul_le_mul (sp_qo_le bBR bRP 0 _ _) (sp_qo_le bBR bRP 1 _ _)
  refine lv_iconst (v := nI 0) hx hb dX2_weighCount_4 (by decide) ?_
  refine lv_istore_n (lv' := [(3, .int (nI 0)), (0, .ref u0), (1, .int (nI tk)), (2, .int (nI mg))]) hx hb dX2_weighCount_5 rfl hl (by decide) rfl (fun ls hl => ?_)
  have L6 : ∀ (n6 : Nat) (t : Nat) (W1 : Nat → Nat) (X1 : Nat → Nat) (qa : Nat) (qb : Nat), (tk - t) < n6 → (t ≤ tk) → (∀ φ, sp_S W1 φ = sp_Pi CV rm mg 1 t φ 231) → (sp_zr W1 rm mg) → ∀ (H : Heap) (locs : List Loc), va_P (dC, dI) vwCl [(u0, .inr (2, [.ref u1, .ref u2, .int (nI rm), .ref u3, .ref qa, .ref qb])), (u1, .inl (cI, 2, .inl (fun z_ => nI (BR z_)))), (u2, .inl (cI, 2, .inl (fun z_ => nI (RP z_)))), (u3, .inl (cI, 16, .inl (fun z_ => nI (CV z_)))), (qa, .inl (cJ, 308, .inr (.inl (fun z_ => lN (W1 z_))))), (qb, .inl (cJ, 308, .inr (.inl (fun z_ => lN (X1 z_)))))] H → va_D A [(u0, .inr (2, [.ref u1, .ref u2, .int (nI rm), .ref u3, .ref qa, .ref qb])), (u1, .inl (cI, 2, .inl (fun z_ => nI (BR z_)))), (u2, .inl (cI, 2, .inl (fun z_ => nI (RP z_)))), (u3, .inl (cI, 16, .inl (fun z_ => nI (CV z_)))), (qa, .inl (cJ, 308, .inr (.inl (fun z_ => lN (W1 z_))))), (qb, .inl (cJ, 308, .inr (.inl (fun z_ => lN (X1 z_)))))] → va_S A s.heap H locs → ∀ (ls : Array Slot), lv_has ls 7 [(0, .ref u0), (1, .int (nI tk)), (2, .int (nI mg)), (3, .int (nI t))] → W p l e (zR 4 0 0 110) s m args below meth c H locs 0 0 Q (F0 m 6 ls []) := by
    intro n6
    induction n6 with
    | zero => intro t W1 X1 qa qb hn; exact absurd hn (Nat.not_lt_zero _)
    | succ n6 ih =>
      intro t W1 X1 qa qb hn i1 i2 i4 H locs hP hD hS ls hl
      have ih6 := ih
      have hn6 := hn
      clear ih hn
      have hW := sp_W_le brm bg hrow (show t ≤ 10 by omega) i2
      refine lv_iload_n hx hb dX2_weighCount_6 rfl (lv_at hl 3 rfl) ?_
      refine lv_iload_n hx hb dX2_weighCount_7 rfl (lv_at hl 1 rfl) ?_
      refine z_icmp_ge (tgt := 28) hx hb dX2_weighCount_8 (by decide) (zcn_le (a := tk) (b := t) rfl rfl (by omega)) (fun c_8 => ?_) (fun c_8 => ?_)
      · skip
        refine lv_lconst (v := lN 0) hx hb dX2_weighCount_28 (by decide) ?_
        refine lv_lstore_n (lv' := [(3, .long (lN 0)), (0, .ref u0), (1, .int (nI tk)), (2, .int (nI mg))]) hx hb dX2_weighCount_29 rfl hl (by decide) rfl (fun ls hl => ?_)
        refine lv_iconst (v := nI 0) hx hb dX2_weighCount_30 (by decide) ?_
        refine lv_istore (lv' := [(5, .int (nI 0)), (3, .long (lN 0)), (0, .ref u0), (1, .int (nI tk)), (2, .int (nI mg))]) hx hb dX2_weighCount_31 hl (by decide) rfl (fun ls hl => ?_)
        have L33 : ∀ (n33 : Nat) (x : Nat) (sm : Nat), (4 - x) < n33 → (x ≤ 4) → (sm = fb_sm (fun k => W1 k * sp_in mg k) (x * 77)) → ∀ (H : Heap) (locs : List Loc), va_P (dC, dI) vwCl [(u0, .inr (2, [.ref u1, .ref u2, .int (nI rm), .ref u3, .ref qa, .ref qb])), (u1, .inl (cI, 2, .inl (fun z_ => nI (BR z_)))), (u2, .inl (cI, 2, .inl (fun z_ => nI (RP z_)))), (u3, .inl (cI, 16, .inl (fun z_ => nI (CV z_)))), (qa, .inl (cJ, 308, .inr (.inl (fun z_ => lN (W1 z_))))), (qb, .inl (cJ, 308, .inr (.inl (fun z_ => lN (X1 z_)))))] H → va_D A [(u0, .inr (2, [.ref u1, .ref u2, .int (nI rm), .ref u3, .ref qa, .ref qb])), (u1, .inl (cI, 2, .inl (fun z_ => nI (BR z_)))), (u2, .inl (cI, 2, .inl (fun z_ => nI (RP z_)))), (u3, .inl (cI, 16, .inl (fun z_ => nI (CV z_)))), (qa, .inl (cJ, 308, .inr (.inl (fun z_ => lN (W1 z_))))), (qb, .inl (cJ, 308, .inr (.inl (fun z_ => lN (X1 z_)))))] → va_S A s.heap H locs → ∀ (ls : Array Slot), lv_has ls 7 [(0, .ref u0), (1, .int (nI tk)), (2, .int (nI mg)), (3, .long (lN sm)), (5, .int (nI x))] → W p l e (zR 4 0 0 110) s m args below meth c H locs 0 0 Q (F0 m 33 ls []) := by
          intro n33
          induction n33 with
          | zero => intro x sm hn; exact absurd hn (Nat.not_lt_zero _)
          | succ n33 ih =>
            intro x sm hn j1 j2 H locs hP hD hS ls hl
            have ih33 := ih
            have hn33 := hn
            clear ih hn
            refine lv_iload hx hb dX2_weighCount_33 (lv_at hl 4 rfl) ?_
            refine lv_iconst (v := nI 4) hx hb dX2_weighCount_35 (by decide) ?_
            refine z_icmp_ge (tgt := 79) hx hb dX2_weighCount_36 (by decide) (zcn_le (a := 4) (b := x) rfl rfl (by omega)) (fun c_36 => ?_) (fun c_36 => ?_)
            · skip
              refine lv_lload_n hx hb dX2_weighCount_79 rfl (lv_at hl 3 rfl) ?_
              have q_0 : sm = sp_js (sp_cw BR RP) rm mg tk := by rw [j2, show x = 4 by omega]; (have e := i2 (sp_in mg)); rw [show t = tk by omega] at e; (refine Eq.trans e ?_); exact sp_Pi_cw p1_0 brm bg tk _ 231 (by omega)
              exact hRET _ ls H locs ((lN sm)) (sm, CV, W1, X1, qa, qb) dX2_weighCount_80 ⟨rfl, q_0⟩ hP hD hS
            · skip
              refine lv_iconst (v := nI 0) hx hb dX2_weighCount_39 (by decide) ?_
              refine lv_istore (lv' := [(6, .int (nI 0)), (0, .ref u0), (1, .int (nI tk)), (2, .int (nI mg)), (3, .long (lN sm)), (5, .int (nI x))]) hx hb dX2_weighCount_40 hl (by decide) rfl (fun ls hl => ?_)
              have L42 : ∀ (n42 : Nat) (lv : Nat) (sn : Nat), (rm + 1 - lv) < n42 → (lv ≤ rm + 1) → (sn = fb_sm (fun k => W1 k * sp_in mg k) ((x * 7 + lv) * 11)) → ∀ (H : Heap) (locs : List Loc), va_P (dC, dI) vwCl [(u0, .inr (2, [.ref u1, .ref u2, .int (nI rm), .ref u3, .ref qa, .ref qb])), (u1, .inl (cI, 2, .inl (fun z_ => nI (BR z_)))), (u2, .inl (cI, 2, .inl (fun z_ => nI (RP z_)))), (u3, .inl (cI, 16, .inl (fun z_ => nI (CV z_)))), (qa, .inl (cJ, 308, .inr (.inl (fun z_ => lN (W1 z_))))), (qb, .inl (cJ, 308, .inr (.inl (fun z_ => lN (X1 z_)))))] H → va_D A [(u0, .inr (2, [.ref u1, .ref u2, .int (nI rm), .ref u3, .ref qa, .ref qb])), (u1, .inl (cI, 2, .inl (fun z_ => nI (BR z_)))), (u2, .inl (cI, 2, .inl (fun z_ => nI (RP z_)))), (u3, .inl (cI, 16, .inl (fun z_ => nI (CV z_)))), (qa, .inl (cJ, 308, .inr (.inl (fun z_ => lN (W1 z_))))), (qb, .inl (cJ, 308, .inr (.inl (fun z_ => lN (X1 z_)))))] → va_S A s.heap H locs → ∀ (ls : Array Slot), lv_has ls 7 [(0, .ref u0), (1, .int (nI tk)), (2, .int (nI mg)), (3, .long (lN sn)), (5, .int (nI x)), (6, .int (nI lv))] → W p l e (zR 4 0 0 110) s m args below meth c H locs 0 0 Q (F0 m 42 ls []) := by
                intro n42
                induction n42 with
                | zero => intro lv sn hn; exact absurd hn (Nat.not_lt_zero _)
                | succ n42 ih =>
                  intro lv sn hn k1 k2 H locs hP hD hS ls hl
                  have ih42 := ih
                  have hn42 := hn
                  clear ih hn
                  refine lv_iload hx hb dX2_weighCount_42 (lv_at hl 5 rfl) ?_
                  refine lv_aload_n hx hb dX2_weighCount_44 rfl (lv_at hl 0 rfl) ?_
                  refine z_get (D := (dC, dI)) (ci := 2) (v := .int (nI rm)) (C := RX2) (T := TX2) (N := 6) hx hb hts uX2 hown hK hP 0 rfl rfl 2 (by decide) w37 rfl rfl dX2_weighCount_45 ?_
                  refine z_icmp_gt (tgt := 73) hx hb dX2_weighCount_48 (by decide) (zcn_lt (a := rm) (b := lv) rfl rfl (by omega)) (fun c_48 => ?_) (fun c_48 => ?_)
                  · skip
                    refine lv_iinc (v := (nI (x + 1))) (lv' := [(5, .int (nI (x + 1))), (0, .ref u0), (1, .int (nI tk)), (2, .int (nI mg)), (3, .long (lN sn)), (6, .int (nI lv))]) hx hb dX2_weighCount_73 hl (k := 4) rfl (z_incN x 1 (by decide)) (by decide) rfl (fun ls hl => ?_)
                    refine lv_goto (tgt := 33) hx hb dX2_weighCount_76 (by decide) ?_
                    have o_j1 : (x + 1) ≤ 4 := by first | assumption | omega
                    have o_j2 : sn = fb_sm (fun k => W1 k * sp_in mg k) ((x + 1) * 77) := by rw [k2]; exact (sp_Sp_l i4 (by omega) (by omega) (by omega)).symm
                    have o_mu : (4 - (x + 1)) < n33 := by omega
                    exact ih33 (x + 1) sn o_mu o_j1 o_j2 H locs hP hD hS ls (lv_sub hl [1, 2, 3, 4, 0] rfl)
                  · skip
                    refine lv_lload_n hx hb dX2_weighCount_51 rfl (lv_at hl 3 rfl) ?_
                    refine lv_aload_n hx hb dX2_weighCount_52 rfl (lv_at hl 0 rfl) ?_
                    refine z_get (D := (dC, dI)) (ci := 2) (v := .ref qa) (C := RX2) (T := TX2) (N := 6) hx hb hts uX2 hown hK hP 0 rfl rfl 4 (by decide) w21 rfl rfl dX2_weighCount_53 ?_
                    refine lv_iload hx hb dX2_weighCount_56 (lv_at hl 4 rfl) ?_
                    refine lv_iload hx hb dX2_weighCount_58 (lv_at hl 5 rfl) ?_
                    refine lv_iload_n hx hb dX2_weighCount_60 rfl (lv_at hl 2 rfl) ?_
                    refine z_callSi (As := [.int (nI x), .int (nI lv), .int (nI mg)]) (rest := [.ref qa, .long (lN sn)]) (wr := [(u0, .inr (2, [.ref u1, .ref u2, .int (nI rm), .ref u3, .ref qa, .ref qb])), (u1, .inl (cI, 2, .inl (fun z_ => nI (BR z_)))), (u2, .inl (cI, 2, .inl (fun z_ => nI (RP z_)))), (u3, .inl (cI, 16, .inl (fun z_ => nI (CV z_)))), (qa, .inl (cJ, 308, .inr (.inl (fun z_ => lN (W1 z_))))), (qb, .inl (cJ, 308, .inr (.inl (fun z_ => lN (X1 z_)))))]) ⟨hx, hb, hml, hown, hts⟩ (c_X2_cell l dC dI cI cJ H.size x lv mg ) (va_cwS 3 hts gX2_weighCount_X2_cell rfl rfl rfl (by decide +kernel) ⟨Nat.le_of_ble_eq_true rfl, Nat.le_of_ble_eq_true rfl⟩) hA hK hP hD hS [] [0, 1, 2, 3, 4, 5] [0, 1, 2, 3, 4, 5] rfl rfl (by decide) (by decide) (by decide) nwA_ok hN hl.1 (Nat.le_of_ble_eq_true rfl) ⟨Nat.le_refl _, Nat.le_refl _⟩ rfl rfl dX2_weighCount_61 (fun (u : Unit) => [(u0, .inr (2, [.ref u1, .ref u2, .int (nI rm), .ref u3, .ref qa, .ref qb])), (u1, .inl (cI, 2, .inl (fun z_ => nI (BR z_)))), (u2, .inl (cI, 2, .inl (fun z_ => nI (RP z_)))), (u3, .inl (cI, 16, .inl (fun z_ => nI (CV z_)))), (qa, .inl (cJ, 308, .inr (.inl (fun z_ => lN (W1 z_))))), (qb, .inl (cJ, 308, .inr (.inl (fun z_ => lN (X1 z_)))))]) (fun u => rfl) (by decide) (fun r_61 u H locs hw hP hD hS => ?_)
                    have hP : va_P (dC, dI) vwCl [(u0, .inr (2, [.ref u1, .ref u2, .int (nI rm), .ref u3, .ref qa, .ref qb])), (u1, .inl (cI, 2, .inl (fun z_ => nI (BR z_)))), (u2, .inl (cI, 2, .inl (fun z_ => nI (RP z_)))), (u3, .inl (cI, 16, .inl (fun z_ => nI (CV z_)))), (qa, .inl (cJ, 308, .inr (.inl (fun z_ => lN (W1 z_))))), (qb, .inl (cJ, 308, .inr (.inl (fun z_ => lN (X1 z_)))))] H := hP
                    have hD : va_D A [(u0, .inr (2, [.ref u1, .ref u2, .int (nI rm), .ref u3, .ref qa, .ref qb])), (u1, .inl (cI, 2, .inl (fun z_ => nI (BR z_)))), (u2, .inl (cI, 2, .inl (fun z_ => nI (RP z_)))), (u3, .inl (cI, 16, .inl (fun z_ => nI (CV z_)))), (qa, .inl (cJ, 308, .inr (.inl (fun z_ => lN (W1 z_))))), (qb, .inl (cJ, 308, .inr (.inl (fun z_ => lN (X1 z_)))))] := hD
                    have er := hw
                    have er : r_61 = (nI (sp_ix x lv mg)) := er
                    subst er
                    have hix : ((sp_ix x lv mg)) < 308 := by unfold sp_ix; omega
                    refine z_lald (v := (lN (W1 (sp_ix x lv mg)))) hx hb hK hP 4 1 rfl rfl (sp_ix x lv mg) rfl (by omega) rfl dX2_weighCount_64 ?_
                    refine z_ladd (v := (lN (sn + (W1 (sp_ix x lv mg))))) hx hb dX2_weighCount_65 (lN_add _ _) ?_
                    refine lv_lstore_n (lv' := [(3, .long (lN (sn + (W1 (sp_ix x lv mg))))), (0, .ref u0), (1, .int (nI tk)), (2, .int (nI mg)), (5, .int (nI x)), (6, .int (nI lv))]) hx hb dX2_weighCount_66 rfl hl (by decide) rfl (fun ls hl => ?_)
                    refine lv_iinc (v := (nI (lv + 1))) (lv' := [(6, .int (nI (lv + 1))), (3, .long (lN (sn + (W1 (sp_ix x lv mg))))), (0, .ref u0), (1, .int (nI tk)), (2, .int (nI mg)), (5, .int (nI x))]) hx hb dX2_weighCount_67 hl (k := 5) rfl (z_incN lv 1 (by decide)) (by decide) rfl (fun ls hl => ?_)
                    refine lv_goto (tgt := 42) hx hb dX2_weighCount_70 (by decide) ?_
                    have o_k1 : (lv + 1) ≤ rm + 1 := by first | assumption | omega
                    have o_k2 : (sn + (W1 (sp_ix x lv mg))) = fb_sm (fun k => W1 k * sp_in mg k) ((x * 7 + (lv + 1)) * 11) := by rw [show (x * 7 + (lv + 1)) * 11 = ((x * 7 + lv) + 1) * 11 by omega, sp_in_11 (by omega), ← k2]; rfl
                    have o_mu : (rm + 1 - (lv + 1)) < n42 := by omega
                    exact ih42 (lv + 1) (sn + (W1 (sp_ix x lv mg))) o_mu o_k1 o_k2 H locs hP hD hS ls (lv_sub hl [2, 3, 4, 1, 5, 0] rfl)
              have o_k1 : 0 ≤ rm + 1 := by first | assumption | omega
              have o_k2 : sm = fb_sm (fun k => W1 k * sp_in mg k) ((x * 7 + 0) * 11) := by rw [j2, show (x * 7 + 0) * 11 = x * 77 by omega]
              exact L42 ((rm + 1 - 0) + 1) 0 sm (Nat.lt_succ_self _) o_k1 o_k2 H locs hP hD hS ls (lv_sub hl [1, 2, 3, 4, 5, 0] rfl)
        have o_j1 : 0 ≤ 4 := by first | assumption | omega
        have o_j2 : 0 = fb_sm (fun k => W1 k * sp_in mg k) (0 * 77) := by rfl
        exact L33 ((4 - 0) + 1) 0 0 (Nat.lt_succ_self _) o_j1 o_j2 H locs hP hD hS ls (lv_sub hl [2, 3, 4, 1, 0] rfl)
      · skip
        refine lv_aload_n hx hb dX2_weighCount_11 rfl (lv_at hl 0 rfl) ?_
        refine lv_aload_n hx hb dX2_weighCount_12 rfl (lv_at hl 0 rfl) ?_
        refine z_get (D := (dC, dI)) (ci := 2) (v := .int (nI rm)) (C := RX2) (T := TX2) (N := 6) hx hb hts uX2 hown hK hP 0 rfl rfl 2 (by decide) w37 rfl rfl dX2_weighCount_13 ?_
        refine lv_iload_n hx hb dX2_weighCount_16 rfl (lv_at hl 2 rfl) ?_
        refine lv_iconst (v := nI 1) hx hb dX2_weighCount_17 (by decide) ?_
        refine z_callVl (As := [.int (nI rm), .int (nI mg), .int (nI 1)]) (rest := []) (wr := []) ⟨hx, hb, hml, hown, hts⟩ (c_X2_runTick l dC dI cI cJ H.size u0 u1 u2 u3 qa qb BR RP CV W1 X1 rm rm mg 1 (by exact bCV) (by first | assumption | omega) (by first | assumption | omega) (by first | assumption | omega) (by exact i4) (by intro k hk; have := hW k hk; omega)) (cwV 3 hts gX2_weighCount_X2_runTick rfl rfl rfl (by decide +kernel) ⟨Nat.le_of_ble_eq_true rfl, Nat.le_of_ble_eq_true rfl⟩) hA hK hP hD hS [0, 1, 2, 3, 4, 5] [] [0, 1, 2, 3, 4, 5] rfl rfl (by decide) (by decide) (by decide) nwA_ok hN (ci := 2) rfl rfl 0 rfl hl.1 (Nat.le_of_ble_eq_true rfl) ⟨Nat.le_refl _, Nat.le_refl _⟩ rfl rfl dX2_weighCount_18 (fun (u : (Nat) × (Nat → Nat)) => [(u0, .inr (2, [.ref u1, .ref u2, .int (nI rm), .ref u3, .ref qb, .ref qa])), (u1, .inl (cI, 2, .inl (fun z_ => nI (BR z_)))), (u2, .inl (cI, 2, .inl (fun z_ => nI (RP z_)))), (u3, .inl (cI, 16, .inl (fun z_ => nI (CV z_)))), (qa, .inl (cJ, 308, .inr (.inl (fun z_ => lN (W1 z_))))), (qb, .inl (cJ, 308, .inr (.inl (fun z_ => lN (u.2 z_)))))]) (fun u => rfl) (by decide) (fun r_18 u H locs hw hP hD hS => ?_)
        obtain ⟨rv_18, X2_18⟩ := u
        have hP : va_P (dC, dI) vwCl [(u0, .inr (2, [.ref u1, .ref u2, .int (nI rm), .ref u3, .ref qb, .ref qa])), (u1, .inl (cI, 2, .inl (fun z_ => nI (BR z_)))), (u2, .inl (cI, 2, .inl (fun z_ => nI (RP z_)))), (u3, .inl (cI, 16, .inl (fun z_ => nI (CV z_)))), (qa, .inl (cJ, 308, .inr (.inl (fun z_ => lN (W1 z_))))), (qb, .inl (cJ, 308, .inr (.inl (fun z_ => lN (X2_18 z_)))))] H := hP
        have hD : va_D A [(u0, .inr (2, [.ref u1, .ref u2, .int (nI rm), .ref u3, .ref qb, .ref qa])), (u1, .inl (cI, 2, .inl (fun z_ => nI (BR z_)))), (u2, .inl (cI, 2, .inl (fun z_ => nI (RP z_)))), (u3, .inl (cI, 16, .inl (fun z_ => nI (CV z_)))), (qa, .inl (cJ, 308, .inr (.inl (fun z_ => lN (W1 z_))))), (qb, .inl (cJ, 308, .inr (.inl (fun z_ => lN (X2_18 z_)))))] := hD
        obtain ⟨er, p18_0, p18_1, p18_2⟩ := hw
        have p18_0 : rv_18 = sp_S W1 (sp_gf CV) := p18_0
        have p18_1 : ∀ φ, sp_S X2_18 φ = sp_S W1 (sp_Pf CV rm mg 1 φ) := p18_1
        have p18_2 : sp_zr X2_18 rm mg := p18_2
        have er : r_18 = (lN rv_18) := er
        subst er
        have hP := z_subP hP [0, 1, 2, 3, 5, 4] (wc := [(u0, .inr (2, [.ref u1, .ref u2, .int (nI rm), .ref u3, .ref qb, .ref qa])), (u1, .inl (cI, 2, .inl (fun z_ => nI (BR z_)))), (u2, .inl (cI, 2, .inl (fun z_ => nI (RP z_)))), (u3, .inl (cI, 16, .inl (fun z_ => nI (CV z_)))), (qb, .inl (cJ, 308, .inr (.inl (fun z_ => lN (X2_18 z_))))), (qa, .inl (cJ, 308, .inr (.inl (fun z_ => lN (W1 z_)))))]) rfl
        have hD := hD.sub [0, 1, 2, 3, 5, 4] (by decide) (ws' := [(u0, .inr (2, [.ref u1, .ref u2, .int (nI rm), .ref u3, .ref qb, .ref qa])), (u1, .inl (cI, 2, .inl (fun z_ => nI (BR z_)))), (u2, .inl (cI, 2, .inl (fun z_ => nI (RP z_)))), (u3, .inl (cI, 16, .inl (fun z_ => nI (CV z_)))), (qb, .inl (cJ, 308, .inr (.inl (fun z_ => lN (X2_18 z_))))), (qa, .inl (cJ, 308, .inr (.inl (fun z_ => lN (W1 z_)))))]) rfl
        refine lv_pop2_2 hx hb dX2_weighCount_21 rfl ?_
        refine lv_iinc (v := (nI (t + 1))) (lv' := [(3, .int (nI (t + 1))), (0, .ref u0), (1, .int (nI tk)), (2, .int (nI mg))]) hx hb dX2_weighCount_22 hl (k := 3) rfl (z_incN t 1 (by decide)) (by decide) rfl (fun ls hl => ?_)
        refine lv_goto (tgt := 6) hx hb dX2_weighCount_25 (by decide) ?_
        have o_i1 : (t + 1) ≤ tk := by first | assumption | omega
        have o_i2 : ∀ φ, sp_S X2_18 φ = sp_Pi CV rm mg 1 (t + 1) φ 231 := by intro φ; rw [p18_1 φ, i2, sp_Pi_s]
        have o_i4 : sp_zr X2_18 rm mg := by exact p18_2
        have o_mu : (tk - (t + 1)) < n6 := by omega
        exact ih6 (t + 1) X2_18 W1 qb qa o_mu o_i1 o_i2 o_i4 H locs hP hD hS ls (lv_sub hl [1, 2, 3, 0] rfl)
  have o_i1 : 0 ≤ tk := by first | assumption | omega
  have o_i2 : ∀ φ, sp_S W2_1 φ = sp_Pi CV rm mg 1 0 φ 231 := by exact sp_S_start p1_1
  have o_i4 : sp_zr W2_1 rm mg := by intro k hk hc; rw [p1_1 k hk, if_neg (by omega)]
  exact L6 ((tk - 0) + 1) 0 W2_1 XB ua ub (Nat.lt_succ_self _) o_i1 o_i2 o_i4 H locs hP hD hS ls (lv_sub hl [1, 2, 3, 0] rfl)
