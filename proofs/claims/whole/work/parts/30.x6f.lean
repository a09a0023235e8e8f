set_option maxHeartbeats 4000000 in
set_option maxRecDepth 100000 in
theorem c_X6_go (l : Launch) (dC : Nat → ClassId) (dI : Nat → Nat → Nat) (cI cJ : ClassId) (sz : Nat) (m0 : Nat) (x1 : Nat) (x2 : Nat) (x3 : Nat) (x4 : Nat) (x5 : Nat) (x6 : Nat) (x7 : Nat) (x8 : Nat) (x9 : Nat) (y1 : Nat) (y2 : Nat) (y3 : Nat) (y4 : Nat) (y5 : Nat) (y6 : Nat) (y7 : Nat) (N : Nat) (K : Nat) (lo : Nat) (ns : Nat) (nd : Nat) (rm : Nat) (pls : Nat) (BR : Nat → Nat) (RP : Nat → Nat) (WT : Nat → Nat) (NX : Nat → Nat) (tk : Nat) (mo : Nat) (bBR : ∀ i, BR i ≤ 4) (bRP : ∀ i, RP i ≤ 4) (btk : tk ≤ 10) (bm : mo ≤ 6) : Met l yX6_go wsX6_go (zR 2 0 0 53) (va_Pc [.ref m0, .int (nI tk), .int (nI mo)] (zP (dC, dI) [(cI, .int), (cJ, .long)] [(m0, .inr (6, [.int (nI N), .ref x1, .int (nI K), .ref x2, .ref x3, .ref x4, .int (nI lo), .ref x5, .ref x6, .ref x7, .ref x8, .int (nI ns), .int (nI nd), .ref x9, .ref y1, .ref y2, .int (nI rm), .ref y3, .ref y4, .ref y5, .ref y6, .ref y7, .int (nI pls)])), (y1, .inl (cI, 2, .inl (fun z_ => nI (BR z_)))), (y2, .inl (cI, 2, .inl (fun z_ => nI (RP z_)))), (y3, .inl (cJ, 308, .inr (.inl (fun z_ => lN (WT z_))))), (y4, .inl (cJ, 308, .inr (.inl (fun z_ => lN (NX z_)))))] sz nwA)) (va_Qv (fun (u : (Nat → Nat) × (Nat → Nat)) => (∀ φ, sp_S u.1 (fun k_ => φ (sp_sg k_)) = sp_Pi (sp_cw BR RP) mo 10 1 tk φ 231)) (zB (dC, dI) (fun (u : (Nat → Nat) × (Nat → Nat)) => [(m0, .inr (6, [.int (nI N), .ref x1, .int (nI K), .ref x2, .ref x3, .ref x4, .int (nI lo), .ref x5, .ref x6, .ref x7, .ref x8, .int (nI ns), .int (nI nd), .ref x9, .ref y1, .ref y2, .int (nI rm), .ref y3, .ref y4, .ref y5, .ref y6, .ref y7, .int (nI pls)])), (y1, .inl (cI, 2, .inl (fun z_ => nI (BR z_)))), (y2, .inl (cI, 2, .inl (fun z_ => nI (RP z_)))), (y3, .inl (cJ, 308, .inr (.inl (fun z_ => lN (u.1 z_))))), (y4, .inl (cJ, 308, .inr (.inl (fun z_ => lN (u.2 z_)))))]) (va_A [(m0, .inr (6, [.int (nI N), .ref x1, .int (nI K), .ref x2, .ref x3, .ref x4, .int (nI lo), .ref x5, .ref x6, .ref x7, .ref x8, .int (nI ns), .int (nI nd), .ref x9, .ref y1, .ref y2, .int (nI rm), .ref y3, .ref y4, .ref y5, .ref y6, .ref y7, .int (nI pls)])), (y1, .inl (cI, 2, .inl (fun z_ => nI (BR z_)))), (y2, .inl (cI, 2, .inl (fun z_ => nI (RP z_)))), (y3, .inl (cJ, 308, .inr (.inl (fun z_ => lN (WT z_))))), (y4, .inl (cJ, 308, .inr (.inl (fun z_ => lN (NX z_)))))] sz)) (va_A [(m0, .inr (6, [.int (nI N), .ref x1, .int (nI K), .ref x2, .ref x3, .ref x4, .int (nI lo), .ref x5, .ref x6, .ref x7, .ref x8, .int (nI ns), .int (nI nd), .ref x9, .ref y1, .ref y2, .int (nI rm), .ref y3, .ref y4, .ref y5, .ref y6, .ref y7, .int (nI pls)])), (y1, .inl (cI, 2, .inl (fun z_ => nI (BR z_)))), (y2, .inl (cI, 2, .inl (fun z_ => nI (RP z_)))), (y3, .inl (cJ, 308, .inr (.inl (fun z_ => lN (WT z_))))), (y4, .inl (cJ, 308, .inr (.inl (fun z_ => lN (NX z_)))))] sz)) 0 0 (va_A [(m0, .inr (6, [.int (nI N), .ref x1, .int (nI K), .ref x2, .ref x3, .ref x4, .int (nI lo), .ref x5, .ref x6, .ref x7, .ref x8, .int (nI ns), .int (nI nd), .ref x9, .ref y1, .ref y2, .int (nI rm), .ref y3, .ref y4, .ref y5, .ref y6, .ref y7, .int (nI pls)])), (y1, .inl (cI, 2, .inl (fun z_ => nI (BR z_)))), (y2, .inl (cI, 2, .inl (fun z_ => nI (RP z_)))), (y3, .inl (cJ, 308, .inr (.inl (fun z_ => lN (WT z_))))), (y4, .inl (cJ, 308, .inr (.inl (fun z_ => lN (NX z_)))))] sz) := by
  refine z_met_v (cc := cX6_go) (maxL := 6) (by decide) rfl (Nat.le_of_ble_eq_true rfl) ?_
  intro p e s m args below meth c Q A ls hx hb hml hown hts hin hA hK hP hD hN hl hRET
  have hown : s.vm.findClass RX6 = some m.cls := hown
  obtain ⟨H, eH⟩ : ∃ H : Heap, H = s.heap := ⟨_, rfl⟩
  rw [← eH] at hP
  obtain ⟨locs, eL⟩ : ∃ z : List Loc, z = [] := ⟨_, rfl⟩
  rw [← eH, ← eL]
  have hS : va_S A s.heap H locs := by rw [eH, eL]; exact va_S.rf
  have hl : lv_has ls 6 [(0, .ref m0), (1, .int (nI tk)), (2, .int (nI mo))] := hl
  have w43 := hts (.fieldLink RX6 43 "PullCardsModel" "weight" "[J") (by decide +kernel)
  have uX6 : ∀ w ∈ wsX60, w ∈ wsX6_go := by decide +kernel
  have w47 := hts (.fieldLink RX6 47 "PullCardsModel" "next" "[J") (by decide +kernel)
  have hrow : sp_row (sp_cw BR RP) := sp_cw_row bBR bRP
  refine lv_iconst (v := nI 0) hx hb dX6_go_0 (by decide) ?_
  refine lv_istore_n (lv' := [(3, .int (nI 0)), (0, .ref m0), (1, .int (nI tk)), (2, .int (nI mo))]) hx hb dX6_go_1 rfl hl (by decide) rfl (fun ls hl => ?_)
  have L2 : ∀ (n2 : Nat) (vi : Nat) (W1 : Nat → Nat), (308 - vi) < n2 → (vi ≤ 308) → (∀ q, q < vi → W1 q = if q = 231 then 1 else 0) → ∀ (H : Heap) (locs : List Loc), va_P (dC, dI) vwCl [(m0, .inr (6, [.int (nI N), .ref x1, .int (nI K), .ref x2, .ref x3, .ref x4, .int (nI lo), .ref x5, .ref x6, .ref x7, .ref x8, .int (nI ns), .int (nI nd), .ref x9, .ref y1, .ref y2, .int (nI rm), .ref y3, .ref y4, .ref y5, .ref y6, .ref y7, .int (nI pls)])), (y1, .inl (cI, 2, .inl (fun z_ => nI (BR z_)))), (y2, .inl (cI, 2, .inl (fun z_ => nI (RP z_)))), (y3, .inl (cJ, 308, .inr (.inl (fun z_ => lN (W1 z_))))), (y4, .inl (cJ, 308, .inr (.inl (fun z_ => lN (NX z_)))))] H → va_D A [(m0, .inr (6, [.int (nI N), .ref x1, .int (nI K), .ref x2, .ref x3, .ref x4, .int (nI lo), .ref x5, .ref x6, .ref x7, .ref x8, .int (nI ns), .int (nI nd), .ref x9, .ref y1, .ref y2, .int (nI rm), .ref y3, .ref y4, .ref y5, .ref y6, .ref y7, .int (nI pls)])), (y1, .inl (cI, 2, .inl (fun z_ => nI (BR z_)))), (y2, .inl (cI, 2, .inl (fun z_ => nI (RP z_)))), (y3, .inl (cJ, 308, .inr (.inl (fun z_ => lN (W1 z_))))), (y4, .inl (cJ, 308, .inr (.inl (fun z_ => lN (NX z_)))))] → va_S A s.heap H locs → ∀ (ls : Array Slot), lv_has ls 6 [(0, .ref m0), (1, .int (nI tk)), (2, .int (nI mo)), (3, .int (nI vi))] → W p l e (zR 2 0 0 53) s m args below meth c H locs 0 0 Q (F0 m 2 ls []) := by
    intro n2
    induction n2 with
    | zero => intro vi W1 hn; exact absurd hn (Nat.not_lt_zero _)
    | succ n2 ih =>
      intro vi W1 hn a1 a2 H locs hP hD hS ls hl
      have ih2 := ih
      have hn2 := hn
      clear ih hn
      refine lv_iload_n hx hb dX6_go_2 rfl (lv_at hl 3 rfl) ?_
      refine lv_sipush (v := nI 308) hx hb dX6_go_3 (by decide) ?_
      refine z_icmp_ge (tgt := 33) hx hb dX6_go_6 (by decide) (zcn_le (a := 308) (b := vi) rfl rfl (by omega)) (fun c_6 => ?_) (fun c_6 => ?_)
      · skip
        refine lv_iconst (v := nI 0) hx hb dX6_go_33 (by decide) ?_
        refine lv_istore_n (lv' := [(3, .int (nI 0)), (0, .ref m0), (1, .int (nI tk)), (2, .int (nI mo))]) hx hb dX6_go_34 rfl hl (by decide) rfl (fun ls hl => ?_)
        have L35 : ∀ (n35 : Nat) (t : Nat) (W2 : Nat → Nat) (X2 : Nat → Nat), (tk - t) < n35 → (t ≤ tk) → (∀ φ, sp_S W2 (fun k_ => φ (sp_sg k_)) = sp_Pi (sp_cw BR RP) mo 10 1 t φ 231) → (sp_zr W2 mo t) → ∀ (H : Heap) (locs : List Loc), va_P (dC, dI) vwCl [(m0, .inr (6, [.int (nI N), .ref x1, .int (nI K), .ref x2, .ref x3, .ref x4, .int (nI lo), .ref x5, .ref x6, .ref x7, .ref x8, .int (nI ns), .int (nI nd), .ref x9, .ref y1, .ref y2, .int (nI rm), .ref y3, .ref y4, .ref y5, .ref y6, .ref y7, .int (nI pls)])), (y1, .inl (cI, 2, .inl (fun z_ => nI (BR z_)))), (y2, .inl (cI, 2, .inl (fun z_ => nI (RP z_)))), (y3, .inl (cJ, 308, .inr (.inl (fun z_ => lN (W2 z_))))), (y4, .inl (cJ, 308, .inr (.inl (fun z_ => lN (X2 z_)))))] H → va_D A [(m0, .inr (6, [.int (nI N), .ref x1, .int (nI K), .ref x2, .ref x3, .ref x4, .int (nI lo), .ref x5, .ref x6, .ref x7, .ref x8, .int (nI ns), .int (nI nd), .ref x9, .ref y1, .ref y2, .int (nI rm), .ref y3, .ref y4, .ref y5, .ref y6, .ref y7, .int (nI pls)])), (y1, .inl (cI, 2, .inl (fun z_ => nI (BR z_)))), (y2, .inl (cI, 2, .inl (fun z_ => nI (RP z_)))), (y3, .inl (cJ, 308, .inr (.inl (fun z_ => lN (W2 z_))))), (y4, .inl (cJ, 308, .inr (.inl (fun z_ => lN (X2 z_)))))] → va_S A s.heap H locs → ∀ (ls : Array Slot), lv_has ls 6 [(0, .ref m0), (1, .int (nI tk)), (2, .int (nI mo)), (3, .int (nI t))] → W p l e (zR 2 0 0 53) s m args below meth c H locs 0 0 Q (F0 m 35 ls []) := by
          intro n35
          induction n35 with
          | zero => intro t W2 X2 hn; exact absurd hn (Nat.not_lt_zero _)
          | succ n35 ih =>
            intro t W2 X2 hn b1 b2 b3 H locs hP hD hS ls hl
            have ih35 := ih
            have hn35 := hn
            clear ih hn
            have hWl := sp_Wm_le bm hrow (show t ≤ 10 by omega) b2
            refine lv_iload_n hx hb dX6_go_35 rfl (lv_at hl 3 rfl) ?_
            refine lv_iload_n hx hb dX6_go_36 rfl (lv_at hl 1 rfl) ?_
            refine z_icmp_ge (tgt := 155) hx hb dX6_go_37 (by decide) (zcn_le (a := tk) (b := t) rfl rfl (by omega)) (fun c_37 => ?_) (fun c_37 => ?_)
            · skip
              have q_0 : ∀ φ, sp_S W2 (fun k_ => φ (sp_sg k_)) = sp_Pi (sp_cw BR RP) mo 10 1 tk φ 231 := by rw [show tk = t by omega]; exact b2
              exact hRET _ ls H locs (W2, X2) dX6_go_155 q_0 hP hD hS
            · skip
              refine lv_iconst (v := nI 0) hx hb dX6_go_40 (by decide) ?_
              refine lv_istore (lv' := [(4, .int (nI 0)), (0, .ref m0), (1, .int (nI tk)), (2, .int (nI mo)), (3, .int (nI t))]) hx hb dX6_go_41 hl (by decide) rfl (fun ls hl => ?_)
              have L43 : ∀ (n43 : Nat) (vz : Nat) (X3 : Nat → Nat), (308 - vz) < n43 → (vz ≤ 308) → (∀ q, q < vz → X3 q = 0) → ∀ (H : Heap) (locs : List Loc), va_P (dC, dI) vwCl [(m0, .inr (6, [.int (nI N), .ref x1, .int (nI K), .ref x2, .ref x3, .ref x4, .int (nI lo), .ref x5, .ref x6, .ref x7, .ref x8, .int (nI ns), .int (nI nd), .ref x9, .ref y1, .ref y2, .int (nI rm), .ref y3, .ref y4, .ref y5, .ref y6, .ref y7, .int (nI pls)])), (y1, .inl (cI, 2, .inl (fun z_ => nI (BR z_)))), (y2, .inl (cI, 2, .inl (fun z_ => nI (RP z_)))), (y3, .inl (cJ, 308, .inr (.inl (fun z_ => lN (W2 z_))))), (y4, .inl (cJ, 308, .inr (.inl (fun z_ => lN (X3 z_)))))] H → va_D A [(m0, .inr (6, [.int (nI N), .ref x1, .int (nI K), .ref x2, .ref x3, .ref x4, .int (nI lo), .ref x5, .ref x6, .ref x7, .ref x8, .int (nI ns), .int (nI nd), .ref x9, .ref y1, .ref y2, .int (nI rm), .ref y3, .ref y4, .ref y5, .ref y6, .ref y7, .int (nI pls)])), (y1, .inl (cI, 2, .inl (fun z_ => nI (BR z_)))), (y2, .inl (cI, 2, .inl (fun z_ => nI (RP z_)))), (y3, .inl (cJ, 308, .inr (.inl (fun z_ => lN (W2 z_))))), (y4, .inl (cJ, 308, .inr (.inl (fun z_ => lN (X3 z_)))))] → va_S A s.heap H locs → ∀ (ls : Array Slot), lv_has ls 6 [(0, .ref m0), (1, .int (nI tk)), (2, .int (nI mo)), (3, .int (nI t)), (4, .int (nI vz))] → W p l e (zR 2 0 0 53) s m args below meth c H locs 0 0 Q (F0 m 43 ls []) := by
                intro n43
                induction n43 with
                | zero => intro vz X3 hn; exact absurd hn (Nat.not_lt_zero _)
                | succ n43 ih =>
                  intro vz X3 hn d1 d2 H locs hP hD hS ls hl
                  have ih43 := ih
                  have hn43 := hn
                  clear ih hn
                  refine lv_iload hx hb dX6_go_43 (lv_at hl 4 rfl) ?_
                  refine lv_sipush (v := nI 308) hx hb dX6_go_45 (by decide) ?_
                  refine z_icmp_ge (tgt := 65) hx hb dX6_go_48 (by decide) (zcn_le (a := 308) (b := vz) rfl rfl (by omega)) (fun c_48 => ?_) (fun c_48 => ?_)
                  · skip
                    refine lv_iconst (v := nI 0) hx hb dX6_go_65 (by decide) ?_
                    refine lv_istore (lv' := [(4, .int (nI 0)), (0, .ref m0), (1, .int (nI tk)), (2, .int (nI mo)), (3, .int (nI t))]) hx hb dX6_go_66 hl (by decide) rfl (fun ls hl => ?_)
                    have L68 : ∀ (n68 : Nat) (i : Nat) (X4 : Nat → Nat), (308 - i) < n68 → (i ≤ 308) → (∀ φ, sp_S X4 (fun k_ => φ (sp_sg k_)) = fb_sm (fun k_ => W2 k_ * sp_Pf (sp_cw BR RP) mo 10 1 φ (sp_sg k_)) i) → (sp_zr X4 mo (t + 1)) → ∀ (H : Heap) (locs : List Loc), va_P (dC, dI) vwCl [(m0, .inr (6, [.int (nI N), .ref x1, .int (nI K), .ref x2, .ref x3, .ref x4, .int (nI lo), .ref x5, .ref x6, .ref x7, .ref x8, .int (nI ns), .int (nI nd), .ref x9, .ref y1, .ref y2, .int (nI rm), .ref y3, .ref y4, .ref y5, .ref y6, .ref y7, .int (nI pls)])), (y1, .inl (cI, 2, .inl (fun z_ => nI (BR z_)))), (y2, .inl (cI, 2, .inl (fun z_ => nI (RP z_)))), (y3, .inl (cJ, 308, .inr (.inl (fun z_ => lN (W2 z_))))), (y4, .inl (cJ, 308, .inr (.inl (fun z_ => lN (X4 z_)))))] H → va_D A [(m0, .inr (6, [.int (nI N), .ref x1, .int (nI K), .ref x2, .ref x3, .ref x4, .int (nI lo), .ref x5, .ref x6, .ref x7, .ref x8, .int (nI ns), .int (nI nd), .ref x9, .ref y1, .ref y2, .int (nI rm), .ref y3, .ref y4, .ref y5, .ref y6, .ref y7, .int (nI pls)])), (y1, .inl (cI, 2, .inl (fun z_ => nI (BR z_)))), (y2, .inl (cI, 2, .inl (fun z_ => nI (RP z_)))), (y3, .inl (cJ, 308, .inr (.inl (fun z_ => lN (W2 z_))))), (y4, .inl (cJ, 308, .inr (.inl (fun z_ => lN (X4 z_)))))] → va_S A s.heap H locs → ∀ (ls : Array Slot), lv_has ls 6 [(0, .ref m0), (1, .int (nI tk)), (2, .int (nI mo)), (3, .int (nI t)), (4, .int (nI i))] → W p l e (zR 2 0 0 53) s m args below meth c H locs 0 0 Q (F0 m 68 ls []) := by
                      intro n68
                      induction n68 with
                      | zero => intro i X4 hn; exact absurd hn (Nat.not_lt_zero _)
                      | succ n68 ih =>
                        intro i X4 hn e1 e2 e3 H locs hP hD hS ls hl
                        have ih68 := ih
                        have hn68 := hn
                        clear ih hn
                        refine lv_iload hx hb dX6_go_68 (lv_at hl 4 rfl) ?_
                        refine lv_sipush (v := nI 308) hx hb dX6_go_70 (by decide) ?_
                        refine z_icmp_ge (tgt := 118) hx hb dX6_go_73 (by decide) (zcn_le (a := 308) (b := i) rfl rfl (by omega)) (fun c_73 => ?_) (fun c_73 => ?_)
                        · skip
                          refine lv_iconst (v := nI 0) hx hb dX6_go_118 (by decide) ?_
                          refine lv_istore (lv' := [(4, .int (nI 0)), (0, .ref m0), (1, .int (nI tk)), (2, .int (nI mo)), (3, .int (nI t))]) hx hb dX6_go_119 hl (by decide) rfl (fun ls hl => ?_)
                          have L121 : ∀ (n121 : Nat) (vw : Nat) (W3 : Nat → Nat), (308 - vw) < n121 → (vw ≤ 308) → (∀ q, q < vw → W3 q = X4 q) → ∀ (H : Heap) (locs : List Loc), va_P (dC, dI) vwCl [(m0, .inr (6, [.int (nI N), .ref x1, .int (nI K), .ref x2, .ref x3, .ref x4, .int (nI lo), .ref x5, .ref x6, .ref x7, .ref x8, .int (nI ns), .int (nI nd), .ref x9, .ref y1, .ref y2, .int (nI rm), .ref y3, .ref y4, .ref y5, .ref y6, .ref y7, .int (nI pls)])), (y1, .inl (cI, 2, .inl (fun z_ => nI (BR z_)))), (y2, .inl (cI, 2, .inl (fun z_ => nI (RP z_)))), (y3, .inl (cJ, 308, .inr (.inl (fun z_ => lN (W3 z_))))), (y4, .inl (cJ, 308, .inr (.inl (fun z_ => lN (X4 z_)))))] H → va_D A [(m0, .inr (6, [.int (nI N), .ref x1, .int (nI K), .ref x2, .ref x3, .ref x4, .int (nI lo), .ref x5, .ref x6, .ref x7, .ref x8, .int (nI ns), .int (nI nd), .ref x9, .ref y1, .ref y2, .int (nI rm), .ref y3, .ref y4, .ref y5, .ref y6, .ref y7, .int (nI pls)])), (y1, .inl (cI, 2, .inl (fun z_ => nI (BR z_)))), (y2, .inl (cI, 2, .inl (fun z_ => nI (RP z_)))), (y3, .inl (cJ, 308, .inr (.inl (fun z_ => lN (W3 z_))))), (y4, .inl (cJ, 308, .inr (.inl (fun z_ => lN (X4 z_)))))] → va_S A s.heap H locs → ∀ (ls : Array Slot), lv_has ls 6 [(0, .ref m0), (1, .int (nI tk)), (2, .int (nI mo)), (3, .int (nI t)), (4, .int (nI vw))] → W p l e (zR 2 0 0 53) s m args below meth c H locs 0 0 Q (F0 m 121 ls []) := by
                            intro n121
                            induction n121 with
                            | zero => intro vw W3 hn; exact absurd hn (Nat.not_lt_zero _)
                            | succ n121 ih =>
                              intro vw W3 hn g1 g2 H locs hP hD hS ls hl
                              have ih121 := ih
                              have hn121 := hn
                              clear ih hn
                              refine lv_iload hx hb dX6_go_121 (lv_at hl 4 rfl) ?_
                              refine lv_sipush (v := nI 308) hx hb dX6_go_123 (by decide) ?_
                              refine z_icmp_ge (tgt := 149) hx hb dX6_go_126 (by decide) (zcn_le (a := 308) (b := vw) rfl rfl (by omega)) (fun c_126 => ?_) (fun c_126 => ?_)
                              · skip
                                refine lv_iinc (v := (nI (t + 1))) (lv' := [(3, .int (nI (t + 1))), (0, .ref m0), (1, .int (nI tk)), (2, .int (nI mo)), (4, .int (nI vw))]) hx hb dX6_go_149 hl (k := 3) rfl (z_incN t 1 (by decide)) (by decide) rfl (fun ls hl => ?_)
                                refine lv_goto (tgt := 35) hx hb dX6_go_152 (by decide) ?_
                                have o_b1 : (t + 1) ≤ tk := by first | assumption | omega
                                have o_b2 : ∀ φ, sp_S W3 (fun k_ => φ (sp_sg k_)) = sp_Pi (sp_cw BR RP) mo 10 1 (t + 1) φ 231 := by intro φ; (have e4 : sp_S W3 (fun k_ => φ (sp_sg k_)) = sp_S X4 (fun k_ => φ (sp_sg k_)) := fb_sm_cong (fun q hq => by (show W3 q * _ = X4 q * _); rw [g2 q (by omega)])); (have ei : i = 308 := (by omega)); rw [e4, e2 φ, ei, sp_Pi_s]; exact b2 (sp_Pf (sp_cw BR RP) mo 10 1 φ)
                                have o_b3 : sp_zr W3 mo (t + 1) := by intro q hq hc; rw [g2 q (by omega)]; exact e3 q hq hc
                                have o_mu : (tk - (t + 1)) < n35 := by omega
                                exact ih35 (t + 1) W3 X4 o_mu o_b1 o_b2 o_b3 H locs hP hD hS ls (lv_sub hl [1, 2, 3, 0] rfl)
                              · skip
                                refine lv_aload_n hx hb dX6_go_129 rfl (lv_at hl 0 rfl) ?_
                                refine z_get (D := (dC, dI)) (ci := 6) (v := .ref y3) (C := RX6) (T := TX6) (N := 23) hx hb hts uX6 hown hK hP 0 rfl rfl 17 (by decide) w43 rfl rfl dX6_go_130 ?_
                                refine lv_iload hx hb dX6_go_133 (lv_at hl 4 rfl) ?_
                                refine lv_aload_n hx hb dX6_go_135 rfl (lv_at hl 0 rfl) ?_
                                refine z_get (D := (dC, dI)) (ci := 6) (v := .ref y4) (C := RX6) (T := TX6) (N := 23) hx hb hts uX6 hown hK hP 0 rfl rfl 18 (by decide) w47 rfl rfl dX6_go_136 ?_
                                refine lv_iload hx hb dX6_go_139 (lv_at hl 4 rfl) ?_
                                refine z_lald (v := (lN (X4 vw))) hx hb hK hP 4 1 rfl rfl vw rfl (by omega) rfl dX6_go_141 ?_
                                refine z_last hx hb hK hP hD hS 3 1 rfl rfl vw rfl (by omega) (upd_L W3 vw (X4 vw)) [(m0, .inr (6, [.int (nI N), .ref x1, .int (nI K), .ref x2, .ref x3, .ref x4, .int (nI lo), .ref x5, .ref x6, .ref x7, .ref x8, .int (nI ns), .int (nI nd), .ref x9, .ref y1, .ref y2, .int (nI rm), .ref y3, .ref y4, .ref y5, .ref y6, .ref y7, .int (nI pls)])), (y1, .inl (cI, 2, .inl (fun z_ => nI (BR z_)))), (y2, .inl (cI, 2, .inl (fun z_ => nI (RP z_)))), (y3, .inl (cJ, 308, .inr (.inl (fun z_ => lN ((up W3 vw (X4 vw)) z_))))), (y4, .inl (cJ, 308, .inr (.inl (fun z_ => lN (X4 z_)))))] rfl dX6_go_142 (fun H locs hP hD hS => ?_)
                                refine lv_iinc (v := (nI (vw + 1))) (lv' := [(4, .int (nI (vw + 1))), (0, .ref m0), (1, .int (nI tk)), (2, .int (nI mo)), (3, .int (nI t))]) hx hb dX6_go_143 hl (k := 4) rfl (z_incN vw 1 (by decide)) (by decide) rfl (fun ls hl => ?_)
                                refine lv_goto (tgt := 121) hx hb dX6_go_146 (by decide) ?_
                                have o_g1 : (vw + 1) ≤ 308 := by first | assumption | omega
                                have o_g2 : ∀ q, q < (vw + 1) → (up W3 vw (X4 vw)) q = X4 q := by exact lt_s (fun q hq => by rw [up_n _ _ (by omega)]; exact g2 q hq) (up_s _ _ _)
                                have o_mu : (308 - (vw + 1)) < n121 := by omega
                                exact ih121 (vw + 1) (up W3 vw (X4 vw)) o_mu o_g1 o_g2 H locs hP hD hS ls (lv_sub hl [1, 2, 3, 4, 0] rfl)
                          have o_g1 : 0 ≤ 308 := by first | assumption | omega
                          have o_g2 : ∀ q, q < 0 → W2 q = X4 q := by intro q h; omega
                          exact L121 ((308 - 0) + 1) 0 W2 (Nat.lt_succ_self _) o_g1 o_g2 H locs hP hD hS ls (lv_sub hl [1, 2, 3, 4, 0] rfl)
                        · skip
                          refine lv_iconst (v := nI 0) hx hb dX6_go_76 (by decide) ?_
                          refine lv_istore (lv' := [(5, .int (nI 0)), (0, .ref m0), (1, .int (nI tk)), (2, .int (nI mo)), (3, .int (nI t)), (4, .int (nI i))]) hx hb dX6_go_77 hl (by decide) rfl (fun ls hl => ?_)
                          have L79 : ∀ (n79 : Nat) (j : Nat) (X5 : Nat → Nat), (4 - j) < n79 → (j ≤ 4) → (∀ φ, sp_S X5 (fun k_ => φ (sp_sg k_)) = fb_sm (fun k_ => W2 k_ * sp_Pf (sp_cw BR RP) mo 10 1 φ (sp_sg k_)) i + W2 i * fb_sm (fun u_ => sp_Pq (sp_cw BR RP) mo 10 1 φ (sp_sw (i / 77)) (i % 77 / 11) (i % 11) (sp_sw u_)) j) → (sp_zr X5 mo (t + 1)) → ∀ (H : Heap) (locs : List Loc), va_P (dC, dI) vwCl [(m0, .inr (6, [.int (nI N), .ref x1, .int (nI K), .ref x2, .ref x3, .ref x4, .int (nI lo), .ref x5, .ref x6, .ref x7, .ref x8, .int (nI ns), .int (nI nd), .ref x9, .ref y1, .ref y2, .int (nI rm), .ref y3, .ref y4, .ref y5, .ref y6, .ref y7, .int (nI pls)])), (y1, .inl (cI, 2, .inl (fun z_ => nI (BR z_)))), (y2, .inl (cI, 2, .inl (fun z_ => nI (RP z_)))), (y3, .inl (cJ, 308, .inr (.inl (fun z_ => lN (W2 z_))))), (y4, .inl (cJ, 308, .inr (.inl (fun z_ => lN (X5 z_)))))] H → va_D A [(m0, .inr (6, [.int (nI N), .ref x1, .int (nI K), .ref x2, .ref x3, .ref x4, .int (nI lo), .ref x5, .ref x6, .ref x7, .ref x8, .int (nI ns), .int (nI nd), .ref x9, .ref y1, .ref y2, .int (nI rm), .ref y3, .ref y4, .ref y5, .ref y6, .ref y7, .int (nI pls)])), (y1, .inl (cI, 2, .inl (fun z_ => nI (BR z_)))), (y2, .inl (cI, 2, .inl (fun z_ => nI (RP z_)))), (y3, .inl (cJ, 308, .inr (.inl (fun z_ => lN (W2 z_))))), (y4, .inl (cJ, 308, .inr (.inl (fun z_ => lN (X5 z_)))))] → va_S A s.heap H locs → ∀ (ls : Array Slot), lv_has ls 6 [(0, .ref m0), (1, .int (nI tk)), (2, .int (nI mo)), (3, .int (nI t)), (4, .int (nI i)), (5, .int (nI j))] → W p l e (zR 2 0 0 53) s m args below meth c H locs 0 0 Q (F0 m 79 ls []) := by
                            intro n79
                            induction n79 with
                            | zero => intro j X5 hn; exact absurd hn (Nat.not_lt_zero _)
                            | succ n79 ih =>
                              intro j X5 hn f1 f2 f3 H locs hP hD hS ls hl
                              have ih79 := ih
                              have hn79 := hn
                              clear ih hn
                              refine lv_iload hx hb dX6_go_79 (lv_at hl 5 rfl) ?_
                              refine lv_iconst (v := nI 4) hx hb dX6_go_81 (by decide) ?_
                              refine z_icmp_ge (tgt := 112) hx hb dX6_go_82 (by decide) (zcn_le (a := 4) (b := j) rfl rfl (by omega)) (fun c_82 => ?_) (fun c_82 => ?_)
                              · skip
                                refine lv_iinc (v := (nI (i + 1))) (lv' := [(4, .int (nI (i + 1))), (0, .ref m0), (1, .int (nI tk)), (2, .int (nI mo)), (3, .int (nI t)), (5, .int (nI j))]) hx hb dX6_go_112 hl (k := 4) rfl (z_incN i 1 (by decide)) (by decide) rfl (fun ls hl => ?_)
                                refine lv_goto (tgt := 68) hx hb dX6_go_115 (by decide) ?_
                                have o_e1 : (i + 1) ≤ 308 := by first | assumption | omega
                                have o_e2 : ∀ φ, sp_S X5 (fun k_ => φ (sp_sg k_)) = fb_sm (fun k_ => W2 k_ * sp_Pf (sp_cw BR RP) mo 10 1 φ (sp_sg k_)) (i + 1) := by intro φ; rw [f2 φ, fb_sm_succ, sp_Pf_sg]; (first | rw [show j = 4 by omega] | rw [show W2 i = 0 by omega, Nat.zero_mul, Nat.zero_mul])
                                have o_e3 : sp_zr X5 mo (t + 1) := by exact f3
                                have o_mu : (308 - (i + 1)) < n68 := by omega
                                exact ih68 (i + 1) X5 o_mu o_e1 o_e2 o_e3 H locs hP hD hS ls (lv_sub hl [1, 2, 3, 4, 0] rfl)
                              · skip
                                refine lv_aload_n hx hb dX6_go_85 rfl (lv_at hl 0 rfl) ?_
                                refine z_get (D := (dC, dI)) (ci := 6) (v := .ref y3) (C := RX6) (T := TX6) (N := 23) hx hb hts uX6 hown hK hP 0 rfl rfl 17 (by decide) w43 rfl rfl dX6_go_86 ?_
                                refine lv_iload hx hb dX6_go_89 (lv_at hl 4 rfl) ?_
                                have hWi := hWl i (by omega)
                                refine z_lald (v := (lN (W2 i))) hx hb hK hP 3 1 rfl rfl i rfl (by omega) rfl dX6_go_91 ?_
                                refine lv_lconst (v := lN 0) hx hb dX6_go_92 (by decide) ?_
                                refine W.lcmp hx hb dX6_go_93 ?_
                                refine z_if_le (tgt := 112) hx hb dX6_go_94 (by decide) ((zm_le _ _).trans (not_congr (zl_lt (a := 0) (b := ((W2 i : Nat) : Int)) (lI_N _) (lI_N _) (by omega)))) (fun c_94 => ?_) (fun c_94 => ?_)
                                · skip
                                  refine lv_iinc (v := (nI (i + 1))) (lv' := [(4, .int (nI (i + 1))), (0, .ref m0), (1, .int (nI tk)), (2, .int (nI mo)), (3, .int (nI t)), (5, .int (nI j))]) hx hb dX6_go_112 hl (k := 4) rfl (z_incN i 1 (by decide)) (by decide) rfl (fun ls hl => ?_)
                                  refine lv_goto (tgt := 68) hx hb dX6_go_115 (by decide) ?_
                                  have o_e1 : (i + 1) ≤ 308 := by first | assumption | omega
                                  have o_e2 : ∀ φ, sp_S X5 (fun k_ => φ (sp_sg k_)) = fb_sm (fun k_ => W2 k_ * sp_Pf (sp_cw BR RP) mo 10 1 φ (sp_sg k_)) (i + 1) := by intro φ; rw [f2 φ, fb_sm_succ, sp_Pf_sg]; (first | rw [show j = 4 by omega] | rw [show W2 i = 0 by omega, Nat.zero_mul, Nat.zero_mul])
                                  have o_e3 : sp_zr X5 mo (t + 1) := by exact f3
                                  have o_mu : (308 - (i + 1)) < n68 := by omega
                                  exact ih68 (i + 1) X5 o_mu o_e1 o_e2 o_e3 H locs hP hD hS ls (lv_sub hl [1, 2, 3, 4, 0] rfl)
                                · skip
                                  have hsl : i % 77 / 11 ≤ mo := Nat.le_of_not_lt (fun z => absurd (b3 i (by omega) (Or.inl z)) (by omega))
                                  have hsc : i % 11 ≤ t := Nat.le_of_not_lt (fun z => absurd (b3 i (by omega) (Or.inr z)) (by omega))
                                  refine lv_aload_n hx hb dX6_go_97 rfl (lv_at hl 0 rfl) ?_
                                  refine lv_iload hx hb dX6_go_98 (lv_at hl 4 rfl) ?_
                                  refine lv_iload_n hx hb dX6_go_100 rfl (lv_at hl 2 rfl) ?_
                                  refine lv_iload hx hb dX6_go_101 (lv_at hl 5 rfl) ?_
                                  refine z_callVv (As := [.int (nI i), .int (nI mo), .int (nI j)]) (rest := []) (wr := []) ⟨hx, hb, hml, hown, hts⟩ (c_X6_move l dC dI cI cJ H.size m0 x1 x2 x3 x4 x5 x6 x7 x8 x9 y1 y2 y3 y4 y5 y6 y7 N K lo ns nd rm pls BR RP W2 X5 i mo j t (by first | assumption | omega) (by first | assumption | omega) (by first | assumption | omega) (by first | assumption | omega) (by first | assumption | omega) (by exact hsl) (by exact hsc) (by first | assumption | omega) (by exact hWi) (by exact f3)) (cwV 3 hts gX6_go_X6_move rfl rfl rfl (by decide +kernel) ⟨Nat.le_of_ble_eq_true rfl, Nat.le_of_ble_eq_true rfl⟩) hA hK hP hD hS [0, 1, 2, 3, 4] [] [0, 1, 2, 3, 4] rfl rfl (by decide) (by decide) (by decide) nwA_ok hN (ci := 6) rfl rfl 0 rfl hl.1 (Nat.le_of_ble_eq_true rfl) ⟨Nat.le_refl _, Nat.le_refl _⟩ rfl rfl dX6_go_103 (fun (u : (Nat → Nat)) => [(m0, .inr (6, [.int (nI N), .ref x1, .int (nI K), .ref x2, .ref x3, .ref x4, .int (nI lo), .ref x5, .ref x6, .ref x7, .ref x8, .int (nI ns), .int (nI nd), .ref x9, .ref y1, .ref y2, .int (nI rm), .ref y3, .ref y4, .ref y5, .ref y6, .ref y7, .int (nI pls)])), (y1, .inl (cI, 2, .inl (fun z_ => nI (BR z_)))), (y2, .inl (cI, 2, .inl (fun z_ => nI (RP z_)))), (y3, .inl (cJ, 308, .inr (.inl (fun z_ => lN (W2 z_))))), (y4, .inl (cJ, 308, .inr (.inl (fun z_ => lN (u z_)))))]) (fun u => rfl) (by decide) (fun u H locs hw hP hD hS => ?_)
                                  obtain ⟨NX2_103, eu⟩ : ∃ z, z = u := ⟨_, rfl⟩
                                  subst eu
                                  have hP : va_P (dC, dI) vwCl [(m0, .inr (6, [.int (nI N), .ref x1, .int (nI K), .ref x2, .ref x3, .ref x4, .int (nI lo), .ref x5, .ref x6, .ref x7, .ref x8, .int (nI ns), .int (nI nd), .ref x9, .ref y1, .ref y2, .int (nI rm), .ref y3, .ref y4, .ref y5, .ref y6, .ref y7, .int (nI pls)])), (y1, .inl (cI, 2, .inl (fun z_ => nI (BR z_)))), (y2, .inl (cI, 2, .inl (fun z_ => nI (RP z_)))), (y3, .inl (cJ, 308, .inr (.inl (fun z_ => lN (W2 z_))))), (y4, .inl (cJ, 308, .inr (.inl (fun z_ => lN (NX2_103 z_)))))] H := hP
                                  have hD : va_D A [(m0, .inr (6, [.int (nI N), .ref x1, .int (nI K), .ref x2, .ref x3, .ref x4, .int (nI lo), .ref x5, .ref x6, .ref x7, .ref x8, .int (nI ns), .int (nI nd), .ref x9, .ref y1, .ref y2, .int (nI rm), .ref y3, .ref y4, .ref y5, .ref y6, .ref y7, .int (nI pls)])), (y1, .inl (cI, 2, .inl (fun z_ => nI (BR z_)))), (y2, .inl (cI, 2, .inl (fun z_ => nI (RP z_)))), (y3, .inl (cJ, 308, .inr (.inl (fun z_ => lN (W2 z_))))), (y4, .inl (cJ, 308, .inr (.inl (fun z_ => lN (NX2_103 z_)))))] := hD
                                  obtain ⟨p103_0, p103_1⟩ := hw
                                  have p103_0 : ∀ φ, sp_S NX2_103 (fun k => φ (sp_sg k)) = sp_S X5 (fun k => φ (sp_sg k)) + W2 i * sp_Pq (sp_cw BR RP) mo 10 1 φ (sp_sw (i / 77)) (i % 77 / 11) (i % 11) (sp_sw j) := p103_0
                                  have p103_1 : sp_zr NX2_103 mo (t + 1) := p103_1
                                  refine lv_iinc (v := (nI (j + 1))) (lv' := [(5, .int (nI (j + 1))), (0, .ref m0), (1, .int (nI tk)), (2, .int (nI mo)), (3, .int (nI t)), (4, .int (nI i))]) hx hb dX6_go_106 hl (k := 5) rfl (z_incN j 1 (by decide)) (by decide) rfl (fun ls hl => ?_)
                                  refine lv_goto (tgt := 79) hx hb dX6_go_109 (by decide) ?_
                                  have o_f1 : (j + 1) ≤ 4 := by first | assumption | omega
                                  have o_f2 : ∀ φ, sp_S NX2_103 (fun k_ => φ (sp_sg k_)) = fb_sm (fun k_ => W2 k_ * sp_Pf (sp_cw BR RP) mo 10 1 φ (sp_sg k_)) i + W2 i * fb_sm (fun u_ => sp_Pq (sp_cw BR RP) mo 10 1 φ (sp_sw (i / 77)) (i % 77 / 11) (i % 11) (sp_sw u_)) (j + 1) := by intro φ; rw [p103_0 φ, f2 φ, fb_sm_succ, Nat.mul_add, Nat.add_assoc]
                                  have o_f3 : sp_zr NX2_103 mo (t + 1) := by exact p103_1
                                  have o_mu : (4 - (j + 1)) < n79 := by omega
                                  exact ih79 (j + 1) NX2_103 o_mu o_f1 o_f2 o_f3 H locs hP hD hS ls (lv_sub hl [1, 2, 3, 4, 5, 0] rfl)
                          have o_f1 : 0 ≤ 4 := by first | assumption | omega
                          have o_f2 : ∀ φ, sp_S X4 (fun k_ => φ (sp_sg k_)) = fb_sm (fun k_ => W2 k_ * sp_Pf (sp_cw BR RP) mo 10 1 φ (sp_sg k_)) i + W2 i * fb_sm (fun u_ => sp_Pq (sp_cw BR RP) mo 10 1 φ (sp_sw (i / 77)) (i % 77 / 11) (i % 11) (sp_sw u_)) 0 := by intro φ; rw [e2 φ]; rfl
                          have o_f3 : sp_zr X4 mo (t + 1) := by exact e3
                          exact L79 ((4 - 0) + 1) 0 X4 (Nat.lt_succ_self _) o_f1 o_f2 o_f3 H locs hP hD hS ls (lv_sub hl [1, 2, 3, 4, 5, 0] rfl)
                    have o_e1 : 0 ≤ 308 := by first | assumption | omega
                    have o_e2 : ∀ φ, sp_S X3 (fun k_ => φ (sp_sg k_)) = fb_sm (fun k_ => W2 k_ * sp_Pf (sp_cw BR RP) mo 10 1 φ (sp_sg k_)) 0 := by intro φ; rw [sp_S_0 (fun q hq => d2 q (by omega))]; rfl
                    have o_e3 : sp_zr X3 mo (t + 1) := by intro q hq _; exact d2 q (by omega)
                    exact L68 ((308 - 0) + 1) 0 X3 (Nat.lt_succ_self _) o_e1 o_e2 o_e3 H locs hP hD hS ls (lv_sub hl [1, 2, 3, 4, 0] rfl)
                  · skip
                    refine lv_aload_n hx hb dX6_go_51 rfl (lv_at hl 0 rfl) ?_
                    refine z_get (D := (dC, dI)) (ci := 6) (v := .ref y4) (C := RX6) (T := TX6) (N := 23) hx hb hts uX6 hown hK hP 0 rfl rfl 18 (by decide) w47 rfl rfl dX6_go_52 ?_
                    refine lv_iload hx hb dX6_go_55 (lv_at hl 4 rfl) ?_
                    refine lv_lconst (v := lN 0) hx hb dX6_go_57 (by decide) ?_
                    refine z_last hx hb hK hP hD hS 4 1 rfl rfl vz rfl (by omega) (upd_L X3 vz 0) [(m0, .inr (6, [.int (nI N), .ref x1, .int (nI K), .ref x2, .ref x3, .ref x4, .int (nI lo), .ref x5, .ref x6, .ref x7, .ref x8, .int (nI ns), .int (nI nd), .ref x9, .ref y1, .ref y2, .int (nI rm), .ref y3, .ref y4, .ref y5, .ref y6, .ref y7, .int (nI pls)])), (y1, .inl (cI, 2, .inl (fun z_ => nI (BR z_)))), (y2, .inl (cI, 2, .inl (fun z_ => nI (RP z_)))), (y3, .inl (cJ, 308, .inr (.inl (fun z_ => lN (W2 z_))))), (y4, .inl (cJ, 308, .inr (.inl (fun z_ => lN ((up X3 vz 0) z_)))))] rfl dX6_go_58 (fun H locs hP hD hS => ?_)
                    refine lv_iinc (v := (nI (vz + 1))) (lv' := [(4, .int (nI (vz + 1))), (0, .ref m0), (1, .int (nI tk)), (2, .int (nI mo)), (3, .int (nI t))]) hx hb dX6_go_59 hl (k := 4) rfl (z_incN vz 1 (by decide)) (by decide) rfl (fun ls hl => ?_)
                    refine lv_goto (tgt := 43) hx hb dX6_go_62 (by decide) ?_
                    have o_d1 : (vz + 1) ≤ 308 := by first | assumption | omega
                    have o_d2 : ∀ q, q < (vz + 1) → (up X3 vz 0) q = 0 := by exact lt_s (fun q hq => by rw [up_n _ _ (by omega)]; exact d2 q hq) (up_s _ _ _)
                    have o_mu : (308 - (vz + 1)) < n43 := by omega
                    exact ih43 (vz + 1) (up X3 vz 0) o_mu o_d1 o_d2 H locs hP hD hS ls (lv_sub hl [1, 2, 3, 4, 0] rfl)
              have o_d1 : 0 ≤ 308 := by first | assumption | omega
              have o_d2 : ∀ q, q < 0 → X2 q = 0 := by intro q h; omega
              exact L43 ((308 - 0) + 1) 0 X2 (Nat.lt_succ_self _) o_d1 o_d2 H locs hP hD hS ls (lv_sub hl [1, 2, 3, 4, 0] rfl)
        have o_b1 : 0 ≤ tk := by first | assumption | omega
        have o_b2 : ∀ φ, sp_S W1 (fun k_ => φ (sp_sg k_)) = sp_Pi (sp_cw BR RP) mo 10 1 0 φ 231 := by intro φ; exact sp_sg_start (fun q hq => a2 q (by omega)) φ
        have o_b3 : sp_zr W1 mo 0 := by intro q hq hc; rw [a2 q (by omega), if_neg (by omega)]
        exact L35 ((tk - 0) + 1) 0 W1 NX (Nat.lt_succ_self _) o_b1 o_b2 o_b3 H locs hP hD hS ls (lv_sub hl [1, 2, 3, 0] rfl)
      · skip
        refine lv_aload_n hx hb dX6_go_9 rfl (lv_at hl 0 rfl) ?_
        refine z_get (D := (dC, dI)) (ci := 6) (v := .ref y3) (C := RX6) (T := TX6) (N := 23) hx hb hts uX6 hown hK hP 0 rfl rfl 17 (by decide) w43 rfl rfl dX6_go_10 ?_
        refine lv_iload_n hx hb dX6_go_13 rfl (lv_at hl 3 rfl) ?_
        refine lv_iload_n hx hb dX6_go_14 rfl (lv_at hl 3 rfl) ?_
        refine lv_sipush (v := nI 231) hx hb dX6_go_15 (by decide) ?_
        refine z_icmp_ne (tgt := 25) hx hb dX6_go_18 (by decide) (zcn_eq (a := vi) (b := 231) rfl rfl (by omega)) (fun c_18 => ?_) (fun c_18 => ?_)
        · skip
          refine lv_lconst (v := lN 0) hx hb dX6_go_25 (by decide) ?_
          refine z_last hx hb hK hP hD hS 3 1 rfl rfl vi rfl (by omega) (upd_L W1 vi 0) [(m0, .inr (6, [.int (nI N), .ref x1, .int (nI K), .ref x2, .ref x3, .ref x4, .int (nI lo), .ref x5, .ref x6, .ref x7, .ref x8, .int (nI ns), .int (nI nd), .ref x9, .ref y1, .ref y2, .int (nI rm), .ref y3, .ref y4, .ref y5, .ref y6, .ref y7, .int (nI pls)])), (y1, .inl (cI, 2, .inl (fun z_ => nI (BR z_)))), (y2, .inl (cI, 2, .inl (fun z_ => nI (RP z_)))), (y3, .inl (cJ, 308, .inr (.inl (fun z_ => lN ((up W1 vi 0) z_))))), (y4, .inl (cJ, 308, .inr (.inl (fun z_ => lN (NX z_)))))] rfl dX6_go_26 (fun H locs hP hD hS => ?_)
          refine lv_iinc (v := (nI (vi + 1))) (lv' := [(3, .int (nI (vi + 1))), (0, .ref m0), (1, .int (nI tk)), (2, .int (nI mo))]) hx hb dX6_go_27 hl (k := 3) rfl (z_incN vi 1 (by decide)) (by decide) rfl (fun ls hl => ?_)
          refine lv_goto (tgt := 2) hx hb dX6_go_30 (by decide) ?_
          have o_a1 : (vi + 1) ≤ 308 := by first | assumption | omega
          have o_a2 : ∀ q, q < (vi + 1) → (up W1 vi 0) q = if q = 231 then 1 else 0 := by exact lt_s (fun q hq => by rw [up_n _ _ (by omega)]; exact a2 q hq) (by rw [up_s]; (first | rw [if_pos (by omega)] | rw [if_neg (by omega)]))
          have o_mu : (308 - (vi + 1)) < n2 := by omega
          exact ih2 (vi + 1) (up W1 vi 0) o_mu o_a1 o_a2 H locs hP hD hS ls (lv_sub hl [1, 2, 3, 0] rfl)
        · skip
          refine lv_lconst (v := lN 1) hx hb dX6_go_21 (by decide) ?_
          refine lv_goto (tgt := 26) hx hb dX6_go_22 (by decide) ?_
          refine z_last hx hb hK hP hD hS 3 1 rfl rfl vi rfl (by omega) (upd_L W1 vi 1) [(m0, .inr (6, [.int (nI N), .ref x1, .int (nI K), .ref x2, .ref x3, .ref x4, .int (nI lo), .ref x5, .ref x6, .ref x7, .ref x8, .int (nI ns), .int (nI nd), .ref x9, .ref y1, .ref y2, .int (nI rm), .ref y3, .ref y4, .ref y5, .ref y6, .ref y7, .int (nI pls)])), (y1, .inl (cI, 2, .inl (fun z_ => nI (BR z_)))), (y2, .inl (cI, 2, .inl (fun z_ => nI (RP z_)))), (y3, .inl (cJ, 308, .inr (.inl (fun z_ => lN ((up W1 vi 1) z_))))), (y4, .inl (cJ, 308, .inr (.inl (fun z_ => lN (NX z_)))))] rfl dX6_go_26 (fun H locs hP hD hS => ?_)
          refine lv_iinc (v := (nI (vi + 1))) (lv' := [(3, .int (nI (vi + 1))), (0, .ref m0), (1, .int (nI tk)), (2, .int (nI mo))]) hx hb dX6_go_27 hl (k := 3) rfl (z_incN vi 1 (by decide)) (by decide) rfl (fun ls hl => ?_)
          refine lv_goto (tgt := 2) hx hb dX6_go_30 (by decide) ?_
          have o_a1 : (vi + 1) ≤ 308 := by first | assumption | omega
          have o_a2 : ∀ q, q < (vi + 1) → (up W1 vi 1) q = if q = 231 then 1 else 0 := by exact lt_s (fun q hq => by rw [up_n _ _ (by omega)]; exact a2 q hq) (by rw [up_s]; (first | rw [if_pos (by omega)] | rw [if_neg (by omega)]))
          have o_mu : (308 - (vi + 1)) < n2 := by omega
          exact ih2 (vi + 1) (up W1 vi 1) o_mu o_a1 o_a2 H locs hP hD hS ls (lv_sub hl [1, 2, 3, 0] rfl)
  have o_a1 : 0 ≤ 308 := by first | assumption | omega
  have o_a2 : ∀ q, q < 0 → WT q = if q = 231 then 1 else 0 := by intro q h; omega
  exact L2 ((308 - 0) + 1) 0 WT (Nat.lt_succ_self _) o_a1 o_a2 H locs hP hD hS ls (lv_sub hl [1, 2, 3, 0] rfl)

set_option maxHeartbeats 4000000 in
set_option maxRecDepth 100000 in
theorem c_X6_isTicks (l : Launch) (dC : Nat → ClassId) (dI : Nat → Nat → Nat) (cI cJ : ClassId) (sz : Nat) (z : Int) (bz : -2147483648 ≤ z ∧ z < 2147483648) : Met l yX6_isTicks wsX6_isTicks (zR 1 0 0 25) (va_Pc [.int (iI z)] (zP (dC, dI) [(cI, .int), (cJ, .long)] [] sz nwA)) (va_Qi (fun (r : Int32) (u : (Nat)) => r = (nI u) ∧ ((u = 1 ∧ (1 ≤ z ∧ z ≤ 10)) ∨ (u = 0 ∧ ¬ (1 ≤ z ∧ z ≤ 10)))) (zB (dC, dI) (fun (u : (Nat)) => []) (va_A [] sz)) (va_A [] sz)) 0 0 (va_A [] sz) := by
  refine z_met_z (cc := cX6_isTicks) (maxL := 1) (by decide) rfl (Nat.le_of_ble_eq_true rfl) ?_
  intro p e s m args below meth c Q A ls hx hb hml hown hts hin hA hK hP hD hN hl hRET
  have hown : s.vm.findClass RX6 = some m.cls := hown
  obtain ⟨H, eH⟩ : ∃ H : Heap, H = s.heap := ⟨_, rfl⟩
  rw [← eH] at hP
  obtain ⟨locs, eL⟩ : ∃ z : List Loc, z = [] := ⟨_, rfl⟩
  rw [← eH, ← eL]
  have hS : va_S A s.heap H locs := by rw [eH, eL]; exact va_S.rf
  have hl : lv_has ls 1 [(0, .int (iI z))] := hl
  refine lv_iload_n hx hb dX6_isTicks_0 rfl (lv_at hl 0 rfl) ?_
  refine lv_i2l (v := (lI z)) hx hb dX6_isTicks_1 (zl_i2l rfl (by omega)) ?_
  refine lv_lconst (v := lN 1) hx hb dX6_isTicks_2 (by decide) ?_
  refine lv_ldc2 (v := (10 : Int64)) hx hb hown (hts (.constantLong RX6 162 (10)) (by decide +kernel)) dX6_isTicks_3 ?_
  refine z_l0 (v := (lN 10)) (by decide) ?_
  refine z_l0 (v := lI 10) (by decide) ?_
  refine z_l1 (v := lI 1) (by decide) ?_
  refine z_callSi (As := [.long (lI z), .long (lI 1), .long (lI 10)]) (rest := []) (wr := []) ⟨hx, hb, hml, hown, hts⟩ (c_X6_in l dC dI cI cJ H.size z (1 : Int) (10 : Int) (by first | assumption | omega) (by first | assumption | omega) (by first | assumption | omega)) (va_cwS 3 hts gX6_isTicks_X6_in rfl rfl rfl (by decide +kernel) ⟨Nat.le_of_ble_eq_true rfl, Nat.le_of_ble_eq_true rfl⟩) hA hK hP hD hS [] [] [] rfl rfl (by decide) (by decide) (by decide) nwA_ok hN hl.1 (Nat.le_of_ble_eq_true rfl) ⟨Nat.le_refl _, Nat.le_refl _⟩ rfl rfl dX6_isTicks_6 (fun (u : (Nat)) => []) (fun u => rfl) (by decide) (fun r_6 u H locs hw hP hD hS => ?_)
  obtain ⟨rv_6, eu⟩ : ∃ z, z = u := ⟨_, rfl⟩
  subst eu
  have hP : va_P (dC, dI) vwCl [] H := hP
  have hD : va_D A [] := hD
  obtain ⟨er, p6_0⟩ := hw
  have p6_0 : (rv_6 = 1 ∧ ((1 : Int) ≤ z ∧ z ≤ (10 : Int))) ∨ (rv_6 = 0 ∧ ¬ ((1 : Int) ≤ z ∧ z ≤ (10 : Int))) := p6_0
  have er : r_6 = (nI rv_6) := er
  subst er
  have q_0 : (rv_6 = 1 ∧ (1 ≤ z ∧ z ≤ 10)) ∨ (rv_6 = 0 ∧ ¬ (1 ≤ z ∧ z ≤ 10)) := by first | assumption | omega
  exact hRET _ ls H locs ((nI rv_6)) (rv_6) dX6_isTicks_9 (by exact z_nb (by omega)) ⟨rfl, q_0⟩ hP hD hS

set_option maxHeartbeats 4000000 in
set_option maxRecDepth 100000 in
theorem c_X6_mean (l : Launch) (dC : Nat → ClassId) (dI : Nat → Nat → Nat) (cI cJ : ClassId) (sz : Nat) (m0 : Nat) (x1 : Nat) (x2 : Nat) (x3 : Nat) (x4 : Nat) (x5 : Nat) (x6 : Nat) (x7 : Nat) (x8 : Nat) (x9 : Nat) (y1 : Nat) (y2 : Nat) (y3 : Nat) (y4 : Nat) (y5 : Nat) (y6 : Nat) (y7 : Nat) (N : Nat) (K : Nat) (lo : Nat) (ns : Nat) (nd : Nat) (rm : Nat) (pls : Nat) (WT : Nat → Nat)  : Met l yX6_mean wsX6_mean (zR 0 0 0 0) (va_Pc [.ref m0] (zP (dC, dI) [(cI, .int), (cJ, .long)] [(m0, .inr (6, [.int (nI N), .ref x1, .int (nI K), .ref x2, .ref x3, .ref x4, .int (nI lo), .ref x5, .ref x6, .ref x7, .ref x8, .int (nI ns), .int (nI nd), .ref x9, .ref y1, .ref y2, .int (nI rm), .ref y3, .ref y4, .ref y5, .ref y6, .ref y7, .int (nI pls)])), (y3, .inl (cJ, 308, .inr (.inl (fun z_ => lN (WT z_)))))] sz nwA)) (va_Ql (fun (r : Int64) (u : (Nat)) => r = (lN u) ∧ (u = fb_sm (fun k_ => WT k_ * (k_ % 11)) 308)) (zB (dC, dI) (fun (u : (Nat)) => [(m0, .inr (6, [.int (nI N), .ref x1, .int (nI K), .ref x2, .ref x3, .ref x4, .int (nI lo), .ref x5, .ref x6, .ref x7, .ref x8, .int (nI ns), .int (nI nd), .ref x9, .ref y1, .ref y2, .int (nI rm), .ref y3, .ref y4, .ref y5, .ref y6, .ref y7, .int (nI pls)])), (y3, .inl (cJ, 308, .inr (.inl (fun z_ => lN (WT z_)))))]) (va_A [(m0, .inr (6, [.int (nI N), .ref x1, .int (nI K), .ref x2, .ref x3, .ref x4, .int (nI lo), .ref x5, .ref x6, .ref x7, .ref x8, .int (nI ns), .int (nI nd), .ref x9, .ref y1, .ref y2, .int (nI rm), .ref y3, .ref y4, .ref y5, .ref y6, .ref y7, .int (nI pls)])), (y3, .inl (cJ, 308, .inr (.inl (fun z_ => lN (WT z_)))))] sz)) (va_A [(m0, .inr (6, [.int (nI N), .ref x1, .int (nI K), .ref x2, .ref x3, .ref x4, .int (nI lo), .ref x5, .ref x6, .ref x7, .ref x8, .int (nI ns), .int (nI nd), .ref x9, .ref y1, .ref y2, .int (nI rm), .ref y3, .ref y4, .ref y5, .ref y6, .ref y7, .int (nI pls)])), (y3, .inl (cJ, 308, .inr (.inl (fun z_ => lN (WT z_)))))] sz)) 0 0 (va_A [(m0, .inr (6, [.int (nI N), .ref x1, .int (nI K), .ref x2, .ref x3, .ref x4, .int (nI lo), .ref x5, .ref x6, .ref x7, .ref x8, .int (nI ns), .int (nI nd), .ref x9, .ref y1, .ref y2, .int (nI rm), .ref y3, .ref y4, .ref y5, .ref y6, .ref y7, .int (nI pls)])), (y3, .inl (cJ, 308, .inr (.inl (fun z_ => lN (WT z_)))))] sz) := by
  refine z_met_l (cc := cX6_mean) (maxL := 4) (by decide) rfl (Nat.le_of_ble_eq_true rfl) ?_
  intro p e s m args below meth c Q A ls hx hb hml hown hts hin hA hK hP hD hN hl hRET
  have hown : s.vm.findClass RX6 = some m.cls := hown
  obtain ⟨H, eH⟩ : ∃ H : Heap, H = s.heap := ⟨_, rfl⟩
  rw [← eH] at hP
  obtain ⟨locs, eL⟩ : ∃ z : List Loc, z = [] := ⟨_, rfl⟩
  rw [← eH, ← eL]
  have hS : va_S A s.heap H locs := by rw [eH, eL]; exact va_S.rf
  have hl : lv_has ls 4 [(0, .ref m0)] := hl
  have w43 := hts (.fieldLink RX6 43 "PullCardsModel" "weight" "[J") (by decide +kernel)
  have uX6 : ∀ w ∈ wsX60, w ∈ wsX6_mean := by decide +kernel
  refine lv_lconst (v := lN 0) hx hb dX6_mean_0 (by decide) ?_
  refine lv_lstore_n (lv' := [(1, .long (lN 0)), (0, .ref m0)]) hx hb dX6_mean_1 rfl hl (by decide) rfl (fun ls hl => ?_)
  refine lv_iconst (v := nI 0) hx hb dX6_mean_2 (by decide) ?_
  refine lv_istore_n (lv' := [(3, .int (nI 0)), (1, .long (lN 0)), (0, .ref m0)]) hx hb dX6_mean_3 rfl hl (by decide) rfl (fun ls hl => ?_)
  have L4 : ∀ (n4 : Nat) (j : Nat) (sm : Nat), (308 - j) < n4 → (j ≤ 308) → (sm = fb_sm (fun k_ => WT k_ * (k_ % 11)) j) → ∀ (H : Heap) (locs : List Loc), va_P (dC, dI) vwCl [(m0, .inr (6, [.int (nI N), .ref x1, .int (nI K), .ref x2, .ref x3, .ref x4, .int (nI lo), .ref x5, .ref x6, .ref x7, .ref x8, .int (nI ns), .int (nI nd), .ref x9, .ref y1, .ref y2, .int (nI rm), .ref y3, .ref y4, .ref y5, .ref y6, .ref y7, .int (nI pls)])), (y3, .inl (cJ, 308, .inr (.inl (fun z_ => lN (WT z_)))))] H → va_D A [(m0, .inr (6, [.int (nI N), .ref x1, .int (nI K), .ref x2, .ref x3, .ref x4, .int (nI lo), .ref x5, .ref x6, .ref x7, .ref x8, .int (nI ns), .int (nI nd), .ref x9, .ref y1, .ref y2, .int (nI rm), .ref y3, .ref y4, .ref y5, .ref y6, .ref y7, .int (nI pls)])), (y3, .inl (cJ, 308, .inr (.inl (fun z_ => lN (WT z_)))))] → va_S A s.heap H locs → ∀ (ls : Array Slot), lv_has ls 4 [(0, .ref m0), (1, .long (lN sm)), (3, .int (nI j))] → W p l e (zR 0 0 0 0) s m args below meth c H locs 0 0 Q (F0 m 4 ls []) := by
    intro n4
    induction n4 with
    | zero => intro j sm hn; exact absurd hn (Nat.not_lt_zero _)
    | succ n4 ih =>
      intro j sm hn i1 i2 H locs hP hD hS ls hl
      have ih4 := ih
      have hn4 := hn
      clear ih hn
      refine lv_iload_n hx hb dX6_mean_4 rfl (lv_at hl 2 rfl) ?_
      refine lv_sipush (v := nI 308) hx hb dX6_mean_5 (by decide) ?_
      refine z_icmp_ge (tgt := 32) hx hb dX6_mean_8 (by decide) (zcn_le (a := 308) (b := j) rfl rfl (by omega)) (fun c_8 => ?_) (fun c_8 => ?_)
      · skip
        refine lv_lload_n hx hb dX6_mean_32 rfl (lv_at hl 1 rfl) ?_
        have q_0 : sm = fb_sm (fun k_ => WT k_ * (k_ % 11)) 308 := by rw [i2, show j = 308 by omega]
        exact hRET _ ls H locs ((lN sm)) (sm) dX6_mean_33 ⟨rfl, q_0⟩ hP hD hS
      · skip
        refine lv_lload_n hx hb dX6_mean_11 rfl (lv_at hl 1 rfl) ?_
        refine lv_aload_n hx hb dX6_mean_12 rfl (lv_at hl 0 rfl) ?_
        refine z_get (D := (dC, dI)) (ci := 6) (v := .ref y3) (C := RX6) (T := TX6) (N := 23) hx hb hts uX6 hown hK hP 0 rfl rfl 17 (by decide) w43 rfl rfl dX6_mean_13 ?_
        refine lv_iload_n hx hb dX6_mean_16 rfl (lv_at hl 2 rfl) ?_
        refine z_lald (v := (lN (WT j))) hx hb hK hP 1 1 rfl rfl j rfl (by omega) rfl dX6_mean_17 ?_
        refine lv_iload_n hx hb dX6_mean_18 rfl (lv_at hl 2 rfl) ?_
        refine lv_bipush (v := nI 11) hx hb dX6_mean_19 (by decide) ?_
        refine z_irem (v := nI (j % 11)) hx hb dX6_mean_21 (zn_ne0 (b := 11) rfl (by omega)) (zn_rem rfl rfl (by omega)) ?_
        refine lv_i2l (v := (lN (j % 11))) hx hb dX6_mean_22 (zl_i2lN rfl (by omega)) ?_
        refine z_lmul (v := (lN ((WT j) * (j % 11)))) hx hb dX6_mean_23 (lN_mul _ _) ?_
        refine z_ladd (v := (lN (sm + ((WT j) * (j % 11))))) hx hb dX6_mean_24 (lN_add _ _) ?_
        refine lv_lstore_n (lv' := [(1, .long (lN (sm + ((WT j) * (j % 11))))), (0, .ref m0), (3, .int (nI j))]) hx hb dX6_mean_25 rfl hl (by decide) rfl (fun ls hl => ?_)
        refine lv_iinc (v := (nI (j + 1))) (lv' := [(3, .int (nI (j + 1))), (1, .long (lN (sm + ((WT j) * (j % 11))))), (0, .ref m0)]) hx hb dX6_mean_26 hl (k := 2) rfl (z_incN j 1 (by decide)) (by decide) rfl (fun ls hl => ?_)
        refine lv_goto (tgt := 4) hx hb dX6_mean_29 (by decide) ?_
        have o_i1 : (j + 1) ≤ 308 := by first | assumption | omega
        have o_i2 : (sm + ((WT j) * (j % 11))) = fb_sm (fun k_ => WT k_ * (k_ % 11)) (j + 1) := by rw [fb_sm_succ, ← i2]
        have o_mu : (308 - (j + 1)) < n4 := by omega
        exact ih4 (j + 1) (sm + ((WT j) * (j % 11))) o_mu o_i1 o_i2 H locs hP hD hS ls (lv_sub hl [2, 1, 0] rfl)
  have o_i1 : 0 ≤ 308 := by first | assumption | omega
  have o_i2 : 0 = fb_sm (fun k_ => WT k_ * (k_ % 11)) 0 := by rfl
  exact L4 ((308 - 0) + 1) 0 0 (Nat.lt_succ_self _) o_i1 o_i2 H locs hP hD hS ls (lv_sub hl [2, 1, 0] rfl)

set_option maxHeartbeats 4000000 in
set_option maxRecDepth 100000 in
theorem c_X6_given (l : Launch) (dC : Nat → ClassId) (dI : Nat → Nat → Nat) (cI cJ : ClassId) (sz : Nat) (m0 : Nat) (x1 : Nat) (x2 : Nat) (x3 : Nat) (x4 : Nat) (x5 : Nat) (x6 : Nat) (x7 : Nat) (x8 : Nat) (x9 : Nat) (y1 : Nat) (y2 : Nat) (y3 : Nat) (y4 : Nat) (y5 : Nat) (y6 : Nat) (y7 : Nat) (N : Nat) (K : Nat) (lo : Nat) (ns : Nat) (nd : Nat) (rm : Nat) (pls : Nat) (BR : Nat → Nat) (RP : Nat → Nat) (WT : Nat → Nat) (NX : Nat → Nat) (tk : Int) (uu : Nat) (bBR : ∀ i, BR i ≤ 4) (bRP : ∀ i, RP i ≤ 4) (brm : rm ≤ 6) (bt : -2147483648 ≤ tk ∧ tk < 2147483648) (bu : uu ≤ 1) : Met l yX6_given wsX6_given (zR 3 0 0 78) (va_Pc [.ref m0, .int (iI tk), .int (nI uu)] (zP (dC, dI) [(cI, .int), (cJ, .long)] [(m0, .inr (6, [.int (nI N), .ref x1, .int (nI K), .ref x2, .ref x3, .ref x4, .int (nI lo), .ref x5, .ref x6, .ref x7, .ref x8, .int (nI ns), .int (nI nd), .ref x9, .ref y1, .ref y2, .int (nI rm), .ref y3, .ref y4, .ref y5, .ref y6, .ref y7, .int (nI pls)])), (y1, .inl (cI, 2, .inl (fun z_ => nI (BR z_)))), (y2, .inl (cI, 2, .inl (fun z_ => nI (RP z_)))), (y3, .inl (cJ, 308, .inr (.inl (fun z_ => lN (WT z_))))), (y4, .inl (cJ, 308, .inr (.inl (fun z_ => lN (NX z_)))))] sz nwA)) (va_Ql (fun (r : Int64) (u : (Int) × (Nat → Nat) × (Nat → Nat)) => r = (lI u.1) ∧ (u.1 = if 1 ≤ tk ∧ tk ≤ 10 then ((sp_fr (sp_mn (sp_cw BR RP) rm tk.toNat) (1 * 2 ^ (4 * tk.toNat)) uu : Nat) : Int) else -2)) (zB (dC, dI) (fun (u : (Int) × (Nat → Nat) × (Nat → Nat)) => [(m0, .inr (6, [.int (nI N), .ref x1, .int (nI K), .ref x2, .ref x3, .ref x4, .int (nI lo), .ref x5, .ref x6, .ref x7, .ref x8, .int (nI ns), .int (nI nd), .ref x9, .ref y1, .ref y2, .int (nI rm), .ref y3, .ref y4, .ref y5, .ref y6, .ref y7, .int (nI pls)])), (y1, .inl (cI, 2, .inl (fun z_ => nI (BR z_)))), (y2, .inl (cI, 2, .inl (fun z_ => nI (RP z_)))), (y3, .inl (cJ, 308, .inr (.inl (fun z_ => lN (u.2.1 z_))))), (y4, .inl (cJ, 308, .inr (.inl (fun z_ => lN (u.2.2 z_)))))]) (va_A [(m0, .inr (6, [.int (nI N), .ref x1, .int (nI K), .ref x2, .ref x3, .ref x4, .int (nI lo), .ref x5, .ref x6, .ref x7, .ref x8, .int (nI ns), .int (nI nd), .ref x9, .ref y1, .ref y2, .int (nI rm), .ref y3, .ref y4, .ref y5, .ref y6, .ref y7, .int (nI pls)])), (y1, .inl (cI, 2, .inl (fun z_ => nI (BR z_)))), (y2, .inl (cI, 2, .inl (fun z_ => nI (RP z_)))), (y3, .inl (cJ, 308, .inr (.inl (fun z_ => lN (WT z_))))), (y4, .inl (cJ, 308, .inr (.inl (fun z_ => lN (NX z_)))))] sz)) (va_A [(m0, .inr (6, [.int (nI N), .ref x1, .int (nI K), .ref x2, .ref x3, .ref x4, .int (nI lo), .ref x5, .ref x6, .ref x7, .ref x8, .int (nI ns), .int (nI nd), .ref x9, .ref y1, .ref y2, .int (nI rm), .ref y3, .ref y4, .ref y5, .ref y6, .ref y7, .int (nI pls)])), (y1, .inl (cI, 2, .inl (fun z_ => nI (BR z_)))), (y2, .inl (cI, 2, .inl (fun z_ => nI (RP z_)))), (y3, .inl (cJ, 308, .inr (.inl (fun z_ => lN (WT z_))))), (y4, .inl (cJ, 308, .inr (.inl (fun z_ => lN (NX z_)))))] sz)) 0 0 (va_A [(m0, .inr (6, [.int (nI N), .ref x1, .int (nI K), .ref x2, .ref x3, .ref x4, .int (nI lo), .ref x5, .ref x6, .ref x7, .ref x8, .int (nI ns), .int (nI nd), .ref x9, .ref y1, .ref y2, .int (nI rm), .ref y3, .ref y4, .ref y5, .ref y6, .ref y7, .int (nI pls)])), (y1, .inl (cI, 2, .inl (fun z_ => nI (BR z_)))), (y2, .inl (cI, 2, .inl (fun z_ => nI (RP z_)))), (y3, .inl (cJ, 308, .inr (.inl (fun z_ => lN (WT z_))))), (y4, .inl (cJ, 308, .inr (.inl (fun z_ => lN (NX z_)))))] sz) := by
  refine z_met_l (cc := cX6_given) (maxL := 3) (by decide) rfl (Nat.le_of_ble_eq_true rfl) ?_
  intro p e s m args below meth c Q A ls hx hb hml hown hts hin hA hK hP hD hN hl hRET
  have hown : s.vm.findClass RX6 = some m.cls := hown
  obtain ⟨H, eH⟩ : ∃ H : Heap, H = s.heap := ⟨_, rfl⟩
  rw [← eH] at hP
  obtain ⟨locs, eL⟩ : ∃ z : List Loc, z = [] := ⟨_, rfl⟩
  rw [← eH, ← eL]
  have hS : va_S A s.heap H locs := by rw [eH, eL]; exact va_S.rf
  have hl : lv_has ls 3 [(0, .ref m0), (1, .int (iI tk)), (2, .int (nI uu))] := hl
  have w151 := hts (.fieldLink RX6 151 "PullCardsModel" "room" "I") (by decide +kernel)
  have uX6 : ∀ w ∈ wsX60, w ∈ wsX6_given := by decide +kernel
  have hrow : sp_row (sp_cw BR RP) := sp_cw_row bBR bRP
  refine lv_iload_n hx hb dX6_given_0 rfl (lv_at hl 1 rfl) ?_
  refine z_callSi (As := [.int (iI tk)]) (rest := []) (wr := [(m0, .inr (6, [.int (nI N), .ref x1, .int (nI K), .ref x2, .ref x3, .ref x4, .int (nI lo), .ref x5, .ref x6, .ref x7, .ref x8, .int (nI ns), .int (nI nd), .ref x9, .ref y1, .ref y2, .int (nI rm), .ref y3, .ref y4, .ref y5, .ref y6, .ref y7, .int (nI pls)])), (y1, .inl (cI, 2, .inl (fun z_ => nI (BR z_)))), (y2, .inl (cI, 2, .inl (fun z_ => nI (RP z_)))), (y3, .inl (cJ, 308, .inr (.inl (fun z_ => lN (WT z_))))), (y4, .inl (cJ, 308, .inr (.inl (fun z_ => lN (NX z_)))))]) ⟨hx, hb, hml, hown, hts⟩ (c_X6_isTicks l dC dI cI cJ H.size tk (by first | assumption | omega)) (va_cwS 1 hts gX6_given_X6_isTicks rfl rfl rfl (by decide +kernel) ⟨Nat.le_of_ble_eq_true rfl, Nat.le_of_ble_eq_true rfl⟩) hA hK hP hD hS [] [0, 1, 2, 3, 4] [0, 1, 2, 3, 4] rfl rfl (by decide) (by decide) (by decide) nwA_ok hN hl.1 (Nat.le_of_ble_eq_true rfl) ⟨Nat.le_refl _, Nat.le_refl _⟩ rfl rfl dX6_given_1 (fun (u : (Nat)) => [(m0, .inr (6, [.int (nI N), .ref x1, .int (nI K), .ref x2, .ref x3, .ref x4, .int (nI lo), .ref x5, .ref x6, .ref x7, .ref x8, .int (nI ns), .int (nI nd), .ref x9, .ref y1, .ref y2, .int (nI rm), .ref y3, .ref y4, .ref y5, .ref y6, .ref y7, .int (nI pls)])), (y1, .inl (cI, 2, .inl (fun z_ => nI (BR z_)))), (y2, .inl (cI, 2, .inl (fun z_ => nI (RP z_)))), (y3, .inl (cJ, 308, .inr (.inl (fun z_ => lN (WT z_))))), (y4, .inl (cJ, 308, .inr (.inl (fun z_ => lN (NX z_)))))]) (fun u => rfl) (by decide) (fun r_1 u H locs hw hP hD hS => ?_)
  obtain ⟨rv_1, eu⟩ : ∃ z, z = u := ⟨_, rfl⟩
  subst eu
  have hP : va_P (dC, dI) vwCl [(m0, .inr (6, [.int (nI N), .ref x1, .int (nI K), .ref x2, .ref x3, .ref x4, .int (nI lo), .ref x5, .ref x6, .ref x7, .ref x8, .int (nI ns), .int (nI nd), .ref x9, .ref y1, .ref y2, .int (nI rm), .ref y3, .ref y4, .ref y5, .ref y6, .ref y7, .int (nI pls)])), (y1, .inl (cI, 2, .inl (fun z_ => nI (BR z_)))), (y2, .inl (cI, 2, .inl (fun z_ => nI (RP z_)))), (y3, .inl (cJ, 308, .inr (.inl (fun z_ => lN (WT z_))))), (y4, .inl (cJ, 308, .inr (.inl (fun z_ => lN (NX z_)))))] H := hP
  have hD : va_D A [(m0, .inr (6, [.int (nI N), .ref x1, .int (nI K), .ref x2, .ref x3, .ref x4, .int (nI lo), .ref x5, .ref x6, .ref x7, .ref x8, .int (nI ns), .int (nI nd), .ref x9, .ref y1, .ref y2, .int (nI rm), .ref y3, .ref y4, .ref y5, .ref y6, .ref y7, .int (nI pls)])), (y1, .inl (cI, 2, .inl (fun z_ => nI (BR z_)))), (y2, .inl (cI, 2, .inl (fun z_ => nI (RP z_)))), (y3, .inl (cJ, 308, .inr (.inl (fun z_ => lN (WT z_))))), (y4, .inl (cJ, 308, .inr (.inl (fun z_ => lN (NX z_)))))] := hD
  obtain ⟨er, p1_0⟩ := hw
  have p1_0 : (rv_1 = 1 ∧ (1 ≤ tk ∧ tk ≤ 10)) ∨ (rv_1 = 0 ∧ ¬ (1 ≤ tk ∧ tk ≤ 10)) := p1_0
  have er : r_1 = (nI rv_1) := er
  subst er
  rcases p1_0 with ⟨h1, c_1⟩ | ⟨h1, c_1⟩
  · skip
    subst h1
    refine lv_if_ne (tgt := 11) hx hb dX6_given_4 (by decide) (fun _ => ?_) (fun c_x => absurd c_x (by decide))
    refine lv_aload_n hx hb dX6_given_11 rfl (lv_at hl 0 rfl) ?_
    refine lv_iload_n hx hb dX6_given_12 rfl (lv_at hl 1 rfl) ?_
    refine lv_aload_n hx hb dX6_given_13 rfl (lv_at hl 0 rfl) ?_
    refine z_get (D := (dC, dI)) (ci := 6) (v := .int (nI rm)) (C := RX6) (T := TX6) (N := 23) hx hb hts uX6 hown hK hP 0 rfl rfl 16 (by decide) w151 rfl rfl dX6_given_14 ?_
    refine z_c1 (v := nI tk.toNat) (z_ZtoN (by first | assumption | omega)) ?_
    refine z_callVv (As := [.int (nI tk.toNat), .int (nI rm)]) (rest := []) (wr := []) ⟨hx, hb, hml, hown, hts⟩ (c_X6_go l dC dI cI cJ H.size m0 x1 x2 x3 x4 x5 x6 x7 x8 x9 y1 y2 y3 y4 y5 y6 y7 N K lo ns nd rm pls BR RP WT NX tk.toNat rm (by first | assumption | omega) (by first | assumption | omega) (by first | assumption | omega) (by first | assumption | omega)) (cwV 2 hts gX6_given_X6_go rfl rfl rfl (by decide +kernel) ⟨Nat.le_of_ble_eq_true rfl, Nat.le_of_ble_eq_true rfl⟩) hA hK hP hD hS [0, 1, 2, 3, 4] [] [0, 1, 2, 3, 4] rfl rfl (by decide) (by decide) (by decide) nwA_ok hN (ci := 6) rfl rfl 0 rfl hl.1 (Nat.le_of_ble_eq_true rfl) ⟨Nat.le_refl _, Nat.le_refl _⟩ rfl rfl dX6_given_17 (fun (u : (Nat → Nat) × (Nat → Nat)) => [(m0, .inr (6, [.int (nI N), .ref x1, .int (nI K), .ref x2, .ref x3, .ref x4, .int (nI lo), .ref x5, .ref x6, .ref x7, .ref x8, .int (nI ns), .int (nI nd), .ref x9, .ref y1, .ref y2, .int (nI rm), .ref y3, .ref y4, .ref y5, .ref y6, .ref y7, .int (nI pls)])), (y1, .inl (cI, 2, .inl (fun z_ => nI (BR z_)))), (y2, .inl (cI, 2, .inl (fun z_ => nI (RP z_)))), (y3, .inl (cJ, 308, .inr (.inl (fun z_ => lN (u.1 z_))))), (y4, .inl (cJ, 308, .inr (.inl (fun z_ => lN (u.2 z_)))))]) (fun u => rfl) (by decide) (fun u H locs hw hP hD hS => ?_)
    obtain ⟨WT2_17, NX2_17⟩ := u
    have hP : va_P (dC, dI) vwCl [(m0, .inr (6, [.int (nI N), .ref x1, .int (nI K), .ref x2, .ref x3, .ref x4, .int (nI lo), .ref x5, .ref x6, .ref x7, .ref x8, .int (nI ns), .int (nI nd), .ref x9, .ref y1, .ref y2, .int (nI rm), .ref y3, .ref y4, .ref y5, .ref y6, .ref y7, .int (nI pls)])), (y1, .inl (cI, 2, .inl (fun z_ => nI (BR z_)))), (y2, .inl (cI, 2, .inl (fun z_ => nI (RP z_)))), (y3, .inl (cJ, 308, .inr (.inl (fun z_ => lN (WT2_17 z_))))), (y4, .inl (cJ, 308, .inr (.inl (fun z_ => lN (NX2_17 z_)))))] H := hP
    have hD : va_D A [(m0, .inr (6, [.int (nI N), .ref x1, .int (nI K), .ref x2, .ref x3, .ref x4, .int (nI lo), .ref x5, .ref x6, .ref x7, .ref x8, .int (nI ns), .int (nI nd), .ref x9, .ref y1, .ref y2, .int (nI rm), .ref y3, .ref y4, .ref y5, .ref y6, .ref y7, .int (nI pls)])), (y1, .inl (cI, 2, .inl (fun z_ => nI (BR z_)))), (y2, .inl (cI, 2, .inl (fun z_ => nI (RP z_)))), (y3, .inl (cJ, 308, .inr (.inl (fun z_ => lN (WT2_17 z_))))), (y4, .inl (cJ, 308, .inr (.inl (fun z_ => lN (NX2_17 z_)))))] := hD
    have p17_0 := hw
    have p17_0 : ∀ φ, sp_S WT2_17 (fun k_ => φ (sp_sg k_)) = sp_Pi (sp_cw BR RP) rm 10 1 tk.toNat φ 231 := p17_0
    refine lv_aload_n hx hb dX6_given_20 rfl (lv_at hl 0 rfl) ?_
    refine z_callVl (As := []) (rest := []) (wr := [(y1, .inl (cI, 2, .inl (fun z_ => nI (BR z_)))), (y2, .inl (cI, 2, .inl (fun z_ => nI (RP z_)))), (y4, .inl (cJ, 308, .inr (.inl (fun z_ => lN (NX2_17 z_)))))]) ⟨hx, hb, hml, hown, hts⟩ (c_X6_mean l dC dI cI cJ H.size m0 x1 x2 x3 x4 x5 x6 x7 x8 x9 y1 y2 y3 y4 y5 y6 y7 N K lo ns nd rm pls WT2_17 ) (cwV 0 hts gX6_given_X6_mean rfl rfl rfl (by decide +kernel) ⟨Nat.le_of_ble_eq_true rfl, Nat.le_of_ble_eq_true rfl⟩) hA hK hP hD hS [0, 3] [1, 2, 4] [3, 0, 1, 4, 2] rfl rfl (by decide) (by decide) (by decide) nwA_ok hN (ci := 6) rfl rfl 0 rfl hl.1 (Nat.le_of_ble_eq_true rfl) ⟨Nat.le_refl _, Nat.le_refl _⟩ rfl rfl dX6_given_21 (fun (u : (Nat)) => [(m0, .inr (6, [.int (nI N), .ref x1, .int (nI K), .ref x2, .ref x3, .ref x4, .int (nI lo), .ref x5, .ref x6, .ref x7, .ref x8, .int (nI ns), .int (nI nd), .ref x9, .ref y1, .ref y2, .int (nI rm), .ref y3, .ref y4, .ref y5, .ref y6, .ref y7, .int (nI pls)])), (y1, .inl (cI, 2, .inl (fun z_ => nI (BR z_)))), (y2, .inl (cI, 2, .inl (fun z_ => nI (RP z_)))), (y3, .inl (cJ, 308, .inr (.inl (fun z_ => lN (WT2_17 z_))))), (y4, .inl (cJ, 308, .inr (.inl (fun z_ => lN (NX2_17 z_)))))]) (fun u => rfl) (by decide) (fun r_21 u H locs hw hP hD hS => ?_)
    obtain ⟨rv_21, eu⟩ : ∃ z, z = u := ⟨_, rfl⟩
    subst eu
    have hP : va_P (dC, dI) vwCl [(m0, .inr (6, [.int (nI N), .ref x1, .int (nI K), .ref x2, .ref x3, .ref x4, .int (nI lo), .ref x5, .ref x6, .ref x7, .ref x8, .int (nI ns), .int (nI nd), .ref x9, .ref y1, .ref y2, .int (nI rm), .ref y3, .ref y4, .ref y5, .ref y6, .ref y7, .int (nI pls)])), (y1, .inl (cI, 2, .inl (fun z_ => nI (BR z_)))), (y2, .inl (cI, 2, .inl (fun z_ => nI (RP z_)))), (y3, .inl (cJ, 308, .inr (.inl (fun z_ => lN (WT2_17 z_))))), (y4, .inl (cJ, 308, .inr (.inl (fun z_ => lN (NX2_17 z_)))))] H := hP
    have hD : va_D A [(m0, .inr (6, [.int (nI N), .ref x1, .int (nI K), .ref x2, .ref x3, .ref x4, .int (nI lo), .ref x5, .ref x6, .ref x7, .ref x8, .int (nI ns), .int (nI nd), .ref x9, .ref y1, .ref y2, .int (nI rm), .ref y3, .ref y4, .ref y5, .ref y6, .ref y7, .int (nI pls)])), (y1, .inl (cI, 2, .inl (fun z_ => nI (BR z_)))), (y2, .inl (cI, 2, .inl (fun z_ => nI (RP z_)))), (y3, .inl (cJ, 308, .inr (.inl (fun z_ => lN (WT2_17 z_))))), (y4, .inl (cJ, 308, .inr (.inl (fun z_ => lN (NX2_17 z_)))))] := hD
    obtain ⟨er, p21_0⟩ := hw
    have p21_0 : rv_21 = fb_sm (fun k_ => WT2_17 k_ * (k_ % 11)) 308 := p21_0
    have er : r_21 = (lN rv_21) := er
    subst er
    have hme : rv_21 = sp_mn (sp_cw BR RP) rm tk.toNat := p21_0.trans (sp_mean_S brm hrow (by omega) p17_0)
    have hb1 := sp_mn_b bBR bRP brm (show tk.toNat ≤ 10 by omega)
    have hb2 := pow16_le (show tk.toNat ≤ 10 by omega)
    have hb3 := pow16_pos tk.toNat
    rw [← pow24] at hb2 hb3
    refine lv_lconst (v := lN 1) hx hb dX6_given_24 (by decide) ?_
    refine lv_iconst (v := nI 4) hx hb dX6_given_25 (by decide) ?_
    refine lv_iload_n hx hb dX6_given_26 rfl (lv_at hl 1 rfl) ?_
    refine z_c0 (v := nI tk.toNat) (z_ZtoN (by first | assumption | omega)) ?_
    refine z_imul (v := (nI (4 * tk.toNat))) hx hb dX6_given_27 (pk_mul _ _) ?_
    refine lv_lshl (v := lN (1 * 2 ^ (4 * tk.toNat))) hx hb dX6_given_28 (zs_lshl rfl rfl (by omega)) ?_
    refine lv_iload_n hx hb dX6_given_29 rfl (lv_at hl 2 rfl) ?_
    refine z_callSl (As := [.long (lN rv_21), .long (lN (1 * 2 ^ (4 * tk.toNat))), .int (nI uu)]) (rest := []) (wr := [(m0, .inr (6, [.int (nI N), .ref x1, .int (nI K), .ref x2, .ref x3, .ref x4, .int (nI lo), .ref x5, .ref x6, .ref x7, .ref x8, .int (nI ns), .int (nI nd), .ref x9, .ref y1, .ref y2, .int (nI rm), .ref y3, .ref y4, .ref y5, .ref y6, .ref y7, .int (nI pls)])), (y1, .inl (cI, 2, .inl (fun z_ => nI (BR z_)))), (y2, .inl (cI, 2, .inl (fun z_ => nI (RP z_)))), (y3, .inl (cJ, 308, .inr (.inl (fun z_ => lN (WT2_17 z_))))), (y4, .inl (cJ, 308, .inr (.inl (fun z_ => lN (NX2_17 z_)))))]) ⟨hx, hb, hml, hown, hts⟩ (c_X6_fraction l dC dI cI cJ H.size rv_21 (1 * 2 ^ (4 * tk.toNat)) uu (by first | assumption | omega) (by first | assumption | omega) (by first | assumption | omega)) (va_cwS 3 hts gX6_given_X6_fraction rfl rfl rfl (by decide +kernel) ⟨Nat.le_of_ble_eq_true rfl, Nat.le_of_ble_eq_true rfl⟩) hA hK hP hD hS [] [0, 1, 2, 3, 4] [0, 1, 2, 3, 4] rfl rfl (by decide) (by decide) (by decide) nwA_ok hN hl.1 (Nat.le_of_ble_eq_true rfl) ⟨Nat.le_refl _, Nat.le_refl _⟩ rfl rfl dX6_given_30 (fun (u : (Nat)) => [(m0, .inr (6, [.int (nI N), .ref x1, .int (nI K), .ref x2, .ref x3, .ref x4, .int (nI lo), .ref x5, .ref x6, .ref x7, .ref x8, .int (nI ns), .int (nI nd), .ref x9, .ref y1, .ref y2, .int (nI rm), .ref y3, .ref y4, .ref y5, .ref y6, .ref y7, .int (nI pls)])), (y1, .inl (cI, 2, .inl (fun z_ => nI (BR z_)))), (y2, .inl (cI, 2, .inl (fun z_ => nI (RP z_)))), (y3, .inl (cJ, 308, .inr (.inl (fun z_ => lN (WT2_17 z_))))), (y4, .inl (cJ, 308, .inr (.inl (fun z_ => lN (NX2_17 z_)))))]) (fun u => rfl) (by decide) (fun r_30 u H locs hw hP hD hS => ?_)
    obtain ⟨rv_30, eu⟩ : ∃ z, z = u := ⟨_, rfl⟩
    subst eu
    have hP : va_P (dC, dI) vwCl [(m0, .inr (6, [.int (nI N), .ref x1, .int (nI K), .ref x2, .ref x3, .ref x4, .int (nI lo), .ref x5, .ref x6, .ref x7, .ref x8, .int (nI ns), .int (nI nd), .ref x9, .ref y1, .ref y2, .int (nI rm), .ref y3, .ref y4, .ref y5, .ref y6, .ref y7, .int (nI pls)])), (y1, .inl (cI, 2, .inl (fun z_ => nI (BR z_)))), (y2, .inl (cI, 2, .inl (fun z_ => nI (RP z_)))), (y3, .inl (cJ, 308, .inr (.inl (fun z_ => lN (WT2_17 z_))))), (y4, .inl (cJ, 308, .inr (.inl (fun z_ => lN (NX2_17 z_)))))] H := hP
    have hD : va_D A [(m0, .inr (6, [.int (nI N), .ref x1, .int (nI K), .ref x2, .ref x3, .ref x4, .int (nI lo), .ref x5, .ref x6, .ref x7, .ref x8, .int (nI ns), .int (nI nd), .ref x9, .ref y1, .ref y2, .int (nI rm), .ref y3, .ref y4, .ref y5, .ref y6, .ref y7, .int (nI pls)])), (y1, .inl (cI, 2, .inl (fun z_ => nI (BR z_)))), (y2, .inl (cI, 2, .inl (fun z_ => nI (RP z_)))), (y3, .inl (cJ, 308, .inr (.inl (fun z_ => lN (WT2_17 z_))))), (y4, .inl (cJ, 308, .inr (.inl (fun z_ => lN (NX2_17 z_)))))] := hD
    obtain ⟨er, p30_0⟩ := hw
    have p30_0 : rv_30 = sp_fr rv_21 (1 * 2 ^ (4 * tk.toNat)) uu := p30_0
    have er : r_30 = (lN rv_30) := er
    subst er
    refine z_l0 (v := lI ((rv_30 : Nat) : Int)) (lI_N _) ?_
    have q_0 : ((rv_30 : Nat) : Int) = if 1 ≤ tk ∧ tk ≤ 10 then ((sp_fr (sp_mn (sp_cw BR RP) rm tk.toNat) (1 * 2 ^ (4 * tk.toNat)) uu : Nat) : Int) else -2 := by rw [if_pos (by omega), p30_0, hme]
    exact hRET _ ls H locs ((lI ((rv_30 : Nat) : Int))) (((rv_30 : Nat) : Int), WT2_17, NX2_17) dX6_given_33 ⟨rfl, q_0⟩ hP hD hS
  · skip
    subst h1
    refine lv_if_ne (tgt := 11) hx hb dX6_given_4 (by decide) (fun c_x => absurd c_x (by decide)) (fun _ => ?_)
    refine lv_ldc2 (v := (-2 : Int64)) hx hb hown (hts (.constantLong RX6 167 (-2)) (by decide +kernel)) dX6_given_7 ?_
    refine z_l0 (v := (lI (-2))) (by decide) ?_
    have q_0 : (-2 : Int) = if 1 ≤ tk ∧ tk ≤ 10 then ((sp_fr (sp_mn (sp_cw BR RP) rm tk.toNat) (1 * 2 ^ (4 * tk.toNat)) uu : Nat) : Int) else -2 := by rw [if_neg (by omega)]
    exact hRET _ ls H locs ((lI (-2))) ((-2 : Int), WT, NX) dX6_given_10 ⟨rfl, q_0⟩ hP hD hS

set_option maxHeartbeats 4000000 in
set_option maxRecDepth 100000 in
theorem c_X6_just (l : Launch) (dC : Nat → ClassId) (dI : Nat → Nat → Nat) (cI cJ : ClassId) (sz : Nat) (m0 : Nat) (x1 : Nat) (x2 : Nat) (x3 : Nat) (x4 : Nat) (x5 : Nat) (x6 : Nat) (x7 : Nat) (x8 : Nat) (x9 : Nat) (y1 : Nat) (y2 : Nat) (y3 : Nat) (y4 : Nat) (y5 : Nat) (y6 : Nat) (y7 : Nat) (N : Nat) (K : Nat) (lo : Nat) (ns : Nat) (nd : Nat) (rm : Nat) (pls : Nat) (BR : Nat → Nat) (RP : Nat → Nat) (WT : Nat → Nat) (NX : Nat → Nat) (tk : Int) (mg : Int) (uu : Nat) (bBR : ∀ i, BR i ≤ 4) (bRP : ∀ i, RP i ≤ 4) (brm : rm ≤ 6) (bt : -2147483648 ≤ tk ∧ tk < 2147483648) (bg : -2147483648 ≤ mg ∧ mg < 2147483648) (bu : uu ≤ 1) : Met l yX6_just wsX6_just (zR 3 0 0 78) (va_Pc [.ref m0, .int (iI tk), .int (iI mg), .int (nI uu)] (zP (dC, dI) [(cI, .int), (cJ, .long)] [(m0, .inr (6, [.int (nI N), .ref x1, .int (nI K), .ref x2, .ref x3, .ref x4, .int (nI lo), .ref x5, .ref x6, .ref x7, .ref x8, .int (nI ns), .int (nI nd), .ref x9, .ref y1, .ref y2, .int (nI rm), .ref y3, .ref y4, .ref y5, .ref y6, .ref y7, .int (nI pls)])), (y1, .inl (cI, 2, .inl (fun z_ => nI (BR z_)))), (y2, .inl (cI, 2, .inl (fun z_ => nI (RP z_)))), (y3, .inl (cJ, 308, .inr (.inl (fun z_ => lN (WT z_))))), (y4, .inl (cJ, 308, .inr (.inl (fun z_ => lN (NX z_)))))] sz nwA)) (va_Ql (fun (r : Int64) (u : (Int) × (Nat → Nat) × (Nat → Nat)) => r = (lI u.1) ∧ (u.1 = if (1 ≤ tk ∧ tk ≤ 10) ∧ (0 ≤ mg ∧ mg ≤ 10) then ((sp_fr (sp_js (sp_cw BR RP) rm mg.toNat tk.toNat) (1 * 2 ^ (4 * tk.toNat)) uu : Nat) : Int) else -2)) (zB (dC, dI) (fun (u : (Int) × (Nat → Nat) × (Nat → Nat)) => [(m0, .inr (6, [.int (nI N), .ref x1, .int (nI K), .ref x2, .ref x3, .ref x4, .int (nI lo), .ref x5, .ref x6, .ref x7, .ref x8, .int (nI ns), .int (nI nd), .ref x9, .ref y1, .ref y2, .int (nI rm), .ref y3, .ref y4, .ref y5, .ref y6, .ref y7, .int (nI pls)])), (y1, .inl (cI, 2, .inl (fun z_ => nI (BR z_)))), (y2, .inl (cI, 2, .inl (fun z_ => nI (RP z_)))), (y3, .inl (cJ, 308, .inr (.inl (fun z_ => lN (u.2.1 z_))))), (y4, .inl (cJ, 308, .inr (.inl (fun z_ => lN (u.2.2 z_)))))]) (va_A [(m0, .inr (6, [.int (nI N), .ref x1, .int (nI K), .ref x2, .ref x3, .ref x4, .int (nI lo), .ref x5, .ref x6, .ref x7, .ref x8, .int (nI ns), .int (nI nd), .ref x9, .ref y1, .ref y2, .int (nI rm), .ref y3, .ref y4, .ref y5, .ref y6, .ref y7, .int (nI pls)])), (y1, .inl (cI, 2, .inl (fun z_ => nI (BR z_)))), (y2, .inl (cI, 2, .inl (fun z_ => nI (RP z_)))), (y3, .inl (cJ, 308, .inr (.inl (fun z_ => lN (WT z_))))), (y4, .inl (cJ, 308, .inr (.inl (fun z_ => lN (NX z_)))))] sz)) (va_A [(m0, .inr (6, [.int (nI N), .ref x1, .int (nI K), .ref x2, .ref x3, .ref x4, .int (nI lo), .ref x5, .ref x6, .ref x7, .ref x8, .int (nI ns), .int (nI nd), .ref x9, .ref y1, .ref y2, .int (nI rm), .ref y3, .ref y4, .ref y5, .ref y6, .ref y7, .int (nI pls)])), (y1, .inl (cI, 2, .inl (fun z_ => nI (BR z_)))), (y2, .inl (cI, 2, .inl (fun z_ => nI (RP z_)))), (y3, .inl (cJ, 308, .inr (.inl (fun z_ => lN (WT z_))))), (y4, .inl (cJ, 308, .inr (.inl (fun z_ => lN (NX z_)))))] sz)) 0 0 (va_A [(m0, .inr (6, [.int (nI N), .ref x1, .int (nI K), .ref x2, .ref x3, .ref x4, .int (nI lo), .ref x5, .ref x6, .ref x7, .ref x8, .int (nI ns), .int (nI nd), .ref x9, .ref y1, .ref y2, .int (nI rm), .ref y3, .ref y4, .ref y5, .ref y6, .ref y7, .int (nI pls)])), (y1, .inl (cI, 2, .inl (fun z_ => nI (BR z_)))), (y2, .inl (cI, 2, .inl (fun z_ => nI (RP z_)))), (y3, .inl (cJ, 308, .inr (.inl (fun z_ => lN (WT z_))))), (y4, .inl (cJ, 308, .inr (.inl (fun z_ => lN (NX z_)))))] sz) := by
  refine z_met_l (cc := cX6_just) (maxL := 7) (by decide) rfl (Nat.le_of_ble_eq_true rfl) ?_
  intro p e s m args below meth c Q A ls hx hb hml hown hts hin hA hK hP hD hN hl hRET
  have hown : s.vm.findClass RX6 = some m.cls := hown
  obtain ⟨H, eH⟩ : ∃ H : Heap, H = s.heap := ⟨_, rfl⟩
  rw [← eH] at hP
  obtain ⟨locs, eL⟩ : ∃ z : List Loc, z = [] := ⟨_, rfl⟩
  rw [← eH, ← eL]
  have hS : va_S A s.heap H locs := by rw [eH, eL]; exact va_S.rf
  have hl : lv_has ls 7 [(0, .ref m0), (1, .int (iI tk)), (2, .int (iI mg)), (3, .int (nI uu))] := hl
  have w151 := hts (.fieldLink RX6 151 "PullCardsModel" "room" "I") (by decide +kernel)
  have uX6 : ∀ w ∈ wsX60, w ∈ wsX6_just := by decide +kernel
  have w43 := hts (.fieldLink RX6 43 "PullCardsModel" "weight" "[J") (by decide +kernel)
  have hrow : sp_row (sp_cw BR RP) := sp_cw_row bBR bRP
  refine lv_iload_n hx hb dX6_just_0 rfl (lv_at hl 1 rfl) ?_
  refine z_callSi (As := [.int (iI tk)]) (rest := []) (wr := [(m0, .inr (6, [.int (nI N), .ref x1, .int (nI K), .ref x2, .ref x3, .ref x4, .int (nI lo), .ref x5, .ref x6, .ref x7, .ref x8, .int (nI ns), .int (nI nd), .ref x9, .ref y1, .ref y2, .int (nI rm), .ref y3, .ref y4, .ref y5, .ref y6, .ref y7, .int (nI pls)])), (y1, .inl (cI, 2, .inl (fun z_ => nI (BR z_)))), (y2, .inl (cI, 2, .inl (fun z_ => nI (RP z_)))), (y3, .inl (cJ, 308, .inr (.inl (fun z_ => lN (WT z_))))), (y4, .inl (cJ, 308, .inr (.inl (fun z_ => lN (NX z_)))))]) ⟨hx, hb, hml, hown, hts⟩ (c_X6_isTicks l dC dI cI cJ H.size tk (by first | assumption | omega)) (va_cwS 1 hts gX6_just_X6_isTicks rfl rfl rfl (by decide +kernel) ⟨Nat.le_of_ble_eq_true rfl, Nat.le_of_ble_eq_true rfl⟩) hA hK hP hD hS [] [0, 1, 2, 3, 4] [0, 1, 2, 3, 4] rfl rfl (by decide) (by decide) (by decide) nwA_ok hN hl.1 (Nat.le_of_ble_eq_true rfl) ⟨Nat.le_refl _, Nat.le_refl _⟩ rfl rfl dX6_just_1 (fun (u : (Nat)) => [(m0, .inr (6, [.int (nI N), .ref x1, .int (nI K), .ref x2, .ref x3, .ref x4, .int (nI lo), .ref x5, .ref x6, .ref x7, .ref x8, .int (nI ns), .int (nI nd), .ref x9, .ref y1, .ref y2, .int (nI rm), .ref y3, .ref y4, .ref y5, .ref y6, .ref y7, .int (nI pls)])), (y1, .inl (cI, 2, .inl (fun z_ => nI (BR z_)))), (y2, .inl (cI, 2, .inl (fun z_ => nI (RP z_)))), (y3, .inl (cJ, 308, .inr (.inl (fun z_ => lN (WT z_))))), (y4, .inl (cJ, 308, .inr (.inl (fun z_ => lN (NX z_)))))]) (fun u => rfl) (by decide) (fun r_1 u H locs hw hP hD hS => ?_)
  obtain ⟨rv_1, eu⟩ : ∃ z, z = u := ⟨_, rfl⟩
  subst eu
  have hP : va_P (dC, dI) vwCl [(m0, .inr (6, [.int (nI N), .ref x1, .int (nI K), .ref x2, .ref x3, .ref x4, .int (nI lo), .ref x5, .ref x6, .ref x7, .ref x8, .int (nI ns), .int (nI nd), .ref x9, .ref y1, .ref y2, .int (nI rm), .ref y3, .ref y4, .ref y5, .ref y6, .ref y7, .int (nI pls)])), (y1, .inl (cI, 2, .inl (fun z_ => nI (BR z_)))), (y2, .inl (cI, 2, .inl (fun z_ => nI (RP z_)))), (y3, .inl (cJ, 308, .inr (.inl (fun z_ => lN (WT z_))))), (y4, .inl (cJ, 308, .inr (.inl (fun z_ => lN (NX z_)))))] H := hP
  have hD : va_D A [(m0, .inr (6, [.int (nI N), .ref x1, .int (nI K), .ref x2, .ref x3, .ref x4, .int (nI lo), .ref x5, .ref x6, .ref x7, .ref x8, .int (nI ns), .int (nI nd), .ref x9, .ref y1, .ref y2, .int (nI rm), .ref y3, .ref y4, .ref y5, .ref y6, .ref y7, .int (nI pls)])), (y1, .inl (cI, 2, .inl (fun z_ => nI (BR z_)))), (y2, .inl (cI, 2, .inl (fun z_ => nI (RP z_)))), (y3, .inl (cJ, 308, .inr (.inl (fun z_ => lN (WT z_))))), (y4, .inl (cJ, 308, .inr (.inl (fun z_ => lN (NX z_)))))] := hD
  obtain ⟨er, p1_0⟩ := hw
  have p1_0 : (rv_1 = 1 ∧ (1 ≤ tk ∧ tk ≤ 10)) ∨ (rv_1 = 0 ∧ ¬ (1 ≤ tk ∧ tk ≤ 10)) := p1_0
  have er : r_1 = (nI rv_1) := er
  subst er
  rcases p1_0 with ⟨h1, c_1⟩ | ⟨h1, c_1⟩
  · skip
    subst h1
    refine lv_if_eq (tgt := 19) hx hb dX6_just_4 (by decide) (fun c_x => absurd c_x (by decide)) (fun _ => ?_)
    refine lv_iload_n hx hb dX6_just_7 rfl (lv_at hl 2 rfl) ?_
    refine lv_i2l (v := (lI mg)) hx hb dX6_just_8 (zl_i2l rfl (by omega)) ?_
    refine lv_lconst (v := lN 0) hx hb dX6_just_9 (by decide) ?_
    refine lv_ldc2 (v := (10 : Int64)) hx hb hown (hts (.constantLong RX6 162 (10)) (by decide +kernel)) dX6_just_10 ?_
    refine z_l0 (v := (lN 10)) (by decide) ?_
    refine z_l0 (v := lI 10) (by decide) ?_
    refine z_l1 (v := lI 0) (by decide) ?_
    refine z_callSi (As := [.long (lI mg), .long (lI 0), .long (lI 10)]) (rest := []) (wr := [(m0, .inr (6, [.int (nI N), .ref x1, .int (nI K), .ref x2, .ref x3, .ref x4, .int (nI lo), .ref x5, .ref x6, .ref x7, .ref x8, .int (nI ns), .int (nI nd), .ref x9, .ref y1, .ref y2, .int (nI rm), .ref y3, .ref y4, .ref y5, .ref y6, .ref y7, .int (nI pls)])), (y1, .inl (cI, 2, .inl (fun z_ => nI (BR z_)))), (y2, .inl (cI, 2, .inl (fun z_ => nI (RP z_)))), (y3, .inl (cJ, 308, .inr (.inl (fun z_ => lN (WT z_))))), (y4, .inl (cJ, 308, .inr (.inl (fun z_ => lN (NX z_)))))]) ⟨hx, hb, hml, hown, hts⟩ (c_X6_in l dC dI cI cJ H.size mg (0 : Int) (10 : Int) (by first | assumption | omega) (by first | assumption | omega) (by first | assumption | omega)) (va_cwS 3 hts gX6_just_X6_in rfl rfl rfl (by decide +kernel) ⟨Nat.le_of_ble_eq_true rfl, Nat.le_of_ble_eq_true rfl⟩) hA hK hP hD hS [] [0, 1, 2, 3, 4] [0, 1, 2, 3, 4] rfl rfl (by decide) (by decide) (by decide) nwA_ok hN hl.1 (Nat.le_of_ble_eq_true rfl) ⟨Nat.le_refl _, Nat.le_refl _⟩ rfl rfl dX6_just_13 (fun (u : (Nat)) => [(m0, .inr (6, [.int (nI N), .ref x1, .int (nI K), .ref x2, .ref x3, .ref x4, .int (nI lo), .ref x5, .ref x6, .ref x7, .ref x8, .int (nI ns), .int (nI nd), .ref x9, .ref y1, .ref y2, .int (nI rm), .ref y3, .ref y4, .ref y5, .ref y6, .ref y7, .int (nI pls)])), (y1, .inl (cI, 2, .inl (fun z_ => nI (BR z_)))), (y2, .inl (cI, 2, .inl (fun z_ => nI (RP z_)))), (y3, .inl (cJ, 308, .inr (.inl (fun z_ => lN (WT z_))))), (y4, .inl (cJ, 308, .inr (.inl (fun z_ => lN (NX z_)))))]) (fun u => rfl) (by decide) (fun r_13 u H locs hw hP hD hS => ?_)
    obtain ⟨rv_13, eu⟩ : ∃ z, z = u := ⟨_, rfl⟩
    subst eu
    have hP : va_P (dC, dI) vwCl [(m0, .inr (6, [.int (nI N), .ref x1, .int (nI K), .ref x2, .ref x3, .ref x4, .int (nI lo), .ref x5, .ref x6, .ref x7, .ref x8, .int (nI ns), .int (nI nd), .ref x9, .ref y1, .ref y2, .int (nI rm), .ref y3, .ref y4, .ref y5, .ref y6, .ref y7, .int (nI pls)])), (y1, .inl (cI, 2, .inl (fun z_ => nI (BR z_)))), (y2, .inl (cI, 2, .inl (fun z_ => nI (RP z_)))), (y3, .inl (cJ, 308, .inr (.inl (fun z_ => lN (WT z_))))), (y4, .inl (cJ, 308, .inr (.inl (fun z_ => lN (NX z_)))))] H := hP
    have hD : va_D A [(m0, .inr (6, [.int (nI N), .ref x1, .int (nI K), .ref x2, .ref x3, .ref x4, .int (nI lo), .ref x5, .ref x6, .ref x7, .ref x8, .int (nI ns), .int (nI nd), .ref x9, .ref y1, .ref y2, .int (nI rm), .ref y3, .ref y4, .ref y5, .ref y6, .ref y7, .int (nI pls)])), (y1, .inl (cI, 2, .inl (fun z_ => nI (BR z_)))), (y2, .inl (cI, 2, .inl (fun z_ => nI (RP z_)))), (y3, .inl (cJ, 308, .inr (.inl (fun z_ => lN (WT z_))))), (y4, .inl (cJ, 308, .inr (.inl (fun z_ => lN (NX z_)))))] := hD
    obtain ⟨er, p13_0⟩ := hw
    have p13_0 : (rv_13 = 1 ∧ ((0 : Int) ≤ mg ∧ mg ≤ (10 : Int))) ∨ (rv_13 = 0 ∧ ¬ ((0 : Int) ≤ mg ∧ mg ≤ (10 : Int))) := p13_0
    have er : r_13 = (nI rv_13) := er
    subst er
    rcases p13_0 with ⟨h13, c_13⟩ | ⟨h13, c_13⟩
    · skip
      subst h13
      refine lv_if_ne (tgt := 23) hx hb dX6_just_16 (by decide) (fun _ => ?_) (fun c_x => absurd c_x (by decide))
      refine lv_aload_n hx hb dX6_just_23 rfl (lv_at hl 0 rfl) ?_
      refine lv_iload_n hx hb dX6_just_24 rfl (lv_at hl 1 rfl) ?_
      refine lv_aload_n hx hb dX6_just_25 rfl (lv_at hl 0 rfl) ?_
      refine z_get (D := (dC, dI)) (ci := 6) (v := .int (nI rm)) (C := RX6) (T := TX6) (N := 23) hx hb hts uX6 hown hK hP 0 rfl rfl 16 (by decide) w151 rfl rfl dX6_just_26 ?_
      refine z_c1 (v := nI tk.toNat) (z_ZtoN (by first | assumption | omega)) ?_
      refine z_callVv (As := [.int (nI tk.toNat), .int (nI rm)]) (rest := []) (wr := []) ⟨hx, hb, hml, hown, hts⟩ (c_X6_go l dC dI cI cJ H.size m0 x1 x2 x3 x4 x5 x6 x7 x8 x9 y1 y2 y3 y4 y5 y6 y7 N K lo ns nd rm pls BR RP WT NX tk.toNat rm (by first | assumption | omega) (by first | assumption | omega) (by first | assumption | omega) (by first | assumption | omega)) (cwV 2 hts gX6_just_X6_go rfl rfl rfl (by decide +kernel) ⟨Nat.le_of_ble_eq_true rfl, Nat.le_of_ble_eq_true rfl⟩) hA hK hP hD hS [0, 1, 2, 3, 4] [] [0, 1, 2, 3, 4] rfl rfl (by decide) (by decide) (by decide) nwA_ok hN (ci := 6) rfl rfl 0 rfl hl.1 (Nat.le_of_ble_eq_true rfl) ⟨Nat.le_refl _, Nat.le_refl _⟩ rfl rfl dX6_just_29 (fun (u : (Nat → Nat) × (Nat → Nat)) => [(m0, .inr (6, [.int (nI N), .ref x1, .int (nI K), .ref x2, .ref x3, .ref x4, .int (nI lo), .ref x5, .ref x6, .ref x7, .ref x8, .int (nI ns), .int (nI nd), .ref x9, .ref y1, .ref y2, .int (nI rm), .ref y3, .ref y4, .ref y5, .ref y6, .ref y7, .int (nI pls)])), (y1, .inl (cI, 2, .inl (fun z_ => nI (BR z_)))), (y2, .inl (cI, 2, .inl (fun z_ => nI (RP z_)))), (y3, .inl (cJ, 308, .inr (.inl (fun z_ => lN (u.1 z_))))), (y4, .inl (cJ, 308, .inr (.inl (fun z_ => lN (u.2 z_)))))]) (fun u => rfl) (by decide) (fun u H locs hw hP hD hS => ?_)
      obtain ⟨WT2_29, NX2_29⟩ := u
      have hP : va_P (dC, dI) vwCl [(m0, .inr (6, [.int (nI N), .ref x1, .int (nI K), .ref x2, .ref x3, .ref x4, .int (nI lo), .ref x5, .ref x6, .ref x7, .ref x8, .int (nI ns), .int (nI nd), .ref x9, .ref y1, .ref y2, .int (nI rm), .ref y3, .ref y4, .ref y5, .ref y6, .ref y7, .int (nI pls)])), (y1, .inl (cI, 2, .inl (fun z_ => nI (BR z_)))), (y2, .inl (cI, 2, .inl (fun z_ => nI (RP z_)))), (y3, .inl (cJ, 308, .inr (.inl (fun z_ => lN (WT2_29 z_))))), (y4, .inl (cJ, 308, .inr (.inl (fun z_ => lN (NX2_29 z_)))))] H := hP
      have hD : va_D A [(m0, .inr (6, [.int (nI N), .ref x1, .int (nI K), .ref x2, .ref x3, .ref x4, .int (nI lo), .ref x5, .ref x6, .ref x7, .ref x8, .int (nI ns), .int (nI nd), .ref x9, .ref y1, .ref y2, .int (nI rm), .ref y3, .ref y4, .ref y5, .ref y6, .ref y7, .int (nI pls)])), (y1, .inl (cI, 2, .inl (fun z_ => nI (BR z_)))), (y2, .inl (cI, 2, .inl (fun z_ => nI (RP z_)))), (y3, .inl (cJ, 308, .inr (.inl (fun z_ => lN (WT2_29 z_))))), (y4, .inl (cJ, 308, .inr (.inl (fun z_ => lN (NX2_29 z_)))))] := hD
      have p29_0 := hw
      have p29_0 : ∀ φ, sp_S WT2_29 (fun k_ => φ (sp_sg k_)) = sp_Pi (sp_cw BR RP) rm 10 1 tk.toNat φ 231 := p29_0
      refine lv_lconst (v := lN 0) hx hb dX6_just_32 (by decide) ?_
      refine lv_lstore (lv' := [(4, .long (lN 0)), (0, .ref m0), (1, .int (iI tk)), (2, .int (iI mg)), (3, .int (nI uu))]) hx hb dX6_just_33 hl (by decide) rfl (fun ls hl => ?_)
      refine lv_iconst (v := nI 0) hx hb dX6_just_35 (by decide) ?_
      refine lv_istore (lv' := [(6, .int (nI 0)), (4, .long (lN 0)), (0, .ref m0), (1, .int (iI tk)), (2, .int (iI mg)), (3, .int (nI uu))]) hx hb dX6_just_36 hl (by decide) rfl (fun ls hl => ?_)
      have L38 : ∀ (n38 : Nat) (j : Nat) (sm : Nat), (308 - j) < n38 → (j ≤ 308) → (sm = fb_sm (fun k_ => if k_ % 11 = mg.toNat then WT2_29 k_ else 0) j) → ∀ (H : Heap) (locs : List Loc), va_P (dC, dI) vwCl [(m0, .inr (6, [.int (nI N), .ref x1, .int (nI K), .ref x2, .ref x3, .ref x4, .int (nI lo), .ref x5, .ref x6, .ref x7, .ref x8, .int (nI ns), .int (nI nd), .ref x9, .ref y1, .ref y2, .int (nI rm), .ref y3, .ref y4, .ref y5, .ref y6, .ref y7, .int (nI pls)])), (y1, .inl (cI, 2, .inl (fun z_ => nI (BR z_)))), (y2, .inl (cI, 2, .inl (fun z_ => nI (RP z_)))), (y3, .inl (cJ, 308, .inr (.inl (fun z_ => lN (WT2_29 z_))))), (y4, .inl (cJ, 308, .inr (.inl (fun z_ => lN (NX2_29 z_)))))] H → va_D A [(m0, .inr (6, [.int (nI N), .ref x1, .int (nI K), .ref x2, .ref x3, .ref x4, .int (nI lo), .ref x5, .ref x6, .ref x7, .ref x8, .int (nI ns), .int (nI nd), .ref x9, .ref y1, .ref y2, .int (nI rm), .ref y3, .ref y4, .ref y5, .ref y6, .ref y7, .int (nI pls)])), (y1, .inl (cI, 2, .inl (fun z_ => nI (BR z_)))), (y2, .inl (cI, 2, .inl (fun z_ => nI (RP z_)))), (y3, .inl (cJ, 308, .inr (.inl (fun z_ => lN (WT2_29 z_))))), (y4, .inl (cJ, 308, .inr (.inl (fun z_ => lN (NX2_29 z_)))))] → va_S A s.heap H locs → ∀ (ls : Array Slot), lv_has ls 7 [(0, .ref m0), (1, .int (iI tk)), (2, .int (iI mg)), (3, .int (nI uu)), (4, .long (lN sm)), (6, .int (nI j))] → W p l e (zR 3 0 0 78) s m args below meth c H locs 0 0 Q (F0 m 38 ls []) := by
        intro n38
        induction n38 with
        | zero => intro j sm hn; exact absurd hn (Nat.not_lt_zero _)
        | succ n38 ih =>
          intro j sm hn i1 i2 H locs hP hD hS ls hl
          have ih38 := ih
          have hn38 := hn
          clear ih hn
          refine lv_iload hx hb dX6_just_38 (lv_at hl 5 rfl) ?_
          refine lv_sipush (v := nI 308) hx hb dX6_just_40 (by decide) ?_
          refine z_icmp_ge (tgt := 77) hx hb dX6_just_43 (by decide) (zcn_le (a := 308) (b := j) rfl rfl (by omega)) (fun c_43 => ?_) (fun c_43 => ?_)
          · skip
            have hme : sm = sp_js (sp_cw BR RP) rm mg.toNat tk.toNat := by rw [i2, show j = 308 by omega]; exact sp_just_S brm (by omega) p29_0
            have hb1 := sp_js_b bBR bRP brm (show mg.toNat ≤ 10 by omega) (show tk.toNat ≤ 10 by omega)
            have hb2 := pow16_le (show tk.toNat ≤ 10 by omega)
            have hb3 := pow16_pos tk.toNat
            rw [← pow24] at hb2 hb3
            refine lv_lload hx hb dX6_just_77 (lv_at hl 4 rfl) ?_
            refine lv_lconst (v := lN 1) hx hb dX6_just_79 (by decide) ?_
            refine lv_iconst (v := nI 4) hx hb dX6_just_80 (by decide) ?_
            refine lv_iload_n hx hb dX6_just_81 rfl (lv_at hl 1 rfl) ?_
            refine z_c0 (v := nI tk.toNat) (z_ZtoN (by first | assumption | omega)) ?_
            refine z_imul (v := (nI (4 * tk.toNat))) hx hb dX6_just_82 (pk_mul _ _) ?_
            refine lv_lshl (v := lN (1 * 2 ^ (4 * tk.toNat))) hx hb dX6_just_83 (zs_lshl rfl rfl (by omega)) ?_
            refine lv_iload_n hx hb dX6_just_84 rfl (lv_at hl 3 rfl) ?_
            refine z_callSl (As := [.long (lN sm), .long (lN (1 * 2 ^ (4 * tk.toNat))), .int (nI uu)]) (rest := []) (wr := [(m0, .inr (6, [.int (nI N), .ref x1, .int (nI K), .ref x2, .ref x3, .ref x4, .int (nI lo), .ref x5, .ref x6, .ref x7, .ref x8, .int (nI ns), .int (nI nd), .ref x9, .ref y1, .ref y2, .int (nI rm), .ref y3, .ref y4, .ref y5, .ref y6, .ref y7, .int (nI pls)])), (y1, .inl (cI, 2, .inl (fun z_ => nI (BR z_)))), (y2, .inl (cI, 2, .inl (fun z_ => nI (RP z_)))), (y3, .inl (cJ, 308, .inr (.inl (fun z_ => lN (WT2_29 z_))))), (y4, .inl (cJ, 308, .inr (.inl (fun z_ => lN (NX2_29 z_)))))]) ⟨hx, hb, hml, hown, hts⟩ (c_X6_fraction l dC dI cI cJ H.size sm (1 * 2 ^ (4 * tk.toNat)) uu (by first | assumption | omega) (by first | assumption | omega) (by first | assumption | omega)) (va_cwS 3 hts gX6_just_X6_fraction rfl rfl rfl (by decide +kernel) ⟨Nat.le_of_ble_eq_true rfl, Nat.le_of_ble_eq_true rfl⟩) hA hK hP hD hS [] [0, 1, 2, 3, 4] [0, 1, 2, 3, 4] rfl rfl (by decide) (by decide) (by decide) nwA_ok hN hl.1 (Nat.le_of_ble_eq_true rfl) ⟨Nat.le_refl _, Nat.le_refl _⟩ rfl rfl dX6_just_85 (fun (u : (Nat)) => [(m0, .inr (6, [.int (nI N), .ref x1, .int (nI K), .ref x2, .ref x3, .ref x4, .int (nI lo), .ref x5, .ref x6, .ref x7, .ref x8, .int (nI ns), .int (nI nd), .ref x9, .ref y1, .ref y2, .int (nI rm), .ref y3, .ref y4, .ref y5, .ref y6, .ref y7, .int (nI pls)])), (y1, .inl (cI, 2, .inl (fun z_ => nI (BR z_)))), (y2, .inl (cI, 2, .inl (fun z_ => nI (RP z_)))), (y3, .inl (cJ, 308, .inr (.inl (fun z_ => lN (WT2_29 z_))))), (y4, .inl (cJ, 308, .inr (.inl (fun z_ => lN (NX2_29 z_)))))]) (fun u => rfl) (by decide) (fun r_85 u H locs hw hP hD hS => ?_)
            obtain ⟨rv_85, eu⟩ : ∃ z, z = u := ⟨_, rfl⟩
            subst eu
            have hP : va_P (dC, dI) vwCl [(m0, .inr (6, [.int (nI N), .ref x1, .int (nI K), .ref x2, .ref x3, .ref x4, .int (nI lo), .ref x5, .ref x6, .ref x7, .ref x8, .int (nI ns), .int (nI nd), .ref x9, .ref y1, .ref y2, .int (nI rm), .ref y3, .ref y4, .ref y5, .ref y6, .ref y7, .int (nI pls)])), (y1, .inl (cI, 2, .inl (fun z_ => nI (BR z_)))), (y2, .inl (cI, 2, .inl (fun z_ => nI (RP z_)))), (y3, .inl (cJ, 308, .inr (.inl (fun z_ => lN (WT2_29 z_))))), (y4, .inl (cJ, 308, .inr (.inl (fun z_ => lN (NX2_29 z_)))))] H := hP
            have hD : va_D A [(m0, .inr (6, [.int (nI N), .ref x1, .int (nI K), .ref x2, .ref x3, .ref x4, .int (nI lo), .ref x5, .ref x6, .ref x7, .ref x8, .int (nI ns), .int (nI nd), .ref x9, .ref y1, .ref y2, .int (nI rm), .ref y3, .ref y4, .ref y5, .ref y6, .ref y7, .int (nI pls)])), (y1, .inl (cI, 2, .inl (fun z_ => nI (BR z_)))), (y2, .inl (cI, 2, .inl (fun z_ => nI (RP z_)))), (y3, .inl (cJ, 308, .inr (.inl (fun z_ => lN (WT2_29 z_))))), (y4, .inl (cJ, 308, .inr (.inl (fun z_ => lN (NX2_29 z_)))))] := hD
            obtain ⟨er, p85_0⟩ := hw
            have p85_0 : rv_85 = sp_fr sm (1 * 2 ^ (4 * tk.toNat)) uu := p85_0
            have er : r_85 = (lN rv_85) := er
            subst er
            refine z_l0 (v := lI ((rv_85 : Nat) : Int)) (lI_N _) ?_
            have q_0 : ((rv_85 : Nat) : Int) = if (1 ≤ tk ∧ tk ≤ 10) ∧ (0 ≤ mg ∧ mg ≤ 10) then ((sp_fr (sp_js (sp_cw BR RP) rm mg.toNat tk.toNat) (1 * 2 ^ (4 * tk.toNat)) uu : Nat) : Int) else -2 := by rw [if_pos (by omega), p85_0, hme]
            exact hRET _ ls H locs ((lI ((rv_85 : Nat) : Int))) (((rv_85 : Nat) : Int), WT2_29, NX2_29) dX6_just_88 ⟨rfl, q_0⟩ hP hD hS
          · skip
            refine lv_lload hx hb dX6_just_46 (lv_at hl 4 rfl) ?_
            refine lv_iload hx hb dX6_just_48 (lv_at hl 5 rfl) ?_
            refine lv_bipush (v := nI 11) hx hb dX6_just_50 (by decide) ?_
            refine z_irem (v := nI (j % 11)) hx hb dX6_just_52 (zn_ne0 (b := 11) rfl (by omega)) (zn_rem rfl rfl (by omega)) ?_
            refine lv_iload_n hx hb dX6_just_53 rfl (lv_at hl 2 rfl) ?_
            refine z_c0 (v := nI mg.toNat) (z_ZtoN (by first | assumption | omega)) ?_
            refine z_icmp_ne (tgt := 67) hx hb dX6_just_54 (by decide) (zcn_eq (a := j % 11) (b := mg.toNat) rfl rfl (by omega)) (fun c_54 => ?_) (fun c_54 => ?_)
            · skip
              refine lv_lconst (v := lN 0) hx hb dX6_just_67 (by decide) ?_
              refine z_ladd (v := (lN (sm + 0))) hx hb dX6_just_68 (lN_add _ _) ?_
              refine lv_lstore (lv' := [(4, .long (lN (sm + 0))), (0, .ref m0), (1, .int (iI tk)), (2, .int (iI mg)), (3, .int (nI uu)), (6, .int (nI j))]) hx hb dX6_just_69 hl (by decide) rfl (fun ls hl => ?_)
              refine lv_iinc (v := (nI (j + 1))) (lv' := [(6, .int (nI (j + 1))), (4, .long (lN (sm + 0))), (0, .ref m0), (1, .int (iI tk)), (2, .int (iI mg)), (3, .int (nI uu))]) hx hb dX6_just_71 hl (k := 5) rfl (z_incN j 1 (by decide)) (by decide) rfl (fun ls hl => ?_)
              refine lv_goto (tgt := 38) hx hb dX6_just_74 (by decide) ?_
              have o_i1 : (j + 1) ≤ 308 := by first | assumption | omega
              have o_i2 : (sm + 0) = fb_sm (fun k_ => if k_ % 11 = mg.toNat then WT2_29 k_ else 0) (j + 1) := by rw [fb_sm_succ, ← i2]; (first | rw [if_pos c_54] | rw [if_neg c_54])
              have o_mu : (308 - (j + 1)) < n38 := by omega
              exact ih38 (j + 1) (sm + 0) o_mu o_i1 o_i2 H locs hP hD hS ls (lv_sub hl [2, 3, 4, 5, 1, 0] rfl)
            · skip
              refine lv_aload_n hx hb dX6_just_57 rfl (lv_at hl 0 rfl) ?_
              refine z_get (D := (dC, dI)) (ci := 6) (v := .ref y3) (C := RX6) (T := TX6) (N := 23) hx hb hts uX6 hown hK hP 0 rfl rfl 17 (by decide) w43 rfl rfl dX6_just_58 ?_
              refine lv_iload hx hb dX6_just_61 (lv_at hl 5 rfl) ?_
              refine z_lald (v := (lN (WT2_29 j))) hx hb hK hP 3 1 rfl rfl j rfl (by omega) rfl dX6_just_63 ?_
              refine lv_goto (tgt := 68) hx hb dX6_just_64 (by decide) ?_
              refine z_ladd (v := (lN (sm + (WT2_29 j)))) hx hb dX6_just_68 (lN_add _ _) ?_
              refine lv_lstore (lv' := [(4, .long (lN (sm + (WT2_29 j)))), (0, .ref m0), (1, .int (iI tk)), (2, .int (iI mg)), (3, .int (nI uu)), (6, .int (nI j))]) hx hb dX6_just_69 hl (by decide) rfl (fun ls hl => ?_)
              refine lv_iinc (v := (nI (j + 1))) (lv' := [(6, .int (nI (j + 1))), (4, .long (lN (sm + (WT2_29 j)))), (0, .ref m0), (1, .int (iI tk)), (2, .int (iI mg)), (3, .int (nI uu))]) hx hb dX6_just_71 hl (k := 5) rfl (z_incN j 1 (by decide)) (by decide) rfl (fun ls hl => ?_)
              refine lv_goto (tgt := 38) hx hb dX6_just_74 (by decide) ?_
              have o_i1 : (j + 1) ≤ 308 := by first | assumption | omega
              have o_i2 : (sm + (WT2_29 j)) = fb_sm (fun k_ => if k_ % 11 = mg.toNat then WT2_29 k_ else 0) (j + 1) := by rw [fb_sm_succ, ← i2]; (first | rw [if_pos c_54] | rw [if_neg c_54])
              have o_mu : (308 - (j + 1)) < n38 := by omega
              exact ih38 (j + 1) (sm + (WT2_29 j)) o_mu o_i1 o_i2 H locs hP hD hS ls (lv_sub hl [2, 3, 4, 5, 1, 0] rfl)
      have o_i1 : 0 ≤ 308 := by first | assumption | omega
      have o_i2 : 0 = fb_sm (fun k_ => if k_ % 11 = mg.toNat then WT2_29 k_ else 0) 0 := by rfl
      exact L38 ((308 - 0) + 1) 0 0 (Nat.lt_succ_self _) o_i1 o_i2 H locs hP hD hS ls (lv_sub hl [2, 3, 4, 5, 1, 0] rfl)
    · skip
      subst h13
      refine lv_if_ne (tgt := 23) hx hb dX6_just_16 (by decide) (fun c_x => absurd c_x (by decide)) (fun _ => ?_)
      refine lv_ldc2 (v := (-2 : Int64)) hx hb hown (hts (.constantLong RX6 167 (-2)) (by decide +kernel)) dX6_just_19 ?_
      refine z_l0 (v := (lI (-2))) (by decide) ?_
      have q_0 : (-2 : Int) = if (1 ≤ tk ∧ tk ≤ 10) ∧ (0 ≤ mg ∧ mg ≤ 10) then ((sp_fr (sp_js (sp_cw BR RP) rm mg.toNat tk.toNat) (1 * 2 ^ (4 * tk.toNat)) uu : Nat) : Int) else -2 := by rw [if_neg (by omega)]
      exact hRET _ ls H locs ((lI (-2))) ((-2 : Int), WT, NX) dX6_just_22 ⟨rfl, q_0⟩ hP hD hS
  · skip
    subst h1
    refine lv_if_eq (tgt := 19) hx hb dX6_just_4 (by decide) (fun _ => ?_) (fun c_x => absurd c_x (by decide))
    refine lv_ldc2 (v := (-2 : Int64)) hx hb hown (hts (.constantLong RX6 167 (-2)) (by decide +kernel)) dX6_just_19 ?_
    refine z_l0 (v := (lI (-2))) (by decide) ?_
    have q_0 : (-2 : Int) = if (1 ≤ tk ∧ tk ≤ 10) ∧ (0 ≤ mg ∧ mg ≤ 10) then ((sp_fr (sp_js (sp_cw BR RP) rm mg.toNat tk.toNat) (1 * 2 ^ (4 * tk.toNat)) uu : Nat) : Int) else -2 := by rw [if_neg (by omega)]
    exact hRET _ ls H locs ((lI (-2))) ((-2 : Int), WT, NX) dX6_just_22 ⟨rfl, q_0⟩ hP hD hS

set_option maxHeartbeats 4000000 in
set_option maxRecDepth 100000 in
theorem c_X6_least (l : Launch) (dC : Nat → ClassId) (dI : Nat → Nat → Nat) (cI cJ : ClassId) (sz : Nat) (m0 : Nat) (x1 : Nat) (x2 : Nat) (x3 : Nat) (x4 : Nat) (x5 : Nat) (x6 : Nat) (x7 : Nat) (x8 : Nat) (x9 : Nat) (y1 : Nat) (y2 : Nat) (y3 : Nat) (y4 : Nat) (y5 : Nat) (y6 : Nat) (y7 : Nat) (N : Nat) (K : Nat) (lo : Nat) (ns : Nat) (nd : Nat) (rm : Nat) (pls : Nat) (BR : Nat → Nat) (RP : Nat → Nat) (WT : Nat → Nat) (NX : Nat → Nat) (tk : Int) (ab : Int) (be : Int) (bBR : ∀ i, BR i ≤ 4) (bRP : ∀ i, RP i ≤ 4) (bt : -2147483648 ≤ tk ∧ tk < 2147483648) (bab : -2147483648 ≤ ab ∧ ab < 2147483648) (bbe : -2147483648 ≤ be ∧ be < 2147483648) : Met l yX6_least wsX6_least (zR 3 0 0 78) (va_Pc [.ref m0, .int (iI tk), .int (iI ab), .int (iI be)] (zP (dC, dI) [(cI, .int), (cJ, .long)] [(m0, .inr (6, [.int (nI N), .ref x1, .int (nI K), .ref x2, .ref x3, .ref x4, .int (nI lo), .ref x5, .ref x6, .ref x7, .ref x8, .int (nI ns), .int (nI nd), .ref x9, .ref y1, .ref y2, .int (nI rm), .ref y3, .ref y4, .ref y5, .ref y6, .ref y7, .int (nI pls)])), (y1, .inl (cI, 2, .inl (fun z_ => nI (BR z_)))), (y2, .inl (cI, 2, .inl (fun z_ => nI (RP z_)))), (y3, .inl (cJ, 308, .inr (.inl (fun z_ => lN (WT z_))))), (y4, .inl (cJ, 308, .inr (.inl (fun z_ => lN (NX z_)))))] sz nwA)) (va_Qi (fun (r : Int32) (u : (Int) × (Nat → Nat) × (Nat → Nat)) => r = (iI u.1) ∧ (u.1 = if (1 ≤ tk ∧ tk ≤ 10) ∧ ((1 ≤ ab ∧ ab ≤ 1000) ∧ (1 ≤ be ∧ be ≤ 1000)) then sp_lst (sp_lok BR RP tk.toNat ab.toNat be.toNat) else -2)) (zB (dC, dI) (fun (u : (Int) × (Nat → Nat) × (Nat → Nat)) => [(m0, .inr (6, [.int (nI N), .ref x1, .int (nI K), .ref x2, .ref x3, .ref x4, .int (nI lo), .ref x5, .ref x6, .ref x7, .ref x8, .int (nI ns), .int (nI nd), .ref x9, .ref y1, .ref y2, .int (nI rm), .ref y3, .ref y4, .ref y5, .ref y6, .ref y7, .int (nI pls)])), (y1, .inl (cI, 2, .inl (fun z_ => nI (BR z_)))), (y2, .inl (cI, 2, .inl (fun z_ => nI (RP z_)))), (y3, .inl (cJ, 308, .inr (.inl (fun z_ => lN (u.2.1 z_))))), (y4, .inl (cJ, 308, .inr (.inl (fun z_ => lN (u.2.2 z_)))))]) (va_A [(m0, .inr (6, [.int (nI N), .ref x1, .int (nI K), .ref x2, .ref x3, .ref x4, .int (nI lo), .ref x5, .ref x6, .ref x7, .ref x8, .int (nI ns), .int (nI nd), .ref x9, .ref y1, .ref y2, .int (nI rm), .ref y3, .ref y4, .ref y5, .ref y6, .ref y7, .int (nI pls)])), (y1, .inl (cI, 2, .inl (fun z_ => nI (BR z_)))), (y2, .inl (cI, 2, .inl (fun z_ => nI (RP z_)))), (y3, .inl (cJ, 308, .inr (.inl (fun z_ => lN (WT z_))))), (y4, .inl (cJ, 308, .inr (.inl (fun z_ => lN (NX z_)))))] sz)) (va_A [(m0, .inr (6, [.int (nI N), .ref x1, .int (nI K), .ref x2, .ref x3, .ref x4, .int (nI lo), .ref x5, .ref x6, .ref x7, .ref x8, .int (nI ns), .int (nI nd), .ref x9, .ref y1, .ref y2, .int (nI rm), .ref y3, .ref y4, .ref y5, .ref y6, .ref y7, .int (nI pls)])), (y1, .inl (cI, 2, .inl (fun z_ => nI (BR z_)))), (y2, .inl (cI, 2, .inl (fun z_ => nI (RP z_)))), (y3, .inl (cJ, 308, .inr (.inl (fun z_ => lN (WT z_))))), (y4, .inl (cJ, 308, .inr (.inl (fun z_ => lN (NX z_)))))] sz)) 0 0 (va_A [(m0, .inr (6, [.int (nI N), .ref x1, .int (nI K), .ref x2, .ref x3, .ref x4, .int (nI lo), .ref x5, .ref x6, .ref x7, .ref x8, .int (nI ns), .int (nI nd), .ref x9, .ref y1, .ref y2, .int (nI rm), .ref y3, .ref y4, .ref y5, .ref y6, .ref y7, .int (nI pls)])), (y1, .inl (cI, 2, .inl (fun z_ => nI (BR z_)))), (y2, .inl (cI, 2, .inl (fun z_ => nI (RP z_)))), (y3, .inl (cJ, 308, .inr (.inl (fun z_ => lN (WT z_))))), (y4, .inl (cJ, 308, .inr (.inl (fun z_ => lN (NX z_)))))] sz) := by
  refine z_met_i (cc := cX6_least) (maxL := 5) (by decide) rfl (Nat.le_of_ble_eq_true rfl) ?_
  intro p e s m args below meth c Q A ls hx hb hml hown hts hin hA hK hP hD hN hl hRET
  have hown : s.vm.findClass RX6 = some m.cls := hown
  obtain ⟨H, eH⟩ : ∃ H : Heap, H = s.heap := ⟨_, rfl⟩
  rw [← eH] at hP
  obtain ⟨locs, eL⟩ : ∃ z : List Loc, z = [] := ⟨_, rfl⟩
  rw [← eH, ← eL]
  have hS : va_S A s.heap H locs := by rw [eH, eL]; exact va_S.rf
  have hl : lv_has ls 5 [(0, .ref m0), (1, .int (iI tk)), (2, .int (iI ab)), (3, .int (iI be))] := hl
  have hrow : sp_row (sp_cw BR RP) := sp_cw_row bBR bRP
  refine lv_iload_n hx hb dX6_least_0 rfl (lv_at hl 1 rfl) ?_
  refine z_callSi (As := [.int (iI tk)]) (rest := []) (wr := [(m0, .inr (6, [.int (nI N), .ref x1, .int (nI K), .ref x2, .ref x3, .ref x4, .int (nI lo), .ref x5, .ref x6, .ref x7, .ref x8, .int (nI ns), .int (nI nd), .ref x9, .ref y1, .ref y2, .int (nI rm), .ref y3, .ref y4, .ref y5, .ref y6, .ref y7, .int (nI pls)])), (y1, .inl (cI, 2, .inl (fun z_ => nI (BR z_)))), (y2, .inl (cI, 2, .inl (fun z_ => nI (RP z_)))), (y3, .inl (cJ, 308, .inr (.inl (fun z_ => lN (WT z_))))), (y4, .inl (cJ, 308, .inr (.inl (fun z_ => lN (NX z_)))))]) ⟨hx, hb, hml, hown, hts⟩ (c_X6_isTicks l dC dI cI cJ H.size tk (by first | assumption | omega)) (va_cwS 1 hts gX6_least_X6_isTicks rfl rfl rfl (by decide +kernel) ⟨Nat.le_of_ble_eq_true rfl, Nat.le_of_ble_eq_true rfl⟩) hA hK hP hD hS [] [0, 1, 2, 3, 4] [0, 1, 2, 3, 4] rfl rfl (by decide) (by decide) (by decide) nwA_ok hN hl.1 (Nat.le_of_ble_eq_true rfl) ⟨Nat.le_refl _, Nat.le_refl _⟩ rfl rfl dX6_least_1 (fun (u : (Nat)) => [(m0, .inr (6, [.int (nI N), .ref x1, .int (nI K), .ref x2, .ref x3, .ref x4, .int (nI lo), .ref x5, .ref x6, .ref x7, .ref x8, .int (nI ns), .int (nI nd), .ref x9, .ref y1, .ref y2, .int (nI rm), .ref y3, .ref y4, .ref y5, .ref y6, .ref y7, .int (nI pls)])), (y1, .inl (cI, 2, .inl (fun z_ => nI (BR z_)))), (y2, .inl (cI, 2, .inl (fun z_ => nI (RP z_)))), (y3, .inl (cJ, 308, .inr (.inl (fun z_ => lN (WT z_))))), (y4, .inl (cJ, 308, .inr (.inl (fun z_ => lN (NX z_)))))]) (fun u => rfl) (by decide) (fun r_1 u H locs hw hP hD hS => ?_)
  obtain ⟨rv_1, eu⟩ : ∃ z, z = u := ⟨_, rfl⟩
  subst eu
  have hP : va_P (dC, dI) vwCl [(m0, .inr (6, [.int (nI N), .ref x1, .int (nI K), .ref x2, .ref x3, .ref x4, .int (nI lo), .ref x5, .ref x6, .ref x7, .ref x8, .int (nI ns), .int (nI nd), .ref x9, .ref y1, .ref y2, .int (nI rm), .ref y3, .ref y4, .ref y5, .ref y6, .ref y7, .int (nI pls)])), (y1, .inl (cI, 2, .inl (fun z_ => nI (BR z_)))), (y2, .inl (cI, 2, .inl (fun z_ => nI (RP z_)))), (y3, .inl (cJ, 308, .inr (.inl (fun z_ => lN (WT z_))))), (y4, .inl (cJ, 308, .inr (.inl (fun z_ => lN (NX z_)))))] H := hP
  have hD : va_D A [(m0, .inr (6, [.int (nI N), .ref x1, .int (nI K), .ref x2, .ref x3, .ref x4, .int (nI lo), .ref x5, .ref x6, .ref x7, .ref x8, .int (nI ns), .int (nI nd), .ref x9, .ref y1, .ref y2, .int (nI rm), .ref y3, .ref y4, .ref y5, .ref y6, .ref y7, .int (nI pls)])), (y1, .inl (cI, 2, .inl (fun z_ => nI (BR z_)))), (y2, .inl (cI, 2, .inl (fun z_ => nI (RP z_)))), (y3, .inl (cJ, 308, .inr (.inl (fun z_ => lN (WT z_))))), (y4, .inl (cJ, 308, .inr (.inl (fun z_ => lN (NX z_)))))] := hD
  obtain ⟨er, p1_0⟩ := hw
  have p1_0 : (rv_1 = 1 ∧ (1 ≤ tk ∧ tk ≤ 10)) ∨ (rv_1 = 0 ∧ ¬ (1 ≤ tk ∧ tk ≤ 10)) := p1_0
  have er : r_1 = (nI rv_1) := er
  subst er
  rcases p1_0 with ⟨h1, c_1⟩ | ⟨h1, c_1⟩
  · skip
    subst h1
    refine lv_if_eq (tgt := 31) hx hb dX6_least_4 (by decide) (fun c_x => absurd c_x (by decide)) (fun _ => ?_)
    refine lv_iload_n hx hb dX6_least_7 rfl (lv_at hl 2 rfl) ?_
    refine lv_i2l (v := (lI ab)) hx hb dX6_least_8 (zl_i2l rfl (by omega)) ?_
    refine lv_lconst (v := lN 1) hx hb dX6_least_9 (by decide) ?_
    refine lv_ldc2 (v := (1000 : Int64)) hx hb hown (hts (.constantLong RX6 141 (1000)) (by decide +kernel)) dX6_least_10 ?_
    refine z_l0 (v := (lN 1000)) (by decide) ?_
    refine z_l0 (v := lI 1000) (by decide) ?_
    refine z_l1 (v := lI 1) (by decide) ?_
    refine z_callSi (As := [.long (lI ab), .long (lI 1), .long (lI 1000)]) (rest := []) (wr := [(m0, .inr (6, [.int (nI N), .ref x1, .int (nI K), .ref x2, .ref x3, .ref x4, .int (nI lo), .ref x5, .ref x6, .ref x7, .ref x8, .int (nI ns), .int (nI nd), .ref x9, .ref y1, .ref y2, .int (nI rm), .ref y3, .ref y4, .ref y5, .ref y6, .ref y7, .int (nI pls)])), (y1, .inl (cI, 2, .inl (fun z_ => nI (BR z_)))), (y2, .inl (cI, 2, .inl (fun z_ => nI (RP z_)))), (y3, .inl (cJ, 308, .inr (.inl (fun z_ => lN (WT z_))))), (y4, .inl (cJ, 308, .inr (.inl (fun z_ => lN (NX z_)))))]) ⟨hx, hb, hml, hown, hts⟩ (c_X6_in l dC dI cI cJ H.size ab (1 : Int) (1000 : Int) (by first | assumption | omega) (by first | assumption | omega) (by first | assumption | omega)) (va_cwS 3 hts gX6_least_X6_in rfl rfl rfl (by decide +kernel) ⟨Nat.le_of_ble_eq_true rfl, Nat.le_of_ble_eq_true rfl⟩) hA hK hP hD hS [] [0, 1, 2, 3, 4] [0, 1, 2, 3, 4] rfl rfl (by decide) (by decide) (by decide) nwA_ok hN hl.1 (Nat.le_of_ble_eq_true rfl) ⟨Nat.le_refl _, Nat.le_refl _⟩ rfl rfl dX6_least_13 (fun (u : (Nat)) => [(m0, .inr (6, [.int (nI N), .ref x1, .int (nI K), .ref x2, .ref x3, .ref x4, .int (nI lo), .ref x5, .ref x6, .ref x7, .ref x8, .int (nI ns), .int (nI nd), .ref x9, .ref y1, .ref y2, .int (nI rm), .ref y3, .ref y4, .ref y5, .ref y6, .ref y7, .int (nI pls)])), (y1, .inl (cI, 2, .inl (fun z_ => nI (BR z_)))), (y2, .inl (cI, 2, .inl (fun z_ => nI (RP z_)))), (y3, .inl (cJ, 308, .inr (.inl (fun z_ => lN (WT z_))))), (y4, .inl (cJ, 308, .inr (.inl (fun z_ => lN (NX z_)))))]) (fun u => rfl) (by decide) (fun r_13 u H locs hw hP hD hS => ?_)
    obtain ⟨rv_13, eu⟩ : ∃ z, z = u := ⟨_, rfl⟩
    subst eu
    have hP : va_P (dC, dI) vwCl [(m0, .inr (6, [.int (nI N), .ref x1, .int (nI K), .ref x2, .ref x3, .ref x4, .int (nI lo), .ref x5, .ref x6, .ref x7, .ref x8, .int (nI ns), .int (nI nd), .ref x9, .ref y1, .ref y2, .int (nI rm), .ref y3, .ref y4, .ref y5, .ref y6, .ref y7, .int (nI pls)])), (y1, .inl (cI, 2, .inl (fun z_ => nI (BR z_)))), (y2, .inl (cI, 2, .inl (fun z_ => nI (RP z_)))), (y3, .inl (cJ, 308, .inr (.inl (fun z_ => lN (WT z_))))), (y4, .inl (cJ, 308, .inr (.inl (fun z_ => lN (NX z_)))))] H := hP
    have hD : va_D A [(m0, .inr (6, [.int (nI N), .ref x1, .int (nI K), .ref x2, .ref x3, .ref x4, .int (nI lo), .ref x5, .ref x6, .ref x7, .ref x8, .int (nI ns), .int (nI nd), .ref x9, .ref y1, .ref y2, .int (nI rm), .ref y3, .ref y4, .ref y5, .ref y6, .ref y7, .int (nI pls)])), (y1, .inl (cI, 2, .inl (fun z_ => nI (BR z_)))), (y2, .inl (cI, 2, .inl (fun z_ => nI (RP z_)))), (y3, .inl (cJ, 308, .inr (.inl (fun z_ => lN (WT z_))))), (y4, .inl (cJ, 308, .inr (.inl (fun z_ => lN (NX z_)))))] := hD
    obtain ⟨er, p13_0⟩ := hw
    have p13_0 : (rv_13 = 1 ∧ ((1 : Int) ≤ ab ∧ ab ≤ (1000 : Int))) ∨ (rv_13 = 0 ∧ ¬ ((1 : Int) ≤ ab ∧ ab ≤ (1000 : Int))) := p13_0
    have er : r_13 = (nI rv_13) := er
    subst er
    rcases p13_0 with ⟨h13, c_13⟩ | ⟨h13, c_13⟩
    · skip
      subst h13
      refine lv_if_eq (tgt := 31) hx hb dX6_least_16 (by decide) (fun c_x => absurd c_x (by decide)) (fun _ => ?_)
      refine lv_iload_n hx hb dX6_least_19 rfl (lv_at hl 3 rfl) ?_
      refine lv_i2l (v := (lI be)) hx hb dX6_least_20 (zl_i2l rfl (by omega)) ?_
      refine lv_lconst (v := lN 1) hx hb dX6_least_21 (by decide) ?_
      refine lv_ldc2 (v := (1000 : Int64)) hx hb hown (hts (.constantLong RX6 141 (1000)) (by decide +kernel)) dX6_least_22 ?_
      refine z_l0 (v := (lN 1000)) (by decide) ?_
      refine z_l0 (v := lI 1000) (by decide) ?_
      refine z_l1 (v := lI 1) (by decide) ?_
      refine z_callSi (As := [.long (lI be), .long (lI 1), .long (lI 1000)]) (rest := []) (wr := [(m0, .inr (6, [.int (nI N), .ref x1, .int (nI K), .ref x2, .ref x3, .ref x4, .int (nI lo), .ref x5, .ref x6, .ref x7, .ref x8, .int (nI ns), .int (nI nd), .ref x9, .ref y1, .ref y2, .int (nI rm), .ref y3, .ref y4, .ref y5, .ref y6, .ref y7, .int (nI pls)])), (y1, .inl (cI, 2, .inl (fun z_ => nI (BR z_)))), (y2, .inl (cI, 2, .inl (fun z_ => nI (RP z_)))), (y3, .inl (cJ, 308, .inr (.inl (fun z_ => lN (WT z_))))), (y4, .inl (cJ, 308, .inr (.inl (fun z_ => lN (NX z_)))))]) ⟨hx, hb, hml, hown, hts⟩ (c_X6_in l dC dI cI cJ H.size be (1 : Int) (1000 : Int) (by first | assumption | omega) (by first | assumption | omega) (by first | assumption | omega)) (va_cwS 3 hts gX6_least_X6_in rfl rfl rfl (by decide +kernel) ⟨Nat.le_of_ble_eq_true rfl, Nat.le_of_ble_eq_true rfl⟩) hA hK hP hD hS [] [0, 1, 2, 3, 4] [0, 1, 2, 3, 4] rfl rfl (by decide) (by decide) (by decide) nwA_ok hN hl.1 (Nat.le_of_ble_eq_true rfl) ⟨Nat.le_refl _, Nat.le_refl _⟩ rfl rfl dX6_least_25 (fun (u : (Nat)) => [(m0, .inr (6, [.int (nI N), .ref x1, .int (nI K), .ref x2, .ref x3, .ref x4, .int (nI lo), .ref x5, .ref x6, .ref x7, .ref x8, .int (nI ns), .int (nI nd), .ref x9, .ref y1, .ref y2, .int (nI rm), .ref y3, .ref y4, .ref y5, .ref y6, .ref y7, .int (nI pls)])), (y1, .inl (cI, 2, .inl (fun z_ => nI (BR z_)))), (y2, .inl (cI, 2, .inl (fun z_ => nI (RP z_)))), (y3, .inl (cJ, 308, .inr (.inl (fun z_ => lN (WT z_))))), (y4, .inl (cJ, 308, .inr (.inl (fun z_ => lN (NX z_)))))]) (fun u => rfl) (by decide) (fun r_25 u H locs hw hP hD hS => ?_)
      obtain ⟨rv_25, eu⟩ : ∃ z, z = u := ⟨_, rfl⟩
      subst eu
      have hP : va_P (dC, dI) vwCl [(m0, .inr (6, [.int (nI N), .ref x1, .int (nI K), .ref x2, .ref x3, .ref x4, .int (nI lo), .ref x5, .ref x6, .ref x7, .ref x8, .int (nI ns), .int (nI nd), .ref x9, .ref y1, .ref y2, .int (nI rm), .ref y3, .ref y4, .ref y5, .ref y6, .ref y7, .int (nI pls)])), (y1, .inl (cI, 2, .inl (fun z_ => nI (BR z_)))), (y2, .inl (cI, 2, .inl (fun z_ => nI (RP z_)))), (y3, .inl (cJ, 308, .inr (.inl (fun z_ => lN (WT z_))))), (y4, .inl (cJ, 308, .inr (.inl (fun z_ => lN (NX z_)))))] H := hP
      have hD : va_D A [(m0, .inr (6, [.int (nI N), .ref x1, .int (nI K), .ref x2, .ref x3, .ref x4, .int (nI lo), .ref x5, .ref x6, .ref x7, .ref x8, .int (nI ns), .int (nI nd), .ref x9, .ref y1, .ref y2, .int (nI rm), .ref y3, .ref y4, .ref y5, .ref y6, .ref y7, .int (nI pls)])), (y1, .inl (cI, 2, .inl (fun z_ => nI (BR z_)))), (y2, .inl (cI, 2, .inl (fun z_ => nI (RP z_)))), (y3, .inl (cJ, 308, .inr (.inl (fun z_ => lN (WT z_))))), (y4, .inl (cJ, 308, .inr (.inl (fun z_ => lN (NX z_)))))] := hD
      obtain ⟨er, p25_0⟩ := hw
      have p25_0 : (rv_25 = 1 ∧ ((1 : Int) ≤ be ∧ be ≤ (1000 : Int))) ∨ (rv_25 = 0 ∧ ¬ ((1 : Int) ≤ be ∧ be ≤ (1000 : Int))) := p25_0
      have er : r_25 = (nI rv_25) := er
      subst er
      rcases p25_0 with ⟨h25, c_25⟩ | ⟨h25, c_25⟩
      · skip
        subst h25
        refine lv_if_ne (tgt := 34) hx hb dX6_least_28 (by decide) (fun _ => ?_) (fun c_x => absurd c_x (by decide))
        refine lv_iconst (v := nI 0) hx hb dX6_least_34 (by decide) ?_
        refine lv_istore (lv' := [(4, .int (nI 0)), (0, .ref m0), (1, .int (iI tk)), (2, .int (iI ab)), (3, .int (iI be))]) hx hb dX6_least_35 hl (by decide) rfl (fun ls hl => ?_)
        have L37 : ∀ (n37 : Nat) (b : Nat) (W1 : Nat → Nat) (X1 : Nat → Nat), (7 - b) < n37 → (b ≤ 7) → (∀ i_, i_ < b → sp_lok BR RP tk.toNat ab.toNat be.toNat i_ = false) → ∀ (H : Heap) (locs : List Loc), va_P (dC, dI) vwCl [(m0, .inr (6, [.int (nI N), .ref x1, .int (nI K), .ref x2, .ref x3, .ref x4, .int (nI lo), .ref x5, .ref x6, .ref x7, .ref x8, .int (nI ns), .int (nI nd), .ref x9, .ref y1, .ref y2, .int (nI rm), .ref y3, .ref y4, .ref y5, .ref y6, .ref y7, .int (nI pls)])), (y1, .inl (cI, 2, .inl (fun z_ => nI (BR z_)))), (y2, .inl (cI, 2, .inl (fun z_ => nI (RP z_)))), (y3, .inl (cJ, 308, .inr (.inl (fun z_ => lN (W1 z_))))), (y4, .inl (cJ, 308, .inr (.inl (fun z_ => lN (X1 z_)))))] H → va_D A [(m0, .inr (6, [.int (nI N), .ref x1, .int (nI K), .ref x2, .ref x3, .ref x4, .int (nI lo), .ref x5, .ref x6, .ref x7, .ref x8, .int (nI ns), .int (nI nd), .ref x9, .ref y1, .ref y2, .int (nI rm), .ref y3, .ref y4, .ref y5, .ref y6, .ref y7, .int (nI pls)])), (y1, .inl (cI, 2, .inl (fun z_ => nI (BR z_)))), (y2, .inl (cI, 2, .inl (fun z_ => nI (RP z_)))), (y3, .inl (cJ, 308, .inr (.inl (fun z_ => lN (W1 z_))))), (y4, .inl (cJ, 308, .inr (.inl (fun z_ => lN (X1 z_)))))] → va_S A s.heap H locs → ∀ (ls : Array Slot), lv_has ls 5 [(0, .ref m0), (1, .int (iI tk)), (2, .int (iI ab)), (3, .int (iI be)), (4, .int (nI b))] → W p l e (zR 3 0 0 78) s m args below meth c H locs 0 0 Q (F0 m 37 ls []) := by
          intro n37
          induction n37 with
          | zero => intro b W1 X1 hn; exact absurd hn (Nat.not_lt_zero _)
          | succ n37 ih =>
            intro b W1 X1 hn i1 i2 H locs hP hD hS ls hl
            have ih37 := ih
            have hn37 := hn
            clear ih hn
            refine lv_iload hx hb dX6_least_37 (lv_at hl 4 rfl) ?_
            refine lv_bipush (v := nI 6) hx hb dX6_least_39 (by decide) ?_
            refine z_icmp_gt (tgt := 77) hx hb dX6_least_41 (by decide) (zcn_lt (a := 6) (b := b) rfl rfl (by omega)) (fun c_41 => ?_) (fun c_41 => ?_)
            · skip
              refine lv_bipush (v := iI (-9)) hx hb dX6_least_77 (by decide) ?_
              have q_0 : (-9 : Int) = if (1 ≤ tk ∧ tk ≤ 10) ∧ ((1 ≤ ab ∧ ab ≤ 1000) ∧ (1 ≤ be ∧ be ≤ 1000)) then sp_lst (sp_lok BR RP tk.toNat ab.toNat be.toNat) else -2 := by rw [if_pos (by omega)]; exact (sp_lst_n (fun i hi => i2 i (by omega))).symm
              exact hRET _ ls H locs ((iI (-9))) ((-9 : Int), W1, X1) dX6_least_79 ⟨rfl, q_0⟩ hP hD hS
            · skip
              refine lv_aload_n hx hb dX6_least_44 rfl (lv_at hl 0 rfl) ?_
              refine lv_iload_n hx hb dX6_least_45 rfl (lv_at hl 1 rfl) ?_
              refine lv_iload hx hb dX6_least_46 (lv_at hl 4 rfl) ?_
              refine z_c1 (v := nI tk.toNat) (z_ZtoN (by first | assumption | omega)) ?_
              refine z_callVv (As := [.int (nI tk.toNat), .int (nI b)]) (rest := []) (wr := []) ⟨hx, hb, hml, hown, hts⟩ (c_X6_go l dC dI cI cJ H.size m0 x1 x2 x3 x4 x5 x6 x7 x8 x9 y1 y2 y3 y4 y5 y6 y7 N K lo ns nd rm pls BR RP W1 X1 tk.toNat b (by first | assumption | omega) (by first | assumption | omega) (by first | assumption | omega) (by first | assumption | omega)) (cwV 2 hts gX6_least_X6_go rfl rfl rfl (by decide +kernel) ⟨Nat.le_of_ble_eq_true rfl, Nat.le_of_ble_eq_true rfl⟩) hA hK hP hD hS [0, 1, 2, 3, 4] [] [0, 1, 2, 3, 4] rfl rfl (by decide) (by decide) (by decide) nwA_ok hN (ci := 6) rfl rfl 0 rfl hl.1 (Nat.le_of_ble_eq_true rfl) ⟨Nat.le_refl _, Nat.le_refl _⟩ rfl rfl dX6_least_48 (fun (u : (Nat → Nat) × (Nat → Nat)) => [(m0, .inr (6, [.int (nI N), .ref x1, .int (nI K), .ref x2, .ref x3, .ref x4, .int (nI lo), .ref x5, .ref x6, .ref x7, .ref x8, .int (nI ns), .int (nI nd), .ref x9, .ref y1, .ref y2, .int (nI rm), .ref y3, .ref y4, .ref y5, .ref y6, .ref y7, .int (nI pls)])), (y1, .inl (cI, 2, .inl (fun z_ => nI (BR z_)))), (y2, .inl (cI, 2, .inl (fun z_ => nI (RP z_)))), (y3, .inl (cJ, 308, .inr (.inl (fun z_ => lN (u.1 z_))))), (y4, .inl (cJ, 308, .inr (.inl (fun z_ => lN (u.2 z_)))))]) (fun u => rfl) (by decide) (fun u H locs hw hP hD hS => ?_)
              obtain ⟨WT2_48, NX2_48⟩ := u
              have hP : va_P (dC, dI) vwCl [(m0, .inr (6, [.int (nI N), .ref x1, .int (nI K), .ref x2, .ref x3, .ref x4, .int (nI lo), .ref x5, .ref x6, .ref x7, .ref x8, .int (nI ns), .int (nI nd), .ref x9, .ref y1, .ref y2, .int (nI rm), .ref y3, .ref y4, .ref y5, .ref y6, .ref y7, .int (nI pls)])), (y1, .inl (cI, 2, .inl (fun z_ => nI (BR z_)))), (y2, .inl (cI, 2, .inl (fun z_ => nI (RP z_)))), (y3, .inl (cJ, 308, .inr (.inl (fun z_ => lN (WT2_48 z_))))), (y4, .inl (cJ, 308, .inr (.inl (fun z_ => lN (NX2_48 z_)))))] H := hP
              have hD : va_D A [(m0, .inr (6, [.int (nI N), .ref x1, .int (nI K), .ref x2, .ref x3, .ref x4, .int (nI lo), .ref x5, .ref x6, .ref x7, .ref x8, .int (nI ns), .int (nI nd), .ref x9, .ref y1, .ref y2, .int (nI rm), .ref y3, .ref y4, .ref y5, .ref y6, .ref y7, .int (nI pls)])), (y1, .inl (cI, 2, .inl (fun z_ => nI (BR z_)))), (y2, .inl (cI, 2, .inl (fun z_ => nI (RP z_)))), (y3, .inl (cJ, 308, .inr (.inl (fun z_ => lN (WT2_48 z_))))), (y4, .inl (cJ, 308, .inr (.inl (fun z_ => lN (NX2_48 z_)))))] := hD
              have p48_0 := hw
              have p48_0 : ∀ φ, sp_S WT2_48 (fun k_ => φ (sp_sg k_)) = sp_Pi (sp_cw BR RP) b 10 1 tk.toNat φ 231 := p48_0
              refine lv_aload_n hx hb dX6_least_51 rfl (lv_at hl 0 rfl) ?_
              refine z_callVl (As := []) (rest := []) (wr := [(y1, .inl (cI, 2, .inl (fun z_ => nI (BR z_)))), (y2, .inl (cI, 2, .inl (fun z_ => nI (RP z_)))), (y4, .inl (cJ, 308, .inr (.inl (fun z_ => lN (NX2_48 z_)))))]) ⟨hx, hb, hml, hown, hts⟩ (c_X6_mean l dC dI cI cJ H.size m0 x1 x2 x3 x4 x5 x6 x7 x8 x9 y1 y2 y3 y4 y5 y6 y7 N K lo ns nd rm pls WT2_48 ) (cwV 0 hts gX6_least_X6_mean rfl rfl rfl (by decide +kernel) ⟨Nat.le_of_ble_eq_true rfl, Nat.le_of_ble_eq_true rfl⟩) hA hK hP hD hS [0, 3] [1, 2, 4] [3, 0, 1, 4, 2] rfl rfl (by decide) (by decide) (by decide) nwA_ok hN (ci := 6) rfl rfl 0 rfl hl.1 (Nat.le_of_ble_eq_true rfl) ⟨Nat.le_refl _, Nat.le_refl _⟩ rfl rfl dX6_least_52 (fun (u : (Nat)) => [(m0, .inr (6, [.int (nI N), .ref x1, .int (nI K), .ref x2, .ref x3, .ref x4, .int (nI lo), .ref x5, .ref x6, .ref x7, .ref x8, .int (nI ns), .int (nI nd), .ref x9, .ref y1, .ref y2, .int (nI rm), .ref y3, .ref y4, .ref y5, .ref y6, .ref y7, .int (nI pls)])), (y1, .inl (cI, 2, .inl (fun z_ => nI (BR z_)))), (y2, .inl (cI, 2, .inl (fun z_ => nI (RP z_)))), (y3, .inl (cJ, 308, .inr (.inl (fun z_ => lN (WT2_48 z_))))), (y4, .inl (cJ, 308, .inr (.inl (fun z_ => lN (NX2_48 z_)))))]) (fun u => rfl) (by decide) (fun r_52 u H locs hw hP hD hS => ?_)
              obtain ⟨rv_52, eu⟩ : ∃ z, z = u := ⟨_, rfl⟩
              subst eu
              have hP : va_P (dC, dI) vwCl [(m0, .inr (6, [.int (nI N), .ref x1, .int (nI K), .ref x2, .ref x3, .ref x4, .int (nI lo), .ref x5, .ref x6, .ref x7, .ref x8, .int (nI ns), .int (nI nd), .ref x9, .ref y1, .ref y2, .int (nI rm), .ref y3, .ref y4, .ref y5, .ref y6, .ref y7, .int (nI pls)])), (y1, .inl (cI, 2, .inl (fun z_ => nI (BR z_)))), (y2, .inl (cI, 2, .inl (fun z_ => nI (RP z_)))), (y3, .inl (cJ, 308, .inr (.inl (fun z_ => lN (WT2_48 z_))))), (y4, .inl (cJ, 308, .inr (.inl (fun z_ => lN (NX2_48 z_)))))] H := hP
              have hD : va_D A [(m0, .inr (6, [.int (nI N), .ref x1, .int (nI K), .ref x2, .ref x3, .ref x4, .int (nI lo), .ref x5, .ref x6, .ref x7, .ref x8, .int (nI ns), .int (nI nd), .ref x9, .ref y1, .ref y2, .int (nI rm), .ref y3, .ref y4, .ref y5, .ref y6, .ref y7, .int (nI pls)])), (y1, .inl (cI, 2, .inl (fun z_ => nI (BR z_)))), (y2, .inl (cI, 2, .inl (fun z_ => nI (RP z_)))), (y3, .inl (cJ, 308, .inr (.inl (fun z_ => lN (WT2_48 z_))))), (y4, .inl (cJ, 308, .inr (.inl (fun z_ => lN (NX2_48 z_)))))] := hD
              obtain ⟨er, p52_0⟩ := hw
              have p52_0 : rv_52 = fb_sm (fun k_ => WT2_48 k_ * (k_ % 11)) 308 := p52_0
              have er : r_52 = (lN rv_52) := er
              subst er
              have hme : rv_52 = sp_mn (sp_cw BR RP) b tk.toNat := p52_0.trans (sp_mean_S (by omega) hrow (by omega) p48_0)
              have hb1 := sp_mn_b bBR bRP (show b ≤ 6 by omega) (show tk.toNat ≤ 10 by omega)
              have hb2 := pow16_le (show tk.toNat ≤ 10 by omega)
              rw [← pow24] at hb2
              rw [← hme] at hb1
              have hm1 := Nat.mul_le_mul hb1 (show be.toNat ≤ 1000 by omega)
              have hm2 := Nat.mul_le_mul (show ab.toNat ≤ 1000 by omega) hb2
              have hsh : ab.toNat * (1 * 2 ^ (4 * tk.toNat)) = ab.toNat * 2 ^ (4 * tk.toNat) := by rw [Nat.one_mul]
              rw [hsh] at hm2
              refine lv_iload_n hx hb dX6_least_55 rfl (lv_at hl 3 rfl) ?_
              refine z_c0 (v := nI be.toNat) (z_ZtoN (by first | assumption | omega)) ?_
              refine lv_i2l (v := (lN be.toNat)) hx hb dX6_least_56 (zl_i2lN rfl (by omega)) ?_
              refine z_lmul (v := (lN (rv_52 * be.toNat))) hx hb dX6_least_57 (lN_mul _ _) ?_
              refine lv_iload_n hx hb dX6_least_58 rfl (lv_at hl 2 rfl) ?_
              refine z_c0 (v := nI ab.toNat) (z_ZtoN (by first | assumption | omega)) ?_
              refine lv_i2l (v := (lN ab.toNat)) hx hb dX6_least_59 (zl_i2lN rfl (by omega)) ?_
              refine lv_iconst (v := nI 4) hx hb dX6_least_60 (by decide) ?_
              refine lv_iload_n hx hb dX6_least_61 rfl (lv_at hl 1 rfl) ?_
              refine z_c0 (v := nI tk.toNat) (z_ZtoN (by first | assumption | omega)) ?_
              refine z_imul (v := (nI (4 * tk.toNat))) hx hb dX6_least_62 (pk_mul _ _) ?_
              refine lv_lshl (v := lN (ab.toNat * 2 ^ (4 * tk.toNat))) hx hb dX6_least_63 (zs_lshl rfl rfl (by omega)) ?_
              refine W.lcmp hx hb dX6_least_64 ?_
              refine z_if_lt (tgt := 71) hx hb dX6_least_65 (by decide) ((zm_lt _ _).trans (zl_lt (a := ((rv_52 * be.toNat : Nat) : Int)) (b := ((ab.toNat * 2 ^ (4 * tk.toNat) : Nat) : Int)) (lI_N _) (lI_N _) (by omega))) (fun c_65 => ?_) (fun c_65 => ?_)
              · skip
                refine lv_iinc (v := (nI (b + 1))) (lv' := [(4, .int (nI (b + 1))), (0, .ref m0), (1, .int (iI tk)), (2, .int (iI ab)), (3, .int (iI be))]) hx hb dX6_least_71 hl (k := 4) rfl (z_incN b 1 (by decide)) (by decide) rfl (fun ls hl => ?_)
                refine lv_goto (tgt := 37) hx hb dX6_least_74 (by decide) ?_
                have o_i1 : (b + 1) ≤ 7 := by first | assumption | omega
                have o_i2 : ∀ i_, i_ < (b + 1) → sp_lok BR RP tk.toNat ab.toNat be.toNat i_ = false := by exact lt_s i2 (sp_lok_f (by rw [← hme, hsh]; omega))
                have o_mu : (7 - (b + 1)) < n37 := by omega
                exact ih37 (b + 1) WT2_48 NX2_48 o_mu o_i1 o_i2 H locs hP hD hS ls (lv_sub hl [1, 2, 3, 4, 0] rfl)
              · skip
                refine lv_iload hx hb dX6_least_68 (lv_at hl 4 rfl) ?_
                refine z_c0 (v := iI ((b : Nat) : Int)) (iI_N _) ?_
                have q_0 : ((b : Nat) : Int) = if (1 ≤ tk ∧ tk ≤ 10) ∧ ((1 ≤ ab ∧ ab ≤ 1000) ∧ (1 ≤ be ∧ be ≤ 1000)) then sp_lst (sp_lok BR RP tk.toNat ab.toNat be.toNat) else -2 := by rw [if_pos (by omega)]; exact (sp_lst_y i2 (sp_lok_t (by rw [← hme, hsh]; omega)) (by omega)).symm
                exact hRET _ ls H locs ((iI ((b : Nat) : Int))) (((b : Nat) : Int), WT2_48, NX2_48) dX6_least_70 ⟨rfl, q_0⟩ hP hD hS
        have o_i1 : 0 ≤ 7 := by first | assumption | omega
        have o_i2 : ∀ i_, i_ < 0 → sp_lok BR RP tk.toNat ab.toNat be.toNat i_ = false := by intro i h; omega
        exact L37 ((7 - 0) + 1) 0 WT NX (Nat.lt_succ_self _) o_i1 o_i2 H locs hP hD hS ls (lv_sub hl [1, 2, 3, 4, 0] rfl)
      · skip
        subst h25
        refine lv_if_ne (tgt := 34) hx hb dX6_least_28 (by decide) (fun c_x => absurd c_x (by decide)) (fun _ => ?_)
        refine lv_bipush (v := iI (-2)) hx hb dX6_least_31 (by decide) ?_
        have q_0 : (-2 : Int) = if (1 ≤ tk ∧ tk ≤ 10) ∧ ((1 ≤ ab ∧ ab ≤ 1000) ∧ (1 ≤ be ∧ be ≤ 1000)) then sp_lst (sp_lok BR RP tk.toNat ab.toNat be.toNat) else -2 := by rw [if_neg (by omega)]
        exact hRET _ ls H locs ((iI (-2))) ((-2 : Int), WT, NX) dX6_least_33 ⟨rfl, q_0⟩ hP hD hS
    · skip
      subst h13
      refine lv_if_eq (tgt := 31) hx hb dX6_least_16 (by decide) (fun _ => ?_) (fun c_x => absurd c_x (by decide))
      refine lv_bipush (v := iI (-2)) hx hb dX6_least_31 (by decide) ?_
      have q_0 : (-2 : Int) = if (1 ≤ tk ∧ tk ≤ 10) ∧ ((1 ≤ ab ∧ ab ≤ 1000) ∧ (1 ≤ be ∧ be ≤ 1000)) then sp_lst (sp_lok BR RP tk.toNat ab.toNat be.toNat) else -2 := by rw [if_neg (by omega)]
      exact hRET _ ls H locs ((iI (-2))) ((-2 : Int), WT, NX) dX6_least_33 ⟨rfl, q_0⟩ hP hD hS
  · skip
    subst h1
    refine lv_if_eq (tgt := 31) hx hb dX6_least_4 (by decide) (fun _ => ?_) (fun c_x => absurd c_x (by decide))
    refine lv_bipush (v := iI (-2)) hx hb dX6_least_31 (by decide) ?_
    have q_0 : (-2 : Int) = if (1 ≤ tk ∧ tk ≤ 10) ∧ ((1 ≤ ab ∧ ab ≤ 1000) ∧ (1 ≤ be ∧ be ≤ 1000)) then sp_lst (sp_lok BR RP tk.toNat ab.toNat be.toNat) else -2 := by rw [if_neg (by omega)]
    exact hRET _ ls H locs ((iI (-2))) ((-2 : Int), WT, NX) dX6_least_33 ⟨rfl, q_0⟩ hP hD hS
