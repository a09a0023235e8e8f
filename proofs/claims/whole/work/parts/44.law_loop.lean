set_option maxHeartbeats 4000000 in
set_option maxRecDepth 100000 in
theorem law_loop {p : Program} {l : Launch} {e : Env} {s : State} {m : MethodId} {args : Array Value} {below : List Frame} {meth : Method} {c : Code} {Q : State → Prop} {A : Nat → Prop} {dC : Nat → ClassId} {dI : Nat → Nat → Nat} {cI cJ : ClassId} {b L : Nat} {xs : Nat → Int32} {g0 h0 a1 a2 a3 a4 p0 p1 p2 p3 p4 k0 k1 k2 u0 u1 u2 u3 r0 r1 r2 r3 m0 x1 x2 x3 x4 x5 x6 x7 x8 x9 y1 y2 y3 y4 y5 y6 y7 : Nat} (hx : p.tables.exec = Jvm.exec) (hb : c.code = cL_law) (hml : c.maxLocals = 4) (hown : s.vm.findClass RL = some m.cls) (hts : ∀ w ∈ wsL_law, w.before args s = true) (hA : ∀ q : Nat, s.heap.size ≤ q → A q) (hbA : ¬ A b) (hbl : b < s.heap.size) (hX : va_X b L xs s s.heap) (hL : L ≤ 2048) (hK : va_K (dC, dI) vwCl [(cI, .int), (cJ, .long)] s) (hN : ∀ w ∈ nwA, va_Nw w s) (hA2 : ∀ q : Nat, A q → s.heap.size ≤ q) (hEnd : ∀ (H : Heap) (ls : Array Slot), W p l e room_1 s m args below meth c H [] 600000 7302250 Q (F0 m 987 ls [.int 1])) : ∀ n : Nat, lw_go p l e s m args below meth c Q A dC dI cI cJ b L g0 h0 a1 a2 a3 a4 p0 p1 p2 p3 p4 k0 k1 k2 u0 u1 u2 u3 r0 r1 r2 r3 m0 x1 x2 x3 x4 x5 x6 x7 x8 x9 y1 y2 y3 y4 y5 y6 y7 n := by
  intro n
  induction n with
  | zero => intro N K ns rm mn od ab ua ub ln fa tn lo nd pls ii T F G C BR RP DM RW LE PA NC OR CW WA XB CM KD LA LL PT NT WT NX CN RO BE BG hn; exact absurd hn (Nat.not_lt_zero _)
  | succ n18 ih18 =>
    intro N K ns rm mn od ab ua ub ln fa tn lo nd pls ii T F G C BR RP DM RW LE PA NC OR CW WA XB CM KD LA LL PT NT WT NX CN RO BE BG hn18 i0 bN bK bT bF bG bFN bC bNC bBR bRP brm bDM bns bT1 hh bRW bLE bPA bOR hro bLA bLL bPT hnt H locs hP hD hS ls hl
    refine lv_iload_n hx hb dL_law_18 rfl (lv_at hl 3 rfl) ?_
    refine lv_aload_n hx hb dL_law_19 rfl (lv_at hl 0 rfl) ?_
    refine va_slen hx hb hX hbl hbA hS dL_law_20 ?_
    refine lv_iconst (v := nI 4) hx hb dL_law_21 (by decide) ?_
    refine z_isub (v := iI ((L : Int) - 4)) hx hb dL_law_22 (za_sub (iI_N L) (iI_N 4)) ?_
    refine z_icmp_gt (tgt := 986) hx hb dL_law_23 (by decide) (zc_lt (a := (L : Int) - 4) (b := (ii : Int)) rfl (iI_N _) (by omega)) (fun c_23 => ?_) (fun c_23 => ?_)
    · skip
      refine lv_iconst (v := 1) hx hb dL_law_986 (by decide) ?_
      refine va_forget (fun q hq => hA2 _ (hS.2.2 q hq)) ?_
      refine W.widen (k := 600000) (n := 7302250) (Nat.le_of_ble_eq_true rfl) (Nat.le_of_ble_eq_true rfl) ?_
      exact hEnd _ _
    · skip
      have hi4 : ii + 4 ≤ L := by omega
      refine lv_aload_n hx hb dL_law_26 rfl (lv_at hl 0 rfl) ?_
      refine lv_iload_n hx hb dL_law_27 rfl (lv_at hl 3 rfl) ?_
      refine z_sld (i := ii) hx hb hX hbl hbA hS (by omega) hL dL_law_28 ?_
      refine lv_bipush (v := nI 31) hx hb dL_law_29 (by decide) ?_
      obtain ⟨w, ew⟩ : ∃ w : Int32, w = iI (xz xs ii) &&& nI 31 := ⟨_, rfl⟩
      refine z_iand (v := w) hx hb dL_law_31 ew.symm ?_
      rcases (show (w.toInt < 0 ∨ 26 < w.toInt) ∨ w.toInt = 0 ∨ w.toInt = 1 ∨ w.toInt = 2 ∨ w.toInt = 3 ∨ w.toInt = 4 ∨ w.toInt = 5 ∨ w.toInt = 6 ∨ w.toInt = 7 ∨ w.toInt = 8 ∨ w.toInt = 9 ∨ w.toInt = 10 ∨ w.toInt = 11 ∨ w.toInt = 12 ∨ w.toInt = 13 ∨ w.toInt = 14 ∨ w.toInt = 15 ∨ w.toInt = 16 ∨ w.toInt = 17 ∨ w.toInt = 18 ∨ w.toInt = 19 ∨ w.toInt = 20 ∨ w.toInt = 21 ∨ w.toInt = 22 ∨ w.toInt = 23 ∨ w.toInt = 24 ∨ w.toInt = 25 ∨ w.toInt = 26 from by omega) with ck | ck | ck | ck | ck | ck | ck | ck | ck | ck | ck | ck | ck | ck | ck | ck | ck | ck | ck | ck | ck | ck | ck | ck | ck | ck | ck | ck
      · skip
        refine lv_tableOut (tgt := 980) hx hb dL_law_32 ck (by decide) ?_
        refine lv_iinc (v := (nI (ii + 4))) (lv' := [(3, .int (nI (ii + 4))), (0, .ref b), (1, .ref g0), (2, .ref m0)]) hx hb dL_law_980 hl (k := 3) rfl (z_incN ii 4 (by decide)) (by decide) rfl (fun ls hl => ?_)
        refine lv_goto (tgt := 18) hx hb dL_law_983 (by decide) ?_
        have o_i0 : (ii + 4) ≤ L := by first | assumption | omega
        have o_bN : N ≤ 8 := by first | assumption | omega
        have o_bK : K ≤ 16 := by first | assumption | omega
        have o_bT : ∀ i, T i ≤ 20 := by first | assumption | omega
        have o_bF : ∀ a, F a < 8 := by first | assumption | omega
        have o_bG : ∀ a, G a < 8 := by first | assumption | omega
        have o_bFN : ∀ a, a < K → F a < N ∧ G a < N := by first | assumption | omega
        have o_bC : ∀ a, C a ≤ 9 := by first | assumption | omega
        have o_bNC : ∀ a, NC a ≤ 9 := by first | assumption | omega
        have o_bBR : ∀ i, BR i ≤ 4 := by first | assumption | omega
        have o_bRP : ∀ i, RP i ≤ 4 := by first | assumption | omega
        have o_brm : rm ≤ 6 := by first | assumption | omega
        have o_bDM : ∀ k, DM k ≤ 20 := by first | assumption | omega
        have o_bns : ns ≤ 1 := by first | assumption | omega
        have o_bT1 : ∀ j, j < N → 1 ≤ T j := by first | assumption | omega
        have o_hh : sp_hold (sp_all N K F G) mn RW LE := by first | assumption | omega
        have o_bRW : ∀ i, RW i < 16 := by first | assumption | omega
        have o_bLE : ∀ i, LE i ≤ 8 := by first | assumption | omega
        have o_bPA : ∀ i, PA i < 16 := by first | assumption | omega
        have o_bOR : ∀ i, OR i < 16 := by first | assumption | omega
        have o_hro : sp_rowok DM KD ln fa tn := by first | assumption | omega
        have o_bLA : ∀ i, LA i < 16 := by first | assumption | omega
        have o_bLL : ∀ i, LL i ≤ 8 := by first | assumption | omega
        have o_bPT : ∀ i, PT i < 16 := by first | assumption | omega
        have o_hnt : ns = 1 → nd = (sp_all N K F G).length ∧ ∀ q, q < nd → NT q = sp_cdL NC (sp_all N K F G) q := by first | assumption | omega
        have o_mu : (L - (ii + 4)) < n18 := by omega
        exact ih18 N K ns rm mn od ab ua ub ln fa tn lo nd pls (ii + 4) T F G C BR RP DM RW LE PA NC OR CW WA XB CM KD LA LL PT NT WT NX CN RO BE BG o_mu o_i0 o_bN o_bK o_bT o_bF o_bG o_bFN o_bC o_bNC o_bBR o_bRP o_brm o_bDM o_bns o_bT1 o_hh o_bRW o_bLE o_bPA o_bOR o_hro o_bLA o_bLL o_bPT o_hnt H locs hP hD hS ls (lv_sub hl [1, 2, 3, 0] rfl)
      · skip
        refine lv_tableIn (tgt := 156) hx hb dL_law_32 (by rw [ck]; decide) (by rw [ck]; decide) (by rw [ck]; rfl) (by decide) ?_
        exact law_c0 hx hb hml hown hts hA hbA hbl hX hL hK hN ih18 N K ns rm mn od ab ua ub ln fa tn lo nd pls ii T F G C BR RP DM RW LE PA NC OR CW WA XB CM KD LA LL PT NT WT NX CN RO BE BG hn18 hi4 i0 bN bK bT bF bG bFN bC bNC bBR bRP brm bDM bns bT1 hh bRW bLE bPA bOR hro bLA bLL bPT hnt H locs hP hD hS ls hl
      · skip
        refine lv_tableIn (tgt := 179) hx hb dL_law_32 (by rw [ck]; decide) (by rw [ck]; decide) (by rw [ck]; rfl) (by decide) ?_
        exact law_c1 hx hb hml hown hts hA hbA hbl hX hL hK hN ih18 N K ns rm mn od ab ua ub ln fa tn lo nd pls ii T F G C BR RP DM RW LE PA NC OR CW WA XB CM KD LA LL PT NT WT NX CN RO BE BG hn18 hi4 i0 bN bK bT bF bG bFN bC bNC bBR bRP brm bDM bns bT1 hh bRW bLE bPA bOR hro bLA bLL bPT hnt H locs hP hD hS ls hl
      · skip
        refine lv_tableIn (tgt := 222) hx hb dL_law_32 (by rw [ck]; decide) (by rw [ck]; decide) (by rw [ck]; rfl) (by decide) ?_
        exact law_c2 hx hb hml hown hts hA hbA hbl hX hL hK hN ih18 N K ns rm mn od ab ua ub ln fa tn lo nd pls ii T F G C BR RP DM RW LE PA NC OR CW WA XB CM KD LA LL PT NT WT NX CN RO BE BG hn18 hi4 i0 bN bK bT bF bG bFN bC bNC bBR bRP brm bDM bns bT1 hh bRW bLE bPA bOR hro bLA bLL bPT hnt H locs hP hD hS ls hl
      · skip
        refine lv_tableIn (tgt := 255) hx hb dL_law_32 (by rw [ck]; decide) (by rw [ck]; decide) (by rw [ck]; rfl) (by decide) ?_
        exact law_c3 hx hb hml hown hts hA hbA hbl hX hL hK hN ih18 N K ns rm mn od ab ua ub ln fa tn lo nd pls ii T F G C BR RP DM RW LE PA NC OR CW WA XB CM KD LA LL PT NT WT NX CN RO BE BG hn18 hi4 i0 bN bK bT bF bG bFN bC bNC bBR bRP brm bDM bns bT1 hh bRW bLE bPA bOR hro bLA bLL bPT hnt H locs hP hD hS ls hl
      · skip
        refine lv_tableIn (tgt := 288) hx hb dL_law_32 (by rw [ck]; decide) (by rw [ck]; decide) (by rw [ck]; rfl) (by decide) ?_
        exact law_c4 hx hb hml hown hts hA hbA hbl hX hL hK hN ih18 N K ns rm mn od ab ua ub ln fa tn lo nd pls ii T F G C BR RP DM RW LE PA NC OR CW WA XB CM KD LA LL PT NT WT NX CN RO BE BG hn18 hi4 i0 bN bK bT bF bG bFN bC bNC bBR bRP brm bDM bns bT1 hh bRW bLE bPA bOR hro bLA bLL bPT hnt H locs hP hD hS ls hl
      · skip
        refine lv_tableIn (tgt := 321) hx hb dL_law_32 (by rw [ck]; decide) (by rw [ck]; decide) (by rw [ck]; rfl) (by decide) ?_
        exact law_c5 hx hb hml hown hts hA hbA hbl hX hL hK hN ih18 N K ns rm mn od ab ua ub ln fa tn lo nd pls ii T F G C BR RP DM RW LE PA NC OR CW WA XB CM KD LA LL PT NT WT NX CN RO BE BG hn18 hi4 i0 bN bK bT bF bG bFN bC bNC bBR bRP brm bDM bns bT1 hh bRW bLE bPA bOR hro bLA bLL bPT hnt H locs hP hD hS ls hl
      · skip
        refine lv_tableIn (tgt := 344) hx hb dL_law_32 (by rw [ck]; decide) (by rw [ck]; decide) (by rw [ck]; rfl) (by decide) ?_
        exact law_c6 hx hb hml hown hts hA hbA hbl hX hL hK hN ih18 N K ns rm mn od ab ua ub ln fa tn lo nd pls ii T F G C BR RP DM RW LE PA NC OR CW WA XB CM KD LA LL PT NT WT NX CN RO BE BG hn18 hi4 i0 bN bK bT bF bG bFN bC bNC bBR bRP brm bDM bns bT1 hh bRW bLE bPA bOR hro bLA bLL bPT hnt H locs hP hD hS ls hl
      · skip
        refine lv_tableIn (tgt := 367) hx hb dL_law_32 (by rw [ck]; decide) (by rw [ck]; decide) (by rw [ck]; rfl) (by decide) ?_
        exact law_c7 hx hb hml hown hts hA hbA hbl hX hL hK hN ih18 N K ns rm mn od ab ua ub ln fa tn lo nd pls ii T F G C BR RP DM RW LE PA NC OR CW WA XB CM KD LA LL PT NT WT NX CN RO BE BG hn18 hi4 i0 bN bK bT bF bG bFN bC bNC bBR bRP brm bDM bns bT1 hh bRW bLE bPA bOR hro bLA bLL bPT hnt H locs hP hD hS ls hl
      · skip
        refine lv_tableIn (tgt := 380) hx hb dL_law_32 (by rw [ck]; decide) (by rw [ck]; decide) (by rw [ck]; rfl) (by decide) ?_
        exact law_c8 hx hb hml hown hts hA hbA hbl hX hL hK hN ih18 N K ns rm mn od ab ua ub ln fa tn lo nd pls ii T F G C BR RP DM RW LE PA NC OR CW WA XB CM KD LA LL PT NT WT NX CN RO BE BG hn18 hi4 i0 bN bK bT bF bG bFN bC bNC bBR bRP brm bDM bns bT1 hh bRW bLE bPA bOR hro bLA bLL bPT hnt H locs hP hD hS ls hl
      · skip
        refine lv_tableIn (tgt := 393) hx hb dL_law_32 (by rw [ck]; decide) (by rw [ck]; decide) (by rw [ck]; rfl) (by decide) ?_
        exact law_c9 hx hb hml hown hts hA hbA hbl hX hL hK hN ih18 N K ns rm mn od ab ua ub ln fa tn lo nd pls ii T F G C BR RP DM RW LE PA NC OR CW WA XB CM KD LA LL PT NT WT NX CN RO BE BG hn18 hi4 i0 bN bK bT bF bG bFN bC bNC bBR bRP brm bDM bns bT1 hh bRW bLE bPA bOR hro bLA bLL bPT hnt H locs hP hD hS ls hl
      · skip
        refine lv_tableIn (tgt := 426) hx hb dL_law_32 (by rw [ck]; decide) (by rw [ck]; decide) (by rw [ck]; rfl) (by decide) ?_
        exact law_c10 hx hb hml hown hts hA hbA hbl hX hL hK hN ih18 N K ns rm mn od ab ua ub ln fa tn lo nd pls ii T F G C BR RP DM RW LE PA NC OR CW WA XB CM KD LA LL PT NT WT NX CN RO BE BG hn18 hi4 i0 bN bK bT bF bG bFN bC bNC bBR bRP brm bDM bns bT1 hh bRW bLE bPA bOR hro bLA bLL bPT hnt H locs hP hD hS ls hl
      · skip
        refine lv_tableIn (tgt := 475) hx hb dL_law_32 (by rw [ck]; decide) (by rw [ck]; decide) (by rw [ck]; rfl) (by decide) ?_
        exact law_c11 hx hb hml hown hts hA hbA hbl hX hL hK hN ih18 N K ns rm mn od ab ua ub ln fa tn lo nd pls ii T F G C BR RP DM RW LE PA NC OR CW WA XB CM KD LA LL PT NT WT NX CN RO BE BG hn18 hi4 i0 bN bK bT bF bG bFN bC bNC bBR bRP brm bDM bns bT1 hh bRW bLE bPA bOR hro bLA bLL bPT hnt H locs hP hD hS ls hl
      · skip
        refine lv_tableIn (tgt := 515) hx hb dL_law_32 (by rw [ck]; decide) (by rw [ck]; decide) (by rw [ck]; rfl) (by decide) ?_
        exact law_c12 hx hb hml hown hts hA hbA hbl hX hL hK hN ih18 N K ns rm mn od ab ua ub ln fa tn lo nd pls ii T F G C BR RP DM RW LE PA NC OR CW WA XB CM KD LA LL PT NT WT NX CN RO BE BG hn18 hi4 i0 bN bK bT bF bG bFN bC bNC bBR bRP brm bDM bns bT1 hh bRW bLE bPA bOR hro bLA bLL bPT hnt H locs hP hD hS ls hl
      · skip
        refine lv_tableIn (tgt := 528) hx hb dL_law_32 (by rw [ck]; decide) (by rw [ck]; decide) (by rw [ck]; rfl) (by decide) ?_
        exact law_c13 hx hb hml hown hts hA hbA hbl hX hL hK hN ih18 N K ns rm mn od ab ua ub ln fa tn lo nd pls ii T F G C BR RP DM RW LE PA NC OR CW WA XB CM KD LA LL PT NT WT NX CN RO BE BG hn18 hi4 i0 bN bK bT bF bG bFN bC bNC bBR bRP brm bDM bns bT1 hh bRW bLE bPA bOR hro bLA bLL bPT hnt H locs hP hD hS ls hl
      · skip
        refine lv_tableIn (tgt := 561) hx hb dL_law_32 (by rw [ck]; decide) (by rw [ck]; decide) (by rw [ck]; rfl) (by decide) ?_
        exact law_c14 hx hb hml hown hts hA hbA hbl hX hL hK hN ih18 N K ns rm mn od ab ua ub ln fa tn lo nd pls ii T F G C BR RP DM RW LE PA NC OR CW WA XB CM KD LA LL PT NT WT NX CN RO BE BG hn18 hi4 i0 bN bK bT bF bG bFN bC bNC bBR bRP brm bDM bns bT1 hh bRW bLE bPA bOR hro bLA bLL bPT hnt H locs hP hD hS ls hl
      · skip
        refine lv_tableIn (tgt := 574) hx hb dL_law_32 (by rw [ck]; decide) (by rw [ck]; decide) (by rw [ck]; rfl) (by decide) ?_
        exact law_c15 hx hb hml hown hts hA hbA hbl hX hL hK hN ih18 N K ns rm mn od ab ua ub ln fa tn lo nd pls ii T F G C BR RP DM RW LE PA NC OR CW WA XB CM KD LA LL PT NT WT NX CN RO BE BG hn18 hi4 i0 bN bK bT bF bG bFN bC bNC bBR bRP brm bDM bns bT1 hh bRW bLE bPA bOR hro bLA bLL bPT hnt H locs hP hD hS ls hl
      · skip
        refine lv_tableIn (tgt := 613) hx hb dL_law_32 (by rw [ck]; decide) (by rw [ck]; decide) (by rw [ck]; rfl) (by decide) ?_
        exact law_c16 hx hb hml hown hts hA hbA hbl hX hL hK hN ih18 N K ns rm mn od ab ua ub ln fa tn lo nd pls ii T F G C BR RP DM RW LE PA NC OR CW WA XB CM KD LA LL PT NT WT NX CN RO BE BG hn18 hi4 i0 bN bK bT bF bG bFN bC bNC bBR bRP brm bDM bns bT1 hh bRW bLE bPA bOR hro bLA bLL bPT hnt H locs hP hD hS ls hl
      · skip
        refine lv_tableIn (tgt := 656) hx hb dL_law_32 (by rw [ck]; decide) (by rw [ck]; decide) (by rw [ck]; rfl) (by decide) ?_
        exact law_c17 hx hb hml hown hts hA hbA hbl hX hL hK hN ih18 N K ns rm mn od ab ua ub ln fa tn lo nd pls ii T F G C BR RP DM RW LE PA NC OR CW WA XB CM KD LA LL PT NT WT NX CN RO BE BG hn18 hi4 i0 bN bK bT bF bG bFN bC bNC bBR bRP brm bDM bns bT1 hh bRW bLE bPA bOR hro bLA bLL bPT hnt H locs hP hD hS ls hl
      · skip
        refine lv_tableIn (tgt := 699) hx hb dL_law_32 (by rw [ck]; decide) (by rw [ck]; decide) (by rw [ck]; rfl) (by decide) ?_
        exact law_c18 hx hb hml hown hts hA hbA hbl hX hL hK hN ih18 N K ns rm mn od ab ua ub ln fa tn lo nd pls ii T F G C BR RP DM RW LE PA NC OR CW WA XB CM KD LA LL PT NT WT NX CN RO BE BG hn18 hi4 i0 bN bK bT bF bG bFN bC bNC bBR bRP brm bDM bns bT1 hh bRW bLE bPA bOR hro bLA bLL bPT hnt H locs hP hD hS ls hl
      · skip
        refine lv_tableIn (tgt := 722) hx hb dL_law_32 (by rw [ck]; decide) (by rw [ck]; decide) (by rw [ck]; rfl) (by decide) ?_
        exact law_c19 hx hb hml hown hts hA hbA hbl hX hL hK hN ih18 N K ns rm mn od ab ua ub ln fa tn lo nd pls ii T F G C BR RP DM RW LE PA NC OR CW WA XB CM KD LA LL PT NT WT NX CN RO BE BG hn18 hi4 i0 bN bK bT bF bG bFN bC bNC bBR bRP brm bDM bns bT1 hh bRW bLE bPA bOR hro bLA bLL bPT hnt H locs hP hD hS ls hl
      · skip
        refine lv_tableIn (tgt := 772) hx hb dL_law_32 (by rw [ck]; decide) (by rw [ck]; decide) (by rw [ck]; rfl) (by decide) ?_
        exact law_c20 hx hb hml hown hts hA hbA hbl hX hL hK hN ih18 N K ns rm mn od ab ua ub ln fa tn lo nd pls ii T F G C BR RP DM RW LE PA NC OR CW WA XB CM KD LA LL PT NT WT NX CN RO BE BG hn18 hi4 i0 bN bK bT bF bG bFN bC bNC bBR bRP brm bDM bns bT1 hh bRW bLE bPA bOR hro bLA bLL bPT hnt H locs hP hD hS ls hl
      · skip
        refine lv_tableIn (tgt := 832) hx hb dL_law_32 (by rw [ck]; decide) (by rw [ck]; decide) (by rw [ck]; rfl) (by decide) ?_
        exact law_c21 hx hb hml hown hts hA hbA hbl hX hL hK hN ih18 N K ns rm mn od ab ua ub ln fa tn lo nd pls ii T F G C BR RP DM RW LE PA NC OR CW WA XB CM KD LA LL PT NT WT NX CN RO BE BG hn18 hi4 i0 bN bK bT bF bG bFN bC bNC bBR bRP brm bDM bns bT1 hh bRW bLE bPA bOR hro bLA bLL bPT hnt H locs hP hD hS ls hl
      · skip
        refine lv_tableIn (tgt := 875) hx hb dL_law_32 (by rw [ck]; decide) (by rw [ck]; decide) (by rw [ck]; rfl) (by decide) ?_
        exact law_c22 hx hb hml hown hts hA hbA hbl hX hL hK hN ih18 N K ns rm mn od ab ua ub ln fa tn lo nd pls ii T F G C BR RP DM RW LE PA NC OR CW WA XB CM KD LA LL PT NT WT NX CN RO BE BG hn18 hi4 i0 bN bK bT bF bG bFN bC bNC bBR bRP brm bDM bns bT1 hh bRW bLE bPA bOR hro bLA bLL bPT hnt H locs hP hD hS ls hl
      · skip
        refine lv_tableIn (tgt := 908) hx hb dL_law_32 (by rw [ck]; decide) (by rw [ck]; decide) (by rw [ck]; rfl) (by decide) ?_
        exact law_c23 hx hb hml hown hts hA hbA hbl hX hL hK hN ih18 N K ns rm mn od ab ua ub ln fa tn lo nd pls ii T F G C BR RP DM RW LE PA NC OR CW WA XB CM KD LA LL PT NT WT NX CN RO BE BG hn18 hi4 i0 bN bK bT bF bG bFN bC bNC bBR bRP brm bDM bns bT1 hh bRW bLE bPA bOR hro bLA bLL bPT hnt H locs hP hD hS ls hl
      · skip
        refine lv_tableIn (tgt := 931) hx hb dL_law_32 (by rw [ck]; decide) (by rw [ck]; decide) (by rw [ck]; rfl) (by decide) ?_
        exact law_c24 hx hb hml hown hts hA hbA hbl hX hL hK hN ih18 N K ns rm mn od ab ua ub ln fa tn lo nd pls ii T F G C BR RP DM RW LE PA NC OR CW WA XB CM KD LA LL PT NT WT NX CN RO BE BG hn18 hi4 i0 bN bK bT bF bG bFN bC bNC bBR bRP brm bDM bns bT1 hh bRW bLE bPA bOR hro bLA bLL bPT hnt H locs hP hD hS ls hl
      · skip
        refine lv_tableIn (tgt := 944) hx hb dL_law_32 (by rw [ck]; decide) (by rw [ck]; decide) (by rw [ck]; rfl) (by decide) ?_
        exact law_c25 hx hb hml hown hts hA hbA hbl hX hL hK hN ih18 N K ns rm mn od ab ua ub ln fa tn lo nd pls ii T F G C BR RP DM RW LE PA NC OR CW WA XB CM KD LA LL PT NT WT NX CN RO BE BG hn18 hi4 i0 bN bK bT bF bG bFN bC bNC bBR bRP brm bDM bns bT1 hh bRW bLE bPA bOR hro bLA bLL bPT hnt H locs hP hD hS ls hl
      · skip
        refine lv_tableIn (tgt := 957) hx hb dL_law_32 (by rw [ck]; decide) (by rw [ck]; decide) (by rw [ck]; rfl) (by decide) ?_
        exact law_c26 hx hb hml hown hts hA hbA hbl hX hL hK hN ih18 N K ns rm mn od ab ua ub ln fa tn lo nd pls ii T F G C BR RP DM RW LE PA NC OR CW WA XB CM KD LA LL PT NT WT NX CN RO BE BG hn18 hi4 i0 bN bK bT bF bG bFN bC bNC bBR bRP brm bDM bns bT1 hh bRW bLE bPA bOR hro bLA bLL bPT hnt H locs hP hD hS ls hl
