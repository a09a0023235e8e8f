-- ===== PART A: goes FIRST, ahead of the names: the tables' words, and 'selects' of the private methods out of them =====
/-- a private method of a class that the tables say can be made, by its rows of tables_1 -/
def lw_okq (q : MethodName × Nat) : Prop := (q.1.cls ≠ "java/lang/invoke/MethodHandle" ∧ q.1.cls ≠ "java/lang/invoke/VarHandle") ∧ Cond.instantiable q.1.cls q.2 ∈ tables_1 ∧ Cond.privateMethod q.1 ∈ tables_1 ∧ Cond.instanceMethod q.1 ∈ tables_1
theorem lw_p0 : lw_okq (⟨"PullCards$Loops", "keepPath", "(I)V"⟩, 7) := ⟨⟨by decide +kernel, by decide +kernel⟩, List.mem_of_getElem? (i := 64) (by decide +kernel), List.mem_of_getElem? (i := 226) (by decide +kernel), List.mem_of_getElem? (i := 227) (by decide +kernel)⟩
theorem lw_p1 : lw_okq (⟨"PullCards$Works", "orderArcs", "()V"⟩, 5) := ⟨⟨by decide +kernel, by decide +kernel⟩, List.mem_of_getElem? (i := 94) (by decide +kernel), List.mem_of_getElem? (i := 336) (by decide +kernel), List.mem_of_getElem? (i := 337) (by decide +kernel)⟩
theorem lw_p2 : lw_okq (⟨"PullCards$Works", "waits", "(I)Z"⟩, 5) := ⟨⟨by decide +kernel, by decide +kernel⟩, List.mem_of_getElem? (i := 94) (by decide +kernel), List.mem_of_getElem? (i := 340) (by decide +kernel), List.mem_of_getElem? (i := 341) (by decide +kernel)⟩
theorem lw_p3 : lw_okq (⟨"PullCards$Works", "orderArcsTo", "(I)V"⟩, 5) := ⟨⟨by decide +kernel, by decide +kernel⟩, List.mem_of_getElem? (i := 94) (by decide +kernel), List.mem_of_getElem? (i := 344) (by decide +kernel), List.mem_of_getElem? (i := 345) (by decide +kernel)⟩
theorem lw_p4 : lw_okq (⟨"PullCards$Works", "beginAll", "(I)V"⟩, 5) := ⟨⟨by decide +kernel, by decide +kernel⟩, List.mem_of_getElem? (i := 94) (by decide +kernel), List.mem_of_getElem? (i := 348) (by decide +kernel), List.mem_of_getElem? (i := 349) (by decide +kernel)⟩
theorem lw_p5 : lw_okq (⟨"PullCards$Works", "doneAt", "(II)I"⟩, 5) := ⟨⟨by decide +kernel, by decide +kernel⟩, List.mem_of_getElem? (i := 94) (by decide +kernel), List.mem_of_getElem? (i := 352) (by decide +kernel), List.mem_of_getElem? (i := 353) (by decide +kernel)⟩
theorem lw_p6 : lw_okq (⟨"PullCards$Loops", "passes", "(II)Z"⟩, 7) := ⟨⟨by decide +kernel, by decide +kernel⟩, List.mem_of_getElem? (i := 64) (by decide +kernel), List.mem_of_getElem? (i := 389) (by decide +kernel), List.mem_of_getElem? (i := 390) (by decide +kernel)⟩
theorem lw_p7 : lw_okq (⟨"PullCards$Pair", "start", "()V"⟩, 6) := ⟨⟨by decide +kernel, by decide +kernel⟩, List.mem_of_getElem? (i := 116) (by decide +kernel), List.mem_of_getElem? (i := 411) (by decide +kernel), List.mem_of_getElem? (i := 412) (by decide +kernel)⟩
theorem lw_p8 : lw_okq (⟨"PullCards$Pair", "quartersOf", "(IZZ)I"⟩, 6) := ⟨⟨by decide +kernel, by decide +kernel⟩, List.mem_of_getElem? (i := 116) (by decide +kernel), List.mem_of_getElem? (i := 415) (by decide +kernel), List.mem_of_getElem? (i := 416) (by decide +kernel)⟩
theorem lw_p9 : lw_okq (⟨"PullCards$Pair", "runTick", "(IIZ)J"⟩, 6) := ⟨⟨by decide +kernel, by decide +kernel⟩, List.mem_of_getElem? (i := 116) (by decide +kernel), List.mem_of_getElem? (i := 426) (by decide +kernel), List.mem_of_getElem? (i := 427) (by decide +kernel)⟩
theorem lw_p10 : lw_okq (⟨"PullCards$Pair", "spread", "(IIIIIZ)J"⟩, 6) := ⟨⟨by decide +kernel, by decide +kernel⟩, List.mem_of_getElem? (i := 116) (by decide +kernel), List.mem_of_getElem? (i := 430) (by decide +kernel), List.mem_of_getElem? (i := 431) (by decide +kernel)⟩
theorem lw_p11 : lw_okq (⟨"PullCards$Row", "nextKind", "(I)I"⟩, 6) := ⟨⟨by decide +kernel, by decide +kernel⟩, List.mem_of_getElem? (i := 145) (by decide +kernel), List.mem_of_getElem? (i := 467) (by decide +kernel), List.mem_of_getElem? (i := 468) (by decide +kernel)⟩
theorem lw_p12 : lw_okq (⟨"PullCards$Row", "farthestAfter", "(I)I"⟩, 6) := ⟨⟨by decide +kernel, by decide +kernel⟩, List.mem_of_getElem? (i := 145) (by decide +kernel), List.mem_of_getElem? (i := 471) (by decide +kernel), List.mem_of_getElem? (i := 472) (by decide +kernel)⟩
theorem lw_p13 : lw_okq (⟨"PullCardsModel", "isStation", "(I)Z"⟩, 23) := ⟨⟨by decide +kernel, by decide +kernel⟩, List.mem_of_getElem? (i := 499) (by decide +kernel), List.mem_of_getElem? (i := 587) (by decide +kernel), List.mem_of_getElem? (i := 588) (by decide +kernel)⟩
theorem lw_p14 : lw_okq (⟨"PullCardsModel", "isArc", "(I)Z"⟩, 23) := ⟨⟨by decide +kernel, by decide +kernel⟩, List.mem_of_getElem? (i := 499) (by decide +kernel), List.mem_of_getElem? (i := 600) (by decide +kernel), List.mem_of_getElem? (i := 601) (by decide +kernel)⟩
theorem lw_p15 : lw_okq (⟨"PullCardsModel", "isReady", "(I)Z"⟩, 23) := ⟨⟨by decide +kernel, by decide +kernel⟩, List.mem_of_getElem? (i := 499) (by decide +kernel), List.mem_of_getElem? (i := 612) (by decide +kernel), List.mem_of_getElem? (i := 613) (by decide +kernel)⟩
def lw_privs_1 : List (MethodName × Nat) := [(⟨"PullCards$Loops", "keepPath", "(I)V"⟩, 7), (⟨"PullCards$Works", "orderArcs", "()V"⟩, 5), (⟨"PullCards$Works", "waits", "(I)Z"⟩, 5), (⟨"PullCards$Works", "orderArcsTo", "(I)V"⟩, 5), (⟨"PullCards$Works", "beginAll", "(I)V"⟩, 5), (⟨"PullCards$Works", "doneAt", "(II)I"⟩, 5), (⟨"PullCards$Loops", "passes", "(II)Z"⟩, 7), (⟨"PullCards$Pair", "start", "()V"⟩, 6), (⟨"PullCards$Pair", "quartersOf", "(IZZ)I"⟩, 6), (⟨"PullCards$Pair", "runTick", "(IIZ)J"⟩, 6), (⟨"PullCards$Pair", "spread", "(IIIIIZ)J"⟩, 6), (⟨"PullCards$Row", "nextKind", "(I)I"⟩, 6), (⟨"PullCards$Row", "farthestAfter", "(I)I"⟩, 6), (⟨"PullCardsModel", "isStation", "(I)Z"⟩, 23), (⟨"PullCardsModel", "isArc", "(I)Z"⟩, 23), (⟨"PullCardsModel", "isReady", "(I)Z"⟩, 23)]
theorem lw_r1 : ∀ q ∈ lw_privs_1, lw_okq q := List.forall_mem_cons.mpr ⟨lw_p0, List.forall_mem_cons.mpr ⟨lw_p1, List.forall_mem_cons.mpr ⟨lw_p2, List.forall_mem_cons.mpr ⟨lw_p3, List.forall_mem_cons.mpr ⟨lw_p4, List.forall_mem_cons.mpr ⟨lw_p5, List.forall_mem_cons.mpr ⟨lw_p6, List.forall_mem_cons.mpr ⟨lw_p7, List.forall_mem_cons.mpr ⟨lw_p8, List.forall_mem_cons.mpr ⟨lw_p9, List.forall_mem_cons.mpr ⟨lw_p10, List.forall_mem_cons.mpr ⟨lw_p11, List.forall_mem_cons.mpr ⟨lw_p12, List.forall_mem_cons.mpr ⟨lw_p13, List.forall_mem_cons.mpr ⟨lw_p14, List.forall_mem_cons.mpr ⟨lw_p15, fun _ h => absurd h List.not_mem_nil⟩⟩⟩⟩⟩⟩⟩⟩⟩⟩⟩⟩⟩⟩⟩⟩
theorem lw_p16 : lw_okq (⟨"PullCardsModel", "hasRoom", "(I)Z"⟩, 23) := ⟨⟨by decide +kernel, by decide +kernel⟩, List.mem_of_getElem? (i := 499) (by decide +kernel), List.mem_of_getElem? (i := 620) (by decide +kernel), List.mem_of_getElem? (i := 621) (by decide +kernel)⟩
theorem lw_p17 : lw_okq (⟨"PullCardsModel", "fires", "(I)V"⟩, 23) := ⟨⟨by decide +kernel, by decide +kernel⟩, List.mem_of_getElem? (i := 499) (by decide +kernel), List.mem_of_getElem? (i := 624) (by decide +kernel), List.mem_of_getElem? (i := 625) (by decide +kernel)⟩
theorem lw_p18 : lw_okq (⟨"PullCardsModel", "readyMany", "()I"⟩, 23) := ⟨⟨by decide +kernel, by decide +kernel⟩, List.mem_of_getElem? (i := 499) (by decide +kernel), List.mem_of_getElem? (i := 628) (by decide +kernel), List.mem_of_getElem? (i := 629) (by decide +kernel)⟩
theorem lw_p19 : lw_okq (⟨"PullCardsModel", "find", "()V"⟩, 23) := ⟨⟨by decide +kernel, by decide +kernel⟩, List.mem_of_getElem? (i := 499) (by decide +kernel), List.mem_of_getElem? (i := 640) (by decide +kernel), List.mem_of_getElem? (i := 641) (by decide +kernel)⟩
theorem lw_p20 : lw_okq (⟨"PullCardsModel", "mayGo", "(IIII)Z"⟩, 23) := ⟨⟨by decide +kernel, by decide +kernel⟩, List.mem_of_getElem? (i := 499) (by decide +kernel), List.mem_of_getElem? (i := 644) (by decide +kernel), List.mem_of_getElem? (i := 645) (by decide +kernel)⟩
theorem lw_p21 : lw_okq (⟨"PullCardsModel", "keep", "(I)V"⟩, 23) := ⟨⟨by decide +kernel, by decide +kernel⟩, List.mem_of_getElem? (i := 499) (by decide +kernel), List.mem_of_getElem? (i := 648) (by decide +kernel), List.mem_of_getElem? (i := 649) (by decide +kernel)⟩
theorem lw_p22 : lw_okq (⟨"PullCardsModel", "cardsOf", "(I)I"⟩, 23) := ⟨⟨by decide +kernel, by decide +kernel⟩, List.mem_of_getElem? (i := 499) (by decide +kernel), List.mem_of_getElem? (i := 660) (by decide +kernel), List.mem_of_getElem? (i := 661) (by decide +kernel)⟩
theorem lw_p23 : lw_okq (⟨"PullCardsModel", "timeOf", "(I)I"⟩, 23) := ⟨⟨by decide +kernel, by decide +kernel⟩, List.mem_of_getElem? (i := 499) (by decide +kernel), List.mem_of_getElem? (i := 664) (by decide +kernel), List.mem_of_getElem? (i := 665) (by decide +kernel)⟩
theorem lw_p24 : lw_okq (⟨"PullCardsModel", "slow", "()I"⟩, 23) := ⟨⟨by decide +kernel, by decide +kernel⟩, List.mem_of_getElem? (i := 499) (by decide +kernel), List.mem_of_getElem? (i := 672) (by decide +kernel), List.mem_of_getElem? (i := 673) (by decide +kernel)⟩
theorem lw_p25 : lw_okq (⟨"PullCardsModel", "beginOf", "(II)I"⟩, 23) := ⟨⟨by decide +kernel, by decide +kernel⟩, List.mem_of_getElem? (i := 499) (by decide +kernel), List.mem_of_getElem? (i := 692) (by decide +kernel), List.mem_of_getElem? (i := 693) (by decide +kernel)⟩
theorem lw_p26 : lw_okq (⟨"PullCardsModel", "isFast", "(II)Z"⟩, 23) := ⟨⟨by decide +kernel, by decide +kernel⟩, List.mem_of_getElem? (i := 499) (by decide +kernel), List.mem_of_getElem? (i := 709) (by decide +kernel), List.mem_of_getElem? (i := 710) (by decide +kernel)⟩
theorem lw_p27 : lw_okq (⟨"PullCardsModel", "go", "(II)V"⟩, 23) := ⟨⟨by decide +kernel, by decide +kernel⟩, List.mem_of_getElem? (i := 499) (by decide +kernel), List.mem_of_getElem? (i := 732) (by decide +kernel), List.mem_of_getElem? (i := 733) (by decide +kernel)⟩
theorem lw_p28 : lw_okq (⟨"PullCardsModel", "move", "(III)V"⟩, 23) := ⟨⟨by decide +kernel, by decide +kernel⟩, List.mem_of_getElem? (i := 499) (by decide +kernel), List.mem_of_getElem? (i := 736) (by decide +kernel), List.mem_of_getElem? (i := 737) (by decide +kernel)⟩
theorem lw_p29 : lw_okq (⟨"PullCardsModel", "upChance", "(IZ)I"⟩, 23) := ⟨⟨by decide +kernel, by decide +kernel⟩, List.mem_of_getElem? (i := 499) (by decide +kernel), List.mem_of_getElem? (i := 740) (by decide +kernel), List.mem_of_getElem? (i := 741) (by decide +kernel)⟩
theorem lw_p30 : lw_okq (⟨"PullCardsModel", "mean", "()J"⟩, 23) := ⟨⟨by decide +kernel, by decide +kernel⟩, List.mem_of_getElem? (i := 499) (by decide +kernel), List.mem_of_getElem? (i := 744) (by decide +kernel), List.mem_of_getElem? (i := 745) (by decide +kernel)⟩
theorem lw_p31 : lw_okq (⟨"PullCardsModel", "lay", "()I"⟩, 23) := ⟨⟨by decide +kernel, by decide +kernel⟩, List.mem_of_getElem? (i := 499) (by decide +kernel), List.mem_of_getElem? (i := 765) (by decide +kernel), List.mem_of_getElem? (i := 766) (by decide +kernel)⟩
def lw_privs_2 : List (MethodName × Nat) := [(⟨"PullCardsModel", "hasRoom", "(I)Z"⟩, 23), (⟨"PullCardsModel", "fires", "(I)V"⟩, 23), (⟨"PullCardsModel", "readyMany", "()I"⟩, 23), (⟨"PullCardsModel", "find", "()V"⟩, 23), (⟨"PullCardsModel", "mayGo", "(IIII)Z"⟩, 23), (⟨"PullCardsModel", "keep", "(I)V"⟩, 23), (⟨"PullCardsModel", "cardsOf", "(I)I"⟩, 23), (⟨"PullCardsModel", "timeOf", "(I)I"⟩, 23), (⟨"PullCardsModel", "slow", "()I"⟩, 23), (⟨"PullCardsModel", "beginOf", "(II)I"⟩, 23), (⟨"PullCardsModel", "isFast", "(II)Z"⟩, 23), (⟨"PullCardsModel", "go", "(II)V"⟩, 23), (⟨"PullCardsModel", "move", "(III)V"⟩, 23), (⟨"PullCardsModel", "upChance", "(IZ)I"⟩, 23), (⟨"PullCardsModel", "mean", "()J"⟩, 23), (⟨"PullCardsModel", "lay", "()I"⟩, 23)]
theorem lw_r2 : ∀ q ∈ lw_privs_2, lw_okq q := List.forall_mem_cons.mpr ⟨lw_p16, List.forall_mem_cons.mpr ⟨lw_p17, List.forall_mem_cons.mpr ⟨lw_p18, List.forall_mem_cons.mpr ⟨lw_p19, List.forall_mem_cons.mpr ⟨lw_p20, List.forall_mem_cons.mpr ⟨lw_p21, List.forall_mem_cons.mpr ⟨lw_p22, List.forall_mem_cons.mpr ⟨lw_p23, List.forall_mem_cons.mpr ⟨lw_p24, List.forall_mem_cons.mpr ⟨lw_p25, List.forall_mem_cons.mpr ⟨lw_p26, List.forall_mem_cons.mpr ⟨lw_p27, List.forall_mem_cons.mpr ⟨lw_p28, List.forall_mem_cons.mpr ⟨lw_p29, List.forall_mem_cons.mpr ⟨lw_p30, List.forall_mem_cons.mpr ⟨lw_p31, fun _ h => absurd h List.not_mem_nil⟩⟩⟩⟩⟩⟩⟩⟩⟩⟩⟩⟩⟩⟩⟩⟩
def lw_privs : List (MethodName × Nat) := lw_privs_1 ++ (lw_privs_2)
def lw_tbl : List Cond := k2_sels lw_privs ++ tables_1
theorem lw_privs_ok : ∀ q ∈ lw_privs, lw_okq q := by
  show ∀ q ∈ lw_privs_1 ++ (lw_privs_2), lw_okq q
  exact List.forall_mem_append.mpr ⟨lw_r1, lw_r2⟩
/-! ===== BEGIN words of one list among another's, by their places ===== -/
theorem goodIn_r {big : List Cond} (ws : List Cond) (ps : List Nat) (hp : ws = ps.filterMap (fun i => big[i]?)) (h : ws.all goodWord = true) : GoodIn big ws := by
  intro w hw
  have h1 := List.all_eq_true.mp h w hw
  rw [hp] at hw
  obtain ⟨i, -, hi⟩ := List.mem_filterMap.mp hw
  have hm : w ∈ big := by first | exact List.mem_of_getElem? hi | exact List.getElem?_mem hi
  exact ⟨hm, good_of_word h1⟩
theorem goodIn_app {big a b : List Cond} (ha : GoodIn big a) (hb : GoodIn big b) : GoodIn big (a ++ b) := fun w h => (List.mem_append.mp h).elim (ha w) (hb w)
theorem goodIn_ca {big a b : List Cond} {c : Cond} (ha : GoodIn big (c :: a)) (hb : GoodIn big b) : GoodIn big (c :: (a ++ b)) := fun w h => (List.mem_cons.mp h).elim (fun e => ha w (List.mem_cons.mpr (Or.inl e))) (fun h => (List.mem_append.mp h).elim (fun h => ha w (List.mem_cons.mpr (Or.inr h))) (hb w))
theorem goodIn_sub {big ws : List Cond} (hm : ∀ w ∈ ws, w ∈ big) (h : ws.all goodWord = true) : GoodIn big ws := fun w hw => ⟨hm w hw, good_of_word (List.all_eq_true.mp h w hw)⟩
/-! ===== END ===== -/

/-! ===== BEGIN printed: names, fields, word lists, decode rows ===== -/
def RX0 : String := "PullCards$Line"
def TX0 : u_T := fun k => match k with
  | 0 => ("PullCards$Line", "times", "[I", true)
  | 1 => ("PullCards$Line", "froms", "[I", true)
  | 2 => ("PullCards$Line", "tos", "[I", true)
  | 3 => ("PullCards$Line", "cards", "[I", true)
  | 4 => ("PullCards$Line", "stations", "I", false)
  | _ => ("PullCards$Line", "arcs", "I", false)
def tyX0 : Nat → FieldType := fun k => match k with
  | 0 => .array .int
  | 1 => .array .int
  | 2 => .array .int
  | 3 => .array .int
  | 4 => .int
  | _ => .int
abbrev wsX00 : List Cond := u_ws RX0 TX0 6
theorem nmX0 : ∀ a, a < 6 → ∀ b, b < 6 → a ≠ b → (TX0 a).2.1 ≠ (TX0 b).2.1 := by decide +kernel
theorem tyX0_ok : ∀ k, k < 6 → parseFieldDescriptor (TX0 k).2.2.1 = some (tyX0 k) := by decide +kernel
abbrev cX0_init : ByteArray := prog_2_method_1_code
def yX0_init : MethodName := ⟨RX0, "<init>", "()V"⟩
abbrev cX0_hasStation : ByteArray := prog_2_method_2_code
def yX0_hasStation : MethodName := ⟨RX0, "hasStation", "(I)Z"⟩
abbrev cX0_hasArc : ByteArray := prog_2_method_3_code
def yX0_hasArc : MethodName := ⟨RX0, "hasArc", "(I)Z"⟩
abbrev cX0_addStation : ByteArray := prog_2_method_4_code
def yX0_addStation : MethodName := ⟨RX0, "addStation", "(I)I"⟩
abbrev cX0_addArc : ByteArray := prog_2_method_5_code
def yX0_addArc : MethodName := ⟨RX0, "addArc", "(III)I"⟩
abbrev cX0_isReady : ByteArray := prog_2_method_6_code
def yX0_isReady : MethodName := ⟨RX0, "isReady", "(I)Z"⟩
abbrev cX0_hasRoom : ByteArray := prog_2_method_7_code
def yX0_hasRoom : MethodName := ⟨RX0, "hasRoom", "(I)Z"⟩
abbrev cX0_moveCards : ByteArray := prog_2_method_8_code
def yX0_moveCards : MethodName := ⟨RX0, "moveCards", "(I)V"⟩
abbrev cX0_countReady : ByteArray := prog_2_method_9_code
def yX0_countReady : MethodName := ⟨RX0, "countReady", "()I"⟩
abbrev cX0_countCards : ByteArray := prog_2_method_10_code
def yX0_countCards : MethodName := ⟨RX0, "countCards", "()I"⟩
def RX1 : String := "PullCards$Loops"
def TX1 : u_T := fun k => match k with
  | 0 => ("PullCards$Loops", "line", "LPullCards$Line;", true)
  | 1 => ("PullCards$Loops", "rows", "[I", true)
  | 2 => ("PullCards$Loops", "lengths", "[I", true)
  | 3 => ("PullCards$Loops", "path", "[I", true)
  | 4 => ("PullCards$Loops", "many", "I", false)
  | 5 => ("PullCards$Loops", "notedCards", "[I", true)
  | _ => ("PullCards$Loops", "noteStands", "Z", false)
def tyX1 : Nat → FieldType := fun k => match k with
  | 0 => .object "PullCards$Line"
  | 1 => .array .int
  | 2 => .array .int
  | 3 => .array .int
  | 4 => .int
  | 5 => .array .int
  | _ => .boolean
abbrev wsX10 : List Cond := u_ws RX1 TX1 7
theorem nmX1 : ∀ a, a < 7 → ∀ b, b < 7 → a ≠ b → (TX1 a).2.1 ≠ (TX1 b).2.1 := by decide +kernel
theorem tyX1_ok : ∀ k, k < 7 → parseFieldDescriptor (TX1 k).2.2.1 = some (tyX1 k) := by decide +kernel
abbrev cX1_init : ByteArray := prog_3_method_1_code
def yX1_init : MethodName := ⟨RX1, "<init>", "(LPullCards$Line;)V"⟩
abbrev cX1_has : ByteArray := prog_3_method_2_code
def yX1_has : MethodName := ⟨RX1, "has", "(I)Z"⟩
abbrev cX1_find : ByteArray := prog_3_method_3_code
def yX1_find : MethodName := ⟨RX1, "find", "()V"⟩
abbrev cX1_extend : ByteArray := prog_3_method_4_code
def yX1_extend : MethodName := ⟨RX1, "extend", "(LPullCards$Loops;IIII)V"⟩
abbrev cX1_keepPath : ByteArray := prog_3_method_5_code
def yX1_keepPath : MethodName := ⟨RX1, "keepPath", "(I)V"⟩
abbrev cX1_arcOf : ByteArray := prog_3_method_6_code
def yX1_arcOf : MethodName := ⟨RX1, "arcOf", "(II)I"⟩
abbrev cX1_timeOf : ByteArray := prog_3_method_7_code
def yX1_timeOf : MethodName := ⟨RX1, "timeOf", "(I)I"⟩
abbrev cX1_cardsOf : ByteArray := prog_3_method_8_code
def yX1_cardsOf : MethodName := ⟨RX1, "cardsOf", "(I[I)I"⟩
abbrev cX1_passes : ByteArray := prog_3_method_9_code
def yX1_passes : MethodName := ⟨RX1, "passes", "(II)Z"⟩
abbrev cX1_findSlowest : ByteArray := prog_3_method_10_code
def yX1_findSlowest : MethodName := ⟨RX1, "findSlowest", "()I"⟩
abbrev cX1_forgetNote : ByteArray := prog_3_method_11_code
def yX1_forgetNote : MethodName := ⟨RX1, "forgetNote", "()V"⟩
abbrev cX1_takeNote : ByteArray := prog_3_method_12_code
def yX1_takeNote : MethodName := ⟨RX1, "takeNote", "()V"⟩
abbrev cX1_countChanged : ByteArray := prog_3_method_13_code
def yX1_countChanged : MethodName := ⟨RX1, "countChanged", "(Z)I"⟩
abbrev cX1_cardsToReach : ByteArray := prog_3_method_14_code
def yX1_cardsToReach : MethodName := ⟨RX1, "cardsToReach", "(III)I"⟩
def RX2 : String := "PullCards$Pair"
def TX2 : u_T := fun k => match k with
  | 0 => ("PullCards$Pair", "breaks", "[I", true)
  | 1 => ("PullCards$Pair", "repairs", "[I", true)
  | 2 => ("PullCards$Pair", "room", "I", false)
  | 3 => ("PullCards$Pair", "changeWeights", "[I", true)
  | 4 => ("PullCards$Pair", "weights", "[J", false)
  | _ => ("PullCards$Pair", "nextWeights", "[J", false)
def tyX2 : Nat → FieldType := fun k => match k with
  | 0 => .array .int
  | 1 => .array .int
  | 2 => .int
  | 3 => .array .int
  | 4 => .array .long
  | _ => .array .long
abbrev wsX20 : List Cond := u_ws RX2 TX2 6
theorem nmX2 : ∀ a, a < 6 → ∀ b, b < 6 → a ≠ b → (TX2 a).2.1 ≠ (TX2 b).2.1 := by decide +kernel
theorem tyX2_ok : ∀ k, k < 6 → parseFieldDescriptor (TX2 k).2.2.1 = some (tyX2 k) := by decide +kernel
abbrev cX2_init : ByteArray := prog_4_method_1_code
def yX2_init : MethodName := ⟨RX2, "<init>", "()V"⟩
abbrev cX2_weightInAll : ByteArray := prog_4_method_2_code
def yX2_weightInAll : MethodName := ⟨RX2, "weightInAll", "(I)J"⟩
abbrev cX2_cell : ByteArray := prog_4_method_3_code
def yX2_cell : MethodName := ⟨RX2, "cell", "(III)I"⟩
abbrev cX2_weighMean : ByteArray := prog_4_method_4_code
def yX2_weighMean : MethodName := ⟨RX2, "weighMean", "(II)J"⟩
abbrev cX2_weighCount : ByteArray := prog_4_method_5_code
def yX2_weighCount : MethodName := ⟨RX2, "weighCount", "(II)J"⟩
abbrev cX2_start : ByteArray := prog_4_method_6_code
def yX2_start : MethodName := ⟨RX2, "start", "()V"⟩
abbrev cX2_quartersOf : ByteArray := prog_4_method_7_code
def yX2_quartersOf : MethodName := ⟨RX2, "quartersOf", "(IZZ)I"⟩
abbrev cX2_runTick : ByteArray := prog_4_method_8_code
def yX2_runTick : MethodName := ⟨RX2, "runTick", "(IIZ)J"⟩
abbrev cX2_spread : ByteArray := prog_4_method_9_code
def yX2_spread : MethodName := ⟨RX2, "spread", "(IIIIIZ)J"⟩
abbrev cX2_gives : ByteArray := prog_4_method_10_code
def yX2_gives : MethodName := ⟨RX2, "gives", "(II)I"⟩
abbrev cX2_levelAfter : ByteArray := prog_4_method_11_code
def yX2_levelAfter : MethodName := ⟨RX2, "levelAfter", "(III)I"⟩
def RX3 : String := "PullCards$Row"
def TX3 : u_T := fun k => match k with
  | 0 => ("PullCards$Row", "demands", "[I", true)
  | 1 => ("PullCards$Row", "came", "[I", true)
  | 2 => ("PullCards$Row", "kinds", "[I", true)
  | 3 => ("PullCards$Row", "length", "I", false)
  | 4 => ("PullCards$Row", "farthest", "I", false)
  | _ => ("PullCards$Row", "turns", "I", false)
def tyX3 : Nat → FieldType := fun k => match k with
  | 0 => .array .int
  | 1 => .array .int
  | 2 => .array .int
  | 3 => .int
  | 4 => .int
  | _ => .int
abbrev wsX30 : List Cond := u_ws RX3 TX3 6
theorem nmX3 : ∀ a, a < 6 → ∀ b, b < 6 → a ≠ b → (TX3 a).2.1 ≠ (TX3 b).2.1 := by decide +kernel
theorem tyX3_ok : ∀ k, k < 6 → parseFieldDescriptor (TX3 k).2.2.1 = some (tyX3 k) := by decide +kernel
abbrev cX3_init : ByteArray := prog_5_method_1_code
def yX3_init : MethodName := ⟨RX3, "<init>", "()V"⟩
abbrev cX3_lay : ByteArray := prog_5_method_2_code
def yX3_lay : MethodName := ⟨RX3, "lay", "()V"⟩
abbrev cX3_nextKind : ByteArray := prog_5_method_3_code
def yX3_nextKind : MethodName := ⟨RX3, "nextKind", "(I)I"⟩
abbrev cX3_farthestAfter : ByteArray := prog_5_method_4_code
def yX3_farthestAfter : MethodName := ⟨RX3, "farthestAfter", "(I)I"⟩
def RX4 : String := "PullCards$Works"
def TX4 : u_T := fun k => match k with
  | 0 => ("PullCards$Works", "line", "LPullCards$Line;", true)
  | 1 => ("PullCards$Works", "beginnings", "[I", true)
  | 2 => ("PullCards$Works", "order", "[I", true)
  | 3 => ("PullCards$Works", "ordered", "I", false)
  | _ => ("PullCards$Works", "able", "I", false)
def tyX4 : Nat → FieldType := fun k => match k with
  | 0 => .object "PullCards$Line"
  | 1 => .array .int
  | 2 => .array .int
  | 3 => .int
  | _ => .int
abbrev wsX40 : List Cond := u_ws RX4 TX4 5
theorem nmX4 : ∀ a, a < 5 → ∀ b, b < 5 → a ≠ b → (TX4 a).2.1 ≠ (TX4 b).2.1 := by decide +kernel
theorem tyX4_ok : ∀ k, k < 5 → parseFieldDescriptor (TX4 k).2.2.1 = some (tyX4 k) := by decide +kernel
abbrev cX4_init : ByteArray := prog_6_method_1_code
def yX4_init : MethodName := ⟨RX4, "<init>", "(LPullCards$Line;)V"⟩
abbrev cX4_beginning : ByteArray := prog_6_method_2_code
def yX4_beginning : MethodName := ⟨RX4, "beginning", "(II)I"⟩
abbrev cX4_orderArcs : ByteArray := prog_6_method_3_code
def yX4_orderArcs : MethodName := ⟨RX4, "orderArcs", "()V"⟩
abbrev cX4_waits : ByteArray := prog_6_method_4_code
def yX4_waits : MethodName := ⟨RX4, "waits", "(I)Z"⟩
abbrev cX4_orderArcsTo : ByteArray := prog_6_method_5_code
def yX4_orderArcsTo : MethodName := ⟨RX4, "orderArcsTo", "(I)V"⟩
abbrev cX4_beginAll : ByteArray := prog_6_method_6_code
def yX4_beginAll : MethodName := ⟨RX4, "beginAll", "(I)V"⟩
abbrev cX4_doneAt : ByteArray := prog_6_method_7_code
def yX4_doneAt : MethodName := ⟨RX4, "doneAt", "(II)I"⟩
abbrev cX4_later : ByteArray := prog_6_method_8_code
def yX4_later : MethodName := ⟨RX4, "later", "(II)I"⟩
def RX5 : String := "PullCards"
def TX5 : u_T := fun k => match k with
  | 0 => ("PullCards", "line", "LPullCards$Line;", true)
  | 1 => ("PullCards", "loops", "LPullCards$Loops;", true)
  | 2 => ("PullCards", "works", "LPullCards$Works;", true)
  | 3 => ("PullCards", "pair", "LPullCards$Pair;", true)
  | _ => ("PullCards", "row", "LPullCards$Row;", true)
def tyX5 : Nat → FieldType := fun k => match k with
  | 0 => .object "PullCards$Line"
  | 1 => .object "PullCards$Loops"
  | 2 => .object "PullCards$Works"
  | 3 => .object "PullCards$Pair"
  | _ => .object "PullCards$Row"
abbrev wsX50 : List Cond := u_ws RX5 TX5 5
theorem nmX5 : ∀ a, a < 5 → ∀ b, b < 5 → a ≠ b → (TX5 a).2.1 ≠ (TX5 b).2.1 := by decide +kernel
theorem tyX5_ok : ∀ k, k < 5 → parseFieldDescriptor (TX5 k).2.2.1 = some (tyX5 k) := by decide +kernel
abbrev cX5_init : ByteArray := prog_1_method_1_code
def yX5_init : MethodName := ⟨RX5, "<init>", "()V"⟩
abbrev cX5_station : ByteArray := prog_1_method_2_code
def yX5_station : MethodName := ⟨RX5, "station", "(I)I"⟩
abbrev cX5_arc : ByteArray := prog_1_method_3_code
def yX5_arc : MethodName := ⟨RX5, "arc", "(III)I"⟩
abbrev cX5_time : ByteArray := prog_1_method_4_code
def yX5_time : MethodName := ⟨RX5, "time", "(II)I"⟩
abbrev cX5_put : ByteArray := prog_1_method_5_code
def yX5_put : MethodName := ⟨RX5, "put", "(II)I"⟩
abbrev cX5_about : ByteArray := prog_1_method_6_code
def yX5_about : MethodName := ⟨RX5, "about", "(II)I"⟩
abbrev cX5_ready : ByteArray := prog_1_method_7_code
def yX5_ready : MethodName := ⟨RX5, "ready", "(I)I"⟩
abbrev cX5_fire : ByteArray := prog_1_method_8_code
def yX5_fire : MethodName := ⟨RX5, "fire", "(I)I"⟩
abbrev cX5_round : ByteArray := prog_1_method_9_code
def yX5_round : MethodName := ⟨RX5, "round", "()I"⟩
abbrev cX5_loops : ByteArray := prog_1_method_10_code
def yX5_loops : MethodName := ⟨RX5, "loops", "()I"⟩
abbrev cX5_loop : ByteArray := prog_1_method_11_code
def yX5_loop : MethodName := ⟨RX5, "loop", "(II)I"⟩
abbrev cX5_sum : ByteArray := prog_1_method_12_code
def yX5_sum : MethodName := ⟨RX5, "sum", "(IZ)I"⟩
abbrev cX5_pace : ByteArray := prog_1_method_13_code
def yX5_pace : MethodName := ⟨RX5, "pace", "(Z)J"⟩
abbrev cX5_slowest : ByteArray := prog_1_method_14_code
def yX5_slowest : MethodName := ⟨RX5, "slowest", "()I"⟩
abbrev cX5_begins : ByteArray := prog_1_method_15_code
def yX5_begins : MethodName := ⟨RX5, "begins", "(II)I"⟩
abbrev cX5_note : ByteArray := prog_1_method_16_code
def yX5_note : MethodName := ⟨RX5, "note", "()I"⟩
abbrev cX5_audit : ByteArray := prog_1_method_17_code
def yX5_audit : MethodName := ⟨RX5, "audit", "(Z)I"⟩
abbrev cX5_cards : ByteArray := prog_1_method_18_code
def yX5_cards : MethodName := ⟨RX5, "cards", "(III)I"⟩
abbrev cX5_machine : ByteArray := prog_1_method_19_code
def yX5_machine : MethodName := ⟨RX5, "machine", "(III)I"⟩
abbrev cX5_store : ByteArray := prog_1_method_20_code
def yX5_store : MethodName := ⟨RX5, "store", "(I)I"⟩
abbrev cX5_given : ByteArray := prog_1_method_21_code
def yX5_given : MethodName := ⟨RX5, "given", "(IZ)J"⟩
abbrev cX5_just : ByteArray := prog_1_method_22_code
def yX5_just : MethodName := ⟨RX5, "just", "(IIZ)J"⟩
abbrev cX5_least : ByteArray := prog_1_method_23_code
def yX5_least : MethodName := ⟨RX5, "least", "(III)I"⟩
abbrev cX5_demand : ByteArray := prog_1_method_24_code
def yX5_demand : MethodName := ⟨RX5, "demand", "(II)I"⟩
abbrev cX5_at : ByteArray := prog_1_method_25_code
def yX5_at : MethodName := ⟨RX5, "at", "(I)I"⟩
abbrev cX5_rough : ByteArray := prog_1_method_26_code
def yX5_rough : MethodName := ⟨RX5, "rough", "()I"⟩
abbrev cX5_changes : ByteArray := prog_1_method_27_code
def yX5_changes : MethodName := ⟨RX5, "changes", "()I"⟩
abbrev cX5_total : ByteArray := prog_1_method_28_code
def yX5_total : MethodName := ⟨RX5, "total", "(I)I"⟩
abbrev cX5_within : ByteArray := prog_1_method_29_code
def yX5_within : MethodName := ⟨RX5, "within", "(III)Z"⟩
abbrev cX5_inLeastTerms : ByteArray := prog_1_method_30_code
def yX5_inLeastTerms : MethodName := ⟨RX5, "inLeastTerms", "(JJZ)J"⟩
abbrev cX5_commonDivisor : ByteArray := prog_1_method_31_code
def yX5_commonDivisor : MethodName := ⟨RX5, "commonDivisor", "(JJ)J"⟩
def RX6 : String := "PullCardsModel"
def TX6 : u_T := fun k => match k with
  | 0 => ("PullCardsModel", "stations", "I", false)
  | 1 => ("PullCardsModel", "time", "[I", true)
  | 2 => ("PullCardsModel", "arcs", "I", false)
  | 3 => ("PullCardsModel", "from", "[I", true)
  | 4 => ("PullCardsModel", "to", "[I", true)
  | 5 => ("PullCardsModel", "cards", "[I", true)
  | 6 => ("PullCardsModel", "loops", "I", false)
  | 7 => ("PullCardsModel", "loopArc", "[I", true)
  | 8 => ("PullCardsModel", "loopLong", "[I", true)
  | 9 => ("PullCardsModel", "path", "[I", true)
  | 10 => ("PullCardsModel", "begin", "[I", true)
  | 11 => ("PullCardsModel", "isNoted", "Z", false)
  | 12 => ("PullCardsModel", "noted", "I", false)
  | 13 => ("PullCardsModel", "notedCards", "[I", true)
  | 14 => ("PullCardsModel", "breaks", "[I", true)
  | 15 => ("PullCardsModel", "mends", "[I", true)
  | 16 => ("PullCardsModel", "room", "I", false)
  | 17 => ("PullCardsModel", "weight", "[J", true)
  | 18 => ("PullCardsModel", "next", "[J", true)
  | 19 => ("PullCardsModel", "demand", "[I", true)
  | 20 => ("PullCardsModel", "came", "[I", true)
  | 21 => ("PullCardsModel", "row", "[I", true)
  | _ => ("PullCardsModel", "places", "I", false)
def tyX6 : Nat → FieldType := fun k => match k with
  | 0 => .int
  | 1 => .array .int
  | 2 => .int
  | 3 => .array .int
  | 4 => .array .int
  | 5 => .array .int
  | 6 => .int
  | 7 => .array .int
  | 8 => .array .int
  | 9 => .array .int
  | 10 => .array .int
  | 11 => .boolean
  | 12 => .int
  | 13 => .array .int
  | 14 => .array .int
  | 15 => .array .int
  | 16 => .int
  | 17 => .array .long
  | 18 => .array .long
  | 19 => .array .int
  | 20 => .array .int
  | 21 => .array .int
  | _ => .int
abbrev wsX60 : List Cond := u_ws RX6 TX6 23
theorem nmX6 : ∀ a, a < 23 → ∀ b, b < 23 → a ≠ b → (TX6 a).2.1 ≠ (TX6 b).2.1 := by decide +kernel
theorem tyX6_ok : ∀ k, k < 23 → parseFieldDescriptor (TX6 k).2.2.1 = some (tyX6 k) := by decide +kernel
abbrev cX6_init : ByteArray := prog_8_method_1_code
def yX6_init : MethodName := ⟨RX6, "<init>", "()V"⟩
abbrev cX6_in : ByteArray := prog_8_method_3_code
def yX6_in : MethodName := ⟨RX6, "in", "(JJJ)Z"⟩
abbrev cX6_isStation : ByteArray := prog_8_method_4_code
def yX6_isStation : MethodName := ⟨RX6, "isStation", "(I)Z"⟩
abbrev cX6_isArc : ByteArray := prog_8_method_5_code
def yX6_isArc : MethodName := ⟨RX6, "isArc", "(I)Z"⟩
abbrev cX6_station : ByteArray := prog_8_method_6_code
def yX6_station : MethodName := ⟨RX6, "station", "(I)I"⟩
abbrev cX6_arc : ByteArray := prog_8_method_7_code
def yX6_arc : MethodName := ⟨RX6, "arc", "(III)I"⟩
abbrev cX6_time : ByteArray := prog_8_method_8_code
def yX6_time : MethodName := ⟨RX6, "time", "(II)I"⟩
abbrev cX6_put : ByteArray := prog_8_method_9_code
def yX6_put : MethodName := ⟨RX6, "put", "(II)I"⟩
abbrev cX6_about : ByteArray := prog_8_method_10_code
def yX6_about : MethodName := ⟨RX6, "about", "(II)I"⟩
abbrev cX6_isReady : ByteArray := prog_8_method_11_code
def yX6_isReady : MethodName := ⟨RX6, "isReady", "(I)Z"⟩
abbrev cX6_hasRoom : ByteArray := prog_8_method_12_code
def yX6_hasRoom : MethodName := ⟨RX6, "hasRoom", "(I)Z"⟩
abbrev cX6_fires : ByteArray := prog_8_method_13_code
def yX6_fires : MethodName := ⟨RX6, "fires", "(I)V"⟩
abbrev cX6_readyMany : ByteArray := prog_8_method_14_code
def yX6_readyMany : MethodName := ⟨RX6, "readyMany", "()I"⟩
abbrev cX6_ready : ByteArray := prog_8_method_15_code
def yX6_ready : MethodName := ⟨RX6, "ready", "(I)I"⟩
abbrev cX6_fire : ByteArray := prog_8_method_16_code
def yX6_fire : MethodName := ⟨RX6, "fire", "(I)I"⟩
abbrev cX6_round : ByteArray := prog_8_method_17_code
def yX6_round : MethodName := ⟨RX6, "round", "()I"⟩
abbrev cX6_keep : ByteArray := prog_8_method_18_code
def yX6_keep : MethodName := ⟨RX6, "keep", "(I)V"⟩
abbrev cX6_mayGo : ByteArray := prog_8_method_19_code
def yX6_mayGo : MethodName := ⟨RX6, "mayGo", "(IIII)Z"⟩
abbrev cX6_find : ByteArray := prog_8_method_20_code
def yX6_find : MethodName := ⟨RX6, "find", "()V"⟩
abbrev cX6_cardsOf : ByteArray := prog_8_method_21_code
def yX6_cardsOf : MethodName := ⟨RX6, "cardsOf", "(I)I"⟩
abbrev cX6_timeOf : ByteArray := prog_8_method_22_code
def yX6_timeOf : MethodName := ⟨RX6, "timeOf", "(I)I"⟩
abbrev cX6_loops : ByteArray := prog_8_method_23_code
def yX6_loops : MethodName := ⟨RX6, "loops", "()I"⟩
abbrev cX6_loop : ByteArray := prog_8_method_24_code
def yX6_loop : MethodName := ⟨RX6, "loop", "(II)I"⟩
abbrev cX6_sum : ByteArray := prog_8_method_25_code
def yX6_sum : MethodName := ⟨RX6, "sum", "(IZ)I"⟩
abbrev cX6_slow : ByteArray := prog_8_method_26_code
def yX6_slow : MethodName := ⟨RX6, "slow", "()I"⟩
abbrev cX6_common : ByteArray := prog_8_method_27_code
def yX6_common : MethodName := ⟨RX6, "common", "(JJ)J"⟩
abbrev cX6_fraction : ByteArray := prog_8_method_28_code
def yX6_fraction : MethodName := ⟨RX6, "fraction", "(JJZ)J"⟩
abbrev cX6_pace : ByteArray := prog_8_method_29_code
def yX6_pace : MethodName := ⟨RX6, "pace", "(Z)J"⟩
abbrev cX6_slowest : ByteArray := prog_8_method_30_code
def yX6_slowest : MethodName := ⟨RX6, "slowest", "()I"⟩
abbrev cX6_beginOf : ByteArray := prog_8_method_31_code
def yX6_beginOf : MethodName := ⟨RX6, "beginOf", "(II)I"⟩
abbrev cX6_begins : ByteArray := prog_8_method_32_code
def yX6_begins : MethodName := ⟨RX6, "begins", "(II)I"⟩
abbrev cX6_note : ByteArray := prog_8_method_33_code
def yX6_note : MethodName := ⟨RX6, "note", "()I"⟩
abbrev cX6_audit : ByteArray := prog_8_method_34_code
def yX6_audit : MethodName := ⟨RX6, "audit", "(Z)I"⟩
abbrev cX6_isFast : ByteArray := prog_8_method_35_code
def yX6_isFast : MethodName := ⟨RX6, "isFast", "(II)Z"⟩
abbrev cX6_cards : ByteArray := prog_8_method_36_code
def yX6_cards : MethodName := ⟨RX6, "cards", "(III)I"⟩
abbrev cX6_machine : ByteArray := prog_8_method_37_code
def yX6_machine : MethodName := ⟨RX6, "machine", "(III)I"⟩
abbrev cX6_store : ByteArray := prog_8_method_38_code
def yX6_store : MethodName := ⟨RX6, "store", "(I)I"⟩
abbrev cX6_upChance : ByteArray := prog_8_method_39_code
def yX6_upChance : MethodName := ⟨RX6, "upChance", "(IZ)I"⟩
abbrev cX6_move : ByteArray := prog_8_method_40_code
def yX6_move : MethodName := ⟨RX6, "move", "(III)V"⟩
abbrev cX6_go : ByteArray := prog_8_method_41_code
def yX6_go : MethodName := ⟨RX6, "go", "(II)V"⟩
abbrev cX6_isTicks : ByteArray := prog_8_method_42_code
def yX6_isTicks : MethodName := ⟨RX6, "isTicks", "(I)Z"⟩
abbrev cX6_mean : ByteArray := prog_8_method_43_code
def yX6_mean : MethodName := ⟨RX6, "mean", "()J"⟩
abbrev cX6_given : ByteArray := prog_8_method_44_code
def yX6_given : MethodName := ⟨RX6, "given", "(IZ)J"⟩
abbrev cX6_just : ByteArray := prog_8_method_45_code
def yX6_just : MethodName := ⟨RX6, "just", "(IIZ)J"⟩
abbrev cX6_least : ByteArray := prog_8_method_46_code
def yX6_least : MethodName := ⟨RX6, "least", "(III)I"⟩
abbrev cX6_demand : ByteArray := prog_8_method_47_code
def yX6_demand : MethodName := ⟨RX6, "demand", "(II)I"⟩
abbrev cX6_lay : ByteArray := prog_8_method_48_code
def yX6_lay : MethodName := ⟨RX6, "lay", "()I"⟩
abbrev cX6_at : ByteArray := prog_8_method_49_code
def yX6_at : MethodName := ⟨RX6, "at", "(I)I"⟩
abbrev cX6_rough : ByteArray := prog_8_method_50_code
def yX6_rough : MethodName := ⟨RX6, "rough", "()I"⟩
abbrev cX6_changes : ByteArray := prog_8_method_51_code
def yX6_changes : MethodName := ⟨RX6, "changes", "()I"⟩
abbrev cX6_total : ByteArray := prog_8_method_52_code
def yX6_total : MethodName := ⟨RX6, "total", "(I)I"⟩
def RJ9 : String := "java/lang/Math"
def TJ9 : u_T := fun k => match k with
  | _ => ("", "", "", false)
def tyJ9 : Nat → FieldType := fun k => match k with
  | _ => .int
abbrev wsJ90 : List Cond := u_ws RJ9 TJ9 0
theorem nmJ9 : ∀ a, a < 0 → ∀ b, b < 0 → a ≠ b → (TJ9 a).2.1 ≠ (TJ9 b).2.1 := by decide +kernel
theorem tyJ9_ok : ∀ k, k < 0 → parseFieldDescriptor (TJ9 k).2.2.1 = some (tyJ9 k) := by decide +kernel
abbrev cJ9_abs_0f7a4 : ByteArray := prog_9_method_59_code
def yJ9_abs_0f7a4 : MethodName := ⟨RJ9, "abs", "(I)I"⟩
abbrev cJ9_max_7cf53 : ByteArray := prog_9_method_65_code
def yJ9_max_7cf53 : MethodName := ⟨RJ9, "max", "(II)I"⟩
abbrev cJ9_max_f86c9 : ByteArray := prog_9_method_66_code
def yJ9_max_f86c9 : MethodName := ⟨RJ9, "max", "(JJ)J"⟩
abbrev cJ9_min_7cf53 : ByteArray := prog_9_method_69_code
def yJ9_min_7cf53 : MethodName := ⟨RJ9, "min", "(II)I"⟩
def RJ10 : String := "java/lang/System"
def TJ10 : u_T := fun k => match k with
  | _ => ("", "", "", false)
def tyJ10 : Nat → FieldType := fun k => match k with
  | _ => .int
abbrev wsJ100 : List Cond := u_ws RJ10 TJ10 0
theorem nmJ10 : ∀ a, a < 0 → ∀ b, b < 0 → a ≠ b → (TJ10 a).2.1 ≠ (TJ10 b).2.1 := by decide +kernel
theorem tyJ10_ok : ∀ k, k < 0 → parseFieldDescriptor (TJ10 k).2.2.1 = some (tyJ10 k) := by decide +kernel
def RJ7 : String := "java/util/Arrays"
def TJ7 : u_T := fun k => match k with
  | _ => ("", "", "", false)
def tyJ7 : Nat → FieldType := fun k => match k with
  | _ => .int
abbrev wsJ70 : List Cond := u_ws RJ7 TJ7 0
theorem nmJ7 : ∀ a, a < 0 → ∀ b, b < 0 → a ≠ b → (TJ7 a).2.1 ≠ (TJ7 b).2.1 := by decide +kernel
theorem tyJ7_ok : ∀ k, k < 0 → parseFieldDescriptor (TJ7 k).2.2.1 = some (tyJ7 k) := by decide +kernel
abbrev cJ7_fill_d0a16 : ByteArray := prog_11_method_101_code
def yJ7_fill_d0a16 : MethodName := ⟨RJ7, "fill", "([JJ)V"⟩
def RL : String := "PullCardsLaw"
abbrev cL_law : ByteArray := code
def yL_law : MethodName := ⟨RL, "law", "([I)Z"⟩
def wsX0_init : List Cond := .code yX0_init cX0_init 1 none :: ([.methodLink RX0 3 objectInit, .instanceMethod objectInit, .code objectInit ⟨#[0xb1]⟩ 1 none, .arrayClass .int, .fieldLink RX0 9 "PullCards$Line" "times" "[I", .fieldLink RX0 15 "PullCards$Line" "froms" "[I", .fieldLink RX0 18 "PullCards$Line" "tos" "[I", .fieldLink RX0 21 "PullCards$Line" "cards" "[I"] ++ wsX00)
def wsX5_within : List Cond := .code yX5_within cX5_within 3 (some .boolean) :: ([])
def wsX0_hasStation : List Cond := .code yX0_hasStation cX0_hasStation 2 (some .boolean) :: ([.fieldLink RX0 24 "PullCards$Line" "stations" "I", .static yX5_within, .initialized RX5, .code yX5_within cX5_within 3 (some .boolean)] ++ wsX00)
def wsX0_hasArc : List Cond := .code yX0_hasArc cX0_hasArc 2 (some .boolean) :: ([.fieldLink RX0 32 "PullCards$Line" "arcs" "I", .static yX5_within, .initialized RX5, .code yX5_within cX5_within 3 (some .boolean)] ++ wsX00)
def wsX0_addStation : List Cond := .code yX0_addStation cX0_addStation 2 (some .int) :: ([.fieldLink RX0 9 "PullCards$Line" "times" "[I", .fieldLink RX0 24 "PullCards$Line" "stations" "I"] ++ wsX00)
def wsX0_addArc : List Cond := .code yX0_addArc cX0_addArc 4 (some .int) :: ([.fieldLink RX0 15 "PullCards$Line" "froms" "[I", .fieldLink RX0 32 "PullCards$Line" "arcs" "I", .fieldLink RX0 18 "PullCards$Line" "tos" "[I", .fieldLink RX0 21 "PullCards$Line" "cards" "[I"] ++ wsX00)
def wsX0_isReady : List Cond := .code yX0_isReady cX0_isReady 3 (some .boolean) :: ([.fieldLink RX0 32 "PullCards$Line" "arcs" "I", .fieldLink RX0 18 "PullCards$Line" "tos" "[I", .fieldLink RX0 21 "PullCards$Line" "cards" "[I"] ++ wsX00)
def wsX0_hasRoom : List Cond := .code yX0_hasRoom cX0_hasRoom 4 (some .boolean) :: ([.fieldLink RX0 32 "PullCards$Line" "arcs" "I", .fieldLink RX0 15 "PullCards$Line" "froms" "[I", .fieldLink RX0 18 "PullCards$Line" "tos" "[I", .fieldLink RX0 21 "PullCards$Line" "cards" "[I"] ++ wsX00)
def wsX0_moveCards : List Cond := .code yX0_moveCards cX0_moveCards 3 none :: ([.fieldLink RX0 32 "PullCards$Line" "arcs" "I", .fieldLink RX0 18 "PullCards$Line" "tos" "[I", .fieldLink RX0 21 "PullCards$Line" "cards" "[I", .fieldLink RX0 15 "PullCards$Line" "froms" "[I"] ++ wsX00)
def wsX0_countReady : List Cond := .code yX0_countReady cX0_countReady 3 (some .int) :: ([.fieldLink RX0 24 "PullCards$Line" "stations" "I", .methodLink RX0 35 yX0_isReady, .instanceMethod yX0_isReady, .selects RX0 yX0_isReady yX0_isReady, .initialized RX0, .code yX0_isReady cX0_isReady 3 (some .boolean), .fieldLink RX0 32 "PullCards$Line" "arcs" "I", .fieldLink RX0 18 "PullCards$Line" "tos" "[I", .fieldLink RX0 21 "PullCards$Line" "cards" "[I"] ++ wsX00)
def wsX0_countCards : List Cond := .code yX0_countCards cX0_countCards 3 (some .int) :: ([.fieldLink RX0 32 "PullCards$Line" "arcs" "I", .fieldLink RX0 21 "PullCards$Line" "cards" "[I"] ++ wsX00)
def wsX1_init : List Cond := .code yX1_init cX1_init 2 none :: ([.methodLink RX1 3 objectInit, .instanceMethod objectInit, .code objectInit ⟨#[0xb1]⟩ 1 none, .arrayClass .int, .fieldLink RX1 11 "PullCards$Loops" "rows" "[I", .fieldLink RX1 15 "PullCards$Loops" "lengths" "[I", .fieldLink RX1 18 "PullCards$Loops" "path" "[I", .fieldLink RX1 21 "PullCards$Loops" "notedCards" "[I", .fieldLink RX1 24 "PullCards$Loops" "line" "LPullCards$Line;"] ++ wsX10)
def wsX1_has : List Cond := .code yX1_has cX1_has 2 (some .boolean) :: ([.fieldLink RX1 28 "PullCards$Loops" "many" "I", .static yX5_within, .initialized RX5, .code yX5_within cX5_within 3 (some .boolean)] ++ wsX10)
def wsX1_keepPath : List Cond := .code yX1_keepPath cX1_keepPath 3 none :: ([.fieldLink RX1 28 "PullCards$Loops" "many" "I", .fieldLink RX1 11 "PullCards$Loops" "rows" "[I", .fieldLink RX1 18 "PullCards$Loops" "path" "[I", .fieldLink RX1 15 "PullCards$Loops" "lengths" "[I"] ++ wsX10)
def wsX1_extend : List Cond := .code yX1_extend cX1_extend 8 none :: ([.fieldLink RX1 24 "PullCards$Loops" "line" "LPullCards$Line;", .fieldLink RX1 45 "PullCards$Line" "arcs" "I", .fieldLink RX1 48 "PullCards$Line" "froms" "[I", .fieldLink RX1 51 "PullCards$Line" "tos" "[I", .fieldLink RX1 18 "PullCards$Loops" "path" "[I", .methodLink RX1 54 yX1_keepPath, .instanceMethod yX1_keepPath, .selects RX1 yX1_keepPath yX1_keepPath, .initialized RX1, .code yX1_keepPath cX1_keepPath 3 none, .fieldLink RX1 28 "PullCards$Loops" "many" "I", .fieldLink RX1 11 "PullCards$Loops" "rows" "[I", .fieldLink RX1 15 "PullCards$Loops" "lengths" "[I", .methodLink RX1 41 yX1_extend, .static yX1_extend] ++ wsX10 ++ wsX00)
def wsX1_find : List Cond := .code yX1_find cX1_find 2 none :: ([.fieldLink RX1 28 "PullCards$Loops" "many" "I", .fieldLink RX1 24 "PullCards$Loops" "line" "LPullCards$Line;", .fieldLink RX1 36 "PullCards$Line" "stations" "I", .methodLink RX1 41 yX1_extend, .static yX1_extend, .initialized RX1, .code yX1_extend cX1_extend 8 none, .fieldLink RX1 45 "PullCards$Line" "arcs" "I", .fieldLink RX1 48 "PullCards$Line" "froms" "[I", .fieldLink RX1 51 "PullCards$Line" "tos" "[I", .fieldLink RX1 18 "PullCards$Loops" "path" "[I", .methodLink RX1 54 yX1_keepPath, .instanceMethod yX1_keepPath, .selects RX1 yX1_keepPath yX1_keepPath, .code yX1_keepPath cX1_keepPath 3 none, .fieldLink RX1 11 "PullCards$Loops" "rows" "[I", .fieldLink RX1 15 "PullCards$Loops" "lengths" "[I"] ++ wsX10 ++ wsX00)
def wsX1_arcOf : List Cond := .code yX1_arcOf cX1_arcOf 3 (some .int) :: ([.fieldLink RX1 15 "PullCards$Loops" "lengths" "[I", .fieldLink RX1 11 "PullCards$Loops" "rows" "[I", .static yX5_within, .initialized RX5, .code yX5_within cX5_within 3 (some .boolean)] ++ wsX10)
def wsX1_timeOf : List Cond := .code yX1_timeOf cX1_timeOf 4 (some .int) :: ([.fieldLink RX1 15 "PullCards$Loops" "lengths" "[I", .fieldLink RX1 24 "PullCards$Loops" "line" "LPullCards$Line;", .fieldLink RX1 58 "PullCards$Line" "times" "[I", .fieldLink RX1 48 "PullCards$Line" "froms" "[I", .fieldLink RX1 11 "PullCards$Loops" "rows" "[I"] ++ wsX10 ++ wsX00)
def wsX1_cardsOf : List Cond := .code yX1_cardsOf cX1_cardsOf 5 (some .int) :: ([.fieldLink RX1 15 "PullCards$Loops" "lengths" "[I", .fieldLink RX1 11 "PullCards$Loops" "rows" "[I"] ++ wsX10)
def wsX1_passes : List Cond := .code yX1_passes cX1_passes 4 (some .boolean) :: ([.fieldLink RX1 15 "PullCards$Loops" "lengths" "[I", .fieldLink RX1 11 "PullCards$Loops" "rows" "[I"] ++ wsX10)
def wsX1_findSlowest : List Cond := .code yX1_findSlowest cX1_findSlowest 7 (some .int) :: ([.fieldLink RX1 28 "PullCards$Loops" "many" "I", .fieldLink RX1 24 "PullCards$Loops" "line" "LPullCards$Line;", .fieldLink RX1 65 "PullCards$Line" "cards" "[I", .methodLink RX1 61 yX1_timeOf, .instanceMethod yX1_timeOf, .selects RX1 yX1_timeOf yX1_timeOf, .initialized RX1, .code yX1_timeOf cX1_timeOf 4 (some .int), .fieldLink RX1 15 "PullCards$Loops" "lengths" "[I", .fieldLink RX1 58 "PullCards$Line" "times" "[I", .fieldLink RX1 48 "PullCards$Line" "froms" "[I", .fieldLink RX1 11 "PullCards$Loops" "rows" "[I", .methodLink RX1 68 yX1_cardsOf, .instanceMethod yX1_cardsOf, .selects RX1 yX1_cardsOf yX1_cardsOf, .code yX1_cardsOf cX1_cardsOf 5 (some .int)] ++ wsX10 ++ wsX00)
def wsX1_forgetNote : List Cond := .code yX1_forgetNote cX1_forgetNote 1 none :: ([.fieldLink RX1 72 "PullCards$Loops" "noteStands" "Z"] ++ wsX10)
def wsX1_takeNote : List Cond := .code yX1_takeNote cX1_takeNote 1 none :: ([.fieldLink RX1 24 "PullCards$Loops" "line" "LPullCards$Line;", .fieldLink RX1 65 "PullCards$Line" "cards" "[I", .fieldLink RX1 21 "PullCards$Loops" "notedCards" "[I", .methodLink RX1 76 arraycopyName, .native arraycopyName, .static arraycopyName, .initialized "java/lang/System", .fieldLink RX1 72 "PullCards$Loops" "noteStands" "Z"] ++ wsX10 ++ wsX00)
def wsX1_countChanged : List Cond := .code yX1_countChanged cX1_countChanged 5 (some .int) :: ([.fieldLink RX1 28 "PullCards$Loops" "many" "I", .fieldLink RX1 24 "PullCards$Loops" "line" "LPullCards$Line;", .fieldLink RX1 65 "PullCards$Line" "cards" "[I", .fieldLink RX1 21 "PullCards$Loops" "notedCards" "[I", .methodLink RX1 68 yX1_cardsOf, .instanceMethod yX1_cardsOf, .selects RX1 yX1_cardsOf yX1_cardsOf, .initialized RX1, .code yX1_cardsOf cX1_cardsOf 5 (some .int), .fieldLink RX1 15 "PullCards$Loops" "lengths" "[I", .fieldLink RX1 11 "PullCards$Loops" "rows" "[I"] ++ wsX10 ++ wsX00)
def wsX1_cardsToReach : List Cond := .code yX1_cardsToReach cX1_cardsToReach 8 (some .int) :: ([.fieldLink RX1 28 "PullCards$Loops" "many" "I", .fieldLink RX1 24 "PullCards$Loops" "line" "LPullCards$Line;", .fieldLink RX1 65 "PullCards$Line" "cards" "[I", .methodLink RX1 86 Lib.Math.max.name, .static Lib.Math.max.name, .initialized "java/lang/Math", .code Lib.Math.max.name Lib.Math.max.code 2 (some .int), .methodLink RX1 61 yX1_timeOf, .instanceMethod yX1_timeOf, .selects RX1 yX1_timeOf yX1_timeOf, .initialized RX1, .code yX1_timeOf cX1_timeOf 4 (some .int), .fieldLink RX1 15 "PullCards$Loops" "lengths" "[I", .fieldLink RX1 58 "PullCards$Line" "times" "[I", .fieldLink RX1 48 "PullCards$Line" "froms" "[I", .fieldLink RX1 11 "PullCards$Loops" "rows" "[I", .methodLink RX1 68 yX1_cardsOf, .instanceMethod yX1_cardsOf, .selects RX1 yX1_cardsOf yX1_cardsOf, .code yX1_cardsOf cX1_cardsOf 5 (some .int), .methodLink RX1 82 yX1_passes, .instanceMethod yX1_passes, .selects RX1 yX1_passes yX1_passes, .code yX1_passes cX1_passes 4 (some .boolean)] ++ wsX10 ++ wsX00)
def wsX2_init : List Cond := .code yX2_init cX2_init 1 none :: ([.methodLink RX2 3 objectInit, .instanceMethod objectInit, .code objectInit ⟨#[0xb1]⟩ 1 none, .arrayClass .int, .fieldLink RX2 9 "PullCards$Pair" "breaks" "[I", .fieldLink RX2 15 "PullCards$Pair" "repairs" "[I", .fieldLink RX2 18 "PullCards$Pair" "changeWeights" "[I", .arrayClass .long, .fieldLink RX2 21 "PullCards$Pair" "weights" "[J", .fieldLink RX2 25 "PullCards$Pair" "nextWeights" "[J"] ++ wsX20)
def wsX2_weightInAll : List Cond := .code yX2_weightInAll cX2_weightInAll 1 (some .long) :: ([])
def wsX2_cell : List Cond := .code yX2_cell cX2_cell 3 (some .int) :: ([])
def wsX2_quartersOf : List Cond := .code yX2_quartersOf cX2_quartersOf 5 (some .int) :: ([.fieldLink RX2 9 "PullCards$Pair" "breaks" "[I", .fieldLink RX2 15 "PullCards$Pair" "repairs" "[I"] ++ wsX20)
def wsJ7_fill_d0a16 : List Cond := .code yJ7_fill_d0a16 cJ7_fill_d0a16 5 none :: ([])
def wsX2_start : List Cond := .code yX2_start cX2_start 5 none :: ([.fieldLink RX2 18 "PullCards$Pair" "changeWeights" "[I", .fieldLink RX2 21 "PullCards$Pair" "weights" "[J", .methodLink RX2 45 yX2_quartersOf, .instanceMethod yX2_quartersOf, .selects RX2 yX2_quartersOf yX2_quartersOf, .initialized RX2, .code yX2_quartersOf cX2_quartersOf 5 (some .int), .fieldLink RX2 9 "PullCards$Pair" "breaks" "[I", .fieldLink RX2 15 "PullCards$Pair" "repairs" "[I", .methodLink RX2 49 yJ7_fill_d0a16, .static yJ7_fill_d0a16, .initialized RJ7, .code yJ7_fill_d0a16 cJ7_fill_d0a16 5 none, .methodLink RX2 41 yX2_cell, .static yX2_cell, .code yX2_cell cX2_cell 3 (some .int)] ++ wsX20)
def wsX2_gives : List Cond := .code yX2_gives cX2_gives 2 (some .int) :: ([])
def wsX2_levelAfter : List Cond := .code yX2_levelAfter cX2_levelAfter 3 (some .int) :: ([.methodLink RX2 66 Lib.Math.min.name, .static Lib.Math.min.name, .initialized "java/lang/Math", .code Lib.Math.min.name Lib.Math.min.code 2 (some .int), .methodLink RX2 71 Lib.Math.max.name, .static Lib.Math.max.name, .code Lib.Math.max.name Lib.Math.max.code 2 (some .int)])
def wsX2_spread : List Cond := .code yX2_spread cX2_spread 16 (some .long) :: ([.fieldLink RX2 21 "PullCards$Pair" "weights" "[J", .fieldLink RX2 18 "PullCards$Pair" "changeWeights" "[I", .fieldLink RX2 25 "PullCards$Pair" "nextWeights" "[J", .methodLink RX2 41 yX2_cell, .static yX2_cell, .initialized RX2, .code yX2_cell cX2_cell 3 (some .int), .methodLink RX2 59 yX2_gives, .static yX2_gives, .code yX2_gives cX2_gives 2 (some .int), .methodLink RX2 63 yX2_levelAfter, .static yX2_levelAfter, .code yX2_levelAfter cX2_levelAfter 3 (some .int), .methodLink RX2 66 Lib.Math.min.name, .static Lib.Math.min.name, .initialized "java/lang/Math", .code Lib.Math.min.name Lib.Math.min.code 2 (some .int), .methodLink RX2 71 Lib.Math.max.name, .static Lib.Math.max.name, .code Lib.Math.max.name Lib.Math.max.code 2 (some .int)] ++ wsX20)
def wsX2_runTick_r1 : List Cond := [Cond.fieldLink RX2 25 "PullCards$Pair" "nextWeights" "[J", Cond.fieldLink RX2 21 "PullCards$Pair" "weights" "[J", Cond.methodLink RX2 49 yJ7_fill_d0a16, Cond.static yJ7_fill_d0a16, Cond.initialized RJ7, Cond.code yJ7_fill_d0a16 cJ7_fill_d0a16 5 none, Cond.methodLink RX2 55 yX2_spread, Cond.instanceMethod yX2_spread, Cond.selects RX2 yX2_spread yX2_spread, Cond.initialized RX2, Cond.code yX2_spread cX2_spread 16 (some .long), Cond.fieldLink RX2 18 "PullCards$Pair" "changeWeights" "[I", Cond.methodLink RX2 41 yX2_cell, Cond.static yX2_cell, Cond.code yX2_cell cX2_cell 3 (some .int), Cond.methodLink RX2 59 yX2_gives, Cond.static yX2_gives, Cond.code yX2_gives cX2_gives 2 (some .int), Cond.methodLink RX2 63 yX2_levelAfter, Cond.static yX2_levelAfter, Cond.code yX2_levelAfter cX2_levelAfter 3 (some .int), Cond.methodLink RX2 66 Lib.Math.min.name, Cond.static Lib.Math.min.name, Cond.initialized "java/lang/Math"]
def wsX2_runTick_r2 : List Cond := [Cond.code Lib.Math.min.name Lib.Math.min.code 2 (some .int), Cond.methodLink RX2 71 Lib.Math.max.name, Cond.static Lib.Math.max.name, Cond.code Lib.Math.max.name Lib.Math.max.code 2 (some .int)]
def wsX2_runTick : List Cond := .code yX2_runTick cX2_runTick 9 (some .long) :: ((wsX2_runTick_r1 ++ wsX2_runTick_r2) ++ wsX20)
def wsX2_weighMean_r1 : List Cond := [Cond.constantLong RX2 31 (4), Cond.methodLink RX2 28 yX2_start, Cond.instanceMethod yX2_start, Cond.selects RX2 yX2_start yX2_start, Cond.initialized RX2, Cond.code yX2_start cX2_start 5 none, Cond.fieldLink RX2 18 "PullCards$Pair" "changeWeights" "[I", Cond.fieldLink RX2 21 "PullCards$Pair" "weights" "[J", Cond.methodLink RX2 45 yX2_quartersOf, Cond.instanceMethod yX2_quartersOf, Cond.selects RX2 yX2_quartersOf yX2_quartersOf, Cond.code yX2_quartersOf cX2_quartersOf 5 (some .int), Cond.fieldLink RX2 9 "PullCards$Pair" "breaks" "[I", Cond.fieldLink RX2 15 "PullCards$Pair" "repairs" "[I", Cond.methodLink RX2 49 yJ7_fill_d0a16, Cond.static yJ7_fill_d0a16, Cond.initialized RJ7, Cond.code yJ7_fill_d0a16 cJ7_fill_d0a16 5 none, Cond.methodLink RX2 41 yX2_cell, Cond.static yX2_cell, Cond.code yX2_cell cX2_cell 3 (some .int), Cond.methodLink RX2 33 yX2_runTick, Cond.instanceMethod yX2_runTick, Cond.selects RX2 yX2_runTick yX2_runTick]
def wsX2_weighMean_r2 : List Cond := [Cond.code yX2_runTick cX2_runTick 9 (some .long), Cond.fieldLink RX2 25 "PullCards$Pair" "nextWeights" "[J", Cond.methodLink RX2 55 yX2_spread, Cond.instanceMethod yX2_spread, Cond.selects RX2 yX2_spread yX2_spread, Cond.code yX2_spread cX2_spread 16 (some .long), Cond.methodLink RX2 59 yX2_gives, Cond.static yX2_gives, Cond.code yX2_gives cX2_gives 2 (some .int), Cond.methodLink RX2 63 yX2_levelAfter, Cond.static yX2_levelAfter, Cond.code yX2_levelAfter cX2_levelAfter 3 (some .int), Cond.methodLink RX2 66 Lib.Math.min.name, Cond.static Lib.Math.min.name, Cond.initialized "java/lang/Math", Cond.code Lib.Math.min.name Lib.Math.min.code 2 (some .int), Cond.methodLink RX2 71 Lib.Math.max.name, Cond.static Lib.Math.max.name, Cond.code Lib.Math.max.name Lib.Math.max.code 2 (some .int)]
def wsX2_weighMean : List Cond := .code yX2_weighMean cX2_weighMean 6 (some .long) :: ((wsX2_weighMean_r1 ++ wsX2_weighMean_r2) ++ wsX20)
def wsX2_weighCount_r1 : List Cond := [Cond.fieldLink RX2 37 "PullCards$Pair" "room" "I", Cond.fieldLink RX2 21 "PullCards$Pair" "weights" "[J", Cond.methodLink RX2 28 yX2_start, Cond.instanceMethod yX2_start, Cond.selects RX2 yX2_start yX2_start, Cond.initialized RX2, Cond.code yX2_start cX2_start 5 none, Cond.fieldLink RX2 18 "PullCards$Pair" "changeWeights" "[I", Cond.methodLink RX2 45 yX2_quartersOf, Cond.instanceMethod yX2_quartersOf, Cond.selects RX2 yX2_quartersOf yX2_quartersOf, Cond.code yX2_quartersOf cX2_quartersOf 5 (some .int), Cond.fieldLink RX2 9 "PullCards$Pair" "breaks" "[I", Cond.fieldLink RX2 15 "PullCards$Pair" "repairs" "[I", Cond.methodLink RX2 49 yJ7_fill_d0a16, Cond.static yJ7_fill_d0a16, Cond.initialized RJ7, Cond.code yJ7_fill_d0a16 cJ7_fill_d0a16 5 none, Cond.methodLink RX2 41 yX2_cell, Cond.static yX2_cell, Cond.code yX2_cell cX2_cell 3 (some .int), Cond.methodLink RX2 33 yX2_runTick, Cond.instanceMethod yX2_runTick, Cond.selects RX2 yX2_runTick yX2_runTick]
def wsX2_weighCount_r2 : List Cond := [Cond.code yX2_runTick cX2_runTick 9 (some .long), Cond.fieldLink RX2 25 "PullCards$Pair" "nextWeights" "[J", Cond.methodLink RX2 55 yX2_spread, Cond.instanceMethod yX2_spread, Cond.selects RX2 yX2_spread yX2_spread, Cond.code yX2_spread cX2_spread 16 (some .long), Cond.methodLink RX2 59 yX2_gives, Cond.static yX2_gives, Cond.code yX2_gives cX2_gives 2 (some .int), Cond.methodLink RX2 63 yX2_levelAfter, Cond.static yX2_levelAfter, Cond.code yX2_levelAfter cX2_levelAfter 3 (some .int), Cond.methodLink RX2 66 Lib.Math.min.name, Cond.static Lib.Math.min.name, Cond.initialized "java/lang/Math", Cond.code Lib.Math.min.name Lib.Math.min.code 2 (some .int), Cond.methodLink RX2 71 Lib.Math.max.name, Cond.static Lib.Math.max.name, Cond.code Lib.Math.max.name Lib.Math.max.code 2 (some .int)]
def wsX2_weighCount : List Cond := .code yX2_weighCount cX2_weighCount 7 (some .long) :: ((wsX2_weighCount_r1 ++ wsX2_weighCount_r2) ++ wsX20)
def wsX3_init : List Cond := .code yX3_init cX3_init 1 none :: ([.methodLink RX3 3 objectInit, .instanceMethod objectInit, .code objectInit ⟨#[0xb1]⟩ 1 none, .arrayClass .int, .fieldLink RX3 9 "PullCards$Row" "demands" "[I", .fieldLink RX3 15 "PullCards$Row" "came" "[I", .fieldLink RX3 18 "PullCards$Row" "kinds" "[I"] ++ wsX30)
def wsX3_nextKind : List Cond := .code yX3_nextKind cX3_nextKind 7 (some .int) :: ([.fieldLink RX3 9 "PullCards$Row" "demands" "[I", .fieldLink RX3 21 "PullCards$Row" "length" "I", .fieldLink RX3 15 "PullCards$Row" "came" "[I"] ++ wsX30)
def wsX3_farthestAfter : List Cond := .code yX3_farthestAfter cX3_farthestAfter 4 (some .int) :: ([.fieldLink RX3 21 "PullCards$Row" "length" "I", .fieldLink RX3 15 "PullCards$Row" "came" "[I", .fieldLink RX3 9 "PullCards$Row" "demands" "[I", .methodLink RX3 44 Lib.Math.abs.name, .static Lib.Math.abs.name, .initialized "java/lang/Math", .code Lib.Math.abs.name Lib.Math.abs.code 1 (some .int), .methodLink RX3 38 Lib.Math.max.name, .static Lib.Math.max.name, .code Lib.Math.max.name Lib.Math.max.code 2 (some .int)] ++ wsX30)
def wsX3_lay : List Cond := .code yX3_lay cX3_lay 3 none :: ([.fieldLink RX3 21 "PullCards$Row" "length" "I", .fieldLink RX3 9 "PullCards$Row" "demands" "[I", .fieldLink RX3 15 "PullCards$Row" "came" "[I", .fieldLink RX3 25 "PullCards$Row" "farthest" "I", .fieldLink RX3 28 "PullCards$Row" "turns" "I", .fieldLink RX3 18 "PullCards$Row" "kinds" "[I", .methodLink RX3 38 Lib.Math.max.name, .static Lib.Math.max.name, .initialized "java/lang/Math", .code Lib.Math.max.name Lib.Math.max.code 2 (some .int), .methodLink RX3 31 yX3_nextKind, .instanceMethod yX3_nextKind, .selects RX3 yX3_nextKind yX3_nextKind, .initialized RX3, .code yX3_nextKind cX3_nextKind 7 (some .int), .methodLink RX3 35 yX3_farthestAfter, .instanceMethod yX3_farthestAfter, .selects RX3 yX3_farthestAfter yX3_farthestAfter, .code yX3_farthestAfter cX3_farthestAfter 4 (some .int), .methodLink RX3 44 Lib.Math.abs.name, .static Lib.Math.abs.name, .code Lib.Math.abs.name Lib.Math.abs.code 1 (some .int)] ++ wsX30)
def wsX4_init : List Cond := .code yX4_init cX4_init 2 none :: ([.methodLink RX4 3 objectInit, .instanceMethod objectInit, .code objectInit ⟨#[0xb1]⟩ 1 none, .arrayClass .int, .fieldLink RX4 9 "PullCards$Works" "beginnings" "[I", .fieldLink RX4 15 "PullCards$Works" "order" "[I", .fieldLink RX4 18 "PullCards$Works" "line" "LPullCards$Line;"] ++ wsX40)
def wsX4_waits : List Cond := .code yX4_waits cX4_waits 4 (some .boolean) :: ([.fieldLink RX4 18 "PullCards$Works" "line" "LPullCards$Line;", .fieldLink RX4 48 "PullCards$Line" "arcs" "I", .fieldLink RX4 51 "PullCards$Line" "tos" "[I", .fieldLink RX4 54 "PullCards$Line" "cards" "[I", .fieldLink RX4 29 "PullCards$Works" "able" "I", .fieldLink RX4 57 "PullCards$Line" "froms" "[I"] ++ wsX40 ++ wsX00)
def wsX4_orderArcsTo : List Cond := .code yX4_orderArcsTo cX4_orderArcsTo 3 none :: ([.fieldLink RX4 18 "PullCards$Works" "line" "LPullCards$Line;", .fieldLink RX4 48 "PullCards$Line" "arcs" "I", .fieldLink RX4 51 "PullCards$Line" "tos" "[I", .fieldLink RX4 33 "PullCards$Works" "ordered" "I", .fieldLink RX4 15 "PullCards$Works" "order" "[I"] ++ wsX40 ++ wsX00)
def wsX4_orderArcs : List Cond := .code yX4_orderArcs cX4_orderArcs 3 none :: ([.fieldLink RX4 29 "PullCards$Works" "able" "I", .fieldLink RX4 33 "PullCards$Works" "ordered" "I", .fieldLink RX4 18 "PullCards$Works" "line" "LPullCards$Line;", .fieldLink RX4 36 "PullCards$Line" "stations" "I", .methodLink RX4 41 yX4_waits, .instanceMethod yX4_waits, .selects RX4 yX4_waits yX4_waits, .initialized RX4, .code yX4_waits cX4_waits 4 (some .boolean), .fieldLink RX4 48 "PullCards$Line" "arcs" "I", .fieldLink RX4 51 "PullCards$Line" "tos" "[I", .fieldLink RX4 54 "PullCards$Line" "cards" "[I", .fieldLink RX4 57 "PullCards$Line" "froms" "[I", .methodLink RX4 45 yX4_orderArcsTo, .instanceMethod yX4_orderArcsTo, .selects RX4 yX4_orderArcsTo yX4_orderArcsTo, .code yX4_orderArcsTo cX4_orderArcsTo 3 none, .fieldLink RX4 15 "PullCards$Works" "order" "[I"] ++ wsX40 ++ wsX00)
def wsX4_doneAt : List Cond := .code yX4_doneAt cX4_doneAt 5 (some .int) :: ([.fieldLink RX4 18 "PullCards$Works" "line" "LPullCards$Line;", .fieldLink RX4 57 "PullCards$Line" "froms" "[I", .fieldLink RX4 9 "PullCards$Works" "beginnings" "[I", .fieldLink RX4 54 "PullCards$Line" "cards" "[I", .fieldLink RX4 67 "PullCards$Line" "times" "[I"] ++ wsX40 ++ wsX00)
def wsX4_later : List Cond := .code yX4_later cX4_later 2 (some .int) :: ([.methodLink RX4 70 Lib.Math.max.name, .static Lib.Math.max.name, .initialized "java/lang/Math", .code Lib.Math.max.name Lib.Math.max.code 2 (some .int)])
def wsX4_beginAll : List Cond := .code yX4_beginAll cX4_beginAll 6 none :: ([.fieldLink RX4 18 "PullCards$Works" "line" "LPullCards$Line;", .fieldLink RX4 36 "PullCards$Line" "stations" "I", .fieldLink RX4 9 "PullCards$Works" "beginnings" "[I", .fieldLink RX4 29 "PullCards$Works" "able" "I", .fieldLink RX4 33 "PullCards$Works" "ordered" "I", .fieldLink RX4 15 "PullCards$Works" "order" "[I", .fieldLink RX4 54 "PullCards$Line" "cards" "[I", .fieldLink RX4 51 "PullCards$Line" "tos" "[I", .methodLink RX4 60 yX4_doneAt, .instanceMethod yX4_doneAt, .selects RX4 yX4_doneAt yX4_doneAt, .initialized RX4, .code yX4_doneAt cX4_doneAt 5 (some .int), .fieldLink RX4 57 "PullCards$Line" "froms" "[I", .fieldLink RX4 67 "PullCards$Line" "times" "[I", .methodLink RX4 64 yX4_later, .static yX4_later, .code yX4_later cX4_later 2 (some .int), .methodLink RX4 70 Lib.Math.max.name, .static Lib.Math.max.name, .initialized "java/lang/Math", .code Lib.Math.max.name Lib.Math.max.code 2 (some .int)] ++ wsX40 ++ wsX00)
def wsX4_beginning_r1 : List Cond := [Cond.fieldLink RX4 9 "PullCards$Works" "beginnings" "[I", Cond.methodLink RX4 22 yX4_orderArcs, Cond.instanceMethod yX4_orderArcs, Cond.selects RX4 yX4_orderArcs yX4_orderArcs, Cond.initialized RX4, Cond.code yX4_orderArcs cX4_orderArcs 3 none, Cond.fieldLink RX4 29 "PullCards$Works" "able" "I", Cond.fieldLink RX4 33 "PullCards$Works" "ordered" "I", Cond.fieldLink RX4 18 "PullCards$Works" "line" "LPullCards$Line;", Cond.fieldLink RX4 36 "PullCards$Line" "stations" "I", Cond.methodLink RX4 41 yX4_waits, Cond.instanceMethod yX4_waits, Cond.selects RX4 yX4_waits yX4_waits, Cond.code yX4_waits cX4_waits 4 (some .boolean), Cond.fieldLink RX4 48 "PullCards$Line" "arcs" "I", Cond.fieldLink RX4 51 "PullCards$Line" "tos" "[I", Cond.fieldLink RX4 54 "PullCards$Line" "cards" "[I", Cond.fieldLink RX4 57 "PullCards$Line" "froms" "[I", Cond.methodLink RX4 45 yX4_orderArcsTo, Cond.instanceMethod yX4_orderArcsTo, Cond.selects RX4 yX4_orderArcsTo yX4_orderArcsTo, Cond.code yX4_orderArcsTo cX4_orderArcsTo 3 none, Cond.fieldLink RX4 15 "PullCards$Works" "order" "[I", Cond.methodLink RX4 25 yX4_beginAll]
def wsX4_beginning_r2 : List Cond := [Cond.instanceMethod yX4_beginAll, Cond.selects RX4 yX4_beginAll yX4_beginAll, Cond.code yX4_beginAll cX4_beginAll 6 none, Cond.methodLink RX4 60 yX4_doneAt, Cond.instanceMethod yX4_doneAt, Cond.selects RX4 yX4_doneAt yX4_doneAt, Cond.code yX4_doneAt cX4_doneAt 5 (some .int), Cond.fieldLink RX4 67 "PullCards$Line" "times" "[I", Cond.methodLink RX4 64 yX4_later, Cond.static yX4_later, Cond.code yX4_later cX4_later 2 (some .int), Cond.methodLink RX4 70 Lib.Math.max.name, Cond.static Lib.Math.max.name, Cond.initialized "java/lang/Math", Cond.code Lib.Math.max.name Lib.Math.max.code 2 (some .int)]
def wsX4_beginning : List Cond := .code yX4_beginning cX4_beginning 4 (some .int) :: ((wsX4_beginning_r1 ++ wsX4_beginning_r2) ++ wsX40 ++ wsX00)
def wsX5_init_r1 : List Cond := [Cond.methodLink RX5 1 objectInit, Cond.instanceMethod objectInit, Cond.code objectInit ⟨#[0xb1]⟩ 1 none, Cond.classLink RX5 7 RX0, Cond.instantiable RX0 6, Cond.initialized RX0, Cond.fieldLink RX5 10 "PullCards" "line" "LPullCards$Line;", Cond.classLink RX5 16 RX1, Cond.instantiable RX1 7, Cond.initialized RX1, Cond.fieldLink RX5 21 "PullCards" "loops" "LPullCards$Loops;", Cond.classLink RX5 25 RX4, Cond.instantiable RX4 5, Cond.initialized RX4, Cond.fieldLink RX5 28 "PullCards" "works" "LPullCards$Works;", Cond.classLink RX5 32 RX2, Cond.instantiable RX2 6, Cond.initialized RX2, Cond.fieldLink RX5 35 "PullCards" "pair" "LPullCards$Pair;", Cond.classLink RX5 39 RX3, Cond.instantiable RX3 6, Cond.initialized RX3, Cond.fieldLink RX5 42 "PullCards" "row" "LPullCards$Row;", Cond.instanceMethod yX0_init]
def wsX5_init_r2 : List Cond := [Cond.code yX0_init cX0_init 1 none, Cond.methodLink RX0 3 objectInit, Cond.arrayClass .int, Cond.fieldLink RX0 9 "PullCards$Line" "times" "[I", Cond.fieldLink RX0 15 "PullCards$Line" "froms" "[I", Cond.fieldLink RX0 18 "PullCards$Line" "tos" "[I", Cond.fieldLink RX0 21 "PullCards$Line" "cards" "[I", Cond.methodLink RX5 18 yX1_init, Cond.instanceMethod yX1_init, Cond.code yX1_init cX1_init 2 none, Cond.methodLink RX1 3 objectInit, Cond.fieldLink RX1 11 "PullCards$Loops" "rows" "[I", Cond.fieldLink RX1 15 "PullCards$Loops" "lengths" "[I", Cond.fieldLink RX1 18 "PullCards$Loops" "path" "[I", Cond.fieldLink RX1 21 "PullCards$Loops" "notedCards" "[I", Cond.fieldLink RX1 24 "PullCards$Loops" "line" "LPullCards$Line;", Cond.methodLink RX5 27 yX4_init, Cond.instanceMethod yX4_init, Cond.code yX4_init cX4_init 2 none, Cond.methodLink RX4 3 objectInit, Cond.fieldLink RX4 9 "PullCards$Works" "beginnings" "[I", Cond.fieldLink RX4 15 "PullCards$Works" "order" "[I", Cond.fieldLink RX4 18 "PullCards$Works" "line" "LPullCards$Line;", Cond.instanceMethod yX2_init]
def wsX5_init_r3 : List Cond := [Cond.code yX2_init cX2_init 1 none, Cond.methodLink RX2 3 objectInit, Cond.fieldLink RX2 9 "PullCards$Pair" "breaks" "[I", Cond.fieldLink RX2 15 "PullCards$Pair" "repairs" "[I", Cond.fieldLink RX2 18 "PullCards$Pair" "changeWeights" "[I", Cond.arrayClass .long, Cond.fieldLink RX2 21 "PullCards$Pair" "weights" "[J", Cond.fieldLink RX2 25 "PullCards$Pair" "nextWeights" "[J", Cond.instanceMethod yX3_init, Cond.code yX3_init cX3_init 1 none, Cond.methodLink RX3 3 objectInit, Cond.fieldLink RX3 9 "PullCards$Row" "demands" "[I", Cond.fieldLink RX3 15 "PullCards$Row" "came" "[I", Cond.fieldLink RX3 18 "PullCards$Row" "kinds" "[I"]
def wsX5_init : List Cond := .code yX5_init cX5_init 1 none :: ((wsX5_init_r1 ++ (wsX5_init_r2 ++ wsX5_init_r3)) ++ wsX00 ++ wsX50 ++ wsX10 ++ wsX40 ++ wsX20 ++ wsX30)
def wsX5_station : List Cond := .code yX5_station cX5_station 2 (some .int) :: ([.fieldLink RX5 10 "PullCards" "line" "LPullCards$Line;", .fieldLink RX5 50 "PullCards$Line" "stations" "I", .fieldLink RX5 21 "PullCards" "loops" "LPullCards$Loops;", .methodLink RX5 46 yX5_within, .static yX5_within, .initialized RX5, .code yX5_within cX5_within 3 (some .boolean), .methodLink RX5 54 yX1_forgetNote, .instanceMethod yX1_forgetNote, .selects RX1 yX1_forgetNote yX1_forgetNote, .initialized RX1, .code yX1_forgetNote cX1_forgetNote 1 none, .fieldLink RX1 72 "PullCards$Loops" "noteStands" "Z", .methodLink RX5 57 yX0_addStation, .instanceMethod yX0_addStation, .selects RX0 yX0_addStation yX0_addStation, .initialized RX0, .code yX0_addStation cX0_addStation 2 (some .int), .fieldLink RX0 9 "PullCards$Line" "times" "[I", .fieldLink RX0 24 "PullCards$Line" "stations" "I"] ++ wsX50 ++ wsX00 ++ wsX10)
def wsX5_arc_r1 : List Cond := [Cond.fieldLink RX5 10 "PullCards" "line" "LPullCards$Line;", Cond.fieldLink RX5 65 "PullCards$Line" "arcs" "I", Cond.fieldLink RX5 21 "PullCards" "loops" "LPullCards$Loops;", Cond.methodLink RX5 61 yX0_hasStation, Cond.instanceMethod yX0_hasStation, Cond.selects RX0 yX0_hasStation yX0_hasStation, Cond.initialized RX0, Cond.code yX0_hasStation cX0_hasStation 2 (some .boolean), Cond.fieldLink RX0 24 "PullCards$Line" "stations" "I", Cond.static yX5_within, Cond.initialized RX5, Cond.code yX5_within cX5_within 3 (some .boolean), Cond.methodLink RX5 46 yX5_within, Cond.methodLink RX5 68 yX0_addArc, Cond.instanceMethod yX0_addArc, Cond.selects RX0 yX0_addArc yX0_addArc, Cond.code yX0_addArc cX0_addArc 4 (some .int), Cond.fieldLink RX0 15 "PullCards$Line" "froms" "[I", Cond.fieldLink RX0 32 "PullCards$Line" "arcs" "I", Cond.fieldLink RX0 18 "PullCards$Line" "tos" "[I", Cond.fieldLink RX0 21 "PullCards$Line" "cards" "[I", Cond.methodLink RX5 54 yX1_forgetNote, Cond.instanceMethod yX1_forgetNote, Cond.selects RX1 yX1_forgetNote yX1_forgetNote]
def wsX5_arc_r2 : List Cond := [Cond.initialized RX1, Cond.code yX1_forgetNote cX1_forgetNote 1 none, Cond.fieldLink RX1 72 "PullCards$Loops" "noteStands" "Z", Cond.methodLink RX5 72 yX1_find, Cond.instanceMethod yX1_find, Cond.selects RX1 yX1_find yX1_find, Cond.code yX1_find cX1_find 2 none, Cond.fieldLink RX1 28 "PullCards$Loops" "many" "I", Cond.fieldLink RX1 24 "PullCards$Loops" "line" "LPullCards$Line;", Cond.fieldLink RX1 36 "PullCards$Line" "stations" "I", Cond.methodLink RX1 41 yX1_extend, Cond.static yX1_extend, Cond.code yX1_extend cX1_extend 8 none, Cond.fieldLink RX1 45 "PullCards$Line" "arcs" "I", Cond.fieldLink RX1 48 "PullCards$Line" "froms" "[I", Cond.fieldLink RX1 51 "PullCards$Line" "tos" "[I", Cond.fieldLink RX1 18 "PullCards$Loops" "path" "[I", Cond.methodLink RX1 54 yX1_keepPath, Cond.instanceMethod yX1_keepPath, Cond.selects RX1 yX1_keepPath yX1_keepPath, Cond.code yX1_keepPath cX1_keepPath 3 none, Cond.fieldLink RX1 11 "PullCards$Loops" "rows" "[I", Cond.fieldLink RX1 15 "PullCards$Loops" "lengths" "[I"]
def wsX5_arc : List Cond := .code yX5_arc cX5_arc 5 (some .int) :: ((wsX5_arc_r1 ++ wsX5_arc_r2) ++ wsX50 ++ wsX00 ++ wsX10)
def wsX5_time : List Cond := .code yX5_time cX5_time 4 (some .int) :: ([.fieldLink RX5 10 "PullCards" "line" "LPullCards$Line;", .fieldLink RX5 75 "PullCards$Line" "times" "[I", .methodLink RX5 61 yX0_hasStation, .instanceMethod yX0_hasStation, .selects RX0 yX0_hasStation yX0_hasStation, .initialized RX0, .code yX0_hasStation cX0_hasStation 2 (some .boolean), .fieldLink RX0 24 "PullCards$Line" "stations" "I", .static yX5_within, .initialized RX5, .code yX5_within cX5_within 3 (some .boolean), .methodLink RX5 46 yX5_within] ++ wsX50 ++ wsX00)
def wsX5_put : List Cond := .code yX5_put cX5_put 4 (some .int) :: ([.fieldLink RX5 10 "PullCards" "line" "LPullCards$Line;", .fieldLink RX5 82 "PullCards$Line" "cards" "[I", .methodLink RX5 79 yX0_hasArc, .instanceMethod yX0_hasArc, .selects RX0 yX0_hasArc yX0_hasArc, .initialized RX0, .code yX0_hasArc cX0_hasArc 2 (some .boolean), .fieldLink RX0 32 "PullCards$Line" "arcs" "I", .static yX5_within, .initialized RX5, .code yX5_within cX5_within 3 (some .boolean), .methodLink RX5 46 yX5_within] ++ wsX50 ++ wsX00)
def wsX5_about : List Cond := .code yX5_about cX5_about 3 (some .int) :: ([.fieldLink RX5 10 "PullCards" "line" "LPullCards$Line;", .fieldLink RX5 85 "PullCards$Line" "froms" "[I", .fieldLink RX5 88 "PullCards$Line" "tos" "[I", .fieldLink RX5 82 "PullCards$Line" "cards" "[I", .methodLink RX5 79 yX0_hasArc, .instanceMethod yX0_hasArc, .selects RX0 yX0_hasArc yX0_hasArc, .initialized RX0, .code yX0_hasArc cX0_hasArc 2 (some .boolean), .fieldLink RX0 32 "PullCards$Line" "arcs" "I", .static yX5_within, .initialized RX5, .code yX5_within cX5_within 3 (some .boolean)] ++ wsX50 ++ wsX00)
def wsX5_ready : List Cond := .code yX5_ready cX5_ready 2 (some .int) :: ([.fieldLink RX5 10 "PullCards" "line" "LPullCards$Line;", .methodLink RX5 61 yX0_hasStation, .instanceMethod yX0_hasStation, .selects RX0 yX0_hasStation yX0_hasStation, .initialized RX0, .code yX0_hasStation cX0_hasStation 2 (some .boolean), .fieldLink RX0 24 "PullCards$Line" "stations" "I", .static yX5_within, .initialized RX5, .code yX5_within cX5_within 3 (some .boolean), .methodLink RX5 91 yX0_isReady, .instanceMethod yX0_isReady, .selects RX0 yX0_isReady yX0_isReady, .code yX0_isReady cX0_isReady 3 (some .boolean), .fieldLink RX0 32 "PullCards$Line" "arcs" "I", .fieldLink RX0 18 "PullCards$Line" "tos" "[I", .fieldLink RX0 21 "PullCards$Line" "cards" "[I"] ++ wsX50 ++ wsX00)
def wsX5_fire_r1 : List Cond := [Cond.fieldLink RX5 10 "PullCards" "line" "LPullCards$Line;", Cond.methodLink RX5 61 yX0_hasStation, Cond.instanceMethod yX0_hasStation, Cond.selects RX0 yX0_hasStation yX0_hasStation, Cond.initialized RX0, Cond.code yX0_hasStation cX0_hasStation 2 (some .boolean), Cond.fieldLink RX0 24 "PullCards$Line" "stations" "I", Cond.static yX5_within, Cond.initialized RX5, Cond.code yX5_within cX5_within 3 (some .boolean), Cond.methodLink RX5 91 yX0_isReady, Cond.instanceMethod yX0_isReady, Cond.selects RX0 yX0_isReady yX0_isReady, Cond.code yX0_isReady cX0_isReady 3 (some .boolean), Cond.fieldLink RX0 32 "PullCards$Line" "arcs" "I", Cond.fieldLink RX0 18 "PullCards$Line" "tos" "[I", Cond.fieldLink RX0 21 "PullCards$Line" "cards" "[I", Cond.methodLink RX5 94 yX0_hasRoom, Cond.instanceMethod yX0_hasRoom, Cond.selects RX0 yX0_hasRoom yX0_hasRoom, Cond.code yX0_hasRoom cX0_hasRoom 4 (some .boolean), Cond.fieldLink RX0 15 "PullCards$Line" "froms" "[I", Cond.methodLink RX5 97 yX0_moveCards, Cond.instanceMethod yX0_moveCards]
def wsX5_fire_r2 : List Cond := [Cond.selects RX0 yX0_moveCards yX0_moveCards, Cond.code yX0_moveCards cX0_moveCards 3 none, Cond.methodLink RX5 101 yX0_countReady, Cond.instanceMethod yX0_countReady, Cond.selects RX0 yX0_countReady yX0_countReady, Cond.code yX0_countReady cX0_countReady 3 (some .int), Cond.methodLink RX0 35 yX0_isReady]
def wsX5_fire : List Cond := .code yX5_fire cX5_fire 2 (some .int) :: ((wsX5_fire_r1 ++ wsX5_fire_r2) ++ wsX50 ++ wsX00)
def wsX5_round : List Cond := .code yX5_round cX5_round 3 (some .int) :: ([.fieldLink RX5 10 "PullCards" "line" "LPullCards$Line;", .fieldLink RX5 50 "PullCards$Line" "stations" "I", .methodLink RX5 91 yX0_isReady, .instanceMethod yX0_isReady, .selects RX0 yX0_isReady yX0_isReady, .initialized RX0, .code yX0_isReady cX0_isReady 3 (some .boolean), .fieldLink RX0 32 "PullCards$Line" "arcs" "I", .fieldLink RX0 18 "PullCards$Line" "tos" "[I", .fieldLink RX0 21 "PullCards$Line" "cards" "[I", .methodLink RX5 94 yX0_hasRoom, .instanceMethod yX0_hasRoom, .selects RX0 yX0_hasRoom yX0_hasRoom, .code yX0_hasRoom cX0_hasRoom 4 (some .boolean), .fieldLink RX0 15 "PullCards$Line" "froms" "[I", .methodLink RX5 97 yX0_moveCards, .instanceMethod yX0_moveCards, .selects RX0 yX0_moveCards yX0_moveCards, .code yX0_moveCards cX0_moveCards 3 none] ++ wsX50 ++ wsX00)
def wsX5_loops : List Cond := .code yX5_loops cX5_loops 1 (some .int) :: ([.fieldLink RX5 21 "PullCards" "loops" "LPullCards$Loops;", .fieldLink RX5 105 "PullCards$Loops" "many" "I"] ++ wsX50 ++ wsX10)
def wsX5_loop : List Cond := .code yX5_loop cX5_loop 3 (some .int) :: ([.fieldLink RX5 21 "PullCards" "loops" "LPullCards$Loops;", .methodLink RX5 108 yX1_has, .instanceMethod yX1_has, .selects RX1 yX1_has yX1_has, .initialized RX1, .code yX1_has cX1_has 2 (some .boolean), .fieldLink RX1 28 "PullCards$Loops" "many" "I", .static yX5_within, .initialized RX5, .code yX5_within cX5_within 3 (some .boolean), .methodLink RX5 111 yX1_arcOf, .instanceMethod yX1_arcOf, .selects RX1 yX1_arcOf yX1_arcOf, .code yX1_arcOf cX1_arcOf 3 (some .int), .fieldLink RX1 15 "PullCards$Loops" "lengths" "[I", .fieldLink RX1 11 "PullCards$Loops" "rows" "[I"] ++ wsX50 ++ wsX10)
def wsX5_sum_r1 : List Cond := [Cond.fieldLink RX5 21 "PullCards" "loops" "LPullCards$Loops;", Cond.fieldLink RX5 10 "PullCards" "line" "LPullCards$Line;", Cond.fieldLink RX5 82 "PullCards$Line" "cards" "[I", Cond.methodLink RX5 108 yX1_has, Cond.instanceMethod yX1_has, Cond.selects RX1 yX1_has yX1_has, Cond.initialized RX1, Cond.code yX1_has cX1_has 2 (some .boolean), Cond.fieldLink RX1 28 "PullCards$Loops" "many" "I", Cond.static yX5_within, Cond.initialized RX5, Cond.code yX5_within cX5_within 3 (some .boolean), Cond.methodLink RX5 115 yX1_cardsOf, Cond.instanceMethod yX1_cardsOf, Cond.selects RX1 yX1_cardsOf yX1_cardsOf, Cond.code yX1_cardsOf cX1_cardsOf 5 (some .int), Cond.fieldLink RX1 15 "PullCards$Loops" "lengths" "[I", Cond.fieldLink RX1 11 "PullCards$Loops" "rows" "[I", Cond.methodLink RX5 119 yX1_timeOf, Cond.instanceMethod yX1_timeOf, Cond.selects RX1 yX1_timeOf yX1_timeOf, Cond.code yX1_timeOf cX1_timeOf 4 (some .int), Cond.fieldLink RX1 24 "PullCards$Loops" "line" "LPullCards$Line;", Cond.fieldLink RX1 58 "PullCards$Line" "times" "[I"]
def wsX5_sum_r2 : List Cond := [Cond.fieldLink RX1 48 "PullCards$Line" "froms" "[I"]
def wsX5_sum : List Cond := .code yX5_sum cX5_sum 3 (some .int) :: ((wsX5_sum_r1 ++ wsX5_sum_r2) ++ wsX50 ++ wsX00 ++ wsX10)
def wsX5_commonDivisor : List Cond := .code yX5_commonDivisor cX5_commonDivisor 11 (some .long) :: ([.methodLink RX5 195 Lib.MathLoose.max_long.x, .static Lib.MathLoose.max_long.x, .initialized "java/lang/Math", .code Lib.MathLoose.max_long.x Lib.MathLoose.max_long.code 4 (some .long)])
def wsX5_inLeastTerms : List Cond := .code yX5_inLeastTerms cX5_inLeastTerms 7 (some .long) :: ([.methodLink RX5 191 yX5_commonDivisor, .static yX5_commonDivisor, .initialized RX5, .code yX5_commonDivisor cX5_commonDivisor 11 (some .long), .methodLink RX5 195 Lib.MathLoose.max_long.x, .static Lib.MathLoose.max_long.x, .initialized "java/lang/Math", .code Lib.MathLoose.max_long.x Lib.MathLoose.max_long.code 4 (some .long)])
def wsX5_pace_r1 : List Cond := [Cond.fieldLink RX5 21 "PullCards" "loops" "LPullCards$Loops;", Cond.constantLong RX5 125 (-9), Cond.fieldLink RX5 10 "PullCards" "line" "LPullCards$Line;", Cond.fieldLink RX5 82 "PullCards$Line" "cards" "[I", Cond.methodLink RX5 122 yX1_findSlowest, Cond.instanceMethod yX1_findSlowest, Cond.selects RX1 yX1_findSlowest yX1_findSlowest, Cond.initialized RX1, Cond.code yX1_findSlowest cX1_findSlowest 7 (some .int), Cond.fieldLink RX1 28 "PullCards$Loops" "many" "I", Cond.fieldLink RX1 24 "PullCards$Loops" "line" "LPullCards$Line;", Cond.fieldLink RX1 65 "PullCards$Line" "cards" "[I", Cond.methodLink RX1 61 yX1_timeOf, Cond.instanceMethod yX1_timeOf, Cond.selects RX1 yX1_timeOf yX1_timeOf, Cond.code yX1_timeOf cX1_timeOf 4 (some .int), Cond.fieldLink RX1 15 "PullCards$Loops" "lengths" "[I", Cond.fieldLink RX1 58 "PullCards$Line" "times" "[I", Cond.fieldLink RX1 48 "PullCards$Line" "froms" "[I", Cond.fieldLink RX1 11 "PullCards$Loops" "rows" "[I", Cond.methodLink RX1 68 yX1_cardsOf, Cond.instanceMethod yX1_cardsOf, Cond.selects RX1 yX1_cardsOf yX1_cardsOf, Cond.code yX1_cardsOf cX1_cardsOf 5 (some .int)]
def wsX5_pace_r2 : List Cond := [Cond.methodLink RX5 108 yX1_has, Cond.instanceMethod yX1_has, Cond.selects RX1 yX1_has yX1_has, Cond.code yX1_has cX1_has 2 (some .boolean), Cond.static yX5_within, Cond.initialized RX5, Cond.code yX5_within cX5_within 3 (some .boolean), Cond.methodLink RX5 115 yX1_cardsOf, Cond.methodLink RX5 119 yX1_timeOf, Cond.methodLink RX5 127 yX5_inLeastTerms, Cond.static yX5_inLeastTerms, Cond.code yX5_inLeastTerms cX5_inLeastTerms 7 (some .long), Cond.methodLink RX5 191 yX5_commonDivisor, Cond.static yX5_commonDivisor, Cond.code yX5_commonDivisor cX5_commonDivisor 11 (some .long), Cond.methodLink RX5 195 Lib.MathLoose.max_long.x, Cond.static Lib.MathLoose.max_long.x, Cond.initialized "java/lang/Math", Cond.code Lib.MathLoose.max_long.x Lib.MathLoose.max_long.code 4 (some .long)]
def wsX5_pace : List Cond := .code yX5_pace cX5_pace 4 (some .long) :: ((wsX5_pace_r1 ++ wsX5_pace_r2) ++ wsX50 ++ wsX00 ++ wsX10)
def wsX5_slowest : List Cond := .code yX5_slowest cX5_slowest 1 (some .int) :: ([.fieldLink RX5 21 "PullCards" "loops" "LPullCards$Loops;", .methodLink RX5 122 yX1_findSlowest, .instanceMethod yX1_findSlowest, .selects RX1 yX1_findSlowest yX1_findSlowest, .initialized RX1, .code yX1_findSlowest cX1_findSlowest 7 (some .int), .fieldLink RX1 28 "PullCards$Loops" "many" "I", .fieldLink RX1 24 "PullCards$Loops" "line" "LPullCards$Line;", .fieldLink RX1 65 "PullCards$Line" "cards" "[I", .methodLink RX1 61 yX1_timeOf, .instanceMethod yX1_timeOf, .selects RX1 yX1_timeOf yX1_timeOf, .code yX1_timeOf cX1_timeOf 4 (some .int), .fieldLink RX1 15 "PullCards$Loops" "lengths" "[I", .fieldLink RX1 58 "PullCards$Line" "times" "[I", .fieldLink RX1 48 "PullCards$Line" "froms" "[I", .fieldLink RX1 11 "PullCards$Loops" "rows" "[I", .methodLink RX1 68 yX1_cardsOf, .instanceMethod yX1_cardsOf, .selects RX1 yX1_cardsOf yX1_cardsOf, .code yX1_cardsOf cX1_cardsOf 5 (some .int)] ++ wsX50 ++ wsX10 ++ wsX00)
def wsX5_begins_r1 : List Cond := [Cond.fieldLink RX5 10 "PullCards" "line" "LPullCards$Line;", Cond.fieldLink RX5 28 "PullCards" "works" "LPullCards$Works;", Cond.methodLink RX5 61 yX0_hasStation, Cond.instanceMethod yX0_hasStation, Cond.selects RX0 yX0_hasStation yX0_hasStation, Cond.initialized RX0, Cond.code yX0_hasStation cX0_hasStation 2 (some .boolean), Cond.fieldLink RX0 24 "PullCards$Line" "stations" "I", Cond.static yX5_within, Cond.initialized RX5, Cond.code yX5_within cX5_within 3 (some .boolean), Cond.methodLink RX5 46 yX5_within, Cond.methodLink RX5 131 yX4_beginning, Cond.instanceMethod yX4_beginning, Cond.selects RX4 yX4_beginning yX4_beginning, Cond.initialized RX4, Cond.code yX4_beginning cX4_beginning 4 (some .int), Cond.fieldLink RX4 9 "PullCards$Works" "beginnings" "[I", Cond.methodLink RX4 22 yX4_orderArcs, Cond.instanceMethod yX4_orderArcs, Cond.selects RX4 yX4_orderArcs yX4_orderArcs, Cond.code yX4_orderArcs cX4_orderArcs 3 none, Cond.fieldLink RX4 29 "PullCards$Works" "able" "I", Cond.fieldLink RX4 33 "PullCards$Works" "ordered" "I"]
def wsX5_begins_r2 : List Cond := [Cond.fieldLink RX4 18 "PullCards$Works" "line" "LPullCards$Line;", Cond.fieldLink RX4 36 "PullCards$Line" "stations" "I", Cond.methodLink RX4 41 yX4_waits, Cond.instanceMethod yX4_waits, Cond.selects RX4 yX4_waits yX4_waits, Cond.code yX4_waits cX4_waits 4 (some .boolean), Cond.fieldLink RX4 48 "PullCards$Line" "arcs" "I", Cond.fieldLink RX4 51 "PullCards$Line" "tos" "[I", Cond.fieldLink RX4 54 "PullCards$Line" "cards" "[I", Cond.fieldLink RX4 57 "PullCards$Line" "froms" "[I", Cond.methodLink RX4 45 yX4_orderArcsTo, Cond.instanceMethod yX4_orderArcsTo, Cond.selects RX4 yX4_orderArcsTo yX4_orderArcsTo, Cond.code yX4_orderArcsTo cX4_orderArcsTo 3 none, Cond.fieldLink RX4 15 "PullCards$Works" "order" "[I", Cond.methodLink RX4 25 yX4_beginAll, Cond.instanceMethod yX4_beginAll, Cond.selects RX4 yX4_beginAll yX4_beginAll, Cond.code yX4_beginAll cX4_beginAll 6 none, Cond.methodLink RX4 60 yX4_doneAt, Cond.instanceMethod yX4_doneAt, Cond.selects RX4 yX4_doneAt yX4_doneAt, Cond.code yX4_doneAt cX4_doneAt 5 (some .int), Cond.fieldLink RX4 67 "PullCards$Line" "times" "[I"]
def wsX5_begins_r3 : List Cond := [Cond.methodLink RX4 64 yX4_later, Cond.static yX4_later, Cond.code yX4_later cX4_later 2 (some .int), Cond.methodLink RX4 70 Lib.Math.max.name, Cond.static Lib.Math.max.name, Cond.initialized "java/lang/Math", Cond.code Lib.Math.max.name Lib.Math.max.code 2 (some .int)]
def wsX5_begins : List Cond := .code yX5_begins cX5_begins 3 (some .int) :: ((wsX5_begins_r1 ++ (wsX5_begins_r2 ++ wsX5_begins_r3)) ++ wsX50 ++ wsX00 ++ wsX40)
def wsX5_note : List Cond := .code yX5_note cX5_note 1 (some .int) :: ([.fieldLink RX5 21 "PullCards" "loops" "LPullCards$Loops;", .fieldLink RX5 105 "PullCards$Loops" "many" "I", .methodLink RX5 134 yX1_takeNote, .instanceMethod yX1_takeNote, .selects RX1 yX1_takeNote yX1_takeNote, .initialized RX1, .code yX1_takeNote cX1_takeNote 1 none, .fieldLink RX1 24 "PullCards$Loops" "line" "LPullCards$Line;", .fieldLink RX1 65 "PullCards$Line" "cards" "[I", .fieldLink RX1 21 "PullCards$Loops" "notedCards" "[I", .methodLink RX1 76 arraycopyName, .native arraycopyName, .static arraycopyName, .initialized "java/lang/System", .fieldLink RX1 72 "PullCards$Loops" "noteStands" "Z"] ++ wsX50 ++ wsX10 ++ wsX00)
def wsX5_audit : List Cond := .code yX5_audit cX5_audit 2 (some .int) :: ([.fieldLink RX5 21 "PullCards" "loops" "LPullCards$Loops;", .fieldLink RX5 137 "PullCards$Loops" "noteStands" "Z", .methodLink RX5 141 yX1_countChanged, .instanceMethod yX1_countChanged, .selects RX1 yX1_countChanged yX1_countChanged, .initialized RX1, .code yX1_countChanged cX1_countChanged 5 (some .int), .fieldLink RX1 28 "PullCards$Loops" "many" "I", .fieldLink RX1 24 "PullCards$Loops" "line" "LPullCards$Line;", .fieldLink RX1 65 "PullCards$Line" "cards" "[I", .fieldLink RX1 21 "PullCards$Loops" "notedCards" "[I", .methodLink RX1 68 yX1_cardsOf, .instanceMethod yX1_cardsOf, .selects RX1 yX1_cardsOf yX1_cardsOf, .code yX1_cardsOf cX1_cardsOf 5 (some .int), .fieldLink RX1 15 "PullCards$Loops" "lengths" "[I", .fieldLink RX1 11 "PullCards$Loops" "rows" "[I"] ++ wsX50 ++ wsX10 ++ wsX00)
def wsX5_cards_r1 : List Cond := [Cond.fieldLink RX5 10 "PullCards" "line" "LPullCards$Line;", Cond.fieldLink RX5 21 "PullCards" "loops" "LPullCards$Loops;", Cond.methodLink RX5 79 yX0_hasArc, Cond.instanceMethod yX0_hasArc, Cond.selects RX0 yX0_hasArc yX0_hasArc, Cond.initialized RX0, Cond.code yX0_hasArc cX0_hasArc 2 (some .boolean), Cond.fieldLink RX0 32 "PullCards$Line" "arcs" "I", Cond.static yX5_within, Cond.initialized RX5, Cond.code yX5_within cX5_within 3 (some .boolean), Cond.methodLink RX5 46 yX5_within, Cond.methodLink RX5 145 yX1_cardsToReach, Cond.instanceMethod yX1_cardsToReach, Cond.selects RX1 yX1_cardsToReach yX1_cardsToReach, Cond.initialized RX1, Cond.code yX1_cardsToReach cX1_cardsToReach 8 (some .int), Cond.fieldLink RX1 28 "PullCards$Loops" "many" "I", Cond.fieldLink RX1 24 "PullCards$Loops" "line" "LPullCards$Line;", Cond.fieldLink RX1 65 "PullCards$Line" "cards" "[I", Cond.methodLink RX1 86 Lib.Math.max.name, Cond.static Lib.Math.max.name, Cond.initialized "java/lang/Math", Cond.code Lib.Math.max.name Lib.Math.max.code 2 (some .int)]
def wsX5_cards_r2 : List Cond := [Cond.methodLink RX1 61 yX1_timeOf, Cond.instanceMethod yX1_timeOf, Cond.selects RX1 yX1_timeOf yX1_timeOf, Cond.code yX1_timeOf cX1_timeOf 4 (some .int), Cond.fieldLink RX1 15 "PullCards$Loops" "lengths" "[I", Cond.fieldLink RX1 58 "PullCards$Line" "times" "[I", Cond.fieldLink RX1 48 "PullCards$Line" "froms" "[I", Cond.fieldLink RX1 11 "PullCards$Loops" "rows" "[I", Cond.methodLink RX1 68 yX1_cardsOf, Cond.instanceMethod yX1_cardsOf, Cond.selects RX1 yX1_cardsOf yX1_cardsOf, Cond.code yX1_cardsOf cX1_cardsOf 5 (some .int), Cond.methodLink RX1 82 yX1_passes, Cond.instanceMethod yX1_passes, Cond.selects RX1 yX1_passes yX1_passes, Cond.code yX1_passes cX1_passes 4 (some .boolean)]
def wsX5_cards : List Cond := .code yX5_cards cX5_cards 4 (some .int) :: ((wsX5_cards_r1 ++ wsX5_cards_r2) ++ wsX50 ++ wsX00 ++ wsX10)
def wsX5_machine : List Cond := .code yX5_machine cX5_machine 5 (some .int) :: ([.fieldLink RX5 35 "PullCards" "pair" "LPullCards$Pair;", .fieldLink RX5 148 "PullCards$Pair" "breaks" "[I", .fieldLink RX5 151 "PullCards$Pair" "repairs" "[I", .methodLink RX5 46 yX5_within, .static yX5_within, .initialized RX5, .code yX5_within cX5_within 3 (some .boolean)] ++ wsX50 ++ wsX20)
def wsX5_store : List Cond := .code yX5_store cX5_store 3 (some .int) :: ([.fieldLink RX5 35 "PullCards" "pair" "LPullCards$Pair;", .fieldLink RX5 154 "PullCards$Pair" "room" "I", .methodLink RX5 46 yX5_within, .static yX5_within, .initialized RX5, .code yX5_within cX5_within 3 (some .boolean)] ++ wsX50 ++ wsX20)
def wsX5_given_r1 : List Cond := [Cond.constantLong RX5 157 (-2), Cond.fieldLink RX5 35 "PullCards" "pair" "LPullCards$Pair;", Cond.fieldLink RX5 154 "PullCards$Pair" "room" "I", Cond.methodLink RX5 46 yX5_within, Cond.static yX5_within, Cond.initialized RX5, Cond.code yX5_within cX5_within 3 (some .boolean), Cond.methodLink RX5 159 yX2_weighMean, Cond.instanceMethod yX2_weighMean, Cond.selects RX2 yX2_weighMean yX2_weighMean, Cond.initialized RX2, Cond.code yX2_weighMean cX2_weighMean 6 (some .long), Cond.constantLong RX2 31 (4), Cond.methodLink RX2 28 yX2_start, Cond.instanceMethod yX2_start, Cond.selects RX2 yX2_start yX2_start, Cond.code yX2_start cX2_start 5 none, Cond.fieldLink RX2 18 "PullCards$Pair" "changeWeights" "[I", Cond.fieldLink RX2 21 "PullCards$Pair" "weights" "[J", Cond.methodLink RX2 45 yX2_quartersOf, Cond.instanceMethod yX2_quartersOf, Cond.selects RX2 yX2_quartersOf yX2_quartersOf, Cond.code yX2_quartersOf cX2_quartersOf 5 (some .int), Cond.fieldLink RX2 9 "PullCards$Pair" "breaks" "[I"]
def wsX5_given_r2 : List Cond := [Cond.fieldLink RX2 15 "PullCards$Pair" "repairs" "[I", Cond.methodLink RX2 49 yJ7_fill_d0a16, Cond.static yJ7_fill_d0a16, Cond.initialized RJ7, Cond.code yJ7_fill_d0a16 cJ7_fill_d0a16 5 none, Cond.methodLink RX2 41 yX2_cell, Cond.static yX2_cell, Cond.code yX2_cell cX2_cell 3 (some .int), Cond.methodLink RX2 33 yX2_runTick, Cond.instanceMethod yX2_runTick, Cond.selects RX2 yX2_runTick yX2_runTick, Cond.code yX2_runTick cX2_runTick 9 (some .long), Cond.fieldLink RX2 25 "PullCards$Pair" "nextWeights" "[J", Cond.methodLink RX2 55 yX2_spread, Cond.instanceMethod yX2_spread, Cond.selects RX2 yX2_spread yX2_spread, Cond.code yX2_spread cX2_spread 16 (some .long), Cond.methodLink RX2 59 yX2_gives, Cond.static yX2_gives, Cond.code yX2_gives cX2_gives 2 (some .int), Cond.methodLink RX2 63 yX2_levelAfter, Cond.static yX2_levelAfter, Cond.code yX2_levelAfter cX2_levelAfter 3 (some .int), Cond.methodLink RX2 66 Lib.Math.min.name]
def wsX5_given_r3 : List Cond := [Cond.static Lib.Math.min.name, Cond.initialized "java/lang/Math", Cond.code Lib.Math.min.name Lib.Math.min.code 2 (some .int), Cond.methodLink RX2 71 Lib.Math.max.name, Cond.static Lib.Math.max.name, Cond.code Lib.Math.max.name Lib.Math.max.code 2 (some .int), Cond.methodLink RX5 163 yX2_weightInAll, Cond.static yX2_weightInAll, Cond.code yX2_weightInAll cX2_weightInAll 1 (some .long), Cond.methodLink RX5 127 yX5_inLeastTerms, Cond.static yX5_inLeastTerms, Cond.code yX5_inLeastTerms cX5_inLeastTerms 7 (some .long), Cond.methodLink RX5 191 yX5_commonDivisor, Cond.static yX5_commonDivisor, Cond.code yX5_commonDivisor cX5_commonDivisor 11 (some .long), Cond.methodLink RX5 195 Lib.MathLoose.max_long.x, Cond.static Lib.MathLoose.max_long.x, Cond.code Lib.MathLoose.max_long.x Lib.MathLoose.max_long.code 4 (some .long)]
def wsX5_given : List Cond := .code yX5_given cX5_given 3 (some .long) :: ((wsX5_given_r1 ++ (wsX5_given_r2 ++ wsX5_given_r3)) ++ wsX50 ++ wsX20)
def wsX5_just_r1 : List Cond := [Cond.constantLong RX5 157 (-2), Cond.fieldLink RX5 35 "PullCards" "pair" "LPullCards$Pair;", Cond.methodLink RX5 46 yX5_within, Cond.static yX5_within, Cond.initialized RX5, Cond.code yX5_within cX5_within 3 (some .boolean), Cond.methodLink RX5 167 yX2_weighCount, Cond.instanceMethod yX2_weighCount, Cond.selects RX2 yX2_weighCount yX2_weighCount, Cond.initialized RX2, Cond.code yX2_weighCount cX2_weighCount 7 (some .long), Cond.fieldLink RX2 37 "PullCards$Pair" "room" "I", Cond.fieldLink RX2 21 "PullCards$Pair" "weights" "[J", Cond.methodLink RX2 28 yX2_start, Cond.instanceMethod yX2_start, Cond.selects RX2 yX2_start yX2_start, Cond.code yX2_start cX2_start 5 none, Cond.fieldLink RX2 18 "PullCards$Pair" "changeWeights" "[I", Cond.methodLink RX2 45 yX2_quartersOf, Cond.instanceMethod yX2_quartersOf, Cond.selects RX2 yX2_quartersOf yX2_quartersOf, Cond.code yX2_quartersOf cX2_quartersOf 5 (some .int), Cond.fieldLink RX2 9 "PullCards$Pair" "breaks" "[I", Cond.fieldLink RX2 15 "PullCards$Pair" "repairs" "[I"]
def wsX5_just_r2 : List Cond := [Cond.methodLink RX2 49 yJ7_fill_d0a16, Cond.static yJ7_fill_d0a16, Cond.initialized RJ7, Cond.code yJ7_fill_d0a16 cJ7_fill_d0a16 5 none, Cond.methodLink RX2 41 yX2_cell, Cond.static yX2_cell, Cond.code yX2_cell cX2_cell 3 (some .int), Cond.methodLink RX2 33 yX2_runTick, Cond.instanceMethod yX2_runTick, Cond.selects RX2 yX2_runTick yX2_runTick, Cond.code yX2_runTick cX2_runTick 9 (some .long), Cond.fieldLink RX2 25 "PullCards$Pair" "nextWeights" "[J", Cond.methodLink RX2 55 yX2_spread, Cond.instanceMethod yX2_spread, Cond.selects RX2 yX2_spread yX2_spread, Cond.code yX2_spread cX2_spread 16 (some .long), Cond.methodLink RX2 59 yX2_gives, Cond.static yX2_gives, Cond.code yX2_gives cX2_gives 2 (some .int), Cond.methodLink RX2 63 yX2_levelAfter, Cond.static yX2_levelAfter, Cond.code yX2_levelAfter cX2_levelAfter 3 (some .int), Cond.methodLink RX2 66 Lib.Math.min.name, Cond.static Lib.Math.min.name]
def wsX5_just_r3 : List Cond := [Cond.initialized "java/lang/Math", Cond.code Lib.Math.min.name Lib.Math.min.code 2 (some .int), Cond.methodLink RX2 71 Lib.Math.max.name, Cond.static Lib.Math.max.name, Cond.code Lib.Math.max.name Lib.Math.max.code 2 (some .int), Cond.methodLink RX5 163 yX2_weightInAll, Cond.static yX2_weightInAll, Cond.code yX2_weightInAll cX2_weightInAll 1 (some .long), Cond.methodLink RX5 127 yX5_inLeastTerms, Cond.static yX5_inLeastTerms, Cond.code yX5_inLeastTerms cX5_inLeastTerms 7 (some .long), Cond.methodLink RX5 191 yX5_commonDivisor, Cond.static yX5_commonDivisor, Cond.code yX5_commonDivisor cX5_commonDivisor 11 (some .long), Cond.methodLink RX5 195 Lib.MathLoose.max_long.x, Cond.static Lib.MathLoose.max_long.x, Cond.code Lib.MathLoose.max_long.x Lib.MathLoose.max_long.code 4 (some .long)]
def wsX5_just : List Cond := .code yX5_just cX5_just 4 (some .long) :: ((wsX5_just_r1 ++ (wsX5_just_r2 ++ wsX5_just_r3)) ++ wsX50 ++ wsX20)
def wsX5_least_r1 : List Cond := [Cond.fieldLink RX5 35 "PullCards" "pair" "LPullCards$Pair;", Cond.methodLink RX5 46 yX5_within, Cond.static yX5_within, Cond.initialized RX5, Cond.code yX5_within cX5_within 3 (some .boolean), Cond.methodLink RX5 163 yX2_weightInAll, Cond.static yX2_weightInAll, Cond.initialized RX2, Cond.code yX2_weightInAll cX2_weightInAll 1 (some .long), Cond.methodLink RX5 159 yX2_weighMean, Cond.instanceMethod yX2_weighMean, Cond.selects RX2 yX2_weighMean yX2_weighMean, Cond.code yX2_weighMean cX2_weighMean 6 (some .long), Cond.constantLong RX2 31 (4), Cond.methodLink RX2 28 yX2_start, Cond.instanceMethod yX2_start, Cond.selects RX2 yX2_start yX2_start, Cond.code yX2_start cX2_start 5 none, Cond.fieldLink RX2 18 "PullCards$Pair" "changeWeights" "[I", Cond.fieldLink RX2 21 "PullCards$Pair" "weights" "[J", Cond.methodLink RX2 45 yX2_quartersOf, Cond.instanceMethod yX2_quartersOf, Cond.selects RX2 yX2_quartersOf yX2_quartersOf, Cond.code yX2_quartersOf cX2_quartersOf 5 (some .int)]
def wsX5_least_r2 : List Cond := [Cond.fieldLink RX2 9 "PullCards$Pair" "breaks" "[I", Cond.fieldLink RX2 15 "PullCards$Pair" "repairs" "[I", Cond.methodLink RX2 49 yJ7_fill_d0a16, Cond.static yJ7_fill_d0a16, Cond.initialized RJ7, Cond.code yJ7_fill_d0a16 cJ7_fill_d0a16 5 none, Cond.methodLink RX2 41 yX2_cell, Cond.static yX2_cell, Cond.code yX2_cell cX2_cell 3 (some .int), Cond.methodLink RX2 33 yX2_runTick, Cond.instanceMethod yX2_runTick, Cond.selects RX2 yX2_runTick yX2_runTick, Cond.code yX2_runTick cX2_runTick 9 (some .long), Cond.fieldLink RX2 25 "PullCards$Pair" "nextWeights" "[J", Cond.methodLink RX2 55 yX2_spread, Cond.instanceMethod yX2_spread, Cond.selects RX2 yX2_spread yX2_spread, Cond.code yX2_spread cX2_spread 16 (some .long), Cond.methodLink RX2 59 yX2_gives, Cond.static yX2_gives, Cond.code yX2_gives cX2_gives 2 (some .int), Cond.methodLink RX2 63 yX2_levelAfter, Cond.static yX2_levelAfter, Cond.code yX2_levelAfter cX2_levelAfter 3 (some .int)]
def wsX5_least_r3 : List Cond := [Cond.methodLink RX2 66 Lib.Math.min.name, Cond.static Lib.Math.min.name, Cond.initialized "java/lang/Math", Cond.code Lib.Math.min.name Lib.Math.min.code 2 (some .int), Cond.methodLink RX2 71 Lib.Math.max.name, Cond.static Lib.Math.max.name, Cond.code Lib.Math.max.name Lib.Math.max.code 2 (some .int)]
def wsX5_least : List Cond := .code yX5_least cX5_least 7 (some .int) :: ((wsX5_least_r1 ++ (wsX5_least_r2 ++ wsX5_least_r3)) ++ wsX50 ++ wsX20)
def wsX5_demand_r1 : List Cond := [Cond.fieldLink RX5 42 "PullCards" "row" "LPullCards$Row;", Cond.fieldLink RX5 170 "PullCards$Row" "demands" "[I", Cond.methodLink RX5 46 yX5_within, Cond.static yX5_within, Cond.initialized RX5, Cond.code yX5_within cX5_within 3 (some .boolean), Cond.methodLink RX5 173 yX3_lay, Cond.instanceMethod yX3_lay, Cond.selects RX3 yX3_lay yX3_lay, Cond.initialized RX3, Cond.code yX3_lay cX3_lay 3 none, Cond.fieldLink RX3 21 "PullCards$Row" "length" "I", Cond.fieldLink RX3 9 "PullCards$Row" "demands" "[I", Cond.fieldLink RX3 15 "PullCards$Row" "came" "[I", Cond.fieldLink RX3 25 "PullCards$Row" "farthest" "I", Cond.fieldLink RX3 28 "PullCards$Row" "turns" "I", Cond.fieldLink RX3 18 "PullCards$Row" "kinds" "[I", Cond.methodLink RX3 38 Lib.Math.max.name, Cond.static Lib.Math.max.name, Cond.initialized "java/lang/Math", Cond.code Lib.Math.max.name Lib.Math.max.code 2 (some .int), Cond.methodLink RX3 31 yX3_nextKind, Cond.instanceMethod yX3_nextKind, Cond.selects RX3 yX3_nextKind yX3_nextKind]
def wsX5_demand_r2 : List Cond := [Cond.code yX3_nextKind cX3_nextKind 7 (some .int), Cond.methodLink RX3 35 yX3_farthestAfter, Cond.instanceMethod yX3_farthestAfter, Cond.selects RX3 yX3_farthestAfter yX3_farthestAfter, Cond.code yX3_farthestAfter cX3_farthestAfter 4 (some .int), Cond.methodLink RX3 44 Lib.Math.abs.name, Cond.static Lib.Math.abs.name, Cond.code Lib.Math.abs.name Lib.Math.abs.code 1 (some .int)]
def wsX5_demand : List Cond := .code yX5_demand cX5_demand 4 (some .int) :: ((wsX5_demand_r1 ++ wsX5_demand_r2) ++ wsX50 ++ wsX30)
def wsX5_at : List Cond := .code yX5_at cX5_at 2 (some .int) :: ([.fieldLink RX5 42 "PullCards" "row" "LPullCards$Row;", .fieldLink RX5 176 "PullCards$Row" "length" "I", .fieldLink RX5 179 "PullCards$Row" "kinds" "[I", .methodLink RX5 46 yX5_within, .static yX5_within, .initialized RX5, .code yX5_within cX5_within 3 (some .boolean)] ++ wsX50 ++ wsX30)
def wsX5_rough : List Cond := .code yX5_rough cX5_rough 1 (some .int) :: ([.fieldLink RX5 42 "PullCards" "row" "LPullCards$Row;", .fieldLink RX5 182 "PullCards$Row" "farthest" "I"] ++ wsX50 ++ wsX30)
def wsX5_changes : List Cond := .code yX5_changes cX5_changes 1 (some .int) :: ([.fieldLink RX5 42 "PullCards" "row" "LPullCards$Row;", .fieldLink RX5 185 "PullCards$Row" "turns" "I"] ++ wsX50 ++ wsX30)
def wsX5_total : List Cond := .code yX5_total cX5_total 2 (some .int) :: ([.fieldLink RX5 10 "PullCards" "line" "LPullCards$Line;", .fieldLink RX5 50 "PullCards$Line" "stations" "I", .fieldLink RX5 65 "PullCards$Line" "arcs" "I", .fieldLink RX5 35 "PullCards" "pair" "LPullCards$Pair;", .fieldLink RX5 154 "PullCards$Pair" "room" "I", .fieldLink RX5 42 "PullCards" "row" "LPullCards$Row;", .fieldLink RX5 176 "PullCards$Row" "length" "I", .methodLink RX5 188 yX0_countCards, .instanceMethod yX0_countCards, .selects RX0 yX0_countCards yX0_countCards, .initialized RX0, .code yX0_countCards cX0_countCards 3 (some .int), .fieldLink RX0 32 "PullCards$Line" "arcs" "I", .fieldLink RX0 21 "PullCards$Line" "cards" "[I", .methodLink RX5 101 yX0_countReady, .instanceMethod yX0_countReady, .selects RX0 yX0_countReady yX0_countReady, .code yX0_countReady cX0_countReady 3 (some .int), .fieldLink RX0 24 "PullCards$Line" "stations" "I", .methodLink RX0 35 yX0_isReady, .instanceMethod yX0_isReady, .selects RX0 yX0_isReady yX0_isReady, .code yX0_isReady cX0_isReady 3 (some .boolean), .fieldLink RX0 18 "PullCards$Line" "tos" "[I"] ++ wsX50 ++ wsX00 ++ wsX20 ++ wsX30)
def wsX6_init : List Cond := .code yX6_init cX6_init 1 none :: ([.methodLink RX6 1 objectInit, .instanceMethod objectInit, .code objectInit ⟨#[0xb1]⟩ 1 none, .arrayClass .int, .fieldLink RX6 7 "PullCardsModel" "time" "[I", .fieldLink RX6 13 "PullCardsModel" "from" "[I", .fieldLink RX6 16 "PullCardsModel" "to" "[I", .fieldLink RX6 19 "PullCardsModel" "cards" "[I", .fieldLink RX6 22 "PullCardsModel" "loopArc" "[I", .fieldLink RX6 25 "PullCardsModel" "loopLong" "[I", .fieldLink RX6 28 "PullCardsModel" "path" "[I", .fieldLink RX6 31 "PullCardsModel" "begin" "[I", .fieldLink RX6 34 "PullCardsModel" "notedCards" "[I", .fieldLink RX6 37 "PullCardsModel" "breaks" "[I", .fieldLink RX6 40 "PullCardsModel" "mends" "[I", .arrayClass .long, .fieldLink RX6 43 "PullCardsModel" "weight" "[J", .fieldLink RX6 47 "PullCardsModel" "next" "[J", .fieldLink RX6 50 "PullCardsModel" "demand" "[I", .fieldLink RX6 53 "PullCardsModel" "came" "[I", .fieldLink RX6 56 "PullCardsModel" "row" "[I"] ++ wsX60)
def wsX6_in : List Cond := .code yX6_in cX6_in 6 (some .boolean) :: ([])
def wsX6_isStation : List Cond := .code yX6_isStation cX6_isStation 2 (some .boolean) :: ([.fieldLink RX6 59 "PullCardsModel" "stations" "I", .methodLink RX6 63 yX6_in, .static yX6_in, .initialized RX6, .code yX6_in cX6_in 6 (some .boolean)] ++ wsX60)
def wsX6_isArc : List Cond := .code yX6_isArc cX6_isArc 2 (some .boolean) :: ([.fieldLink RX6 67 "PullCardsModel" "arcs" "I", .methodLink RX6 63 yX6_in, .static yX6_in, .initialized RX6, .code yX6_in cX6_in 6 (some .boolean)] ++ wsX60)
def wsX6_station : List Cond := .code yX6_station cX6_station 2 (some .int) :: ([.constantLong RX6 70 (20), .fieldLink RX6 59 "PullCardsModel" "stations" "I", .fieldLink RX6 7 "PullCardsModel" "time" "[I", .fieldLink RX6 72 "PullCardsModel" "isNoted" "Z", .methodLink RX6 63 yX6_in, .static yX6_in, .initialized RX6, .code yX6_in cX6_in 6 (some .boolean)] ++ wsX60)
def wsX6_arc : List Cond := .code yX6_arc cX6_arc 4 (some .int) :: ([.constantLong RX6 80 (9), .fieldLink RX6 67 "PullCardsModel" "arcs" "I", .fieldLink RX6 13 "PullCardsModel" "from" "[I", .fieldLink RX6 16 "PullCardsModel" "to" "[I", .fieldLink RX6 19 "PullCardsModel" "cards" "[I", .fieldLink RX6 72 "PullCardsModel" "isNoted" "Z", .methodLink RX6 76 yX6_isStation, .instanceMethod yX6_isStation, .selects RX6 yX6_isStation yX6_isStation, .initialized RX6, .code yX6_isStation cX6_isStation 2 (some .boolean), .fieldLink RX6 59 "PullCardsModel" "stations" "I", .methodLink RX6 63 yX6_in, .static yX6_in, .code yX6_in cX6_in 6 (some .boolean)] ++ wsX60)
def wsX6_time : List Cond := .code yX6_time cX6_time 4 (some .int) :: ([.constantLong RX6 70 (20), .fieldLink RX6 7 "PullCardsModel" "time" "[I", .methodLink RX6 76 yX6_isStation, .instanceMethod yX6_isStation, .selects RX6 yX6_isStation yX6_isStation, .initialized RX6, .code yX6_isStation cX6_isStation 2 (some .boolean), .fieldLink RX6 59 "PullCardsModel" "stations" "I", .methodLink RX6 63 yX6_in, .static yX6_in, .code yX6_in cX6_in 6 (some .boolean)] ++ wsX60)
def wsX6_put : List Cond := .code yX6_put cX6_put 4 (some .int) :: ([.constantLong RX6 80 (9), .fieldLink RX6 19 "PullCardsModel" "cards" "[I", .methodLink RX6 82 yX6_isArc, .instanceMethod yX6_isArc, .selects RX6 yX6_isArc yX6_isArc, .initialized RX6, .code yX6_isArc cX6_isArc 2 (some .boolean), .fieldLink RX6 67 "PullCardsModel" "arcs" "I", .methodLink RX6 63 yX6_in, .static yX6_in, .code yX6_in cX6_in 6 (some .boolean)] ++ wsX60)
def wsX6_about : List Cond := .code yX6_about cX6_about 3 (some .int) :: ([.fieldLink RX6 13 "PullCardsModel" "from" "[I", .fieldLink RX6 16 "PullCardsModel" "to" "[I", .fieldLink RX6 19 "PullCardsModel" "cards" "[I", .methodLink RX6 82 yX6_isArc, .instanceMethod yX6_isArc, .selects RX6 yX6_isArc yX6_isArc, .initialized RX6, .code yX6_isArc cX6_isArc 2 (some .boolean), .fieldLink RX6 67 "PullCardsModel" "arcs" "I", .methodLink RX6 63 yX6_in, .static yX6_in, .code yX6_in cX6_in 6 (some .boolean)] ++ wsX60)
def wsX6_isReady : List Cond := .code yX6_isReady cX6_isReady 4 (some .boolean) :: ([.fieldLink RX6 67 "PullCardsModel" "arcs" "I", .fieldLink RX6 16 "PullCardsModel" "to" "[I", .fieldLink RX6 19 "PullCardsModel" "cards" "[I"] ++ wsX60)
def wsX6_hasRoom : List Cond := .code yX6_hasRoom cX6_hasRoom 4 (some .boolean) :: ([.fieldLink RX6 67 "PullCardsModel" "arcs" "I", .fieldLink RX6 13 "PullCardsModel" "from" "[I", .fieldLink RX6 16 "PullCardsModel" "to" "[I", .fieldLink RX6 19 "PullCardsModel" "cards" "[I"] ++ wsX60)
def wsX6_fires : List Cond := .code yX6_fires cX6_fires 3 none :: ([.fieldLink RX6 67 "PullCardsModel" "arcs" "I", .fieldLink RX6 19 "PullCardsModel" "cards" "[I", .fieldLink RX6 13 "PullCardsModel" "from" "[I", .fieldLink RX6 16 "PullCardsModel" "to" "[I"] ++ wsX60)
def wsX6_readyMany : List Cond := .code yX6_readyMany cX6_readyMany 3 (some .int) :: ([.fieldLink RX6 59 "PullCardsModel" "stations" "I", .methodLink RX6 85 yX6_isReady, .instanceMethod yX6_isReady, .selects RX6 yX6_isReady yX6_isReady, .initialized RX6, .code yX6_isReady cX6_isReady 4 (some .boolean), .fieldLink RX6 67 "PullCardsModel" "arcs" "I", .fieldLink RX6 16 "PullCardsModel" "to" "[I", .fieldLink RX6 19 "PullCardsModel" "cards" "[I"] ++ wsX60)
def wsX6_ready : List Cond := .code yX6_ready cX6_ready 2 (some .int) :: ([.methodLink RX6 76 yX6_isStation, .instanceMethod yX6_isStation, .selects RX6 yX6_isStation yX6_isStation, .initialized RX6, .code yX6_isStation cX6_isStation 2 (some .boolean), .fieldLink RX6 59 "PullCardsModel" "stations" "I", .methodLink RX6 63 yX6_in, .static yX6_in, .code yX6_in cX6_in 6 (some .boolean), .methodLink RX6 85 yX6_isReady, .instanceMethod yX6_isReady, .selects RX6 yX6_isReady yX6_isReady, .code yX6_isReady cX6_isReady 4 (some .boolean), .fieldLink RX6 67 "PullCardsModel" "arcs" "I", .fieldLink RX6 16 "PullCardsModel" "to" "[I", .fieldLink RX6 19 "PullCardsModel" "cards" "[I"] ++ wsX60)
def wsX6_fire_r1 : List Cond := [Cond.methodLink RX6 76 yX6_isStation, Cond.instanceMethod yX6_isStation, Cond.selects RX6 yX6_isStation yX6_isStation, Cond.initialized RX6, Cond.code yX6_isStation cX6_isStation 2 (some .boolean), Cond.fieldLink RX6 59 "PullCardsModel" "stations" "I", Cond.methodLink RX6 63 yX6_in, Cond.static yX6_in, Cond.code yX6_in cX6_in 6 (some .boolean), Cond.methodLink RX6 85 yX6_isReady, Cond.instanceMethod yX6_isReady, Cond.selects RX6 yX6_isReady yX6_isReady, Cond.code yX6_isReady cX6_isReady 4 (some .boolean), Cond.fieldLink RX6 67 "PullCardsModel" "arcs" "I", Cond.fieldLink RX6 16 "PullCardsModel" "to" "[I", Cond.fieldLink RX6 19 "PullCardsModel" "cards" "[I", Cond.methodLink RX6 88 yX6_hasRoom, Cond.instanceMethod yX6_hasRoom, Cond.selects RX6 yX6_hasRoom yX6_hasRoom, Cond.code yX6_hasRoom cX6_hasRoom 4 (some .boolean), Cond.fieldLink RX6 13 "PullCardsModel" "from" "[I", Cond.methodLink RX6 91 yX6_fires, Cond.instanceMethod yX6_fires, Cond.selects RX6 yX6_fires yX6_fires]
def wsX6_fire_r2 : List Cond := [Cond.code yX6_fires cX6_fires 3 none, Cond.methodLink RX6 95 yX6_readyMany, Cond.instanceMethod yX6_readyMany, Cond.selects RX6 yX6_readyMany yX6_readyMany, Cond.code yX6_readyMany cX6_readyMany 3 (some .int)]
def wsX6_fire : List Cond := .code yX6_fire cX6_fire 2 (some .int) :: ((wsX6_fire_r1 ++ wsX6_fire_r2) ++ wsX60)
def wsX6_round : List Cond := .code yX6_round cX6_round 3 (some .int) :: ([.fieldLink RX6 59 "PullCardsModel" "stations" "I", .methodLink RX6 85 yX6_isReady, .instanceMethod yX6_isReady, .selects RX6 yX6_isReady yX6_isReady, .initialized RX6, .code yX6_isReady cX6_isReady 4 (some .boolean), .fieldLink RX6 67 "PullCardsModel" "arcs" "I", .fieldLink RX6 16 "PullCardsModel" "to" "[I", .fieldLink RX6 19 "PullCardsModel" "cards" "[I", .methodLink RX6 88 yX6_hasRoom, .instanceMethod yX6_hasRoom, .selects RX6 yX6_hasRoom yX6_hasRoom, .code yX6_hasRoom cX6_hasRoom 4 (some .boolean), .fieldLink RX6 13 "PullCardsModel" "from" "[I", .methodLink RX6 91 yX6_fires, .instanceMethod yX6_fires, .selects RX6 yX6_fires yX6_fires, .code yX6_fires cX6_fires 3 none] ++ wsX60)
def wsX6_keep : List Cond := .code yX6_keep cX6_keep 3 none :: ([.fieldLink RX6 99 "PullCardsModel" "loops" "I", .fieldLink RX6 22 "PullCardsModel" "loopArc" "[I", .fieldLink RX6 28 "PullCardsModel" "path" "[I", .fieldLink RX6 25 "PullCardsModel" "loopLong" "[I"] ++ wsX60)
def wsX6_mayGo : List Cond := .code yX6_mayGo cX6_mayGo 7 (some .boolean) :: ([.fieldLink RX6 13 "PullCardsModel" "from" "[I", .fieldLink RX6 16 "PullCardsModel" "to" "[I", .fieldLink RX6 28 "PullCardsModel" "path" "[I"] ++ wsX60)
def wsX6_find : List Cond := .code yX6_find cX6_find 5 none :: ([.fieldLink RX6 99 "PullCardsModel" "loops" "I", .fieldLink RX6 59 "PullCardsModel" "stations" "I", .fieldLink RX6 67 "PullCardsModel" "arcs" "I", .fieldLink RX6 16 "PullCardsModel" "to" "[I", .fieldLink RX6 28 "PullCardsModel" "path" "[I", .methodLink RX6 102 yX6_mayGo, .instanceMethod yX6_mayGo, .selects RX6 yX6_mayGo yX6_mayGo, .initialized RX6, .code yX6_mayGo cX6_mayGo 7 (some .boolean), .fieldLink RX6 13 "PullCardsModel" "from" "[I", .methodLink RX6 106 yX6_keep, .instanceMethod yX6_keep, .selects RX6 yX6_keep yX6_keep, .code yX6_keep cX6_keep 3 none, .fieldLink RX6 22 "PullCardsModel" "loopArc" "[I", .fieldLink RX6 25 "PullCardsModel" "loopLong" "[I"] ++ wsX60)
def wsX6_cardsOf : List Cond := .code yX6_cardsOf cX6_cardsOf 4 (some .int) :: ([.fieldLink RX6 25 "PullCardsModel" "loopLong" "[I", .fieldLink RX6 19 "PullCardsModel" "cards" "[I", .fieldLink RX6 22 "PullCardsModel" "loopArc" "[I"] ++ wsX60)
def wsX6_timeOf : List Cond := .code yX6_timeOf cX6_timeOf 4 (some .int) :: ([.fieldLink RX6 25 "PullCardsModel" "loopLong" "[I", .fieldLink RX6 7 "PullCardsModel" "time" "[I", .fieldLink RX6 13 "PullCardsModel" "from" "[I", .fieldLink RX6 22 "PullCardsModel" "loopArc" "[I"] ++ wsX60)
def wsX6_loops : List Cond := .code yX6_loops cX6_loops 1 (some .int) :: ([.fieldLink RX6 99 "PullCardsModel" "loops" "I", .methodLink RX6 109 yX6_find, .instanceMethod yX6_find, .selects RX6 yX6_find yX6_find, .initialized RX6, .code yX6_find cX6_find 5 none, .fieldLink RX6 59 "PullCardsModel" "stations" "I", .fieldLink RX6 67 "PullCardsModel" "arcs" "I", .fieldLink RX6 16 "PullCardsModel" "to" "[I", .fieldLink RX6 28 "PullCardsModel" "path" "[I", .methodLink RX6 102 yX6_mayGo, .instanceMethod yX6_mayGo, .selects RX6 yX6_mayGo yX6_mayGo, .code yX6_mayGo cX6_mayGo 7 (some .boolean), .fieldLink RX6 13 "PullCardsModel" "from" "[I", .methodLink RX6 106 yX6_keep, .instanceMethod yX6_keep, .selects RX6 yX6_keep yX6_keep, .code yX6_keep cX6_keep 3 none, .fieldLink RX6 22 "PullCardsModel" "loopArc" "[I", .fieldLink RX6 25 "PullCardsModel" "loopLong" "[I"] ++ wsX60)
def wsX6_loop : List Cond := .code yX6_loop cX6_loop 3 (some .int) :: ([.fieldLink RX6 99 "PullCardsModel" "loops" "I", .fieldLink RX6 25 "PullCardsModel" "loopLong" "[I", .fieldLink RX6 22 "PullCardsModel" "loopArc" "[I", .methodLink RX6 109 yX6_find, .instanceMethod yX6_find, .selects RX6 yX6_find yX6_find, .initialized RX6, .code yX6_find cX6_find 5 none, .fieldLink RX6 59 "PullCardsModel" "stations" "I", .fieldLink RX6 67 "PullCardsModel" "arcs" "I", .fieldLink RX6 16 "PullCardsModel" "to" "[I", .fieldLink RX6 28 "PullCardsModel" "path" "[I", .methodLink RX6 102 yX6_mayGo, .instanceMethod yX6_mayGo, .selects RX6 yX6_mayGo yX6_mayGo, .code yX6_mayGo cX6_mayGo 7 (some .boolean), .fieldLink RX6 13 "PullCardsModel" "from" "[I", .methodLink RX6 106 yX6_keep, .instanceMethod yX6_keep, .selects RX6 yX6_keep yX6_keep, .code yX6_keep cX6_keep 3 none, .methodLink RX6 63 yX6_in, .static yX6_in, .code yX6_in cX6_in 6 (some .boolean)] ++ wsX60)
def wsX6_sum_r1 : List Cond := [Cond.fieldLink RX6 99 "PullCardsModel" "loops" "I", Cond.methodLink RX6 109 yX6_find, Cond.instanceMethod yX6_find, Cond.selects RX6 yX6_find yX6_find, Cond.initialized RX6, Cond.code yX6_find cX6_find 5 none, Cond.fieldLink RX6 59 "PullCardsModel" "stations" "I", Cond.fieldLink RX6 67 "PullCardsModel" "arcs" "I", Cond.fieldLink RX6 16 "PullCardsModel" "to" "[I", Cond.fieldLink RX6 28 "PullCardsModel" "path" "[I", Cond.methodLink RX6 102 yX6_mayGo, Cond.instanceMethod yX6_mayGo, Cond.selects RX6 yX6_mayGo yX6_mayGo, Cond.code yX6_mayGo cX6_mayGo 7 (some .boolean), Cond.fieldLink RX6 13 "PullCardsModel" "from" "[I", Cond.methodLink RX6 106 yX6_keep, Cond.instanceMethod yX6_keep, Cond.selects RX6 yX6_keep yX6_keep, Cond.code yX6_keep cX6_keep 3 none, Cond.fieldLink RX6 22 "PullCardsModel" "loopArc" "[I", Cond.fieldLink RX6 25 "PullCardsModel" "loopLong" "[I", Cond.methodLink RX6 63 yX6_in, Cond.static yX6_in, Cond.code yX6_in cX6_in 6 (some .boolean)]
def wsX6_sum_r2 : List Cond := [Cond.methodLink RX6 112 yX6_cardsOf, Cond.instanceMethod yX6_cardsOf, Cond.selects RX6 yX6_cardsOf yX6_cardsOf, Cond.code yX6_cardsOf cX6_cardsOf 4 (some .int), Cond.fieldLink RX6 19 "PullCardsModel" "cards" "[I", Cond.methodLink RX6 116 yX6_timeOf, Cond.instanceMethod yX6_timeOf, Cond.selects RX6 yX6_timeOf yX6_timeOf, Cond.code yX6_timeOf cX6_timeOf 4 (some .int), Cond.fieldLink RX6 7 "PullCardsModel" "time" "[I"]
def wsX6_sum : List Cond := .code yX6_sum cX6_sum 3 (some .int) :: ((wsX6_sum_r1 ++ wsX6_sum_r2) ++ wsX60)
def wsX6_slow : List Cond := .code yX6_slow cX6_slow 3 (some .int) :: ([.fieldLink RX6 99 "PullCardsModel" "loops" "I", .methodLink RX6 112 yX6_cardsOf, .instanceMethod yX6_cardsOf, .selects RX6 yX6_cardsOf yX6_cardsOf, .initialized RX6, .code yX6_cardsOf cX6_cardsOf 4 (some .int), .fieldLink RX6 25 "PullCardsModel" "loopLong" "[I", .fieldLink RX6 19 "PullCardsModel" "cards" "[I", .fieldLink RX6 22 "PullCardsModel" "loopArc" "[I", .methodLink RX6 116 yX6_timeOf, .instanceMethod yX6_timeOf, .selects RX6 yX6_timeOf yX6_timeOf, .code yX6_timeOf cX6_timeOf 4 (some .int), .fieldLink RX6 7 "PullCardsModel" "time" "[I", .fieldLink RX6 13 "PullCardsModel" "from" "[I"] ++ wsX60)
def wsX6_common : List Cond := .code yX6_common cX6_common 10 (some .long) :: ([])
def wsX6_fraction : List Cond := .code yX6_fraction cX6_fraction 7 (some .long) :: ([.methodLink RX6 119 yX6_common, .static yX6_common, .initialized RX6, .code yX6_common cX6_common 10 (some .long)])
def wsX6_pace_r1 : List Cond := [Cond.constantLong RX6 126 (-9), Cond.methodLink RX6 109 yX6_find, Cond.instanceMethod yX6_find, Cond.selects RX6 yX6_find yX6_find, Cond.initialized RX6, Cond.code yX6_find cX6_find 5 none, Cond.fieldLink RX6 99 "PullCardsModel" "loops" "I", Cond.fieldLink RX6 59 "PullCardsModel" "stations" "I", Cond.fieldLink RX6 67 "PullCardsModel" "arcs" "I", Cond.fieldLink RX6 16 "PullCardsModel" "to" "[I", Cond.fieldLink RX6 28 "PullCardsModel" "path" "[I", Cond.methodLink RX6 102 yX6_mayGo, Cond.instanceMethod yX6_mayGo, Cond.selects RX6 yX6_mayGo yX6_mayGo, Cond.code yX6_mayGo cX6_mayGo 7 (some .boolean), Cond.fieldLink RX6 13 "PullCardsModel" "from" "[I", Cond.methodLink RX6 106 yX6_keep, Cond.instanceMethod yX6_keep, Cond.selects RX6 yX6_keep yX6_keep, Cond.code yX6_keep cX6_keep 3 none, Cond.fieldLink RX6 22 "PullCardsModel" "loopArc" "[I", Cond.fieldLink RX6 25 "PullCardsModel" "loopLong" "[I", Cond.methodLink RX6 123 yX6_slow, Cond.instanceMethod yX6_slow]
def wsX6_pace_r2 : List Cond := [Cond.selects RX6 yX6_slow yX6_slow, Cond.code yX6_slow cX6_slow 3 (some .int), Cond.methodLink RX6 112 yX6_cardsOf, Cond.instanceMethod yX6_cardsOf, Cond.selects RX6 yX6_cardsOf yX6_cardsOf, Cond.code yX6_cardsOf cX6_cardsOf 4 (some .int), Cond.fieldLink RX6 19 "PullCardsModel" "cards" "[I", Cond.methodLink RX6 116 yX6_timeOf, Cond.instanceMethod yX6_timeOf, Cond.selects RX6 yX6_timeOf yX6_timeOf, Cond.code yX6_timeOf cX6_timeOf 4 (some .int), Cond.fieldLink RX6 7 "PullCardsModel" "time" "[I", Cond.methodLink RX6 128 yX6_fraction, Cond.static yX6_fraction, Cond.code yX6_fraction cX6_fraction 7 (some .long), Cond.methodLink RX6 119 yX6_common, Cond.static yX6_common, Cond.code yX6_common cX6_common 10 (some .long)]
def wsX6_pace : List Cond := .code yX6_pace cX6_pace 3 (some .long) :: ((wsX6_pace_r1 ++ wsX6_pace_r2) ++ wsX60)
def wsX6_slowest_r1 : List Cond := [Cond.methodLink RX6 109 yX6_find, Cond.instanceMethod yX6_find, Cond.selects RX6 yX6_find yX6_find, Cond.initialized RX6, Cond.code yX6_find cX6_find 5 none, Cond.fieldLink RX6 99 "PullCardsModel" "loops" "I", Cond.fieldLink RX6 59 "PullCardsModel" "stations" "I", Cond.fieldLink RX6 67 "PullCardsModel" "arcs" "I", Cond.fieldLink RX6 16 "PullCardsModel" "to" "[I", Cond.fieldLink RX6 28 "PullCardsModel" "path" "[I", Cond.methodLink RX6 102 yX6_mayGo, Cond.instanceMethod yX6_mayGo, Cond.selects RX6 yX6_mayGo yX6_mayGo, Cond.code yX6_mayGo cX6_mayGo 7 (some .boolean), Cond.fieldLink RX6 13 "PullCardsModel" "from" "[I", Cond.methodLink RX6 106 yX6_keep, Cond.instanceMethod yX6_keep, Cond.selects RX6 yX6_keep yX6_keep, Cond.code yX6_keep cX6_keep 3 none, Cond.fieldLink RX6 22 "PullCardsModel" "loopArc" "[I", Cond.fieldLink RX6 25 "PullCardsModel" "loopLong" "[I", Cond.methodLink RX6 123 yX6_slow, Cond.instanceMethod yX6_slow, Cond.selects RX6 yX6_slow yX6_slow]
def wsX6_slowest_r2 : List Cond := [Cond.code yX6_slow cX6_slow 3 (some .int), Cond.methodLink RX6 112 yX6_cardsOf, Cond.instanceMethod yX6_cardsOf, Cond.selects RX6 yX6_cardsOf yX6_cardsOf, Cond.code yX6_cardsOf cX6_cardsOf 4 (some .int), Cond.fieldLink RX6 19 "PullCardsModel" "cards" "[I", Cond.methodLink RX6 116 yX6_timeOf, Cond.instanceMethod yX6_timeOf, Cond.selects RX6 yX6_timeOf yX6_timeOf, Cond.code yX6_timeOf cX6_timeOf 4 (some .int), Cond.fieldLink RX6 7 "PullCardsModel" "time" "[I"]
def wsX6_slowest : List Cond := .code yX6_slowest cX6_slowest 1 (some .int) :: ((wsX6_slowest_r1 ++ wsX6_slowest_r2) ++ wsX60)
def wsX6_beginOf : List Cond := .code yX6_beginOf cX6_beginOf 8 (some .int) :: ([.fieldLink RX6 67 "PullCardsModel" "arcs" "I", .fieldLink RX6 16 "PullCardsModel" "to" "[I", .fieldLink RX6 19 "PullCardsModel" "cards" "[I", .fieldLink RX6 31 "PullCardsModel" "begin" "[I", .fieldLink RX6 13 "PullCardsModel" "from" "[I", .fieldLink RX6 7 "PullCardsModel" "time" "[I"] ++ wsX60)
def wsX6_begins : List Cond := .code yX6_begins cX6_begins 6 (some .int) :: ([.constantLong RX6 132 (60), .fieldLink RX6 59 "PullCardsModel" "stations" "I", .fieldLink RX6 31 "PullCardsModel" "begin" "[I", .methodLink RX6 76 yX6_isStation, .instanceMethod yX6_isStation, .selects RX6 yX6_isStation yX6_isStation, .initialized RX6, .code yX6_isStation cX6_isStation 2 (some .boolean), .methodLink RX6 63 yX6_in, .static yX6_in, .code yX6_in cX6_in 6 (some .boolean), .methodLink RX6 134 yX6_beginOf, .instanceMethod yX6_beginOf, .selects RX6 yX6_beginOf yX6_beginOf, .code yX6_beginOf cX6_beginOf 8 (some .int), .fieldLink RX6 67 "PullCardsModel" "arcs" "I", .fieldLink RX6 16 "PullCardsModel" "to" "[I", .fieldLink RX6 19 "PullCardsModel" "cards" "[I", .fieldLink RX6 13 "PullCardsModel" "from" "[I", .fieldLink RX6 7 "PullCardsModel" "time" "[I"] ++ wsX60)
def wsX6_note_r1 : List Cond := [Cond.fieldLink RX6 72 "PullCardsModel" "isNoted" "Z", Cond.fieldLink RX6 99 "PullCardsModel" "loops" "I", Cond.fieldLink RX6 138 "PullCardsModel" "noted" "I", Cond.fieldLink RX6 34 "PullCardsModel" "notedCards" "[I", Cond.methodLink RX6 109 yX6_find, Cond.instanceMethod yX6_find, Cond.selects RX6 yX6_find yX6_find, Cond.initialized RX6, Cond.code yX6_find cX6_find 5 none, Cond.fieldLink RX6 59 "PullCardsModel" "stations" "I", Cond.fieldLink RX6 67 "PullCardsModel" "arcs" "I", Cond.fieldLink RX6 16 "PullCardsModel" "to" "[I", Cond.fieldLink RX6 28 "PullCardsModel" "path" "[I", Cond.methodLink RX6 102 yX6_mayGo, Cond.instanceMethod yX6_mayGo, Cond.selects RX6 yX6_mayGo yX6_mayGo, Cond.code yX6_mayGo cX6_mayGo 7 (some .boolean), Cond.fieldLink RX6 13 "PullCardsModel" "from" "[I", Cond.methodLink RX6 106 yX6_keep, Cond.instanceMethod yX6_keep, Cond.selects RX6 yX6_keep yX6_keep, Cond.code yX6_keep cX6_keep 3 none, Cond.fieldLink RX6 22 "PullCardsModel" "loopArc" "[I", Cond.fieldLink RX6 25 "PullCardsModel" "loopLong" "[I"]
def wsX6_note_r2 : List Cond := [Cond.methodLink RX6 112 yX6_cardsOf, Cond.instanceMethod yX6_cardsOf, Cond.selects RX6 yX6_cardsOf yX6_cardsOf, Cond.code yX6_cardsOf cX6_cardsOf 4 (some .int), Cond.fieldLink RX6 19 "PullCardsModel" "cards" "[I"]
def wsX6_note : List Cond := .code yX6_note cX6_note 2 (some .int) :: ((wsX6_note_r1 ++ wsX6_note_r2) ++ wsX60)
def wsX6_audit_r1 : List Cond := [Cond.fieldLink RX6 72 "PullCardsModel" "isNoted" "Z", Cond.fieldLink RX6 138 "PullCardsModel" "noted" "I", Cond.fieldLink RX6 34 "PullCardsModel" "notedCards" "[I", Cond.methodLink RX6 109 yX6_find, Cond.instanceMethod yX6_find, Cond.selects RX6 yX6_find yX6_find, Cond.initialized RX6, Cond.code yX6_find cX6_find 5 none, Cond.fieldLink RX6 99 "PullCardsModel" "loops" "I", Cond.fieldLink RX6 59 "PullCardsModel" "stations" "I", Cond.fieldLink RX6 67 "PullCardsModel" "arcs" "I", Cond.fieldLink RX6 16 "PullCardsModel" "to" "[I", Cond.fieldLink RX6 28 "PullCardsModel" "path" "[I", Cond.methodLink RX6 102 yX6_mayGo, Cond.instanceMethod yX6_mayGo, Cond.selects RX6 yX6_mayGo yX6_mayGo, Cond.code yX6_mayGo cX6_mayGo 7 (some .boolean), Cond.fieldLink RX6 13 "PullCardsModel" "from" "[I", Cond.methodLink RX6 106 yX6_keep, Cond.instanceMethod yX6_keep, Cond.selects RX6 yX6_keep yX6_keep, Cond.code yX6_keep cX6_keep 3 none, Cond.fieldLink RX6 22 "PullCardsModel" "loopArc" "[I", Cond.fieldLink RX6 25 "PullCardsModel" "loopLong" "[I"]
def wsX6_audit_r2 : List Cond := [Cond.methodLink RX6 112 yX6_cardsOf, Cond.instanceMethod yX6_cardsOf, Cond.selects RX6 yX6_cardsOf yX6_cardsOf, Cond.code yX6_cardsOf cX6_cardsOf 4 (some .int), Cond.fieldLink RX6 19 "PullCardsModel" "cards" "[I"]
def wsX6_audit : List Cond := .code yX6_audit cX6_audit 5 (some .int) :: ((wsX6_audit_r1 ++ wsX6_audit_r2) ++ wsX60)
def wsX6_isFast : List Cond := .code yX6_isFast cX6_isFast 6 (some .boolean) :: ([.fieldLink RX6 99 "PullCardsModel" "loops" "I", .methodLink RX6 112 yX6_cardsOf, .instanceMethod yX6_cardsOf, .selects RX6 yX6_cardsOf yX6_cardsOf, .initialized RX6, .code yX6_cardsOf cX6_cardsOf 4 (some .int), .fieldLink RX6 25 "PullCardsModel" "loopLong" "[I", .fieldLink RX6 19 "PullCardsModel" "cards" "[I", .fieldLink RX6 22 "PullCardsModel" "loopArc" "[I", .methodLink RX6 116 yX6_timeOf, .instanceMethod yX6_timeOf, .selects RX6 yX6_timeOf yX6_timeOf, .code yX6_timeOf cX6_timeOf 4 (some .int), .fieldLink RX6 7 "PullCardsModel" "time" "[I", .fieldLink RX6 13 "PullCardsModel" "from" "[I"] ++ wsX60)
def wsX6_cards_r1 : List Cond := [Cond.constantLong RX6 141 (1000), Cond.fieldLink RX6 19 "PullCardsModel" "cards" "[I", Cond.methodLink RX6 82 yX6_isArc, Cond.instanceMethod yX6_isArc, Cond.selects RX6 yX6_isArc yX6_isArc, Cond.initialized RX6, Cond.code yX6_isArc cX6_isArc 2 (some .boolean), Cond.fieldLink RX6 67 "PullCardsModel" "arcs" "I", Cond.methodLink RX6 63 yX6_in, Cond.static yX6_in, Cond.code yX6_in cX6_in 6 (some .boolean), Cond.methodLink RX6 109 yX6_find, Cond.instanceMethod yX6_find, Cond.selects RX6 yX6_find yX6_find, Cond.code yX6_find cX6_find 5 none, Cond.fieldLink RX6 99 "PullCardsModel" "loops" "I", Cond.fieldLink RX6 59 "PullCardsModel" "stations" "I", Cond.fieldLink RX6 16 "PullCardsModel" "to" "[I", Cond.fieldLink RX6 28 "PullCardsModel" "path" "[I", Cond.methodLink RX6 102 yX6_mayGo, Cond.instanceMethod yX6_mayGo, Cond.selects RX6 yX6_mayGo yX6_mayGo, Cond.code yX6_mayGo cX6_mayGo 7 (some .boolean), Cond.fieldLink RX6 13 "PullCardsModel" "from" "[I"]
def wsX6_cards_r2 : List Cond := [Cond.methodLink RX6 106 yX6_keep, Cond.instanceMethod yX6_keep, Cond.selects RX6 yX6_keep yX6_keep, Cond.code yX6_keep cX6_keep 3 none, Cond.fieldLink RX6 22 "PullCardsModel" "loopArc" "[I", Cond.fieldLink RX6 25 "PullCardsModel" "loopLong" "[I", Cond.methodLink RX6 143 yX6_isFast, Cond.instanceMethod yX6_isFast, Cond.selects RX6 yX6_isFast yX6_isFast, Cond.code yX6_isFast cX6_isFast 6 (some .boolean), Cond.methodLink RX6 112 yX6_cardsOf, Cond.instanceMethod yX6_cardsOf, Cond.selects RX6 yX6_cardsOf yX6_cardsOf, Cond.code yX6_cardsOf cX6_cardsOf 4 (some .int), Cond.methodLink RX6 116 yX6_timeOf, Cond.instanceMethod yX6_timeOf, Cond.selects RX6 yX6_timeOf yX6_timeOf, Cond.code yX6_timeOf cX6_timeOf 4 (some .int), Cond.fieldLink RX6 7 "PullCardsModel" "time" "[I"]
def wsX6_cards : List Cond := .code yX6_cards cX6_cards 7 (some .int) :: ((wsX6_cards_r1 ++ wsX6_cards_r2) ++ wsX60)
def wsX6_machine : List Cond := .code yX6_machine cX6_machine 5 (some .int) :: ([.constantLong RX6 147 (4), .fieldLink RX6 37 "PullCardsModel" "breaks" "[I", .fieldLink RX6 40 "PullCardsModel" "mends" "[I", .methodLink RX6 63 yX6_in, .static yX6_in, .initialized RX6, .code yX6_in cX6_in 6 (some .boolean)] ++ wsX60)
def wsX6_store : List Cond := .code yX6_store cX6_store 3 (some .int) :: ([.constantLong RX6 149 (6), .fieldLink RX6 151 "PullCardsModel" "room" "I", .methodLink RX6 63 yX6_in, .static yX6_in, .initialized RX6, .code yX6_in cX6_in 6 (some .boolean)] ++ wsX60)
def wsX6_upChance : List Cond := .code yX6_upChance cX6_upChance 3 (some .int) :: ([.fieldLink RX6 37 "PullCardsModel" "breaks" "[I", .fieldLink RX6 40 "PullCardsModel" "mends" "[I"] ++ wsX60)
def wsX6_move : List Cond := .code yX6_move cX6_move 12 none :: ([.fieldLink RX6 43 "PullCardsModel" "weight" "[J", .fieldLink RX6 47 "PullCardsModel" "next" "[J", .methodLink RX6 154 yX6_upChance, .instanceMethod yX6_upChance, .selects RX6 yX6_upChance yX6_upChance, .initialized RX6, .code yX6_upChance cX6_upChance 3 (some .int), .fieldLink RX6 37 "PullCardsModel" "breaks" "[I", .fieldLink RX6 40 "PullCardsModel" "mends" "[I"] ++ wsX60)
def wsX6_go : List Cond := .code yX6_go cX6_go 6 none :: ([.fieldLink RX6 43 "PullCardsModel" "weight" "[J", .fieldLink RX6 47 "PullCardsModel" "next" "[J", .methodLink RX6 158 yX6_move, .instanceMethod yX6_move, .selects RX6 yX6_move yX6_move, .initialized RX6, .code yX6_move cX6_move 12 none, .methodLink RX6 154 yX6_upChance, .instanceMethod yX6_upChance, .selects RX6 yX6_upChance yX6_upChance, .code yX6_upChance cX6_upChance 3 (some .int), .fieldLink RX6 37 "PullCardsModel" "breaks" "[I", .fieldLink RX6 40 "PullCardsModel" "mends" "[I"] ++ wsX60)
def wsX6_isTicks : List Cond := .code yX6_isTicks cX6_isTicks 1 (some .boolean) :: ([.constantLong RX6 162 (10), .methodLink RX6 63 yX6_in, .static yX6_in, .initialized RX6, .code yX6_in cX6_in 6 (some .boolean)])
def wsX6_mean : List Cond := .code yX6_mean cX6_mean 4 (some .long) :: ([.fieldLink RX6 43 "PullCardsModel" "weight" "[J"] ++ wsX60)
def wsX6_given_r1 : List Cond := [Cond.constantLong RX6 167 (-2), Cond.fieldLink RX6 151 "PullCardsModel" "room" "I", Cond.methodLink RX6 164 yX6_isTicks, Cond.static yX6_isTicks, Cond.initialized RX6, Cond.code yX6_isTicks cX6_isTicks 1 (some .boolean), Cond.constantLong RX6 162 (10), Cond.methodLink RX6 63 yX6_in, Cond.static yX6_in, Cond.code yX6_in cX6_in 6 (some .boolean), Cond.methodLink RX6 169 yX6_go, Cond.instanceMethod yX6_go, Cond.selects RX6 yX6_go yX6_go, Cond.code yX6_go cX6_go 6 none, Cond.fieldLink RX6 43 "PullCardsModel" "weight" "[J", Cond.fieldLink RX6 47 "PullCardsModel" "next" "[J", Cond.methodLink RX6 158 yX6_move, Cond.instanceMethod yX6_move, Cond.selects RX6 yX6_move yX6_move, Cond.code yX6_move cX6_move 12 none, Cond.methodLink RX6 154 yX6_upChance, Cond.instanceMethod yX6_upChance, Cond.selects RX6 yX6_upChance yX6_upChance, Cond.code yX6_upChance cX6_upChance 3 (some .int)]
def wsX6_given_r2 : List Cond := [Cond.fieldLink RX6 37 "PullCardsModel" "breaks" "[I", Cond.fieldLink RX6 40 "PullCardsModel" "mends" "[I", Cond.methodLink RX6 173 yX6_mean, Cond.instanceMethod yX6_mean, Cond.selects RX6 yX6_mean yX6_mean, Cond.code yX6_mean cX6_mean 4 (some .long), Cond.methodLink RX6 128 yX6_fraction, Cond.static yX6_fraction, Cond.code yX6_fraction cX6_fraction 7 (some .long), Cond.methodLink RX6 119 yX6_common, Cond.static yX6_common, Cond.code yX6_common cX6_common 10 (some .long)]
def wsX6_given : List Cond := .code yX6_given cX6_given 3 (some .long) :: ((wsX6_given_r1 ++ wsX6_given_r2) ++ wsX60)
def wsX6_just_r1 : List Cond := [Cond.constantLong RX6 162 (10), Cond.constantLong RX6 167 (-2), Cond.fieldLink RX6 151 "PullCardsModel" "room" "I", Cond.fieldLink RX6 43 "PullCardsModel" "weight" "[J", Cond.methodLink RX6 164 yX6_isTicks, Cond.static yX6_isTicks, Cond.initialized RX6, Cond.code yX6_isTicks cX6_isTicks 1 (some .boolean), Cond.methodLink RX6 63 yX6_in, Cond.static yX6_in, Cond.code yX6_in cX6_in 6 (some .boolean), Cond.methodLink RX6 169 yX6_go, Cond.instanceMethod yX6_go, Cond.selects RX6 yX6_go yX6_go, Cond.code yX6_go cX6_go 6 none, Cond.fieldLink RX6 47 "PullCardsModel" "next" "[J", Cond.methodLink RX6 158 yX6_move, Cond.instanceMethod yX6_move, Cond.selects RX6 yX6_move yX6_move, Cond.code yX6_move cX6_move 12 none, Cond.methodLink RX6 154 yX6_upChance, Cond.instanceMethod yX6_upChance, Cond.selects RX6 yX6_upChance yX6_upChance, Cond.code yX6_upChance cX6_upChance 3 (some .int)]
def wsX6_just_r2 : List Cond := [Cond.fieldLink RX6 37 "PullCardsModel" "breaks" "[I", Cond.fieldLink RX6 40 "PullCardsModel" "mends" "[I", Cond.methodLink RX6 128 yX6_fraction, Cond.static yX6_fraction, Cond.code yX6_fraction cX6_fraction 7 (some .long), Cond.methodLink RX6 119 yX6_common, Cond.static yX6_common, Cond.code yX6_common cX6_common 10 (some .long)]
def wsX6_just : List Cond := .code yX6_just cX6_just 7 (some .long) :: ((wsX6_just_r1 ++ wsX6_just_r2) ++ wsX60)
def wsX6_least_r1 : List Cond := [Cond.constantLong RX6 141 (1000), Cond.methodLink RX6 164 yX6_isTicks, Cond.static yX6_isTicks, Cond.initialized RX6, Cond.code yX6_isTicks cX6_isTicks 1 (some .boolean), Cond.constantLong RX6 162 (10), Cond.methodLink RX6 63 yX6_in, Cond.static yX6_in, Cond.code yX6_in cX6_in 6 (some .boolean), Cond.methodLink RX6 169 yX6_go, Cond.instanceMethod yX6_go, Cond.selects RX6 yX6_go yX6_go, Cond.code yX6_go cX6_go 6 none, Cond.fieldLink RX6 43 "PullCardsModel" "weight" "[J", Cond.fieldLink RX6 47 "PullCardsModel" "next" "[J", Cond.methodLink RX6 158 yX6_move, Cond.instanceMethod yX6_move, Cond.selects RX6 yX6_move yX6_move, Cond.code yX6_move cX6_move 12 none, Cond.methodLink RX6 154 yX6_upChance, Cond.instanceMethod yX6_upChance, Cond.selects RX6 yX6_upChance yX6_upChance, Cond.code yX6_upChance cX6_upChance 3 (some .int), Cond.fieldLink RX6 37 "PullCardsModel" "breaks" "[I"]
def wsX6_least_r2 : List Cond := [Cond.fieldLink RX6 40 "PullCardsModel" "mends" "[I", Cond.methodLink RX6 173 yX6_mean, Cond.instanceMethod yX6_mean, Cond.selects RX6 yX6_mean yX6_mean, Cond.code yX6_mean cX6_mean 4 (some .long)]
def wsX6_least : List Cond := .code yX6_least cX6_least 5 (some .int) :: ((wsX6_least_r1 ++ wsX6_least_r2) ++ wsX60)
def wsX6_demand : List Cond := .code yX6_demand cX6_demand 4 (some .int) :: ([.constantLong RX6 177 (5), .constantLong RX6 70 (20), .fieldLink RX6 50 "PullCardsModel" "demand" "[I", .methodLink RX6 63 yX6_in, .static yX6_in, .initialized RX6, .code yX6_in cX6_in 6 (some .boolean)] ++ wsX60)
def wsX6_lay : List Cond := .code yX6_lay cX6_lay 6 (some .int) :: ([.fieldLink RX6 179 "PullCardsModel" "places" "I", .fieldLink RX6 50 "PullCardsModel" "demand" "[I", .fieldLink RX6 53 "PullCardsModel" "came" "[I", .fieldLink RX6 56 "PullCardsModel" "row" "[I"] ++ wsX60)
def wsX6_at : List Cond := .code yX6_at cX6_at 3 (some .int) :: ([.fieldLink RX6 179 "PullCardsModel" "places" "I", .fieldLink RX6 56 "PullCardsModel" "row" "[I", .methodLink RX6 182 yX6_lay, .instanceMethod yX6_lay, .selects RX6 yX6_lay yX6_lay, .initialized RX6, .code yX6_lay cX6_lay 6 (some .int), .fieldLink RX6 50 "PullCardsModel" "demand" "[I", .fieldLink RX6 53 "PullCardsModel" "came" "[I", .methodLink RX6 63 yX6_in, .static yX6_in, .code yX6_in cX6_in 6 (some .boolean)] ++ wsX60)
def wsX6_rough : List Cond := .code yX6_rough cX6_rough 1 (some .int) :: ([.methodLink RX6 182 yX6_lay, .instanceMethod yX6_lay, .selects RX6 yX6_lay yX6_lay, .initialized RX6, .code yX6_lay cX6_lay 6 (some .int), .fieldLink RX6 179 "PullCardsModel" "places" "I", .fieldLink RX6 50 "PullCardsModel" "demand" "[I", .fieldLink RX6 53 "PullCardsModel" "came" "[I", .fieldLink RX6 56 "PullCardsModel" "row" "[I"] ++ wsX60)
def wsX6_changes : List Cond := .code yX6_changes cX6_changes 4 (some .int) :: ([.fieldLink RX6 179 "PullCardsModel" "places" "I", .fieldLink RX6 56 "PullCardsModel" "row" "[I", .methodLink RX6 182 yX6_lay, .instanceMethod yX6_lay, .selects RX6 yX6_lay yX6_lay, .initialized RX6, .code yX6_lay cX6_lay 6 (some .int), .fieldLink RX6 50 "PullCardsModel" "demand" "[I", .fieldLink RX6 53 "PullCardsModel" "came" "[I"] ++ wsX60)
def wsX6_total : List Cond := .code yX6_total cX6_total 4 (some .int) :: ([.fieldLink RX6 67 "PullCardsModel" "arcs" "I", .fieldLink RX6 19 "PullCardsModel" "cards" "[I", .fieldLink RX6 59 "PullCardsModel" "stations" "I", .fieldLink RX6 151 "PullCardsModel" "room" "I", .fieldLink RX6 179 "PullCardsModel" "places" "I", .methodLink RX6 182 yX6_lay, .instanceMethod yX6_lay, .selects RX6 yX6_lay yX6_lay, .initialized RX6, .code yX6_lay cX6_lay 6 (some .int), .fieldLink RX6 50 "PullCardsModel" "demand" "[I", .fieldLink RX6 53 "PullCardsModel" "came" "[I", .fieldLink RX6 56 "PullCardsModel" "row" "[I", .methodLink RX6 95 yX6_readyMany, .instanceMethod yX6_readyMany, .selects RX6 yX6_readyMany yX6_readyMany, .code yX6_readyMany cX6_readyMany 3 (some .int), .methodLink RX6 85 yX6_isReady, .instanceMethod yX6_isReady, .selects RX6 yX6_isReady yX6_isReady, .code yX6_isReady cX6_isReady 4 (some .boolean), .fieldLink RX6 16 "PullCardsModel" "to" "[I"] ++ wsX60)
def wsJ9_abs_0f7a4 : List Cond := .code yJ9_abs_0f7a4 cJ9_abs_0f7a4 1 (some .int) :: ([])
def wsJ9_max_7cf53 : List Cond := .code yJ9_max_7cf53 cJ9_max_7cf53 2 (some .int) :: ([])
def wsJ9_max_f86c9 : List Cond := .code yJ9_max_f86c9 cJ9_max_f86c9 4 (some .long) :: ([])
def wsJ9_min_7cf53 : List Cond := .code yJ9_min_7cf53 cJ9_min_7cf53 2 (some .int) :: ([])
def wsL_law_r1 : List Cond := [Cond.classLink RL 7 RX5, Cond.instantiable RX5 5, Cond.initialized RX5, Cond.classLink RL 10 RX6, Cond.instantiable RX6 23, Cond.initialized RX6, Cond.methodLink RL 9 yX5_init, Cond.instanceMethod yX5_init, Cond.code yX5_init cX5_init 1 none, Cond.methodLink RX5 1 objectInit, Cond.instanceMethod objectInit, Cond.code objectInit ⟨#[0xb1]⟩ 1 none, Cond.classLink RX5 7 RX0, Cond.instantiable RX0 6, Cond.initialized RX0, Cond.fieldLink RX5 10 "PullCards" "line" "LPullCards$Line;", Cond.classLink RX5 16 RX1, Cond.instantiable RX1 7, Cond.initialized RX1, Cond.fieldLink RX5 21 "PullCards" "loops" "LPullCards$Loops;", Cond.classLink RX5 25 RX4, Cond.instantiable RX4 5, Cond.initialized RX4, Cond.fieldLink RX5 28 "PullCards" "works" "LPullCards$Works;"]
def wsL_law_r2 : List Cond := [Cond.classLink RX5 32 RX2, Cond.instantiable RX2 6, Cond.initialized RX2, Cond.fieldLink RX5 35 "PullCards" "pair" "LPullCards$Pair;", Cond.classLink RX5 39 RX3, Cond.instantiable RX3 6, Cond.initialized RX3, Cond.fieldLink RX5 42 "PullCards" "row" "LPullCards$Row;", Cond.instanceMethod yX0_init, Cond.code yX0_init cX0_init 1 none, Cond.methodLink RX0 3 objectInit, Cond.arrayClass .int, Cond.fieldLink RX0 9 "PullCards$Line" "times" "[I", Cond.fieldLink RX0 15 "PullCards$Line" "froms" "[I", Cond.fieldLink RX0 18 "PullCards$Line" "tos" "[I", Cond.fieldLink RX0 21 "PullCards$Line" "cards" "[I", Cond.methodLink RX5 18 yX1_init, Cond.instanceMethod yX1_init, Cond.code yX1_init cX1_init 2 none, Cond.methodLink RX1 3 objectInit, Cond.fieldLink RX1 11 "PullCards$Loops" "rows" "[I", Cond.fieldLink RX1 15 "PullCards$Loops" "lengths" "[I", Cond.fieldLink RX1 18 "PullCards$Loops" "path" "[I", Cond.fieldLink RX1 21 "PullCards$Loops" "notedCards" "[I"]
def wsL_law_r3 : List Cond := [Cond.fieldLink RX1 24 "PullCards$Loops" "line" "LPullCards$Line;", Cond.methodLink RX5 27 yX4_init, Cond.instanceMethod yX4_init, Cond.code yX4_init cX4_init 2 none, Cond.methodLink RX4 3 objectInit, Cond.fieldLink RX4 9 "PullCards$Works" "beginnings" "[I", Cond.fieldLink RX4 15 "PullCards$Works" "order" "[I", Cond.fieldLink RX4 18 "PullCards$Works" "line" "LPullCards$Line;", Cond.instanceMethod yX2_init, Cond.code yX2_init cX2_init 1 none, Cond.methodLink RX2 3 objectInit, Cond.fieldLink RX2 9 "PullCards$Pair" "breaks" "[I", Cond.fieldLink RX2 15 "PullCards$Pair" "repairs" "[I", Cond.fieldLink RX2 18 "PullCards$Pair" "changeWeights" "[I", Cond.arrayClass .long, Cond.fieldLink RX2 21 "PullCards$Pair" "weights" "[J", Cond.fieldLink RX2 25 "PullCards$Pair" "nextWeights" "[J", Cond.instanceMethod yX3_init, Cond.code yX3_init cX3_init 1 none, Cond.methodLink RX3 3 objectInit, Cond.fieldLink RX3 9 "PullCards$Row" "demands" "[I", Cond.fieldLink RX3 15 "PullCards$Row" "came" "[I", Cond.fieldLink RX3 18 "PullCards$Row" "kinds" "[I", Cond.methodLink RL 12 yX6_init]
def wsL_law_r4 : List Cond := [Cond.instanceMethod yX6_init, Cond.code yX6_init cX6_init 1 none, Cond.methodLink RX6 1 objectInit, Cond.fieldLink RX6 7 "PullCardsModel" "time" "[I", Cond.fieldLink RX6 13 "PullCardsModel" "from" "[I", Cond.fieldLink RX6 16 "PullCardsModel" "to" "[I", Cond.fieldLink RX6 19 "PullCardsModel" "cards" "[I", Cond.fieldLink RX6 22 "PullCardsModel" "loopArc" "[I", Cond.fieldLink RX6 25 "PullCardsModel" "loopLong" "[I", Cond.fieldLink RX6 28 "PullCardsModel" "path" "[I", Cond.fieldLink RX6 31 "PullCardsModel" "begin" "[I", Cond.fieldLink RX6 34 "PullCardsModel" "notedCards" "[I", Cond.fieldLink RX6 37 "PullCardsModel" "breaks" "[I", Cond.fieldLink RX6 40 "PullCardsModel" "mends" "[I", Cond.fieldLink RX6 43 "PullCardsModel" "weight" "[J", Cond.fieldLink RX6 47 "PullCardsModel" "next" "[J", Cond.fieldLink RX6 50 "PullCardsModel" "demand" "[I", Cond.fieldLink RX6 53 "PullCardsModel" "came" "[I", Cond.fieldLink RX6 56 "PullCardsModel" "row" "[I", Cond.methodLink RL 13 yX5_station, Cond.instanceMethod yX5_station, Cond.selects RX5 yX5_station yX5_station, Cond.code yX5_station cX5_station 2 (some .int), Cond.fieldLink RX5 50 "PullCards$Line" "stations" "I"]
def wsL_law_r5 : List Cond := [Cond.methodLink RX5 46 yX5_within, Cond.static yX5_within, Cond.code yX5_within cX5_within 3 (some .boolean), Cond.methodLink RX5 54 yX1_forgetNote, Cond.instanceMethod yX1_forgetNote, Cond.selects RX1 yX1_forgetNote yX1_forgetNote, Cond.code yX1_forgetNote cX1_forgetNote 1 none, Cond.fieldLink RX1 72 "PullCards$Loops" "noteStands" "Z", Cond.methodLink RX5 57 yX0_addStation, Cond.instanceMethod yX0_addStation, Cond.selects RX0 yX0_addStation yX0_addStation, Cond.code yX0_addStation cX0_addStation 2 (some .int), Cond.fieldLink RX0 24 "PullCards$Line" "stations" "I", Cond.methodLink RL 17 yX6_station, Cond.instanceMethod yX6_station, Cond.selects RX6 yX6_station yX6_station, Cond.code yX6_station cX6_station 2 (some .int), Cond.constantLong RX6 70 (20), Cond.fieldLink RX6 59 "PullCardsModel" "stations" "I", Cond.fieldLink RX6 72 "PullCardsModel" "isNoted" "Z", Cond.methodLink RX6 63 yX6_in, Cond.static yX6_in, Cond.code yX6_in cX6_in 6 (some .boolean), Cond.methodLink RL 18 yX5_arc]
def wsL_law_r6 : List Cond := [Cond.instanceMethod yX5_arc, Cond.selects RX5 yX5_arc yX5_arc, Cond.code yX5_arc cX5_arc 5 (some .int), Cond.fieldLink RX5 65 "PullCards$Line" "arcs" "I", Cond.methodLink RX5 61 yX0_hasStation, Cond.instanceMethod yX0_hasStation, Cond.selects RX0 yX0_hasStation yX0_hasStation, Cond.code yX0_hasStation cX0_hasStation 2 (some .boolean), Cond.methodLink RX5 68 yX0_addArc, Cond.instanceMethod yX0_addArc, Cond.selects RX0 yX0_addArc yX0_addArc, Cond.code yX0_addArc cX0_addArc 4 (some .int), Cond.fieldLink RX0 32 "PullCards$Line" "arcs" "I", Cond.methodLink RX5 72 yX1_find, Cond.instanceMethod yX1_find, Cond.selects RX1 yX1_find yX1_find, Cond.code yX1_find cX1_find 2 none, Cond.fieldLink RX1 28 "PullCards$Loops" "many" "I", Cond.fieldLink RX1 36 "PullCards$Line" "stations" "I", Cond.methodLink RX1 41 yX1_extend, Cond.static yX1_extend, Cond.code yX1_extend cX1_extend 8 none, Cond.fieldLink RX1 45 "PullCards$Line" "arcs" "I", Cond.fieldLink RX1 48 "PullCards$Line" "froms" "[I"]
def wsL_law_r7 : List Cond := [Cond.fieldLink RX1 51 "PullCards$Line" "tos" "[I", Cond.methodLink RX1 54 yX1_keepPath, Cond.instanceMethod yX1_keepPath, Cond.selects RX1 yX1_keepPath yX1_keepPath, Cond.code yX1_keepPath cX1_keepPath 3 none, Cond.methodLink RL 22 yX6_arc, Cond.instanceMethod yX6_arc, Cond.selects RX6 yX6_arc yX6_arc, Cond.code yX6_arc cX6_arc 4 (some .int), Cond.constantLong RX6 80 (9), Cond.fieldLink RX6 67 "PullCardsModel" "arcs" "I", Cond.methodLink RX6 76 yX6_isStation, Cond.instanceMethod yX6_isStation, Cond.selects RX6 yX6_isStation yX6_isStation, Cond.code yX6_isStation cX6_isStation 2 (some .boolean), Cond.methodLink RL 23 yX5_time, Cond.instanceMethod yX5_time, Cond.selects RX5 yX5_time yX5_time, Cond.code yX5_time cX5_time 4 (some .int), Cond.fieldLink RX5 75 "PullCards$Line" "times" "[I", Cond.methodLink RL 27 yX6_time, Cond.instanceMethod yX6_time, Cond.selects RX6 yX6_time yX6_time, Cond.code yX6_time cX6_time 4 (some .int)]
def wsL_law_r8 : List Cond := [Cond.methodLink RL 28 yX5_put, Cond.instanceMethod yX5_put, Cond.selects RX5 yX5_put yX5_put, Cond.code yX5_put cX5_put 4 (some .int), Cond.fieldLink RX5 82 "PullCards$Line" "cards" "[I", Cond.methodLink RX5 79 yX0_hasArc, Cond.instanceMethod yX0_hasArc, Cond.selects RX0 yX0_hasArc yX0_hasArc, Cond.code yX0_hasArc cX0_hasArc 2 (some .boolean), Cond.methodLink RL 31 yX6_put, Cond.instanceMethod yX6_put, Cond.selects RX6 yX6_put yX6_put, Cond.code yX6_put cX6_put 4 (some .int), Cond.methodLink RX6 82 yX6_isArc, Cond.instanceMethod yX6_isArc, Cond.selects RX6 yX6_isArc yX6_isArc, Cond.code yX6_isArc cX6_isArc 2 (some .boolean), Cond.methodLink RL 32 yX5_about, Cond.instanceMethod yX5_about, Cond.selects RX5 yX5_about yX5_about, Cond.code yX5_about cX5_about 3 (some .int), Cond.fieldLink RX5 85 "PullCards$Line" "froms" "[I", Cond.fieldLink RX5 88 "PullCards$Line" "tos" "[I", Cond.methodLink RL 35 yX6_about]
def wsL_law_r9 : List Cond := [Cond.instanceMethod yX6_about, Cond.selects RX6 yX6_about yX6_about, Cond.code yX6_about cX6_about 3 (some .int), Cond.methodLink RL 36 yX5_ready, Cond.instanceMethod yX5_ready, Cond.selects RX5 yX5_ready yX5_ready, Cond.code yX5_ready cX5_ready 2 (some .int), Cond.methodLink RX5 91 yX0_isReady, Cond.instanceMethod yX0_isReady, Cond.selects RX0 yX0_isReady yX0_isReady, Cond.code yX0_isReady cX0_isReady 3 (some .boolean), Cond.methodLink RL 39 yX6_ready, Cond.instanceMethod yX6_ready, Cond.selects RX6 yX6_ready yX6_ready, Cond.code yX6_ready cX6_ready 2 (some .int), Cond.methodLink RX6 85 yX6_isReady, Cond.instanceMethod yX6_isReady, Cond.selects RX6 yX6_isReady yX6_isReady, Cond.code yX6_isReady cX6_isReady 4 (some .boolean), Cond.methodLink RL 40 yX5_fire, Cond.instanceMethod yX5_fire, Cond.selects RX5 yX5_fire yX5_fire, Cond.code yX5_fire cX5_fire 2 (some .int), Cond.methodLink RX5 94 yX0_hasRoom]
def wsL_law_r10 : List Cond := [Cond.instanceMethod yX0_hasRoom, Cond.selects RX0 yX0_hasRoom yX0_hasRoom, Cond.code yX0_hasRoom cX0_hasRoom 4 (some .boolean), Cond.methodLink RX5 97 yX0_moveCards, Cond.instanceMethod yX0_moveCards, Cond.selects RX0 yX0_moveCards yX0_moveCards, Cond.code yX0_moveCards cX0_moveCards 3 none, Cond.methodLink RX5 101 yX0_countReady, Cond.instanceMethod yX0_countReady, Cond.selects RX0 yX0_countReady yX0_countReady, Cond.code yX0_countReady cX0_countReady 3 (some .int), Cond.methodLink RX0 35 yX0_isReady, Cond.methodLink RL 43 yX6_fire, Cond.instanceMethod yX6_fire, Cond.selects RX6 yX6_fire yX6_fire, Cond.code yX6_fire cX6_fire 2 (some .int), Cond.methodLink RX6 88 yX6_hasRoom, Cond.instanceMethod yX6_hasRoom, Cond.selects RX6 yX6_hasRoom yX6_hasRoom, Cond.code yX6_hasRoom cX6_hasRoom 4 (some .boolean), Cond.methodLink RX6 91 yX6_fires, Cond.instanceMethod yX6_fires, Cond.selects RX6 yX6_fires yX6_fires, Cond.code yX6_fires cX6_fires 3 none]
def wsL_law_r11 : List Cond := [Cond.methodLink RX6 95 yX6_readyMany, Cond.instanceMethod yX6_readyMany, Cond.selects RX6 yX6_readyMany yX6_readyMany, Cond.code yX6_readyMany cX6_readyMany 3 (some .int), Cond.methodLink RL 44 yX5_round, Cond.instanceMethod yX5_round, Cond.selects RX5 yX5_round yX5_round, Cond.code yX5_round cX5_round 3 (some .int), Cond.methodLink RL 48 yX6_round, Cond.instanceMethod yX6_round, Cond.selects RX6 yX6_round yX6_round, Cond.code yX6_round cX6_round 3 (some .int), Cond.methodLink RL 49 yX5_loops, Cond.instanceMethod yX5_loops, Cond.selects RX5 yX5_loops yX5_loops, Cond.code yX5_loops cX5_loops 1 (some .int), Cond.fieldLink RX5 105 "PullCards$Loops" "many" "I", Cond.methodLink RL 52 yX6_loops, Cond.instanceMethod yX6_loops, Cond.selects RX6 yX6_loops yX6_loops, Cond.code yX6_loops cX6_loops 1 (some .int), Cond.fieldLink RX6 99 "PullCardsModel" "loops" "I", Cond.methodLink RX6 109 yX6_find, Cond.instanceMethod yX6_find]
def wsL_law_r12 : List Cond := [Cond.selects RX6 yX6_find yX6_find, Cond.code yX6_find cX6_find 5 none, Cond.methodLink RX6 102 yX6_mayGo, Cond.instanceMethod yX6_mayGo, Cond.selects RX6 yX6_mayGo yX6_mayGo, Cond.code yX6_mayGo cX6_mayGo 7 (some .boolean), Cond.methodLink RX6 106 yX6_keep, Cond.instanceMethod yX6_keep, Cond.selects RX6 yX6_keep yX6_keep, Cond.code yX6_keep cX6_keep 3 none, Cond.methodLink RL 53 yX5_loop, Cond.instanceMethod yX5_loop, Cond.selects RX5 yX5_loop yX5_loop, Cond.code yX5_loop cX5_loop 3 (some .int), Cond.methodLink RX5 108 yX1_has, Cond.instanceMethod yX1_has, Cond.selects RX1 yX1_has yX1_has, Cond.code yX1_has cX1_has 2 (some .boolean), Cond.methodLink RX5 111 yX1_arcOf, Cond.instanceMethod yX1_arcOf, Cond.selects RX1 yX1_arcOf yX1_arcOf, Cond.code yX1_arcOf cX1_arcOf 3 (some .int), Cond.methodLink RL 56 yX6_loop, Cond.instanceMethod yX6_loop]
def wsL_law_r13 : List Cond := [Cond.selects RX6 yX6_loop yX6_loop, Cond.code yX6_loop cX6_loop 3 (some .int), Cond.methodLink RL 57 yX5_sum, Cond.instanceMethod yX5_sum, Cond.selects RX5 yX5_sum yX5_sum, Cond.code yX5_sum cX5_sum 3 (some .int), Cond.methodLink RX5 115 yX1_cardsOf, Cond.instanceMethod yX1_cardsOf, Cond.selects RX1 yX1_cardsOf yX1_cardsOf, Cond.code yX1_cardsOf cX1_cardsOf 5 (some .int), Cond.methodLink RX5 119 yX1_timeOf, Cond.instanceMethod yX1_timeOf, Cond.selects RX1 yX1_timeOf yX1_timeOf, Cond.code yX1_timeOf cX1_timeOf 4 (some .int), Cond.fieldLink RX1 58 "PullCards$Line" "times" "[I", Cond.methodLink RL 61 yX6_sum, Cond.instanceMethod yX6_sum, Cond.selects RX6 yX6_sum yX6_sum, Cond.code yX6_sum cX6_sum 3 (some .int), Cond.methodLink RX6 112 yX6_cardsOf, Cond.instanceMethod yX6_cardsOf, Cond.selects RX6 yX6_cardsOf yX6_cardsOf, Cond.code yX6_cardsOf cX6_cardsOf 4 (some .int), Cond.methodLink RX6 116 yX6_timeOf]
def wsL_law_r14 : List Cond := [Cond.instanceMethod yX6_timeOf, Cond.selects RX6 yX6_timeOf yX6_timeOf, Cond.code yX6_timeOf cX6_timeOf 4 (some .int), Cond.methodLink RL 62 yX5_pace, Cond.instanceMethod yX5_pace, Cond.selects RX5 yX5_pace yX5_pace, Cond.code yX5_pace cX5_pace 4 (some .long), Cond.constantLong RX5 125 (-9), Cond.methodLink RX5 122 yX1_findSlowest, Cond.instanceMethod yX1_findSlowest, Cond.selects RX1 yX1_findSlowest yX1_findSlowest, Cond.code yX1_findSlowest cX1_findSlowest 7 (some .int), Cond.fieldLink RX1 65 "PullCards$Line" "cards" "[I", Cond.methodLink RX1 61 yX1_timeOf, Cond.methodLink RX1 68 yX1_cardsOf, Cond.methodLink RX5 127 yX5_inLeastTerms, Cond.static yX5_inLeastTerms, Cond.code yX5_inLeastTerms cX5_inLeastTerms 7 (some .long), Cond.methodLink RX5 191 yX5_commonDivisor, Cond.static yX5_commonDivisor, Cond.code yX5_commonDivisor cX5_commonDivisor 11 (some .long), Cond.methodLink RX5 195 Lib.MathLoose.max_long.x, Cond.static Lib.MathLoose.max_long.x, Cond.initialized "java/lang/Math"]
def wsL_law_r15 : List Cond := [Cond.code Lib.MathLoose.max_long.x Lib.MathLoose.max_long.code 4 (some .long), Cond.methodLink RL 66 yX6_pace, Cond.instanceMethod yX6_pace, Cond.selects RX6 yX6_pace yX6_pace, Cond.code yX6_pace cX6_pace 3 (some .long), Cond.constantLong RX6 126 (-9), Cond.methodLink RX6 123 yX6_slow, Cond.instanceMethod yX6_slow, Cond.selects RX6 yX6_slow yX6_slow, Cond.code yX6_slow cX6_slow 3 (some .int), Cond.methodLink RX6 128 yX6_fraction, Cond.static yX6_fraction, Cond.code yX6_fraction cX6_fraction 7 (some .long), Cond.methodLink RX6 119 yX6_common, Cond.static yX6_common, Cond.code yX6_common cX6_common 10 (some .long), Cond.methodLink RL 67 yX5_slowest, Cond.instanceMethod yX5_slowest, Cond.selects RX5 yX5_slowest yX5_slowest, Cond.code yX5_slowest cX5_slowest 1 (some .int), Cond.methodLink RL 70 yX6_slowest, Cond.instanceMethod yX6_slowest, Cond.selects RX6 yX6_slowest yX6_slowest, Cond.code yX6_slowest cX6_slowest 1 (some .int)]
def wsL_law_r16 : List Cond := [Cond.methodLink RL 71 yX5_begins, Cond.instanceMethod yX5_begins, Cond.selects RX5 yX5_begins yX5_begins, Cond.code yX5_begins cX5_begins 3 (some .int), Cond.methodLink RX5 131 yX4_beginning, Cond.instanceMethod yX4_beginning, Cond.selects RX4 yX4_beginning yX4_beginning, Cond.code yX4_beginning cX4_beginning 4 (some .int), Cond.methodLink RX4 22 yX4_orderArcs, Cond.instanceMethod yX4_orderArcs, Cond.selects RX4 yX4_orderArcs yX4_orderArcs, Cond.code yX4_orderArcs cX4_orderArcs 3 none, Cond.fieldLink RX4 29 "PullCards$Works" "able" "I", Cond.fieldLink RX4 33 "PullCards$Works" "ordered" "I", Cond.fieldLink RX4 36 "PullCards$Line" "stations" "I", Cond.methodLink RX4 41 yX4_waits, Cond.instanceMethod yX4_waits, Cond.selects RX4 yX4_waits yX4_waits, Cond.code yX4_waits cX4_waits 4 (some .boolean), Cond.fieldLink RX4 48 "PullCards$Line" "arcs" "I", Cond.fieldLink RX4 51 "PullCards$Line" "tos" "[I", Cond.fieldLink RX4 54 "PullCards$Line" "cards" "[I", Cond.fieldLink RX4 57 "PullCards$Line" "froms" "[I", Cond.methodLink RX4 45 yX4_orderArcsTo]
def wsL_law_r17 : List Cond := [Cond.instanceMethod yX4_orderArcsTo, Cond.selects RX4 yX4_orderArcsTo yX4_orderArcsTo, Cond.code yX4_orderArcsTo cX4_orderArcsTo 3 none, Cond.methodLink RX4 25 yX4_beginAll, Cond.instanceMethod yX4_beginAll, Cond.selects RX4 yX4_beginAll yX4_beginAll, Cond.code yX4_beginAll cX4_beginAll 6 none, Cond.methodLink RX4 60 yX4_doneAt, Cond.instanceMethod yX4_doneAt, Cond.selects RX4 yX4_doneAt yX4_doneAt, Cond.code yX4_doneAt cX4_doneAt 5 (some .int), Cond.fieldLink RX4 67 "PullCards$Line" "times" "[I", Cond.methodLink RX4 64 yX4_later, Cond.static yX4_later, Cond.code yX4_later cX4_later 2 (some .int), Cond.methodLink RX4 70 Lib.Math.max.name, Cond.static Lib.Math.max.name, Cond.code Lib.Math.max.name Lib.Math.max.code 2 (some .int), Cond.methodLink RL 74 yX6_begins, Cond.instanceMethod yX6_begins, Cond.selects RX6 yX6_begins yX6_begins, Cond.code yX6_begins cX6_begins 6 (some .int), Cond.constantLong RX6 132 (60), Cond.methodLink RX6 134 yX6_beginOf]
def wsL_law_r18 : List Cond := [Cond.instanceMethod yX6_beginOf, Cond.selects RX6 yX6_beginOf yX6_beginOf, Cond.code yX6_beginOf cX6_beginOf 8 (some .int), Cond.methodLink RL 75 yX5_note, Cond.instanceMethod yX5_note, Cond.selects RX5 yX5_note yX5_note, Cond.code yX5_note cX5_note 1 (some .int), Cond.methodLink RX5 134 yX1_takeNote, Cond.instanceMethod yX1_takeNote, Cond.selects RX1 yX1_takeNote yX1_takeNote, Cond.code yX1_takeNote cX1_takeNote 1 none, Cond.methodLink RX1 76 arraycopyName, Cond.native arraycopyName, Cond.static arraycopyName, Cond.initialized "java/lang/System", Cond.methodLink RL 78 yX6_note, Cond.instanceMethod yX6_note, Cond.selects RX6 yX6_note yX6_note, Cond.code yX6_note cX6_note 2 (some .int), Cond.fieldLink RX6 138 "PullCardsModel" "noted" "I", Cond.methodLink RL 79 yX5_audit, Cond.instanceMethod yX5_audit, Cond.selects RX5 yX5_audit yX5_audit, Cond.code yX5_audit cX5_audit 2 (some .int)]
def wsL_law_r19 : List Cond := [Cond.fieldLink RX5 137 "PullCards$Loops" "noteStands" "Z", Cond.methodLink RX5 141 yX1_countChanged, Cond.instanceMethod yX1_countChanged, Cond.selects RX1 yX1_countChanged yX1_countChanged, Cond.code yX1_countChanged cX1_countChanged 5 (some .int), Cond.methodLink RL 83 yX6_audit, Cond.instanceMethod yX6_audit, Cond.selects RX6 yX6_audit yX6_audit, Cond.code yX6_audit cX6_audit 5 (some .int), Cond.methodLink RL 84 yX5_cards, Cond.instanceMethod yX5_cards, Cond.selects RX5 yX5_cards yX5_cards, Cond.code yX5_cards cX5_cards 4 (some .int), Cond.methodLink RX5 145 yX1_cardsToReach, Cond.instanceMethod yX1_cardsToReach, Cond.selects RX1 yX1_cardsToReach yX1_cardsToReach, Cond.code yX1_cardsToReach cX1_cardsToReach 8 (some .int), Cond.methodLink RX1 86 Lib.Math.max.name, Cond.methodLink RX1 82 yX1_passes, Cond.instanceMethod yX1_passes, Cond.selects RX1 yX1_passes yX1_passes, Cond.code yX1_passes cX1_passes 4 (some .boolean), Cond.methodLink RL 87 yX6_cards, Cond.instanceMethod yX6_cards]
def wsL_law_r20 : List Cond := [Cond.selects RX6 yX6_cards yX6_cards, Cond.code yX6_cards cX6_cards 7 (some .int), Cond.constantLong RX6 141 (1000), Cond.methodLink RX6 143 yX6_isFast, Cond.instanceMethod yX6_isFast, Cond.selects RX6 yX6_isFast yX6_isFast, Cond.code yX6_isFast cX6_isFast 6 (some .boolean), Cond.methodLink RL 88 yX5_machine, Cond.instanceMethod yX5_machine, Cond.selects RX5 yX5_machine yX5_machine, Cond.code yX5_machine cX5_machine 5 (some .int), Cond.fieldLink RX5 148 "PullCards$Pair" "breaks" "[I", Cond.fieldLink RX5 151 "PullCards$Pair" "repairs" "[I", Cond.methodLink RL 91 yX6_machine, Cond.instanceMethod yX6_machine, Cond.selects RX6 yX6_machine yX6_machine, Cond.code yX6_machine cX6_machine 5 (some .int), Cond.constantLong RX6 147 (4), Cond.methodLink RL 92 yX5_store, Cond.instanceMethod yX5_store, Cond.selects RX5 yX5_store yX5_store, Cond.code yX5_store cX5_store 3 (some .int), Cond.fieldLink RX5 154 "PullCards$Pair" "room" "I", Cond.methodLink RL 95 yX6_store]
def wsL_law_r21 : List Cond := [Cond.instanceMethod yX6_store, Cond.selects RX6 yX6_store yX6_store, Cond.code yX6_store cX6_store 3 (some .int), Cond.constantLong RX6 149 (6), Cond.fieldLink RX6 151 "PullCardsModel" "room" "I", Cond.methodLink RL 96 yX5_given, Cond.instanceMethod yX5_given, Cond.selects RX5 yX5_given yX5_given, Cond.code yX5_given cX5_given 3 (some .long), Cond.constantLong RX5 157 (-2), Cond.methodLink RX5 159 yX2_weighMean, Cond.instanceMethod yX2_weighMean, Cond.selects RX2 yX2_weighMean yX2_weighMean, Cond.code yX2_weighMean cX2_weighMean 6 (some .long), Cond.constantLong RX2 31 (4), Cond.methodLink RX2 28 yX2_start, Cond.instanceMethod yX2_start, Cond.selects RX2 yX2_start yX2_start, Cond.code yX2_start cX2_start 5 none, Cond.methodLink RX2 45 yX2_quartersOf, Cond.instanceMethod yX2_quartersOf, Cond.selects RX2 yX2_quartersOf yX2_quartersOf, Cond.code yX2_quartersOf cX2_quartersOf 5 (some .int), Cond.methodLink RX2 49 yJ7_fill_d0a16]
def wsL_law_r22 : List Cond := [Cond.static yJ7_fill_d0a16, Cond.initialized RJ7, Cond.code yJ7_fill_d0a16 cJ7_fill_d0a16 5 none, Cond.methodLink RX2 41 yX2_cell, Cond.static yX2_cell, Cond.code yX2_cell cX2_cell 3 (some .int), Cond.methodLink RX2 33 yX2_runTick, Cond.instanceMethod yX2_runTick, Cond.selects RX2 yX2_runTick yX2_runTick, Cond.code yX2_runTick cX2_runTick 9 (some .long), Cond.methodLink RX2 55 yX2_spread, Cond.instanceMethod yX2_spread, Cond.selects RX2 yX2_spread yX2_spread, Cond.code yX2_spread cX2_spread 16 (some .long), Cond.methodLink RX2 59 yX2_gives, Cond.static yX2_gives, Cond.code yX2_gives cX2_gives 2 (some .int), Cond.methodLink RX2 63 yX2_levelAfter, Cond.static yX2_levelAfter, Cond.code yX2_levelAfter cX2_levelAfter 3 (some .int), Cond.methodLink RX2 66 Lib.Math.min.name, Cond.static Lib.Math.min.name, Cond.code Lib.Math.min.name Lib.Math.min.code 2 (some .int), Cond.methodLink RX2 71 Lib.Math.max.name]
def wsL_law_r23 : List Cond := [Cond.methodLink RX5 163 yX2_weightInAll, Cond.static yX2_weightInAll, Cond.code yX2_weightInAll cX2_weightInAll 1 (some .long), Cond.methodLink RL 100 yX6_given, Cond.instanceMethod yX6_given, Cond.selects RX6 yX6_given yX6_given, Cond.code yX6_given cX6_given 3 (some .long), Cond.constantLong RX6 167 (-2), Cond.methodLink RX6 164 yX6_isTicks, Cond.static yX6_isTicks, Cond.code yX6_isTicks cX6_isTicks 1 (some .boolean), Cond.constantLong RX6 162 (10), Cond.methodLink RX6 169 yX6_go, Cond.instanceMethod yX6_go, Cond.selects RX6 yX6_go yX6_go, Cond.code yX6_go cX6_go 6 none, Cond.methodLink RX6 158 yX6_move, Cond.instanceMethod yX6_move, Cond.selects RX6 yX6_move yX6_move, Cond.code yX6_move cX6_move 12 none, Cond.methodLink RX6 154 yX6_upChance, Cond.instanceMethod yX6_upChance, Cond.selects RX6 yX6_upChance yX6_upChance, Cond.code yX6_upChance cX6_upChance 3 (some .int)]
def wsL_law_r24 : List Cond := [Cond.methodLink RX6 173 yX6_mean, Cond.instanceMethod yX6_mean, Cond.selects RX6 yX6_mean yX6_mean, Cond.code yX6_mean cX6_mean 4 (some .long), Cond.methodLink RL 101 yX5_just, Cond.instanceMethod yX5_just, Cond.selects RX5 yX5_just yX5_just, Cond.code yX5_just cX5_just 4 (some .long), Cond.methodLink RX5 167 yX2_weighCount, Cond.instanceMethod yX2_weighCount, Cond.selects RX2 yX2_weighCount yX2_weighCount, Cond.code yX2_weighCount cX2_weighCount 7 (some .long), Cond.fieldLink RX2 37 "PullCards$Pair" "room" "I", Cond.methodLink RL 105 yX6_just, Cond.instanceMethod yX6_just, Cond.selects RX6 yX6_just yX6_just, Cond.code yX6_just cX6_just 7 (some .long), Cond.methodLink RL 106 yX5_least, Cond.instanceMethod yX5_least, Cond.selects RX5 yX5_least yX5_least, Cond.code yX5_least cX5_least 7 (some .int), Cond.methodLink RL 109 yX6_least, Cond.instanceMethod yX6_least, Cond.selects RX6 yX6_least yX6_least]
def wsL_law_r25 : List Cond := [Cond.code yX6_least cX6_least 5 (some .int), Cond.methodLink RL 110 yX5_demand, Cond.instanceMethod yX5_demand, Cond.selects RX5 yX5_demand yX5_demand, Cond.code yX5_demand cX5_demand 4 (some .int), Cond.fieldLink RX5 170 "PullCards$Row" "demands" "[I", Cond.methodLink RX5 173 yX3_lay, Cond.instanceMethod yX3_lay, Cond.selects RX3 yX3_lay yX3_lay, Cond.code yX3_lay cX3_lay 3 none, Cond.fieldLink RX3 21 "PullCards$Row" "length" "I", Cond.fieldLink RX3 25 "PullCards$Row" "farthest" "I", Cond.fieldLink RX3 28 "PullCards$Row" "turns" "I", Cond.methodLink RX3 38 Lib.Math.max.name, Cond.methodLink RX3 31 yX3_nextKind, Cond.instanceMethod yX3_nextKind, Cond.selects RX3 yX3_nextKind yX3_nextKind, Cond.code yX3_nextKind cX3_nextKind 7 (some .int), Cond.methodLink RX3 35 yX3_farthestAfter, Cond.instanceMethod yX3_farthestAfter, Cond.selects RX3 yX3_farthestAfter yX3_farthestAfter, Cond.code yX3_farthestAfter cX3_farthestAfter 4 (some .int), Cond.methodLink RX3 44 Lib.Math.abs.name, Cond.static Lib.Math.abs.name]
def wsL_law_r26 : List Cond := [Cond.code Lib.Math.abs.name Lib.Math.abs.code 1 (some .int), Cond.methodLink RL 113 yX6_demand, Cond.instanceMethod yX6_demand, Cond.selects RX6 yX6_demand yX6_demand, Cond.code yX6_demand cX6_demand 4 (some .int), Cond.constantLong RX6 177 (5), Cond.methodLink RL 114 yX5_at, Cond.instanceMethod yX5_at, Cond.selects RX5 yX5_at yX5_at, Cond.code yX5_at cX5_at 2 (some .int), Cond.fieldLink RX5 176 "PullCards$Row" "length" "I", Cond.fieldLink RX5 179 "PullCards$Row" "kinds" "[I", Cond.methodLink RL 117 yX6_at, Cond.instanceMethod yX6_at, Cond.selects RX6 yX6_at yX6_at, Cond.code yX6_at cX6_at 3 (some .int), Cond.fieldLink RX6 179 "PullCardsModel" "places" "I", Cond.methodLink RX6 182 yX6_lay, Cond.instanceMethod yX6_lay, Cond.selects RX6 yX6_lay yX6_lay, Cond.code yX6_lay cX6_lay 6 (some .int), Cond.methodLink RL 118 yX5_rough, Cond.instanceMethod yX5_rough, Cond.selects RX5 yX5_rough yX5_rough]
def wsL_law_r27 : List Cond := [Cond.code yX5_rough cX5_rough 1 (some .int), Cond.fieldLink RX5 182 "PullCards$Row" "farthest" "I", Cond.methodLink RL 121 yX6_rough, Cond.instanceMethod yX6_rough, Cond.selects RX6 yX6_rough yX6_rough, Cond.code yX6_rough cX6_rough 1 (some .int), Cond.methodLink RL 122 yX5_changes, Cond.instanceMethod yX5_changes, Cond.selects RX5 yX5_changes yX5_changes, Cond.code yX5_changes cX5_changes 1 (some .int), Cond.fieldLink RX5 185 "PullCards$Row" "turns" "I", Cond.methodLink RL 125 yX6_changes, Cond.instanceMethod yX6_changes, Cond.selects RX6 yX6_changes yX6_changes, Cond.code yX6_changes cX6_changes 4 (some .int), Cond.methodLink RL 126 yX5_total, Cond.instanceMethod yX5_total, Cond.selects RX5 yX5_total yX5_total, Cond.code yX5_total cX5_total 2 (some .int), Cond.methodLink RX5 188 yX0_countCards, Cond.instanceMethod yX0_countCards, Cond.selects RX0 yX0_countCards yX0_countCards, Cond.code yX0_countCards cX0_countCards 3 (some .int), Cond.methodLink RL 129 yX6_total]
def wsL_law_r28 : List Cond := [Cond.instanceMethod yX6_total, Cond.selects RX6 yX6_total yX6_total, Cond.code yX6_total cX6_total 4 (some .int)]
def wsL_law : List Cond := (wsL_law_r1 ++ (wsL_law_r2 ++ (wsL_law_r3 ++ (wsL_law_r4 ++ (wsL_law_r5 ++ (wsL_law_r6 ++ (wsL_law_r7 ++ (wsL_law_r8 ++ (wsL_law_r9 ++ (wsL_law_r10 ++ (wsL_law_r11 ++ (wsL_law_r12 ++ (wsL_law_r13 ++ (wsL_law_r14 ++ (wsL_law_r15 ++ (wsL_law_r16 ++ (wsL_law_r17 ++ (wsL_law_r18 ++ (wsL_law_r19 ++ (wsL_law_r20 ++ (wsL_law_r21 ++ (wsL_law_r22 ++ (wsL_law_r23 ++ (wsL_law_r24 ++ (wsL_law_r25 ++ (wsL_law_r26 ++ (wsL_law_r27 ++ wsL_law_r28))))))))))))))))))))))))))) ++ wsX50 ++ wsX60 ++ wsX00 ++ wsX10 ++ wsX40 ++ wsX20 ++ wsX30 ++ ([] : List Cond)
set_option maxRecDepth 20000 in
theorem inJ9 : ∀ w ∈ wsJ90, w ∈ lw_tbl := by decide +kernel
theorem inJ10 : ∀ w ∈ wsJ100, w ∈ lw_tbl := by decide +kernel
theorem inJ7 : ∀ w ∈ wsJ70, w ∈ lw_tbl := by decide +kernel
set_option maxRecDepth 20000 in
theorem ggX0_hasStation_X5_within : GoodIn wsX0_hasStation wsX5_within := goodIn_r _ [4] (by decide +kernel) (by decide +kernel)
set_option maxRecDepth 20000 in
theorem gX0_hasStation_X5_within_n28 : GoodIn wsX0_hasStation (wsX5_within) := ggX0_hasStation_X5_within
set_option maxRecDepth 20000 in
theorem ggX0_hasArc_X5_within : GoodIn wsX0_hasArc wsX5_within := goodIn_r _ [4] (by decide +kernel) (by decide +kernel)
set_option maxRecDepth 20000 in
theorem gX0_hasArc_X5_within_n28 : GoodIn wsX0_hasArc (wsX5_within) := ggX0_hasArc_X5_within
set_option maxRecDepth 20000 in
theorem ggX0_countReady_X0_isReady : GoodIn wsX0_countReady wsX0_isReady := goodIn_r _ [6, 7, 8, 9, 10, 11, 12, 13, 14, 15] (by decide +kernel) (by decide +kernel)
set_option maxRecDepth 20000 in
theorem gX0_countReady_X0_isReady : GoodIn wsX0_countReady (wsV RX0 35 RX0 yX0_isReady wsX0_isReady) := goodIn_app (goodIn_of _ (by decide +kernel)) ggX0_countReady_X0_isReady
set_option maxRecDepth 20000 in
theorem ggX1_has_X5_within : GoodIn wsX1_has wsX5_within := goodIn_r _ [4] (by decide +kernel) (by decide +kernel)
set_option maxRecDepth 20000 in
theorem gX1_has_X5_within_n32 : GoodIn wsX1_has (wsX5_within) := ggX1_has_X5_within
set_option maxRecDepth 20000 in
theorem ggX1_find_X1_extend : GoodIn wsX1_find wsX1_extend := goodIn_r _ [7, 2, 8, 9, 10, 11, 12, 13, 14, 6, 15, 1, 16, 17, 4, 5, 18, 19, 20, 21, 22, 23, 24, 25, 26, 27, 28, 29, 30] (by decide +kernel) (by decide +kernel)
set_option maxRecDepth 20000 in
theorem gX1_find_X1_extend : GoodIn wsX1_find (va_wsS RX1 41 yX1_extend wsX1_extend) := goodIn_app (goodIn_of _ (by decide +kernel)) ggX1_find_X1_extend
set_option maxRecDepth 20000 in
theorem ggX1_extend_X1_keepPath : GoodIn wsX1_extend wsX1_keepPath := goodIn_r _ [10, 11, 12, 5, 13, 16, 17, 18, 19, 20, 21, 22] (by decide +kernel) (by decide +kernel)
set_option maxRecDepth 20000 in
theorem gX1_extend_X1_keepPath : GoodIn wsX1_extend (wsV RX1 54 RX1 yX1_keepPath wsX1_keepPath) := goodIn_app (goodIn_of _ (by decide +kernel)) ggX1_extend_X1_keepPath
set_option maxRecDepth 20000 in
theorem ggX1_extend_X1_extend : GoodIn wsX1_extend wsX1_extend := goodIn_r _ [0, 1, 2, 3, 4, 5, 6, 7, 8, 9, 10, 11, 12, 13, 14, 15, 16, 17, 18, 19, 20, 21, 22, 23, 24, 25, 26, 27, 28] (by decide +kernel) (by decide +kernel)
set_option maxRecDepth 20000 in
theorem gX1_extend_X1_extend : GoodIn wsX1_extend (va_wsS RX1 41 yX1_extend wsX1_extend) := goodIn_app (goodIn_of _ (by decide +kernel)) ggX1_extend_X1_extend
set_option maxRecDepth 20000 in
theorem ggX1_arcOf_X5_within : GoodIn wsX1_arcOf wsX5_within := goodIn_r _ [5] (by decide +kernel) (by decide +kernel)
set_option maxRecDepth 20000 in
theorem gX1_arcOf_X5_within_n32 : GoodIn wsX1_arcOf (wsX5_within) := ggX1_arcOf_X5_within
set_option maxRecDepth 20000 in
theorem ggX1_findSlowest_X1_timeOf : GoodIn wsX1_findSlowest wsX1_timeOf := goodIn_r _ [8, 9, 2, 10, 11, 12, 17, 18, 19, 20, 21, 22, 23, 24, 25, 26, 27, 28, 29] (by decide +kernel) (by decide +kernel)
set_option maxRecDepth 20000 in
theorem gX1_findSlowest_X1_timeOf : GoodIn wsX1_findSlowest (wsV RX1 61 RX1 yX1_timeOf wsX1_timeOf) := goodIn_app (goodIn_of _ (by decide +kernel)) ggX1_findSlowest_X1_timeOf
set_option maxRecDepth 20000 in
theorem ggX1_findSlowest_X1_cardsOf : GoodIn wsX1_findSlowest wsX1_cardsOf := goodIn_r _ [16, 9, 12, 17, 18, 19, 20, 21, 22, 23] (by decide +kernel) (by decide +kernel)
set_option maxRecDepth 20000 in
theorem gX1_findSlowest_X1_cardsOf : GoodIn wsX1_findSlowest (wsV RX1 68 RX1 yX1_cardsOf wsX1_cardsOf) := goodIn_app (goodIn_of _ (by decide +kernel)) ggX1_findSlowest_X1_cardsOf
set_option maxRecDepth 20000 in
theorem ggX1_countChanged_X1_cardsOf : GoodIn wsX1_countChanged wsX1_cardsOf := goodIn_r _ [9, 10, 11, 12, 13, 14, 15, 16, 17, 18] (by decide +kernel) (by decide +kernel)
set_option maxRecDepth 20000 in
theorem gX1_countChanged_X1_cardsOf : GoodIn wsX1_countChanged (wsV RX1 68 RX1 yX1_cardsOf wsX1_cardsOf) := goodIn_app (goodIn_of _ (by decide +kernel)) ggX1_countChanged_X1_cardsOf
set_option maxRecDepth 20000 in
theorem ggX1_cardsToReach_X1_timeOf : GoodIn wsX1_cardsToReach wsX1_timeOf := goodIn_r _ [12, 13, 2, 14, 15, 16, 25, 26, 27, 28, 29, 30, 31, 32, 33, 34, 35, 36, 37] (by decide +kernel) (by decide +kernel)
set_option maxRecDepth 20000 in
theorem gX1_cardsToReach_X1_timeOf : GoodIn wsX1_cardsToReach (wsV RX1 61 RX1 yX1_timeOf wsX1_timeOf) := goodIn_app (goodIn_of _ (by decide +kernel)) ggX1_cardsToReach_X1_timeOf
set_option maxRecDepth 20000 in
theorem ggX1_cardsToReach_X1_cardsOf : GoodIn wsX1_cardsToReach wsX1_cardsOf := goodIn_r _ [20, 13, 16, 25, 26, 27, 28, 29, 30, 31] (by decide +kernel) (by decide +kernel)
set_option maxRecDepth 20000 in
theorem gX1_cardsToReach_X1_cardsOf : GoodIn wsX1_cardsToReach (wsV RX1 68 RX1 yX1_cardsOf wsX1_cardsOf) := goodIn_app (goodIn_of _ (by decide +kernel)) ggX1_cardsToReach_X1_cardsOf
set_option maxRecDepth 20000 in
theorem ggX1_cardsToReach_X1_passes : GoodIn wsX1_cardsToReach wsX1_passes := goodIn_r _ [24, 13, 16, 25, 26, 27, 28, 29, 30, 31] (by decide +kernel) (by decide +kernel)
set_option maxRecDepth 20000 in
theorem gX1_cardsToReach_X1_passes : GoodIn wsX1_cardsToReach (wsV RX1 82 RX1 yX1_passes wsX1_passes) := goodIn_app (goodIn_of _ (by decide +kernel)) ggX1_cardsToReach_X1_passes
set_option maxRecDepth 20000 in
theorem ggX2_weighMean_X2_start : GoodIn wsX2_weighMean wsX2_start := goodIn_r _ [6, 7, 8, 9, 10, 11, 5, 12, 13, 14, 15, 16, 17, 18, 19, 20, 21, 44, 45, 46, 47, 48, 49] (by decide +kernel) (by decide +kernel)
set_option maxRecDepth 20000 in
theorem gX2_weighMean_X2_start : GoodIn wsX2_weighMean (wsV RX2 28 RX2 yX2_start wsX2_start) := goodIn_app (goodIn_of _ (by decide +kernel)) ggX2_weighMean_X2_start
set_option maxRecDepth 20000 in
theorem ggX2_weighMean_X2_runTick : GoodIn wsX2_weighMean wsX2_runTick := goodIn_r _ [25, 26, 8, 15, 16, 17, 18, 27, 28, 29, 5, 30, 7, 19, 20, 21, 31, 32, 33, 34, 35, 36, 37, 38, 39, 40, 41, 42, 43, 44, 45, 46, 47, 48, 49] (by decide +kernel) (by decide +kernel)
set_option maxRecDepth 20000 in
theorem gX2_weighMean_X2_runTick : GoodIn wsX2_weighMean (wsV RX2 33 RX2 yX2_runTick wsX2_runTick) := goodIn_app (goodIn_of _ (by decide +kernel)) ggX2_weighMean_X2_runTick
set_option maxRecDepth 20000 in
theorem ggX2_weighCount_X2_start : GoodIn wsX2_weighCount wsX2_start := goodIn_r _ [7, 8, 2, 9, 10, 11, 6, 12, 13, 14, 15, 16, 17, 18, 19, 20, 21, 44, 45, 46, 47, 48, 49] (by decide +kernel) (by decide +kernel)
set_option maxRecDepth 20000 in
theorem gX2_weighCount_X2_start : GoodIn wsX2_weighCount (wsV RX2 28 RX2 yX2_start wsX2_start) := goodIn_app (goodIn_of _ (by decide +kernel)) ggX2_weighCount_X2_start
set_option maxRecDepth 20000 in
theorem ggX2_weighCount_X2_runTick : GoodIn wsX2_weighCount wsX2_runTick := goodIn_r _ [25, 26, 2, 15, 16, 17, 18, 27, 28, 29, 6, 30, 8, 19, 20, 21, 31, 32, 33, 34, 35, 36, 37, 38, 39, 40, 41, 42, 43, 44, 45, 46, 47, 48, 49] (by decide +kernel) (by decide +kernel)
set_option maxRecDepth 20000 in
theorem gX2_weighCount_X2_runTick : GoodIn wsX2_weighCount (wsV RX2 33 RX2 yX2_runTick wsX2_runTick) := goodIn_app (goodIn_of _ (by decide +kernel)) ggX2_weighCount_X2_runTick
set_option maxRecDepth 20000 in
theorem ggX2_weighCount_X2_cell : GoodIn wsX2_weighCount wsX2_cell := goodIn_r _ [21] (by decide +kernel) (by decide +kernel)
set_option maxRecDepth 20000 in
theorem gX2_weighCount_X2_cell : GoodIn wsX2_weighCount (va_wsS RX2 41 yX2_cell wsX2_cell) := goodIn_app (goodIn_of _ (by decide +kernel)) ggX2_weighCount_X2_cell
set_option maxRecDepth 20000 in
theorem ggX2_start_X2_quartersOf : GoodIn wsX2_start wsX2_quartersOf := goodIn_r _ [7, 8, 9, 17, 18, 19, 20, 21, 22] (by decide +kernel) (by decide +kernel)
set_option maxRecDepth 20000 in
theorem gX2_start_X2_quartersOf : GoodIn wsX2_start (wsV RX2 45 RX2 yX2_quartersOf wsX2_quartersOf) := goodIn_app (goodIn_of _ (by decide +kernel)) ggX2_start_X2_quartersOf
set_option maxRecDepth 20000 in
theorem ggX2_start_J7_fill_d0a16 : GoodIn wsX2_start wsJ7_fill_d0a16 := goodIn_r _ [13] (by decide +kernel) (by decide +kernel)
set_option maxRecDepth 20000 in
theorem gX2_start_J7_fill_d0a16 : GoodIn wsX2_start (va_wsS RX2 49 yJ7_fill_d0a16 wsJ7_fill_d0a16) := goodIn_app (goodIn_of _ (by decide +kernel)) ggX2_start_J7_fill_d0a16
set_option maxRecDepth 20000 in
theorem ggX2_start_X2_cell : GoodIn wsX2_start wsX2_cell := goodIn_r _ [16] (by decide +kernel) (by decide +kernel)
set_option maxRecDepth 20000 in
theorem gX2_start_X2_cell : GoodIn wsX2_start (va_wsS RX2 41 yX2_cell wsX2_cell) := goodIn_app (goodIn_of _ (by decide +kernel)) ggX2_start_X2_cell
set_option maxRecDepth 20000 in
theorem ggX2_runTick_J7_fill_d0a16 : GoodIn wsX2_runTick wsJ7_fill_d0a16 := goodIn_r _ [6] (by decide +kernel) (by decide +kernel)
set_option maxRecDepth 20000 in
theorem gX2_runTick_J7_fill_d0a16 : GoodIn wsX2_runTick (va_wsS RX2 49 yJ7_fill_d0a16 wsJ7_fill_d0a16) := goodIn_app (goodIn_of _ (by decide +kernel)) ggX2_runTick_J7_fill_d0a16
set_option maxRecDepth 20000 in
theorem ggX2_runTick_X2_spread : GoodIn wsX2_runTick wsX2_spread := goodIn_r _ [11, 2, 12, 1, 13, 14, 10, 15, 16, 17, 18, 19, 20, 21, 22, 23, 24, 25, 26, 27, 28, 29, 30, 31, 32, 33, 34] (by decide +kernel) (by decide +kernel)
set_option maxRecDepth 20000 in
theorem gX2_runTick_X2_spread : GoodIn wsX2_runTick (wsV RX2 55 RX2 yX2_spread wsX2_spread) := goodIn_app (goodIn_of _ (by decide +kernel)) ggX2_runTick_X2_spread
set_option maxRecDepth 20000 in
theorem ggX2_spread_X2_cell : GoodIn wsX2_spread wsX2_cell := goodIn_r _ [7] (by decide +kernel) (by decide +kernel)
set_option maxRecDepth 20000 in
theorem gX2_spread_X2_cell : GoodIn wsX2_spread (va_wsS RX2 41 yX2_cell wsX2_cell) := goodIn_app (goodIn_of _ (by decide +kernel)) ggX2_spread_X2_cell
set_option maxRecDepth 20000 in
theorem ggX2_spread_X2_gives : GoodIn wsX2_spread wsX2_gives := goodIn_r _ [10] (by decide +kernel) (by decide +kernel)
set_option maxRecDepth 20000 in
theorem gX2_spread_X2_gives : GoodIn wsX2_spread (va_wsS RX2 59 yX2_gives wsX2_gives) := goodIn_app (goodIn_of _ (by decide +kernel)) ggX2_spread_X2_gives
set_option maxRecDepth 20000 in
theorem ggX2_spread_X2_levelAfter : GoodIn wsX2_spread wsX2_levelAfter := goodIn_r _ [13, 14, 15, 16, 17, 18, 19, 20] (by decide +kernel) (by decide +kernel)
set_option maxRecDepth 20000 in
theorem gX2_spread_X2_levelAfter : GoodIn wsX2_spread (va_wsS RX2 63 yX2_levelAfter wsX2_levelAfter) := goodIn_app (goodIn_of _ (by decide +kernel)) ggX2_spread_X2_levelAfter
set_option maxRecDepth 20000 in
theorem ggX3_lay_X3_nextKind : GoodIn wsX3_lay wsX3_nextKind := goodIn_r _ [15, 2, 1, 3, 23, 24, 25, 26, 27, 28] (by decide +kernel) (by decide +kernel)
set_option maxRecDepth 20000 in
theorem gX3_lay_X3_nextKind : GoodIn wsX3_lay (wsV RX3 31 RX3 yX3_nextKind wsX3_nextKind) := goodIn_app (goodIn_of _ (by decide +kernel)) ggX3_lay_X3_nextKind
set_option maxRecDepth 20000 in
theorem ggX3_lay_X3_farthestAfter : GoodIn wsX3_lay wsX3_farthestAfter := goodIn_r _ [19, 1, 3, 2, 20, 21, 9, 22, 7, 8, 10, 23, 24, 25, 26, 27, 28] (by decide +kernel) (by decide +kernel)
set_option maxRecDepth 20000 in
theorem gX3_lay_X3_farthestAfter : GoodIn wsX3_lay (wsV RX3 35 RX3 yX3_farthestAfter wsX3_farthestAfter) := goodIn_app (goodIn_of _ (by decide +kernel)) ggX3_lay_X3_farthestAfter
set_option maxRecDepth 20000 in
theorem ggX4_beginning_X4_orderArcs : GoodIn wsX4_beginning wsX4_orderArcs := goodIn_r _ [6, 7, 8, 9, 10, 11, 12, 13, 5, 14, 15, 16, 17, 18, 19, 20, 21, 22, 23, 40, 41, 42, 43, 44, 45, 46, 47, 48, 49, 50] (by decide +kernel) (by decide +kernel)
set_option maxRecDepth 20000 in
theorem gX4_beginning_X4_orderArcs : GoodIn wsX4_beginning (wsV RX4 22 RX4 yX4_orderArcs wsX4_orderArcs) := goodIn_app (goodIn_of _ (by decide +kernel)) ggX4_beginning_X4_orderArcs
set_option maxRecDepth 20000 in
theorem ggX4_beginning_X4_beginAll : GoodIn wsX4_beginning wsX4_beginAll := goodIn_r _ [27, 9, 10, 1, 7, 8, 23, 17, 16, 28, 29, 30, 5, 31, 18, 32, 33, 34, 35, 36, 37, 38, 39, 40, 41, 42, 43, 44, 45, 46, 47, 48, 49, 50] (by decide +kernel) (by decide +kernel)
set_option maxRecDepth 20000 in
theorem gX4_beginning_X4_beginAll : GoodIn wsX4_beginning (wsV RX4 25 RX4 yX4_beginAll wsX4_beginAll) := goodIn_app (goodIn_of _ (by decide +kernel)) ggX4_beginning_X4_beginAll
set_option maxRecDepth 20000 in
theorem ggX4_orderArcs_X4_waits : GoodIn wsX4_orderArcs wsX4_waits := goodIn_r _ [9, 3, 10, 11, 12, 1, 13, 19, 20, 21, 22, 23, 24, 25, 26, 27, 28, 29] (by decide +kernel) (by decide +kernel)
set_option maxRecDepth 20000 in
theorem gX4_orderArcs_X4_waits : GoodIn wsX4_orderArcs (wsV RX4 41 RX4 yX4_waits wsX4_waits) := goodIn_app (goodIn_of _ (by decide +kernel)) ggX4_orderArcs_X4_waits
set_option maxRecDepth 20000 in
theorem ggX4_orderArcs_X4_orderArcsTo : GoodIn wsX4_orderArcs wsX4_orderArcsTo := goodIn_r _ [17, 3, 10, 11, 2, 18, 19, 20, 21, 22, 23, 24, 25, 26, 27, 28, 29] (by decide +kernel) (by decide +kernel)
set_option maxRecDepth 20000 in
theorem gX4_orderArcs_X4_orderArcsTo : GoodIn wsX4_orderArcs (wsV RX4 45 RX4 yX4_orderArcsTo wsX4_orderArcsTo) := goodIn_app (goodIn_of _ (by decide +kernel)) ggX4_orderArcs_X4_orderArcsTo
set_option maxRecDepth 20000 in
theorem ggX4_beginAll_X4_doneAt : GoodIn wsX4_beginAll wsX4_doneAt := goodIn_r _ [13, 1, 14, 3, 7, 15, 23, 24, 25, 26, 27, 28, 29, 30, 31, 32, 33] (by decide +kernel) (by decide +kernel)
set_option maxRecDepth 20000 in
theorem gX4_beginAll_X4_doneAt : GoodIn wsX4_beginAll (wsV RX4 60 RX4 yX4_doneAt wsX4_doneAt) := goodIn_app (goodIn_of _ (by decide +kernel)) ggX4_beginAll_X4_doneAt
set_option maxRecDepth 20000 in
theorem ggX4_beginAll_X4_later : GoodIn wsX4_beginAll wsX4_later := goodIn_r _ [18, 19, 20, 21, 22] (by decide +kernel) (by decide +kernel)
set_option maxRecDepth 20000 in
theorem gX4_beginAll_X4_later : GoodIn wsX4_beginAll (va_wsS RX4 64 yX4_later wsX4_later) := goodIn_app (goodIn_of _ (by decide +kernel)) ggX4_beginAll_X4_later
set_option maxRecDepth 20000 in
theorem ggX5_init_X0_init : GoodIn wsX5_init wsX0_init := goodIn_r _ [25, 26, 2, 3, 27, 28, 29, 30, 31, 63, 64, 65, 66, 67, 68] (by decide +kernel) (by decide +kernel)
set_option maxRecDepth 20000 in
theorem gX5_init_X0_init_n9 : GoodIn wsX5_init (wsX0_init) := ggX5_init_X0_init
set_option maxRecDepth 20000 in
theorem ggX5_init_X1_init : GoodIn wsX5_init wsX1_init := goodIn_r _ [34, 35, 2, 3, 27, 36, 37, 38, 39, 40, 74, 75, 76, 77, 78, 79, 80] (by decide +kernel) (by decide +kernel)
set_option maxRecDepth 20000 in
theorem gX5_init_X1_init : GoodIn wsX5_init (wsX1_init) := ggX5_init_X1_init
set_option maxRecDepth 20000 in
theorem ggX5_init_X4_init : GoodIn wsX5_init wsX4_init := goodIn_r _ [43, 44, 2, 3, 27, 45, 46, 47, 81, 82, 83, 84, 85] (by decide +kernel) (by decide +kernel)
set_option maxRecDepth 20000 in
theorem gX5_init_X4_init : GoodIn wsX5_init (wsX4_init) := ggX5_init_X4_init
set_option maxRecDepth 20000 in
theorem ggX5_init_X2_init : GoodIn wsX5_init wsX2_init := goodIn_r _ [49, 50, 2, 3, 27, 51, 52, 53, 54, 55, 56, 86, 87, 88, 89, 90, 91] (by decide +kernel) (by decide +kernel)
set_option maxRecDepth 20000 in
theorem gX5_init_X2_init_n34 : GoodIn wsX5_init (wsX2_init) := ggX5_init_X2_init
set_option maxRecDepth 20000 in
theorem ggX5_init_X3_init : GoodIn wsX5_init wsX3_init := goodIn_r _ [58, 59, 2, 3, 27, 60, 61, 62, 92, 93, 94, 95, 96, 97] (by decide +kernel) (by decide +kernel)
set_option maxRecDepth 20000 in
theorem gX5_init_X3_init_n41 : GoodIn wsX5_init (wsX3_init) := ggX5_init_X3_init
set_option maxRecDepth 20000 in
theorem ggX5_station_X5_within : GoodIn wsX5_station wsX5_within := goodIn_r _ [7] (by decide +kernel) (by decide +kernel)
set_option maxRecDepth 20000 in
theorem gX5_station_X5_within : GoodIn wsX5_station (va_wsS RX5 46 yX5_within wsX5_within) := goodIn_app (goodIn_of _ (by decide +kernel)) ggX5_station_X5_within
set_option maxRecDepth 20000 in
theorem ggX5_station_X1_forgetNote : GoodIn wsX5_station wsX1_forgetNote := goodIn_r _ [12, 13, 32, 33, 34, 35, 36, 37, 38] (by decide +kernel) (by decide +kernel)
set_option maxRecDepth 20000 in
theorem gX5_station_X1_forgetNote : GoodIn wsX5_station (wsV RX5 54 RX1 yX1_forgetNote wsX1_forgetNote) := goodIn_app (goodIn_of _ (by decide +kernel)) ggX5_station_X1_forgetNote
set_option maxRecDepth 20000 in
theorem ggX5_station_X0_addStation : GoodIn wsX5_station wsX0_addStation := goodIn_r _ [18, 19, 20, 26, 27, 28, 29, 30, 31] (by decide +kernel) (by decide +kernel)
set_option maxRecDepth 20000 in
theorem gX5_station_X0_addStation : GoodIn wsX5_station (wsV RX5 57 RX0 yX0_addStation wsX0_addStation) := goodIn_app (goodIn_of _ (by decide +kernel)) ggX5_station_X0_addStation
set_option maxRecDepth 20000 in
theorem ggX5_arc_X0_hasStation : GoodIn wsX5_arc wsX0_hasStation := goodIn_r _ [8, 9, 10, 11, 12, 53, 54, 55, 56, 57, 58] (by decide +kernel) (by decide +kernel)
set_option maxRecDepth 20000 in
theorem gX5_arc_X0_hasStation : GoodIn wsX5_arc (wsV RX5 61 RX0 yX0_hasStation wsX0_hasStation) := goodIn_app (goodIn_of _ (by decide +kernel)) ggX5_arc_X0_hasStation
set_option maxRecDepth 20000 in
theorem ggX5_arc_X5_within : GoodIn wsX5_arc wsX5_within := goodIn_r _ [12] (by decide +kernel) (by decide +kernel)
set_option maxRecDepth 20000 in
theorem gX5_arc_X5_within : GoodIn wsX5_arc (va_wsS RX5 46 yX5_within wsX5_within) := goodIn_app (goodIn_of _ (by decide +kernel)) ggX5_arc_X5_within
set_option maxRecDepth 20000 in
theorem ggX5_arc_X0_addArc : GoodIn wsX5_arc wsX0_addArc := goodIn_r _ [17, 18, 19, 20, 21, 53, 54, 55, 56, 57, 58] (by decide +kernel) (by decide +kernel)
set_option maxRecDepth 20000 in
theorem gX5_arc_X0_addArc : GoodIn wsX5_arc (wsV RX5 68 RX0 yX0_addArc wsX0_addArc) := goodIn_app (goodIn_of _ (by decide +kernel)) ggX5_arc_X0_addArc
set_option maxRecDepth 20000 in
theorem ggX5_arc_X1_forgetNote : GoodIn wsX5_arc wsX1_forgetNote := goodIn_r _ [26, 27, 59, 60, 61, 62, 63, 64, 65] (by decide +kernel) (by decide +kernel)
set_option maxRecDepth 20000 in
theorem gX5_arc_X1_forgetNote : GoodIn wsX5_arc (wsV RX5 54 RX1 yX1_forgetNote wsX1_forgetNote) := goodIn_app (goodIn_of _ (by decide +kernel)) ggX5_arc_X1_forgetNote
set_option maxRecDepth 20000 in
theorem ggX5_arc_X1_find : GoodIn wsX5_arc wsX1_find := goodIn_r _ [31, 32, 33, 34, 35, 36, 25, 37, 38, 39, 40, 41, 42, 43, 44, 45, 46, 47, 59, 60, 61, 62, 63, 64, 65, 53, 54, 55, 56, 57, 58] (by decide +kernel) (by decide +kernel)
set_option maxRecDepth 20000 in
theorem gX5_arc_X1_find : GoodIn wsX5_arc (wsV RX5 72 RX1 yX1_find wsX1_find) := goodIn_app (goodIn_of _ (by decide +kernel)) ggX5_arc_X1_find
set_option maxRecDepth 20000 in
theorem ggX5_time_X0_hasStation : GoodIn wsX5_time wsX0_hasStation := goodIn_r _ [7, 8, 9, 10, 11, 18, 19, 20, 21, 22, 23] (by decide +kernel) (by decide +kernel)
set_option maxRecDepth 20000 in
theorem gX5_time_X0_hasStation : GoodIn wsX5_time (wsV RX5 61 RX0 yX0_hasStation wsX0_hasStation) := goodIn_app (goodIn_of _ (by decide +kernel)) ggX5_time_X0_hasStation
set_option maxRecDepth 20000 in
theorem ggX5_time_X5_within : GoodIn wsX5_time wsX5_within := goodIn_r _ [11] (by decide +kernel) (by decide +kernel)
set_option maxRecDepth 20000 in
theorem gX5_time_X5_within : GoodIn wsX5_time (va_wsS RX5 46 yX5_within wsX5_within) := goodIn_app (goodIn_of _ (by decide +kernel)) ggX5_time_X5_within
set_option maxRecDepth 20000 in
theorem ggX5_put_X0_hasArc : GoodIn wsX5_put wsX0_hasArc := goodIn_r _ [7, 8, 9, 10, 11, 18, 19, 20, 21, 22, 23] (by decide +kernel) (by decide +kernel)
set_option maxRecDepth 20000 in
theorem gX5_put_X0_hasArc : GoodIn wsX5_put (wsV RX5 79 RX0 yX0_hasArc wsX0_hasArc) := goodIn_app (goodIn_of _ (by decide +kernel)) ggX5_put_X0_hasArc
set_option maxRecDepth 20000 in
theorem ggX5_put_X5_within : GoodIn wsX5_put wsX5_within := goodIn_r _ [11] (by decide +kernel) (by decide +kernel)
set_option maxRecDepth 20000 in
theorem gX5_put_X5_within : GoodIn wsX5_put (va_wsS RX5 46 yX5_within wsX5_within) := goodIn_app (goodIn_of _ (by decide +kernel)) ggX5_put_X5_within
set_option maxRecDepth 20000 in
theorem ggX5_about_X0_hasArc : GoodIn wsX5_about wsX0_hasArc := goodIn_r _ [9, 10, 11, 12, 13, 19, 20, 21, 22, 23, 24] (by decide +kernel) (by decide +kernel)
set_option maxRecDepth 20000 in
theorem gX5_about_X0_hasArc : GoodIn wsX5_about (wsV RX5 79 RX0 yX0_hasArc wsX0_hasArc) := goodIn_app (goodIn_of _ (by decide +kernel)) ggX5_about_X0_hasArc
set_option maxRecDepth 20000 in
theorem ggX5_ready_X0_hasStation : GoodIn wsX5_ready wsX0_hasStation := goodIn_r _ [6, 7, 8, 9, 10, 23, 24, 25, 26, 27, 28] (by decide +kernel) (by decide +kernel)
set_option maxRecDepth 20000 in
theorem gX5_ready_X0_hasStation : GoodIn wsX5_ready (wsV RX5 61 RX0 yX0_hasStation wsX0_hasStation) := goodIn_app (goodIn_of _ (by decide +kernel)) ggX5_ready_X0_hasStation
set_option maxRecDepth 20000 in
theorem ggX5_ready_X0_isReady : GoodIn wsX5_ready wsX0_isReady := goodIn_r _ [14, 15, 16, 17, 23, 24, 25, 26, 27, 28] (by decide +kernel) (by decide +kernel)
set_option maxRecDepth 20000 in
theorem gX5_ready_X0_isReady : GoodIn wsX5_ready (wsV RX5 91 RX0 yX0_isReady wsX0_isReady) := goodIn_app (goodIn_of _ (by decide +kernel)) ggX5_ready_X0_isReady
set_option maxRecDepth 20000 in
theorem ggX5_fire_X0_hasStation : GoodIn wsX5_fire wsX0_hasStation := goodIn_r _ [6, 7, 8, 9, 10, 37, 38, 39, 40, 41, 42] (by decide +kernel) (by decide +kernel)
set_option maxRecDepth 20000 in
theorem gX5_fire_X0_hasStation : GoodIn wsX5_fire (wsV RX5 61 RX0 yX0_hasStation wsX0_hasStation) := goodIn_app (goodIn_of _ (by decide +kernel)) ggX5_fire_X0_hasStation
set_option maxRecDepth 20000 in
theorem ggX5_fire_X0_isReady : GoodIn wsX5_fire wsX0_isReady := goodIn_r _ [14, 15, 16, 17, 37, 38, 39, 40, 41, 42] (by decide +kernel) (by decide +kernel)
set_option maxRecDepth 20000 in
theorem gX5_fire_X0_isReady : GoodIn wsX5_fire (wsV RX5 91 RX0 yX0_isReady wsX0_isReady) := goodIn_app (goodIn_of _ (by decide +kernel)) ggX5_fire_X0_isReady
set_option maxRecDepth 20000 in
theorem ggX5_fire_X0_hasRoom : GoodIn wsX5_fire wsX0_hasRoom := goodIn_r _ [21, 15, 22, 16, 17, 37, 38, 39, 40, 41, 42] (by decide +kernel) (by decide +kernel)
set_option maxRecDepth 20000 in
theorem gX5_fire_X0_hasRoom : GoodIn wsX5_fire (wsV RX5 94 RX0 yX0_hasRoom wsX0_hasRoom) := goodIn_app (goodIn_of _ (by decide +kernel)) ggX5_fire_X0_hasRoom
set_option maxRecDepth 20000 in
theorem ggX5_fire_X0_moveCards : GoodIn wsX5_fire wsX0_moveCards := goodIn_r _ [26, 15, 16, 17, 22, 37, 38, 39, 40, 41, 42] (by decide +kernel) (by decide +kernel)
set_option maxRecDepth 20000 in
theorem gX5_fire_X0_moveCards : GoodIn wsX5_fire (wsV RX5 97 RX0 yX0_moveCards wsX0_moveCards) := goodIn_app (goodIn_of _ (by decide +kernel)) ggX5_fire_X0_moveCards
set_option maxRecDepth 20000 in
theorem ggX5_fire_X0_countReady : GoodIn wsX5_fire wsX0_countReady := goodIn_r _ [30, 7, 31, 12, 13, 5, 14, 15, 16, 17, 37, 38, 39, 40, 41, 42] (by decide +kernel) (by decide +kernel)
set_option maxRecDepth 20000 in
theorem gX5_fire_X0_countReady : GoodIn wsX5_fire (wsV RX5 101 RX0 yX0_countReady wsX0_countReady) := goodIn_app (goodIn_of _ (by decide +kernel)) ggX5_fire_X0_countReady
set_option maxRecDepth 20000 in
theorem ggX5_round_X0_isReady : GoodIn wsX5_round wsX0_isReady := goodIn_r _ [7, 8, 9, 10, 25, 26, 27, 28, 29, 30] (by decide +kernel) (by decide +kernel)
set_option maxRecDepth 20000 in
theorem gX5_round_X0_isReady : GoodIn wsX5_round (wsV RX5 91 RX0 yX0_isReady wsX0_isReady) := goodIn_app (goodIn_of _ (by decide +kernel)) ggX5_round_X0_isReady
set_option maxRecDepth 20000 in
theorem ggX5_round_X0_hasRoom : GoodIn wsX5_round wsX0_hasRoom := goodIn_r _ [14, 8, 15, 9, 10, 25, 26, 27, 28, 29, 30] (by decide +kernel) (by decide +kernel)
set_option maxRecDepth 20000 in
theorem gX5_round_X0_hasRoom : GoodIn wsX5_round (wsV RX5 94 RX0 yX0_hasRoom wsX0_hasRoom) := goodIn_app (goodIn_of _ (by decide +kernel)) ggX5_round_X0_hasRoom
set_option maxRecDepth 20000 in
theorem ggX5_round_X0_moveCards : GoodIn wsX5_round wsX0_moveCards := goodIn_r _ [19, 8, 9, 10, 15, 25, 26, 27, 28, 29, 30] (by decide +kernel) (by decide +kernel)
set_option maxRecDepth 20000 in
theorem gX5_round_X0_moveCards : GoodIn wsX5_round (wsV RX5 97 RX0 yX0_moveCards wsX0_moveCards) := goodIn_app (goodIn_of _ (by decide +kernel)) ggX5_round_X0_moveCards
set_option maxRecDepth 20000 in
theorem ggX5_loop_X1_has : GoodIn wsX5_loop wsX1_has := goodIn_r _ [6, 7, 8, 9, 10, 22, 23, 24, 25, 26, 27, 28] (by decide +kernel) (by decide +kernel)
set_option maxRecDepth 20000 in
theorem gX5_loop_X1_has : GoodIn wsX5_loop (wsV RX5 108 RX1 yX1_has wsX1_has) := goodIn_app (goodIn_of _ (by decide +kernel)) ggX5_loop_X1_has
set_option maxRecDepth 20000 in
theorem ggX5_loop_X1_arcOf : GoodIn wsX5_loop wsX1_arcOf := goodIn_r _ [14, 15, 16, 8, 9, 10, 22, 23, 24, 25, 26, 27, 28] (by decide +kernel) (by decide +kernel)
set_option maxRecDepth 20000 in
theorem gX5_loop_X1_arcOf : GoodIn wsX5_loop (wsV RX5 111 RX1 yX1_arcOf wsX1_arcOf) := goodIn_app (goodIn_of _ (by decide +kernel)) ggX5_loop_X1_arcOf
set_option maxRecDepth 20000 in
theorem ggX5_sum_X1_has : GoodIn wsX5_sum wsX1_has := goodIn_r _ [8, 9, 10, 11, 12, 37, 38, 39, 40, 41, 42, 43] (by decide +kernel) (by decide +kernel)
set_option maxRecDepth 20000 in
theorem gX5_sum_X1_has : GoodIn wsX5_sum (wsV RX5 108 RX1 yX1_has wsX1_has) := goodIn_app (goodIn_of _ (by decide +kernel)) ggX5_sum_X1_has
set_option maxRecDepth 20000 in
theorem ggX5_sum_X1_cardsOf : GoodIn wsX5_sum wsX1_cardsOf := goodIn_r _ [16, 17, 18, 37, 38, 39, 40, 41, 42, 43] (by decide +kernel) (by decide +kernel)
set_option maxRecDepth 20000 in
theorem gX5_sum_X1_cardsOf : GoodIn wsX5_sum (wsV RX5 115 RX1 yX1_cardsOf wsX1_cardsOf) := goodIn_app (goodIn_of _ (by decide +kernel)) ggX5_sum_X1_cardsOf
set_option maxRecDepth 20000 in
theorem ggX5_sum_X1_timeOf : GoodIn wsX5_sum wsX1_timeOf := goodIn_r _ [22, 17, 23, 24, 25, 18, 37, 38, 39, 40, 41, 42, 43, 31, 32, 33, 34, 35, 36] (by decide +kernel) (by decide +kernel)
set_option maxRecDepth 20000 in
theorem gX5_sum_X1_timeOf : GoodIn wsX5_sum (wsV RX5 119 RX1 yX1_timeOf wsX1_timeOf) := goodIn_app (goodIn_of _ (by decide +kernel)) ggX5_sum_X1_timeOf
set_option maxRecDepth 20000 in
theorem ggX5_pace_X1_findSlowest : GoodIn wsX5_pace wsX1_findSlowest := goodIn_r _ [9, 10, 11, 12, 13, 14, 15, 8, 16, 17, 18, 19, 20, 21, 22, 23, 24, 55, 56, 57, 58, 59, 60, 61, 49, 50, 51, 52, 53, 54] (by decide +kernel) (by decide +kernel)
set_option maxRecDepth 20000 in
theorem gX5_pace_X1_findSlowest : GoodIn wsX5_pace (wsV RX5 122 RX1 yX1_findSlowest wsX1_findSlowest) := goodIn_app (goodIn_of _ (by decide +kernel)) ggX5_pace_X1_findSlowest
set_option maxRecDepth 20000 in
theorem ggX5_pace_X1_has : GoodIn wsX5_pace wsX1_has := goodIn_r _ [28, 10, 29, 30, 31, 55, 56, 57, 58, 59, 60, 61] (by decide +kernel) (by decide +kernel)
set_option maxRecDepth 20000 in
theorem gX5_pace_X1_has : GoodIn wsX5_pace (wsV RX5 108 RX1 yX1_has wsX1_has) := goodIn_app (goodIn_of _ (by decide +kernel)) ggX5_pace_X1_has
set_option maxRecDepth 20000 in
theorem ggX5_pace_X1_cardsOf : GoodIn wsX5_pace wsX1_cardsOf := goodIn_r _ [24, 17, 20, 55, 56, 57, 58, 59, 60, 61] (by decide +kernel) (by decide +kernel)
set_option maxRecDepth 20000 in
theorem gX5_pace_X1_cardsOf : GoodIn wsX5_pace (wsV RX5 115 RX1 yX1_cardsOf wsX1_cardsOf) := goodIn_app (goodIn_of _ (by decide +kernel)) ggX5_pace_X1_cardsOf
set_option maxRecDepth 20000 in
theorem ggX5_pace_X1_timeOf : GoodIn wsX5_pace wsX1_timeOf := goodIn_r _ [16, 17, 11, 18, 19, 20, 55, 56, 57, 58, 59, 60, 61, 49, 50, 51, 52, 53, 54] (by decide +kernel) (by decide +kernel)
set_option maxRecDepth 20000 in
theorem gX5_pace_X1_timeOf : GoodIn wsX5_pace (wsV RX5 119 RX1 yX1_timeOf wsX1_timeOf) := goodIn_app (goodIn_of _ (by decide +kernel)) ggX5_pace_X1_timeOf
set_option maxRecDepth 20000 in
theorem ggX5_pace_X5_inLeastTerms : GoodIn wsX5_pace wsX5_inLeastTerms := goodIn_r _ [36, 37, 38, 30, 39, 40, 41, 42, 43] (by decide +kernel) (by decide +kernel)
set_option maxRecDepth 20000 in
theorem gX5_pace_X5_inLeastTerms : GoodIn wsX5_pace (va_wsS RX5 127 yX5_inLeastTerms wsX5_inLeastTerms) := goodIn_app (goodIn_of _ (by decide +kernel)) ggX5_pace_X5_inLeastTerms
set_option maxRecDepth 20000 in
theorem ggX5_slowest_X1_findSlowest : GoodIn wsX5_slowest wsX1_findSlowest := goodIn_r _ [6, 7, 8, 9, 10, 11, 12, 5, 13, 14, 15, 16, 17, 18, 19, 20, 21, 27, 28, 29, 30, 31, 32, 33, 34, 35, 36, 37, 38, 39] (by decide +kernel) (by decide +kernel)
set_option maxRecDepth 20000 in
theorem gX5_slowest_X1_findSlowest : GoodIn wsX5_slowest (wsV RX5 122 RX1 yX1_findSlowest wsX1_findSlowest) := goodIn_app (goodIn_of _ (by decide +kernel)) ggX5_slowest_X1_findSlowest
set_option maxRecDepth 20000 in
theorem ggX5_begins_X0_hasStation : GoodIn wsX5_begins wsX0_hasStation := goodIn_r _ [7, 8, 9, 10, 11, 61, 62, 63, 64, 65, 66] (by decide +kernel) (by decide +kernel)
set_option maxRecDepth 20000 in
theorem gX5_begins_X0_hasStation : GoodIn wsX5_begins (wsV RX5 61 RX0 yX0_hasStation wsX0_hasStation) := goodIn_app (goodIn_of _ (by decide +kernel)) ggX5_begins_X0_hasStation
set_option maxRecDepth 20000 in
theorem ggX5_begins_X5_within : GoodIn wsX5_begins wsX5_within := goodIn_r _ [11] (by decide +kernel) (by decide +kernel)
set_option maxRecDepth 20000 in
theorem gX5_begins_X5_within : GoodIn wsX5_begins (va_wsS RX5 46 yX5_within wsX5_within) := goodIn_app (goodIn_of _ (by decide +kernel)) ggX5_begins_X5_within
set_option maxRecDepth 20000 in
theorem ggX5_begins_X4_beginning : GoodIn wsX5_begins wsX4_beginning := goodIn_r _ [17, 18, 19, 20, 21, 16, 22, 23, 24, 25, 26, 27, 28, 29, 30, 31, 32, 33, 34, 35, 36, 37, 38, 39, 40, 41, 42, 43, 44, 45, 46, 47, 48, 49, 50, 51, 52, 53, 54, 55, 67, 68, 69, 70, 71, 61, 62, 63, 64, 65, 66] (by decide +kernel) (by decide +kernel)
set_option maxRecDepth 20000 in
theorem gX5_begins_X4_beginning : GoodIn wsX5_begins (wsV RX5 131 RX4 yX4_beginning wsX4_beginning) := goodIn_app (goodIn_of _ (by decide +kernel)) ggX5_begins_X4_beginning
set_option maxRecDepth 20000 in
theorem ggX5_note_X1_takeNote : GoodIn wsX5_note wsX1_takeNote := goodIn_r _ [7, 8, 9, 10, 11, 12, 13, 14, 15, 21, 22, 23, 24, 25, 26, 27, 28, 29, 30, 31, 32, 33] (by decide +kernel) (by decide +kernel)
set_option maxRecDepth 20000 in
theorem gX5_note_X1_takeNote : GoodIn wsX5_note (wsV RX5 134 RX1 yX1_takeNote wsX1_takeNote) := goodIn_app (goodIn_of _ (by decide +kernel)) ggX5_note_X1_takeNote
set_option maxRecDepth 20000 in
theorem ggX5_audit_X1_countChanged : GoodIn wsX5_audit wsX1_countChanged := goodIn_r _ [7, 8, 9, 10, 11, 12, 13, 14, 6, 15, 16, 17, 23, 24, 25, 26, 27, 28, 29, 30, 31, 32, 33, 34, 35] (by decide +kernel) (by decide +kernel)
set_option maxRecDepth 20000 in
theorem gX5_audit_X1_countChanged : GoodIn wsX5_audit (wsV RX5 141 RX1 yX1_countChanged wsX1_countChanged) := goodIn_app (goodIn_of _ (by decide +kernel)) ggX5_audit_X1_countChanged
set_option maxRecDepth 20000 in
theorem ggX5_cards_X0_hasArc : GoodIn wsX5_cards wsX0_hasArc := goodIn_r _ [7, 8, 9, 10, 11, 46, 47, 48, 49, 50, 51] (by decide +kernel) (by decide +kernel)
set_option maxRecDepth 20000 in
theorem gX5_cards_X0_hasArc : GoodIn wsX5_cards (wsV RX5 79 RX0 yX0_hasArc wsX0_hasArc) := goodIn_app (goodIn_of _ (by decide +kernel)) ggX5_cards_X0_hasArc
set_option maxRecDepth 20000 in
theorem ggX5_cards_X5_within : GoodIn wsX5_cards wsX5_within := goodIn_r _ [11] (by decide +kernel) (by decide +kernel)
set_option maxRecDepth 20000 in
theorem gX5_cards_X5_within : GoodIn wsX5_cards (va_wsS RX5 46 yX5_within wsX5_within) := goodIn_app (goodIn_of _ (by decide +kernel)) ggX5_cards_X5_within
set_option maxRecDepth 20000 in
theorem ggX5_cards_X1_cardsToReach : GoodIn wsX5_cards wsX1_cardsToReach := goodIn_r _ [17, 18, 19, 20, 21, 22, 23, 24, 25, 26, 27, 16, 28, 29, 30, 31, 32, 33, 34, 35, 36, 37, 38, 39, 40, 52, 53, 54, 55, 56, 57, 58, 46, 47, 48, 49, 50, 51] (by decide +kernel) (by decide +kernel)
set_option maxRecDepth 20000 in
theorem gX5_cards_X1_cardsToReach : GoodIn wsX5_cards (wsV RX5 145 RX1 yX1_cardsToReach wsX1_cardsToReach) := goodIn_app (goodIn_of _ (by decide +kernel)) ggX5_cards_X1_cardsToReach
set_option maxRecDepth 20000 in
theorem ggX5_machine_X5_within : GoodIn wsX5_machine wsX5_within := goodIn_r _ [7] (by decide +kernel) (by decide +kernel)
set_option maxRecDepth 20000 in
theorem gX5_machine_X5_within : GoodIn wsX5_machine (va_wsS RX5 46 yX5_within wsX5_within) := goodIn_app (goodIn_of _ (by decide +kernel)) ggX5_machine_X5_within
set_option maxRecDepth 20000 in
theorem ggX5_store_X5_within : GoodIn wsX5_store wsX5_within := goodIn_r _ [6] (by decide +kernel) (by decide +kernel)
set_option maxRecDepth 20000 in
theorem gX5_store_X5_within : GoodIn wsX5_store (va_wsS RX5 46 yX5_within wsX5_within) := goodIn_app (goodIn_of _ (by decide +kernel)) ggX5_store_X5_within
set_option maxRecDepth 20000 in
theorem ggX5_given_X5_within : GoodIn wsX5_given wsX5_within := goodIn_r _ [7] (by decide +kernel) (by decide +kernel)
set_option maxRecDepth 20000 in
theorem gX5_given_X5_within : GoodIn wsX5_given (va_wsS RX5 46 yX5_within wsX5_within) := goodIn_app (goodIn_of _ (by decide +kernel)) ggX5_given_X5_within
set_option maxRecDepth 20000 in
theorem ggX5_given_X2_weighMean : GoodIn wsX5_given wsX2_weighMean := goodIn_r _ [12, 13, 14, 15, 16, 11, 17, 18, 19, 20, 21, 22, 23, 24, 25, 26, 27, 28, 29, 30, 31, 32, 33, 34, 35, 36, 37, 38, 39, 40, 41, 42, 43, 44, 45, 46, 47, 48, 49, 50, 51, 52, 53, 54, 72, 73, 74, 75, 76, 77] (by decide +kernel) (by decide +kernel)
set_option maxRecDepth 20000 in
theorem gX5_given_X2_weighMean : GoodIn wsX5_given (wsV RX5 159 RX2 yX2_weighMean wsX2_weighMean) := goodIn_app (goodIn_of _ (by decide +kernel)) ggX5_given_X2_weighMean
set_option maxRecDepth 20000 in
theorem ggX5_given_X2_weightInAll : GoodIn wsX5_given wsX2_weightInAll := goodIn_r _ [57] (by decide +kernel) (by decide +kernel)
set_option maxRecDepth 20000 in
theorem gX5_given_X2_weightInAll : GoodIn wsX5_given (va_wsS RX5 163 yX2_weightInAll wsX2_weightInAll) := goodIn_app (goodIn_of _ (by decide +kernel)) ggX5_given_X2_weightInAll
set_option maxRecDepth 20000 in
theorem ggX5_given_X5_inLeastTerms : GoodIn wsX5_given wsX5_inLeastTerms := goodIn_r _ [60, 61, 62, 6, 63, 64, 65, 50, 66] (by decide +kernel) (by decide +kernel)
set_option maxRecDepth 20000 in
theorem gX5_given_X5_inLeastTerms : GoodIn wsX5_given (va_wsS RX5 127 yX5_inLeastTerms wsX5_inLeastTerms) := goodIn_app (goodIn_of _ (by decide +kernel)) ggX5_given_X5_inLeastTerms
set_option maxRecDepth 20000 in
theorem ggX5_just_X5_within : GoodIn wsX5_just wsX5_within := goodIn_r _ [6] (by decide +kernel) (by decide +kernel)
set_option maxRecDepth 20000 in
theorem gX5_just_X5_within : GoodIn wsX5_just (va_wsS RX5 46 yX5_within wsX5_within) := goodIn_app (goodIn_of _ (by decide +kernel)) ggX5_just_X5_within
set_option maxRecDepth 20000 in
theorem ggX5_just_X2_weighCount : GoodIn wsX5_just wsX2_weighCount := goodIn_r _ [11, 12, 13, 14, 15, 16, 10, 17, 18, 19, 20, 21, 22, 23, 24, 25, 26, 27, 28, 29, 30, 31, 32, 33, 34, 35, 36, 37, 38, 39, 40, 41, 42, 43, 44, 45, 46, 47, 48, 49, 50, 51, 52, 53, 71, 72, 73, 74, 75, 76] (by decide +kernel) (by decide +kernel)
set_option maxRecDepth 20000 in
theorem gX5_just_X2_weighCount : GoodIn wsX5_just (wsV RX5 167 RX2 yX2_weighCount wsX2_weighCount) := goodIn_app (goodIn_of _ (by decide +kernel)) ggX5_just_X2_weighCount
set_option maxRecDepth 20000 in
theorem ggX5_just_X2_weightInAll : GoodIn wsX5_just wsX2_weightInAll := goodIn_r _ [56] (by decide +kernel) (by decide +kernel)
set_option maxRecDepth 20000 in
theorem gX5_just_X2_weightInAll : GoodIn wsX5_just (va_wsS RX5 163 yX2_weightInAll wsX2_weightInAll) := goodIn_app (goodIn_of _ (by decide +kernel)) ggX5_just_X2_weightInAll
set_option maxRecDepth 20000 in
theorem ggX5_just_X5_inLeastTerms : GoodIn wsX5_just wsX5_inLeastTerms := goodIn_r _ [59, 60, 61, 5, 62, 63, 64, 49, 65] (by decide +kernel) (by decide +kernel)
set_option maxRecDepth 20000 in
theorem gX5_just_X5_inLeastTerms : GoodIn wsX5_just (va_wsS RX5 127 yX5_inLeastTerms wsX5_inLeastTerms) := goodIn_app (goodIn_of _ (by decide +kernel)) ggX5_just_X5_inLeastTerms
set_option maxRecDepth 20000 in
theorem ggX5_least_X5_within : GoodIn wsX5_least wsX5_within := goodIn_r _ [5] (by decide +kernel) (by decide +kernel)
set_option maxRecDepth 20000 in
theorem gX5_least_X5_within : GoodIn wsX5_least (va_wsS RX5 46 yX5_within wsX5_within) := goodIn_app (goodIn_of _ (by decide +kernel)) ggX5_least_X5_within
set_option maxRecDepth 20000 in
theorem ggX5_least_X2_weightInAll : GoodIn wsX5_least wsX2_weightInAll := goodIn_r _ [9] (by decide +kernel) (by decide +kernel)
set_option maxRecDepth 20000 in
theorem gX5_least_X2_weightInAll : GoodIn wsX5_least (va_wsS RX5 163 yX2_weightInAll wsX2_weightInAll) := goodIn_app (goodIn_of _ (by decide +kernel)) ggX5_least_X2_weightInAll
set_option maxRecDepth 20000 in
theorem ggX5_least_X2_weighMean : GoodIn wsX5_least wsX2_weighMean := goodIn_r _ [13, 14, 15, 16, 17, 8, 18, 19, 20, 21, 22, 23, 24, 25, 26, 27, 28, 29, 30, 31, 32, 33, 34, 35, 36, 37, 38, 39, 40, 41, 42, 43, 44, 45, 46, 47, 48, 49, 50, 51, 52, 53, 54, 55, 61, 62, 63, 64, 65, 66] (by decide +kernel) (by decide +kernel)
set_option maxRecDepth 20000 in
theorem gX5_least_X2_weighMean : GoodIn wsX5_least (wsV RX5 159 RX2 yX2_weighMean wsX2_weighMean) := goodIn_app (goodIn_of _ (by decide +kernel)) ggX5_least_X2_weighMean
set_option maxRecDepth 20000 in
theorem ggX5_demand_X5_within : GoodIn wsX5_demand wsX5_within := goodIn_r _ [6] (by decide +kernel) (by decide +kernel)
set_option maxRecDepth 20000 in
theorem gX5_demand_X5_within : GoodIn wsX5_demand (va_wsS RX5 46 yX5_within wsX5_within) := goodIn_app (goodIn_of _ (by decide +kernel)) ggX5_demand_X5_within
set_option maxRecDepth 20000 in
theorem ggX5_demand_X3_lay : GoodIn wsX5_demand wsX3_lay := goodIn_r _ [11, 12, 13, 14, 15, 16, 17, 18, 19, 20, 21, 22, 23, 24, 10, 25, 26, 27, 28, 29, 30, 31, 32, 38, 39, 40, 41, 42, 43] (by decide +kernel) (by decide +kernel)
set_option maxRecDepth 20000 in
theorem gX5_demand_X3_lay : GoodIn wsX5_demand (wsV RX5 173 RX3 yX3_lay wsX3_lay) := goodIn_app (goodIn_of _ (by decide +kernel)) ggX5_demand_X3_lay
set_option maxRecDepth 20000 in
theorem ggX5_at_X5_within : GoodIn wsX5_at wsX5_within := goodIn_r _ [7] (by decide +kernel) (by decide +kernel)
set_option maxRecDepth 20000 in
theorem gX5_at_X5_within : GoodIn wsX5_at (va_wsS RX5 46 yX5_within wsX5_within) := goodIn_app (goodIn_of _ (by decide +kernel)) ggX5_at_X5_within
set_option maxRecDepth 20000 in
theorem ggX5_total_X0_countCards : GoodIn wsX5_total wsX0_countCards := goodIn_r _ [12, 13, 14, 30, 31, 32, 33, 34, 35] (by decide +kernel) (by decide +kernel)
set_option maxRecDepth 20000 in
theorem gX5_total_X0_countCards : GoodIn wsX5_total (wsV RX5 188 RX0 yX0_countCards wsX0_countCards) := goodIn_app (goodIn_of _ (by decide +kernel)) ggX5_total_X0_countCards
set_option maxRecDepth 20000 in
theorem ggX5_total_X0_countReady : GoodIn wsX5_total wsX0_countReady := goodIn_r _ [18, 19, 20, 21, 22, 11, 23, 13, 24, 14, 30, 31, 32, 33, 34, 35] (by decide +kernel) (by decide +kernel)
set_option maxRecDepth 20000 in
theorem gX5_total_X0_countReady : GoodIn wsX5_total (wsV RX5 101 RX0 yX0_countReady wsX0_countReady) := goodIn_app (goodIn_of _ (by decide +kernel)) ggX5_total_X0_countReady
set_option maxRecDepth 20000 in
theorem ggX5_inLeastTerms_X5_commonDivisor : GoodIn wsX5_inLeastTerms wsX5_commonDivisor := goodIn_r _ [4, 5, 6, 7, 8] (by decide +kernel) (by decide +kernel)
set_option maxRecDepth 20000 in
theorem gX5_inLeastTerms_X5_commonDivisor : GoodIn wsX5_inLeastTerms (va_wsS RX5 191 yX5_commonDivisor wsX5_commonDivisor) := goodIn_app (goodIn_of _ (by decide +kernel)) ggX5_inLeastTerms_X5_commonDivisor
set_option maxRecDepth 20000 in
theorem ggX6_isStation_X6_in : GoodIn wsX6_isStation wsX6_in := goodIn_r _ [5] (by decide +kernel) (by decide +kernel)
set_option maxRecDepth 20000 in
theorem gX6_isStation_X6_in : GoodIn wsX6_isStation (va_wsS RX6 63 yX6_in wsX6_in) := goodIn_app (goodIn_of _ (by decide +kernel)) ggX6_isStation_X6_in
set_option maxRecDepth 20000 in
theorem ggX6_isArc_X6_in : GoodIn wsX6_isArc wsX6_in := goodIn_r _ [5] (by decide +kernel) (by decide +kernel)
set_option maxRecDepth 20000 in
theorem gX6_isArc_X6_in : GoodIn wsX6_isArc (va_wsS RX6 63 yX6_in wsX6_in) := goodIn_app (goodIn_of _ (by decide +kernel)) ggX6_isArc_X6_in
set_option maxRecDepth 20000 in
theorem ggX6_station_X6_in : GoodIn wsX6_station wsX6_in := goodIn_r _ [8] (by decide +kernel) (by decide +kernel)
set_option maxRecDepth 20000 in
theorem gX6_station_X6_in : GoodIn wsX6_station (va_wsS RX6 63 yX6_in wsX6_in) := goodIn_app (goodIn_of _ (by decide +kernel)) ggX6_station_X6_in
set_option maxRecDepth 20000 in
theorem ggX6_arc_X6_isStation : GoodIn wsX6_arc wsX6_isStation := goodIn_r _ [11, 12, 13, 14, 10, 15, 16, 17, 18, 19, 20, 21, 22, 23, 24, 25, 26, 27, 28, 29, 30, 31, 32, 33, 34, 35, 36, 37, 38] (by decide +kernel) (by decide +kernel)
set_option maxRecDepth 20000 in
theorem gX6_arc_X6_isStation : GoodIn wsX6_arc (wsV RX6 76 RX6 yX6_isStation wsX6_isStation) := goodIn_app (goodIn_of _ (by decide +kernel)) ggX6_arc_X6_isStation
set_option maxRecDepth 20000 in
theorem ggX6_arc_X6_in : GoodIn wsX6_arc wsX6_in := goodIn_r _ [15] (by decide +kernel) (by decide +kernel)
set_option maxRecDepth 20000 in
theorem gX6_arc_X6_in : GoodIn wsX6_arc (va_wsS RX6 63 yX6_in wsX6_in) := goodIn_app (goodIn_of _ (by decide +kernel)) ggX6_arc_X6_in
set_option maxRecDepth 20000 in
theorem ggX6_time_X6_isStation : GoodIn wsX6_time wsX6_isStation := goodIn_r _ [7, 8, 9, 10, 6, 11, 12, 13, 14, 15, 16, 17, 18, 19, 20, 21, 22, 23, 24, 25, 26, 27, 28, 29, 30, 31, 32, 33, 34] (by decide +kernel) (by decide +kernel)
set_option maxRecDepth 20000 in
theorem gX6_time_X6_isStation : GoodIn wsX6_time (wsV RX6 76 RX6 yX6_isStation wsX6_isStation) := goodIn_app (goodIn_of _ (by decide +kernel)) ggX6_time_X6_isStation
set_option maxRecDepth 20000 in
theorem ggX6_time_X6_in : GoodIn wsX6_time wsX6_in := goodIn_r _ [11] (by decide +kernel) (by decide +kernel)
set_option maxRecDepth 20000 in
theorem gX6_time_X6_in : GoodIn wsX6_time (va_wsS RX6 63 yX6_in wsX6_in) := goodIn_app (goodIn_of _ (by decide +kernel)) ggX6_time_X6_in
set_option maxRecDepth 20000 in
theorem ggX6_put_X6_isArc : GoodIn wsX6_put wsX6_isArc := goodIn_r _ [7, 8, 9, 10, 6, 11, 12, 13, 14, 15, 16, 17, 18, 19, 20, 21, 22, 23, 24, 25, 26, 27, 28, 29, 30, 31, 32, 33, 34] (by decide +kernel) (by decide +kernel)
set_option maxRecDepth 20000 in
theorem gX6_put_X6_isArc : GoodIn wsX6_put (wsV RX6 82 RX6 yX6_isArc wsX6_isArc) := goodIn_app (goodIn_of _ (by decide +kernel)) ggX6_put_X6_isArc
set_option maxRecDepth 20000 in
theorem ggX6_put_X6_in : GoodIn wsX6_put wsX6_in := goodIn_r _ [11] (by decide +kernel) (by decide +kernel)
set_option maxRecDepth 20000 in
theorem gX6_put_X6_in : GoodIn wsX6_put (va_wsS RX6 63 yX6_in wsX6_in) := goodIn_app (goodIn_of _ (by decide +kernel)) ggX6_put_X6_in
set_option maxRecDepth 20000 in
theorem ggX6_about_X6_isArc : GoodIn wsX6_about wsX6_isArc := goodIn_r _ [8, 9, 10, 11, 7, 12, 13, 14, 15, 16, 17, 18, 19, 20, 21, 22, 23, 24, 25, 26, 27, 28, 29, 30, 31, 32, 33, 34, 35] (by decide +kernel) (by decide +kernel)
set_option maxRecDepth 20000 in
theorem gX6_about_X6_isArc : GoodIn wsX6_about (wsV RX6 82 RX6 yX6_isArc wsX6_isArc) := goodIn_app (goodIn_of _ (by decide +kernel)) ggX6_about_X6_isArc
set_option maxRecDepth 20000 in
theorem ggX6_readyMany_X6_isReady : GoodIn wsX6_readyMany wsX6_isReady := goodIn_r _ [6, 7, 8, 9, 10, 11, 12, 13, 14, 15, 16, 17, 18, 19, 20, 21, 22, 23, 24, 25, 26, 27, 28, 29, 30, 31, 32] (by decide +kernel) (by decide +kernel)
set_option maxRecDepth 20000 in
theorem gX6_readyMany_X6_isReady : GoodIn wsX6_readyMany (wsV RX6 85 RX6 yX6_isReady wsX6_isReady) := goodIn_app (goodIn_of _ (by decide +kernel)) ggX6_readyMany_X6_isReady
set_option maxRecDepth 20000 in
theorem ggX6_ready_X6_isStation : GoodIn wsX6_ready wsX6_isStation := goodIn_r _ [5, 6, 7, 8, 4, 9, 17, 18, 19, 20, 21, 22, 23, 24, 25, 26, 27, 28, 29, 30, 31, 32, 33, 34, 35, 36, 37, 38, 39] (by decide +kernel) (by decide +kernel)
set_option maxRecDepth 20000 in
theorem gX6_ready_X6_isStation : GoodIn wsX6_ready (wsV RX6 76 RX6 yX6_isStation wsX6_isStation) := goodIn_app (goodIn_of _ (by decide +kernel)) ggX6_ready_X6_isStation
set_option maxRecDepth 20000 in
theorem ggX6_ready_X6_isReady : GoodIn wsX6_ready wsX6_isReady := goodIn_r _ [13, 14, 15, 16, 17, 18, 19, 20, 21, 22, 23, 24, 25, 26, 27, 28, 29, 30, 31, 32, 33, 34, 35, 36, 37, 38, 39] (by decide +kernel) (by decide +kernel)
set_option maxRecDepth 20000 in
theorem gX6_ready_X6_isReady : GoodIn wsX6_ready (wsV RX6 85 RX6 yX6_isReady wsX6_isReady) := goodIn_app (goodIn_of _ (by decide +kernel)) ggX6_ready_X6_isReady
set_option maxRecDepth 20000 in
theorem ggX6_fire_X6_isStation : GoodIn wsX6_fire wsX6_isStation := goodIn_r _ [5, 6, 7, 8, 4, 9, 30, 31, 32, 33, 34, 35, 36, 37, 38, 39, 40, 41, 42, 43, 44, 45, 46, 47, 48, 49, 50, 51, 52] (by decide +kernel) (by decide +kernel)
set_option maxRecDepth 20000 in
theorem gX6_fire_X6_isStation : GoodIn wsX6_fire (wsV RX6 76 RX6 yX6_isStation wsX6_isStation) := goodIn_app (goodIn_of _ (by decide +kernel)) ggX6_fire_X6_isStation
set_option maxRecDepth 20000 in
theorem ggX6_fire_X6_isReady : GoodIn wsX6_fire wsX6_isReady := goodIn_r _ [13, 14, 15, 16, 30, 31, 32, 33, 34, 35, 36, 37, 38, 39, 40, 41, 42, 43, 44, 45, 46, 47, 48, 49, 50, 51, 52] (by decide +kernel) (by decide +kernel)
set_option maxRecDepth 20000 in
theorem gX6_fire_X6_isReady : GoodIn wsX6_fire (wsV RX6 85 RX6 yX6_isReady wsX6_isReady) := goodIn_app (goodIn_of _ (by decide +kernel)) ggX6_fire_X6_isReady
set_option maxRecDepth 20000 in
theorem ggX6_fire_X6_hasRoom : GoodIn wsX6_fire wsX6_hasRoom := goodIn_r _ [20, 14, 21, 15, 16, 30, 31, 32, 33, 34, 35, 36, 37, 38, 39, 40, 41, 42, 43, 44, 45, 46, 47, 48, 49, 50, 51, 52] (by decide +kernel) (by decide +kernel)
set_option maxRecDepth 20000 in
theorem gX6_fire_X6_hasRoom : GoodIn wsX6_fire (wsV RX6 88 RX6 yX6_hasRoom wsX6_hasRoom) := goodIn_app (goodIn_of _ (by decide +kernel)) ggX6_fire_X6_hasRoom
set_option maxRecDepth 20000 in
theorem ggX6_fire_X6_fires : GoodIn wsX6_fire wsX6_fires := goodIn_r _ [25, 14, 16, 21, 15, 30, 31, 32, 33, 34, 35, 36, 37, 38, 39, 40, 41, 42, 43, 44, 45, 46, 47, 48, 49, 50, 51, 52] (by decide +kernel) (by decide +kernel)
set_option maxRecDepth 20000 in
theorem gX6_fire_X6_fires : GoodIn wsX6_fire (wsV RX6 91 RX6 yX6_fires wsX6_fires) := goodIn_app (goodIn_of _ (by decide +kernel)) ggX6_fire_X6_fires
set_option maxRecDepth 20000 in
theorem ggX6_fire_X6_readyMany : GoodIn wsX6_fire wsX6_readyMany := goodIn_r _ [29, 6, 10, 11, 12, 4, 13, 14, 15, 16, 30, 31, 32, 33, 34, 35, 36, 37, 38, 39, 40, 41, 42, 43, 44, 45, 46, 47, 48, 49, 50, 51, 52] (by decide +kernel) (by decide +kernel)
set_option maxRecDepth 20000 in
theorem gX6_fire_X6_readyMany : GoodIn wsX6_fire (wsV RX6 95 RX6 yX6_readyMany wsX6_readyMany) := goodIn_app (goodIn_of _ (by decide +kernel)) ggX6_fire_X6_readyMany
set_option maxRecDepth 20000 in
theorem ggX6_round_X6_isReady : GoodIn wsX6_round wsX6_isReady := goodIn_r _ [6, 7, 8, 9, 19, 20, 21, 22, 23, 24, 25, 26, 27, 28, 29, 30, 31, 32, 33, 34, 35, 36, 37, 38, 39, 40, 41] (by decide +kernel) (by decide +kernel)
set_option maxRecDepth 20000 in
theorem gX6_round_X6_isReady : GoodIn wsX6_round (wsV RX6 85 RX6 yX6_isReady wsX6_isReady) := goodIn_app (goodIn_of _ (by decide +kernel)) ggX6_round_X6_isReady
set_option maxRecDepth 20000 in
theorem ggX6_round_X6_hasRoom : GoodIn wsX6_round wsX6_hasRoom := goodIn_r _ [13, 7, 14, 8, 9, 19, 20, 21, 22, 23, 24, 25, 26, 27, 28, 29, 30, 31, 32, 33, 34, 35, 36, 37, 38, 39, 40, 41] (by decide +kernel) (by decide +kernel)
set_option maxRecDepth 20000 in
theorem gX6_round_X6_hasRoom : GoodIn wsX6_round (wsV RX6 88 RX6 yX6_hasRoom wsX6_hasRoom) := goodIn_app (goodIn_of _ (by decide +kernel)) ggX6_round_X6_hasRoom
set_option maxRecDepth 20000 in
theorem ggX6_round_X6_fires : GoodIn wsX6_round wsX6_fires := goodIn_r _ [18, 7, 9, 14, 8, 19, 20, 21, 22, 23, 24, 25, 26, 27, 28, 29, 30, 31, 32, 33, 34, 35, 36, 37, 38, 39, 40, 41] (by decide +kernel) (by decide +kernel)
set_option maxRecDepth 20000 in
theorem gX6_round_X6_fires : GoodIn wsX6_round (wsV RX6 91 RX6 yX6_fires wsX6_fires) := goodIn_app (goodIn_of _ (by decide +kernel)) ggX6_round_X6_fires
set_option maxRecDepth 20000 in
theorem ggX6_find_X6_mayGo : GoodIn wsX6_find wsX6_mayGo := goodIn_r _ [10, 11, 4, 5, 18, 19, 20, 21, 22, 23, 24, 25, 26, 27, 28, 29, 30, 31, 32, 33, 34, 35, 36, 37, 38, 39, 40] (by decide +kernel) (by decide +kernel)
set_option maxRecDepth 20000 in
theorem gX6_find_X6_mayGo : GoodIn wsX6_find (wsV RX6 102 RX6 yX6_mayGo wsX6_mayGo) := goodIn_app (goodIn_of _ (by decide +kernel)) ggX6_find_X6_mayGo
set_option maxRecDepth 20000 in
theorem ggX6_find_X6_keep : GoodIn wsX6_find wsX6_keep := goodIn_r _ [15, 1, 16, 5, 17, 18, 19, 20, 21, 22, 23, 24, 25, 26, 27, 28, 29, 30, 31, 32, 33, 34, 35, 36, 37, 38, 39, 40] (by decide +kernel) (by decide +kernel)
set_option maxRecDepth 20000 in
theorem gX6_find_X6_keep : GoodIn wsX6_find (wsV RX6 106 RX6 yX6_keep wsX6_keep) := goodIn_app (goodIn_of _ (by decide +kernel)) ggX6_find_X6_keep
set_option maxRecDepth 20000 in
theorem ggX6_loops_X6_find : GoodIn wsX6_loops wsX6_find := goodIn_r _ [6, 1, 7, 8, 9, 10, 11, 12, 13, 5, 14, 15, 16, 17, 18, 19, 20, 21, 22, 23, 24, 25, 26, 27, 28, 29, 30, 31, 32, 33, 34, 35, 36, 37, 38, 39, 40, 41, 42, 43, 44] (by decide +kernel) (by decide +kernel)
set_option maxRecDepth 20000 in
theorem gX6_loops_X6_find : GoodIn wsX6_loops (wsV RX6 109 RX6 yX6_find wsX6_find) := goodIn_app (goodIn_of _ (by decide +kernel)) ggX6_loops_X6_find
set_option maxRecDepth 20000 in
theorem ggX6_loop_X6_find : GoodIn wsX6_loop wsX6_find := goodIn_r _ [8, 1, 9, 10, 11, 12, 13, 14, 15, 7, 16, 17, 18, 19, 20, 21, 3, 2, 25, 26, 27, 28, 29, 30, 31, 32, 33, 34, 35, 36, 37, 38, 39, 40, 41, 42, 43, 44, 45, 46, 47] (by decide +kernel) (by decide +kernel)
set_option maxRecDepth 20000 in
theorem gX6_loop_X6_find : GoodIn wsX6_loop (wsV RX6 109 RX6 yX6_find wsX6_find) := goodIn_app (goodIn_of _ (by decide +kernel)) ggX6_loop_X6_find
set_option maxRecDepth 20000 in
theorem ggX6_loop_X6_in : GoodIn wsX6_loop wsX6_in := goodIn_r _ [24] (by decide +kernel) (by decide +kernel)
set_option maxRecDepth 20000 in
theorem gX6_loop_X6_in : GoodIn wsX6_loop (va_wsS RX6 63 yX6_in wsX6_in) := goodIn_app (goodIn_of _ (by decide +kernel)) ggX6_loop_X6_in
set_option maxRecDepth 20000 in
theorem ggX6_sum_X6_find : GoodIn wsX6_sum wsX6_find := goodIn_r _ [6, 1, 7, 8, 9, 10, 11, 12, 13, 5, 14, 15, 16, 17, 18, 19, 20, 21, 35, 36, 37, 38, 39, 40, 41, 42, 43, 44, 45, 46, 47, 48, 49, 50, 51, 52, 53, 54, 55, 56, 57] (by decide +kernel) (by decide +kernel)
set_option maxRecDepth 20000 in
theorem gX6_sum_X6_find : GoodIn wsX6_sum (wsV RX6 109 RX6 yX6_find wsX6_find) := goodIn_app (goodIn_of _ (by decide +kernel)) ggX6_sum_X6_find
set_option maxRecDepth 20000 in
theorem ggX6_sum_X6_in : GoodIn wsX6_sum wsX6_in := goodIn_r _ [24] (by decide +kernel) (by decide +kernel)
set_option maxRecDepth 20000 in
theorem gX6_sum_X6_in : GoodIn wsX6_sum (va_wsS RX6 63 yX6_in wsX6_in) := goodIn_app (goodIn_of _ (by decide +kernel)) ggX6_sum_X6_in
set_option maxRecDepth 20000 in
theorem ggX6_sum_X6_cardsOf : GoodIn wsX6_sum wsX6_cardsOf := goodIn_r _ [28, 21, 29, 20, 35, 36, 37, 38, 39, 40, 41, 42, 43, 44, 45, 46, 47, 48, 49, 50, 51, 52, 53, 54, 55, 56, 57] (by decide +kernel) (by decide +kernel)
set_option maxRecDepth 20000 in
theorem gX6_sum_X6_cardsOf : GoodIn wsX6_sum (wsV RX6 112 RX6 yX6_cardsOf wsX6_cardsOf) := goodIn_app (goodIn_of _ (by decide +kernel)) ggX6_sum_X6_cardsOf
set_option maxRecDepth 20000 in
theorem ggX6_sum_X6_timeOf : GoodIn wsX6_sum wsX6_timeOf := goodIn_r _ [33, 21, 34, 15, 20, 35, 36, 37, 38, 39, 40, 41, 42, 43, 44, 45, 46, 47, 48, 49, 50, 51, 52, 53, 54, 55, 56, 57] (by decide +kernel) (by decide +kernel)
set_option maxRecDepth 20000 in
theorem gX6_sum_X6_timeOf : GoodIn wsX6_sum (wsV RX6 116 RX6 yX6_timeOf wsX6_timeOf) := goodIn_app (goodIn_of _ (by decide +kernel)) ggX6_sum_X6_timeOf
set_option maxRecDepth 20000 in
theorem ggX6_slow_X6_cardsOf : GoodIn wsX6_slow wsX6_cardsOf := goodIn_r _ [6, 7, 8, 9, 16, 17, 18, 19, 20, 21, 22, 23, 24, 25, 26, 27, 28, 29, 30, 31, 32, 33, 34, 35, 36, 37, 38] (by decide +kernel) (by decide +kernel)
set_option maxRecDepth 20000 in
theorem gX6_slow_X6_cardsOf : GoodIn wsX6_slow (wsV RX6 112 RX6 yX6_cardsOf wsX6_cardsOf) := goodIn_app (goodIn_of _ (by decide +kernel)) ggX6_slow_X6_cardsOf
set_option maxRecDepth 20000 in
theorem ggX6_slow_X6_timeOf : GoodIn wsX6_slow wsX6_timeOf := goodIn_r _ [13, 7, 14, 15, 9, 16, 17, 18, 19, 20, 21, 22, 23, 24, 25, 26, 27, 28, 29, 30, 31, 32, 33, 34, 35, 36, 37, 38] (by decide +kernel) (by decide +kernel)
set_option maxRecDepth 20000 in
theorem gX6_slow_X6_timeOf : GoodIn wsX6_slow (wsV RX6 116 RX6 yX6_timeOf wsX6_timeOf) := goodIn_app (goodIn_of _ (by decide +kernel)) ggX6_slow_X6_timeOf
set_option maxRecDepth 20000 in
theorem ggX6_fraction_X6_common : GoodIn wsX6_fraction wsX6_common := goodIn_r _ [4] (by decide +kernel) (by decide +kernel)
set_option maxRecDepth 20000 in
theorem gX6_fraction_X6_common : GoodIn wsX6_fraction (va_wsS RX6 119 yX6_common wsX6_common) := goodIn_app (goodIn_of _ (by decide +kernel)) ggX6_fraction_X6_common
set_option maxRecDepth 20000 in
theorem ggX6_pace_X6_find : GoodIn wsX6_pace wsX6_find := goodIn_r _ [6, 7, 8, 9, 10, 11, 12, 13, 14, 5, 15, 16, 17, 18, 19, 20, 21, 22, 43, 44, 45, 46, 47, 48, 49, 50, 51, 52, 53, 54, 55, 56, 57, 58, 59, 60, 61, 62, 63, 64, 65] (by decide +kernel) (by decide +kernel)
set_option maxRecDepth 20000 in
theorem gX6_pace_X6_find : GoodIn wsX6_pace (wsV RX6 109 RX6 yX6_find wsX6_find) := goodIn_app (goodIn_of _ (by decide +kernel)) ggX6_pace_X6_find
set_option maxRecDepth 20000 in
theorem ggX6_pace_X6_slow : GoodIn wsX6_pace wsX6_slow := goodIn_r _ [26, 7, 27, 28, 29, 5, 30, 22, 31, 21, 32, 33, 34, 35, 36, 16, 43, 44, 45, 46, 47, 48, 49, 50, 51, 52, 53, 54, 55, 56, 57, 58, 59, 60, 61, 62, 63, 64, 65] (by decide +kernel) (by decide +kernel)
set_option maxRecDepth 20000 in
theorem gX6_pace_X6_slow : GoodIn wsX6_pace (wsV RX6 123 RX6 yX6_slow wsX6_slow) := goodIn_app (goodIn_of _ (by decide +kernel)) ggX6_pace_X6_slow
set_option maxRecDepth 20000 in
theorem ggX6_pace_X6_cardsOf : GoodIn wsX6_pace wsX6_cardsOf := goodIn_r _ [30, 22, 31, 21, 43, 44, 45, 46, 47, 48, 49, 50, 51, 52, 53, 54, 55, 56, 57, 58, 59, 60, 61, 62, 63, 64, 65] (by decide +kernel) (by decide +kernel)
set_option maxRecDepth 20000 in
theorem gX6_pace_X6_cardsOf : GoodIn wsX6_pace (wsV RX6 112 RX6 yX6_cardsOf wsX6_cardsOf) := goodIn_app (goodIn_of _ (by decide +kernel)) ggX6_pace_X6_cardsOf
set_option maxRecDepth 20000 in
theorem ggX6_pace_X6_timeOf : GoodIn wsX6_pace wsX6_timeOf := goodIn_r _ [35, 22, 36, 16, 21, 43, 44, 45, 46, 47, 48, 49, 50, 51, 52, 53, 54, 55, 56, 57, 58, 59, 60, 61, 62, 63, 64, 65] (by decide +kernel) (by decide +kernel)
set_option maxRecDepth 20000 in
theorem gX6_pace_X6_timeOf : GoodIn wsX6_pace (wsV RX6 116 RX6 yX6_timeOf wsX6_timeOf) := goodIn_app (goodIn_of _ (by decide +kernel)) ggX6_pace_X6_timeOf
set_option maxRecDepth 20000 in
theorem ggX6_pace_X6_fraction : GoodIn wsX6_pace wsX6_fraction := goodIn_r _ [39, 40, 41, 5, 42] (by decide +kernel) (by decide +kernel)
set_option maxRecDepth 20000 in
theorem gX6_pace_X6_fraction : GoodIn wsX6_pace (va_wsS RX6 128 yX6_fraction wsX6_fraction) := goodIn_app (goodIn_of _ (by decide +kernel)) ggX6_pace_X6_fraction
set_option maxRecDepth 20000 in
theorem ggX6_slowest_X6_find : GoodIn wsX6_slowest wsX6_find := goodIn_r _ [5, 6, 7, 8, 9, 10, 11, 12, 13, 4, 14, 15, 16, 17, 18, 19, 20, 21, 36, 37, 38, 39, 40, 41, 42, 43, 44, 45, 46, 47, 48, 49, 50, 51, 52, 53, 54, 55, 56, 57, 58] (by decide +kernel) (by decide +kernel)
set_option maxRecDepth 20000 in
theorem gX6_slowest_X6_find : GoodIn wsX6_slowest (wsV RX6 109 RX6 yX6_find wsX6_find) := goodIn_app (goodIn_of _ (by decide +kernel)) ggX6_slowest_X6_find
set_option maxRecDepth 20000 in
theorem ggX6_slowest_X6_slow : GoodIn wsX6_slowest wsX6_slow := goodIn_r _ [25, 6, 26, 27, 28, 4, 29, 21, 30, 20, 31, 32, 33, 34, 35, 15, 36, 37, 38, 39, 40, 41, 42, 43, 44, 45, 46, 47, 48, 49, 50, 51, 52, 53, 54, 55, 56, 57, 58] (by decide +kernel) (by decide +kernel)
set_option maxRecDepth 20000 in
theorem gX6_slowest_X6_slow : GoodIn wsX6_slowest (wsV RX6 123 RX6 yX6_slow wsX6_slow) := goodIn_app (goodIn_of _ (by decide +kernel)) ggX6_slowest_X6_slow
set_option maxRecDepth 20000 in
theorem ggX6_begins_X6_isStation : GoodIn wsX6_begins wsX6_isStation := goodIn_r _ [8, 2, 9, 10, 7, 11, 21, 22, 23, 24, 25, 26, 27, 28, 29, 30, 31, 32, 33, 34, 35, 36, 37, 38, 39, 40, 41, 42, 43] (by decide +kernel) (by decide +kernel)
set_option maxRecDepth 20000 in
theorem gX6_begins_X6_isStation : GoodIn wsX6_begins (wsV RX6 76 RX6 yX6_isStation wsX6_isStation) := goodIn_app (goodIn_of _ (by decide +kernel)) ggX6_begins_X6_isStation
set_option maxRecDepth 20000 in
theorem ggX6_begins_X6_in : GoodIn wsX6_begins wsX6_in := goodIn_r _ [11] (by decide +kernel) (by decide +kernel)
set_option maxRecDepth 20000 in
theorem gX6_begins_X6_in : GoodIn wsX6_begins (va_wsS RX6 63 yX6_in wsX6_in) := goodIn_app (goodIn_of _ (by decide +kernel)) ggX6_begins_X6_in
set_option maxRecDepth 20000 in
theorem ggX6_begins_X6_beginOf : GoodIn wsX6_begins wsX6_beginOf := goodIn_r _ [15, 16, 17, 18, 3, 19, 20, 21, 22, 23, 24, 25, 26, 27, 28, 29, 30, 31, 32, 33, 34, 35, 36, 37, 38, 39, 40, 41, 42, 43] (by decide +kernel) (by decide +kernel)
set_option maxRecDepth 20000 in
theorem gX6_begins_X6_beginOf : GoodIn wsX6_begins (wsV RX6 134 RX6 yX6_beginOf wsX6_beginOf) := goodIn_app (goodIn_of _ (by decide +kernel)) ggX6_begins_X6_beginOf
set_option maxRecDepth 20000 in
theorem ggX6_note_X6_find : GoodIn wsX6_note wsX6_find := goodIn_r _ [9, 2, 10, 11, 12, 13, 14, 15, 16, 8, 17, 18, 19, 20, 21, 22, 23, 24, 30, 31, 32, 33, 34, 35, 36, 37, 38, 39, 40, 41, 42, 43, 44, 45, 46, 47, 48, 49, 50, 51, 52] (by decide +kernel) (by decide +kernel)
set_option maxRecDepth 20000 in
theorem gX6_note_X6_find : GoodIn wsX6_note (wsV RX6 109 RX6 yX6_find wsX6_find) := goodIn_app (goodIn_of _ (by decide +kernel)) ggX6_note_X6_find
set_option maxRecDepth 20000 in
theorem ggX6_note_X6_cardsOf : GoodIn wsX6_note wsX6_cardsOf := goodIn_r _ [28, 24, 29, 23, 30, 31, 32, 33, 34, 35, 36, 37, 38, 39, 40, 41, 42, 43, 44, 45, 46, 47, 48, 49, 50, 51, 52] (by decide +kernel) (by decide +kernel)
set_option maxRecDepth 20000 in
theorem gX6_note_X6_cardsOf : GoodIn wsX6_note (wsV RX6 112 RX6 yX6_cardsOf wsX6_cardsOf) := goodIn_app (goodIn_of _ (by decide +kernel)) ggX6_note_X6_cardsOf
set_option maxRecDepth 20000 in
theorem ggX6_audit_X6_find : GoodIn wsX6_audit wsX6_find := goodIn_r _ [8, 9, 10, 11, 12, 13, 14, 15, 16, 7, 17, 18, 19, 20, 21, 22, 23, 24, 30, 31, 32, 33, 34, 35, 36, 37, 38, 39, 40, 41, 42, 43, 44, 45, 46, 47, 48, 49, 50, 51, 52] (by decide +kernel) (by decide +kernel)
set_option maxRecDepth 20000 in
theorem gX6_audit_X6_find : GoodIn wsX6_audit (wsV RX6 109 RX6 yX6_find wsX6_find) := goodIn_app (goodIn_of _ (by decide +kernel)) ggX6_audit_X6_find
set_option maxRecDepth 20000 in
theorem ggX6_audit_X6_cardsOf : GoodIn wsX6_audit wsX6_cardsOf := goodIn_r _ [28, 24, 29, 23, 30, 31, 32, 33, 34, 35, 36, 37, 38, 39, 40, 41, 42, 43, 44, 45, 46, 47, 48, 49, 50, 51, 52] (by decide +kernel) (by decide +kernel)
set_option maxRecDepth 20000 in
theorem gX6_audit_X6_cardsOf : GoodIn wsX6_audit (wsV RX6 112 RX6 yX6_cardsOf wsX6_cardsOf) := goodIn_app (goodIn_of _ (by decide +kernel)) ggX6_audit_X6_cardsOf
set_option maxRecDepth 20000 in
theorem ggX6_isFast_X6_cardsOf : GoodIn wsX6_isFast wsX6_cardsOf := goodIn_r _ [6, 7, 8, 9, 16, 17, 18, 19, 20, 21, 22, 23, 24, 25, 26, 27, 28, 29, 30, 31, 32, 33, 34, 35, 36, 37, 38] (by decide +kernel) (by decide +kernel)
set_option maxRecDepth 20000 in
theorem gX6_isFast_X6_cardsOf : GoodIn wsX6_isFast (wsV RX6 112 RX6 yX6_cardsOf wsX6_cardsOf) := goodIn_app (goodIn_of _ (by decide +kernel)) ggX6_isFast_X6_cardsOf
set_option maxRecDepth 20000 in
theorem ggX6_isFast_X6_timeOf : GoodIn wsX6_isFast wsX6_timeOf := goodIn_r _ [13, 7, 14, 15, 9, 16, 17, 18, 19, 20, 21, 22, 23, 24, 25, 26, 27, 28, 29, 30, 31, 32, 33, 34, 35, 36, 37, 38] (by decide +kernel) (by decide +kernel)
set_option maxRecDepth 20000 in
theorem gX6_isFast_X6_timeOf : GoodIn wsX6_isFast (wsV RX6 116 RX6 yX6_timeOf wsX6_timeOf) := goodIn_app (goodIn_of _ (by decide +kernel)) ggX6_isFast_X6_timeOf
set_option maxRecDepth 20000 in
theorem ggX6_cards_X6_isArc : GoodIn wsX6_cards wsX6_isArc := goodIn_r _ [7, 8, 9, 10, 6, 11, 44, 45, 46, 47, 48, 49, 50, 51, 52, 53, 54, 55, 56, 57, 58, 59, 60, 61, 62, 63, 64, 65, 66] (by decide +kernel) (by decide +kernel)
set_option maxRecDepth 20000 in
theorem gX6_cards_X6_isArc : GoodIn wsX6_cards (wsV RX6 82 RX6 yX6_isArc wsX6_isArc) := goodIn_app (goodIn_of _ (by decide +kernel)) ggX6_cards_X6_isArc
set_option maxRecDepth 20000 in
theorem ggX6_cards_X6_in : GoodIn wsX6_cards wsX6_in := goodIn_r _ [11] (by decide +kernel) (by decide +kernel)
set_option maxRecDepth 20000 in
theorem gX6_cards_X6_in : GoodIn wsX6_cards (va_wsS RX6 63 yX6_in wsX6_in) := goodIn_app (goodIn_of _ (by decide +kernel)) ggX6_cards_X6_in
set_option maxRecDepth 20000 in
theorem ggX6_cards_X6_find : GoodIn wsX6_cards wsX6_find := goodIn_r _ [15, 16, 17, 8, 18, 19, 20, 21, 22, 6, 23, 24, 25, 26, 27, 28, 29, 30, 44, 45, 46, 47, 48, 49, 50, 51, 52, 53, 54, 55, 56, 57, 58, 59, 60, 61, 62, 63, 64, 65, 66] (by decide +kernel) (by decide +kernel)
set_option maxRecDepth 20000 in
theorem gX6_cards_X6_find : GoodIn wsX6_cards (wsV RX6 109 RX6 yX6_find wsX6_find) := goodIn_app (goodIn_of _ (by decide +kernel)) ggX6_cards_X6_find
set_option maxRecDepth 20000 in
theorem ggX6_cards_X6_isFast : GoodIn wsX6_cards wsX6_isFast := goodIn_r _ [34, 16, 35, 36, 37, 6, 38, 30, 2, 29, 39, 40, 41, 42, 43, 24, 44, 45, 46, 47, 48, 49, 50, 51, 52, 53, 54, 55, 56, 57, 58, 59, 60, 61, 62, 63, 64, 65, 66] (by decide +kernel) (by decide +kernel)
set_option maxRecDepth 20000 in
theorem gX6_cards_X6_isFast : GoodIn wsX6_cards (wsV RX6 143 RX6 yX6_isFast wsX6_isFast) := goodIn_app (goodIn_of _ (by decide +kernel)) ggX6_cards_X6_isFast
set_option maxRecDepth 20000 in
theorem ggX6_machine_X6_in : GoodIn wsX6_machine wsX6_in := goodIn_r _ [7] (by decide +kernel) (by decide +kernel)
set_option maxRecDepth 20000 in
theorem gX6_machine_X6_in : GoodIn wsX6_machine (va_wsS RX6 63 yX6_in wsX6_in) := goodIn_app (goodIn_of _ (by decide +kernel)) ggX6_machine_X6_in
set_option maxRecDepth 20000 in
theorem ggX6_store_X6_in : GoodIn wsX6_store wsX6_in := goodIn_r _ [6] (by decide +kernel) (by decide +kernel)
set_option maxRecDepth 20000 in
theorem gX6_store_X6_in : GoodIn wsX6_store (va_wsS RX6 63 yX6_in wsX6_in) := goodIn_app (goodIn_of _ (by decide +kernel)) ggX6_store_X6_in
set_option maxRecDepth 20000 in
theorem ggX6_move_X6_upChance : GoodIn wsX6_move wsX6_upChance := goodIn_r _ [7, 8, 9, 10, 11, 12, 13, 14, 15, 16, 17, 18, 19, 20, 21, 22, 23, 24, 25, 26, 27, 28, 29, 30, 31, 32] (by decide +kernel) (by decide +kernel)
set_option maxRecDepth 20000 in
theorem gX6_move_X6_upChance : GoodIn wsX6_move (wsV RX6 154 RX6 yX6_upChance wsX6_upChance) := goodIn_app (goodIn_of _ (by decide +kernel)) ggX6_move_X6_upChance
set_option maxRecDepth 20000 in
theorem ggX6_go_X6_move : GoodIn wsX6_go wsX6_move := goodIn_r _ [7, 1, 2, 8, 9, 10, 6, 11, 12, 13, 14, 15, 16, 17, 18, 19, 20, 21, 22, 23, 24, 25, 26, 27, 28, 29, 30, 31, 32, 33, 34, 35, 36] (by decide +kernel) (by decide +kernel)
set_option maxRecDepth 20000 in
theorem gX6_go_X6_move : GoodIn wsX6_go (wsV RX6 158 RX6 yX6_move wsX6_move) := goodIn_app (goodIn_of _ (by decide +kernel)) ggX6_go_X6_move
set_option maxRecDepth 20000 in
theorem ggX6_isTicks_X6_in : GoodIn wsX6_isTicks wsX6_in := goodIn_r _ [5] (by decide +kernel) (by decide +kernel)
set_option maxRecDepth 20000 in
theorem gX6_isTicks_X6_in : GoodIn wsX6_isTicks (va_wsS RX6 63 yX6_in wsX6_in) := goodIn_app (goodIn_of _ (by decide +kernel)) ggX6_isTicks_X6_in
set_option maxRecDepth 20000 in
theorem ggX6_given_X6_isTicks : GoodIn wsX6_given wsX6_isTicks := goodIn_r _ [6, 7, 8, 9, 5, 10] (by decide +kernel) (by decide +kernel)
set_option maxRecDepth 20000 in
theorem gX6_given_X6_isTicks : GoodIn wsX6_given (va_wsS RX6 164 yX6_isTicks wsX6_isTicks) := goodIn_app (goodIn_of _ (by decide +kernel)) ggX6_given_X6_isTicks
set_option maxRecDepth 20000 in
theorem ggX6_given_X6_go : GoodIn wsX6_given wsX6_go := goodIn_r _ [14, 15, 16, 17, 18, 19, 5, 20, 21, 22, 23, 24, 25, 26, 37, 38, 39, 40, 41, 42, 43, 44, 45, 46, 47, 48, 49, 50, 51, 52, 53, 54, 55, 56, 57, 58, 59] (by decide +kernel) (by decide +kernel)
set_option maxRecDepth 20000 in
theorem gX6_given_X6_go : GoodIn wsX6_given (wsV RX6 169 RX6 yX6_go wsX6_go) := goodIn_app (goodIn_of _ (by decide +kernel)) ggX6_given_X6_go
set_option maxRecDepth 20000 in
theorem ggX6_given_X6_mean : GoodIn wsX6_given wsX6_mean := goodIn_r _ [30, 15, 37, 38, 39, 40, 41, 42, 43, 44, 45, 46, 47, 48, 49, 50, 51, 52, 53, 54, 55, 56, 57, 58, 59] (by decide +kernel) (by decide +kernel)
set_option maxRecDepth 20000 in
theorem gX6_given_X6_mean : GoodIn wsX6_given (wsV RX6 173 RX6 yX6_mean wsX6_mean) := goodIn_app (goodIn_of _ (by decide +kernel)) ggX6_given_X6_mean
set_option maxRecDepth 20000 in
theorem ggX6_given_X6_fraction : GoodIn wsX6_given wsX6_fraction := goodIn_r _ [33, 34, 35, 5, 36] (by decide +kernel) (by decide +kernel)
set_option maxRecDepth 20000 in
theorem gX6_given_X6_fraction : GoodIn wsX6_given (va_wsS RX6 128 yX6_fraction wsX6_fraction) := goodIn_app (goodIn_of _ (by decide +kernel)) ggX6_given_X6_fraction
set_option maxRecDepth 20000 in
theorem ggX6_just_X6_isTicks : GoodIn wsX6_just wsX6_isTicks := goodIn_r _ [8, 1, 9, 10, 7, 11] (by decide +kernel) (by decide +kernel)
set_option maxRecDepth 20000 in
theorem gX6_just_X6_isTicks : GoodIn wsX6_just (va_wsS RX6 164 yX6_isTicks wsX6_isTicks) := goodIn_app (goodIn_of _ (by decide +kernel)) ggX6_just_X6_isTicks
set_option maxRecDepth 20000 in
theorem ggX6_just_X6_in : GoodIn wsX6_just wsX6_in := goodIn_r _ [11] (by decide +kernel) (by decide +kernel)
set_option maxRecDepth 20000 in
theorem gX6_just_X6_in : GoodIn wsX6_just (va_wsS RX6 63 yX6_in wsX6_in) := goodIn_app (goodIn_of _ (by decide +kernel)) ggX6_just_X6_in
set_option maxRecDepth 20000 in
theorem ggX6_just_X6_go : GoodIn wsX6_just wsX6_go := goodIn_r _ [15, 4, 16, 17, 18, 19, 7, 20, 21, 22, 23, 24, 25, 26, 33, 34, 35, 36, 37, 38, 39, 40, 41, 42, 43, 44, 45, 46, 47, 48, 49, 50, 51, 52, 53, 54, 55] (by decide +kernel) (by decide +kernel)
set_option maxRecDepth 20000 in
theorem gX6_just_X6_go : GoodIn wsX6_just (wsV RX6 169 RX6 yX6_go wsX6_go) := goodIn_app (goodIn_of _ (by decide +kernel)) ggX6_just_X6_go
set_option maxRecDepth 20000 in
theorem ggX6_just_X6_fraction : GoodIn wsX6_just wsX6_fraction := goodIn_r _ [29, 30, 31, 7, 32] (by decide +kernel) (by decide +kernel)
set_option maxRecDepth 20000 in
theorem gX6_just_X6_fraction : GoodIn wsX6_just (va_wsS RX6 128 yX6_fraction wsX6_fraction) := goodIn_app (goodIn_of _ (by decide +kernel)) ggX6_just_X6_fraction
set_option maxRecDepth 20000 in
theorem ggX6_least_X6_isTicks : GoodIn wsX6_least wsX6_isTicks := goodIn_r _ [5, 6, 7, 8, 4, 9] (by decide +kernel) (by decide +kernel)
set_option maxRecDepth 20000 in
theorem gX6_least_X6_isTicks : GoodIn wsX6_least (va_wsS RX6 164 yX6_isTicks wsX6_isTicks) := goodIn_app (goodIn_of _ (by decide +kernel)) ggX6_least_X6_isTicks
set_option maxRecDepth 20000 in
theorem ggX6_least_X6_in : GoodIn wsX6_least wsX6_in := goodIn_r _ [9] (by decide +kernel) (by decide +kernel)
set_option maxRecDepth 20000 in
theorem gX6_least_X6_in : GoodIn wsX6_least (va_wsS RX6 63 yX6_in wsX6_in) := goodIn_app (goodIn_of _ (by decide +kernel)) ggX6_least_X6_in
set_option maxRecDepth 20000 in
theorem ggX6_least_X6_go : GoodIn wsX6_least wsX6_go := goodIn_r _ [13, 14, 15, 16, 17, 18, 4, 19, 20, 21, 22, 23, 24, 25, 30, 31, 32, 33, 34, 35, 36, 37, 38, 39, 40, 41, 42, 43, 44, 45, 46, 47, 48, 49, 50, 51, 52] (by decide +kernel) (by decide +kernel)
set_option maxRecDepth 20000 in
theorem gX6_least_X6_go : GoodIn wsX6_least (wsV RX6 169 RX6 yX6_go wsX6_go) := goodIn_app (goodIn_of _ (by decide +kernel)) ggX6_least_X6_go
set_option maxRecDepth 20000 in
theorem ggX6_least_X6_mean : GoodIn wsX6_least wsX6_mean := goodIn_r _ [29, 14, 30, 31, 32, 33, 34, 35, 36, 37, 38, 39, 40, 41, 42, 43, 44, 45, 46, 47, 48, 49, 50, 51, 52] (by decide +kernel) (by decide +kernel)
set_option maxRecDepth 20000 in
theorem gX6_least_X6_mean : GoodIn wsX6_least (wsV RX6 173 RX6 yX6_mean wsX6_mean) := goodIn_app (goodIn_of _ (by decide +kernel)) ggX6_least_X6_mean
set_option maxRecDepth 20000 in
theorem ggX6_demand_X6_in : GoodIn wsX6_demand wsX6_in := goodIn_r _ [7] (by decide +kernel) (by decide +kernel)
set_option maxRecDepth 20000 in
theorem gX6_demand_X6_in : GoodIn wsX6_demand (va_wsS RX6 63 yX6_in wsX6_in) := goodIn_app (goodIn_of _ (by decide +kernel)) ggX6_demand_X6_in
set_option maxRecDepth 20000 in
theorem ggX6_at_X6_lay : GoodIn wsX6_at wsX6_lay := goodIn_r _ [7, 1, 8, 9, 2, 13, 14, 15, 16, 17, 18, 19, 20, 21, 22, 23, 24, 25, 26, 27, 28, 29, 30, 31, 32, 33, 34, 35] (by decide +kernel) (by decide +kernel)
set_option maxRecDepth 20000 in
theorem gX6_at_X6_lay : GoodIn wsX6_at (wsV RX6 182 RX6 yX6_lay wsX6_lay) := goodIn_app (goodIn_of _ (by decide +kernel)) ggX6_at_X6_lay
set_option maxRecDepth 20000 in
theorem ggX6_at_X6_in : GoodIn wsX6_at wsX6_in := goodIn_r _ [12] (by decide +kernel) (by decide +kernel)
set_option maxRecDepth 20000 in
theorem gX6_at_X6_in : GoodIn wsX6_at (va_wsS RX6 63 yX6_in wsX6_in) := goodIn_app (goodIn_of _ (by decide +kernel)) ggX6_at_X6_in
set_option maxRecDepth 20000 in
theorem ggX6_rough_X6_lay : GoodIn wsX6_rough wsX6_lay := goodIn_r _ [5, 6, 7, 8, 9, 10, 11, 12, 13, 14, 15, 16, 17, 18, 19, 20, 21, 22, 23, 24, 25, 26, 27, 28, 29, 30, 31, 32] (by decide +kernel) (by decide +kernel)
set_option maxRecDepth 20000 in
theorem gX6_rough_X6_lay : GoodIn wsX6_rough (wsV RX6 182 RX6 yX6_lay wsX6_lay) := goodIn_app (goodIn_of _ (by decide +kernel)) ggX6_rough_X6_lay
set_option maxRecDepth 20000 in
theorem ggX6_changes_X6_lay : GoodIn wsX6_changes wsX6_lay := goodIn_r _ [7, 1, 8, 9, 2, 10, 11, 12, 13, 14, 15, 16, 17, 18, 19, 20, 21, 22, 23, 24, 25, 26, 27, 28, 29, 30, 31, 32] (by decide +kernel) (by decide +kernel)
set_option maxRecDepth 20000 in
theorem gX6_changes_X6_lay : GoodIn wsX6_changes (wsV RX6 182 RX6 yX6_lay wsX6_lay) := goodIn_app (goodIn_of _ (by decide +kernel)) ggX6_changes_X6_lay
set_option maxRecDepth 20000 in
theorem ggX6_total_X6_lay : GoodIn wsX6_total wsX6_lay := goodIn_r _ [10, 5, 11, 12, 13, 23, 24, 25, 26, 27, 28, 29, 30, 31, 32, 33, 34, 35, 36, 37, 38, 39, 40, 41, 42, 43, 44, 45] (by decide +kernel) (by decide +kernel)
set_option maxRecDepth 20000 in
theorem gX6_total_X6_lay : GoodIn wsX6_total (wsV RX6 182 RX6 yX6_lay wsX6_lay) := goodIn_app (goodIn_of _ (by decide +kernel)) ggX6_total_X6_lay
set_option maxRecDepth 20000 in
theorem ggX6_total_X6_readyMany : GoodIn wsX6_total wsX6_readyMany := goodIn_r _ [17, 3, 18, 19, 20, 9, 21, 1, 22, 2, 23, 24, 25, 26, 27, 28, 29, 30, 31, 32, 33, 34, 35, 36, 37, 38, 39, 40, 41, 42, 43, 44, 45] (by decide +kernel) (by decide +kernel)
set_option maxRecDepth 20000 in
theorem gX6_total_X6_readyMany : GoodIn wsX6_total (wsV RX6 95 RX6 yX6_readyMany wsX6_readyMany) := goodIn_app (goodIn_of _ (by decide +kernel)) ggX6_total_X6_readyMany
abbrev vwCl : List vw_C := [(RX0, TX0, 6), (RX1, TX1, 7), (RX2, TX2, 6), (RX3, TX3, 6), (RX4, TX4, 5), (RX5, TX5, 5), (RX6, TX6, 23)]
