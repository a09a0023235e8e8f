/-! numbers by Int -/
def iI (z : Int) : Int32 := Int32.ofInt z
def lI (z : Int) : Int64 := Int64.ofInt z
theorem iI_N (n : Nat) : nI n = iI (n : Int) := (Int32.ofInt_eq_ofNat (n := n)).symm
theorem iI_t {z : Int} (h : -2147483648 ≤ z ∧ z < 2147483648) : (iI z).toInt = z := fb_ofI h.1 h.2
theorem iI_as (x : Int32) : iI x.toInt = x := Int32.ofInt_toInt x
theorem iI_0 : (0 : Int32) = iI 0 := by decide
theorem nI_00 : (0 : Int32) = nI 0 := by decide
theorem za_add {x y : Int32} {a b : Int} (hx : x = iI a) (hy : y = iI b) : x + y = iI (a + b) := by rw [hx, hy]; exact (Int32.ofInt_add a b).symm
theorem za_sub {x y : Int32} {a b : Int} (hx : x = iI a) (hy : y = iI b) : x - y = iI (a - b) := by rw [hx, hy]; exact (Int32.ofInt_sub a b).symm
theorem za_mul {x y : Int32} {a b : Int} (hx : x = iI a) (hy : y = iI b) : x * y = iI (a * b) := by rw [hx, hy]; exact (Int32.ofInt_mul a b).symm
theorem za_neg {x : Int32} {a : Int} (hx : x = iI a) : -x = iI (-a) := by rw [hx]; exact (Int32.ofInt_neg a).symm
theorem zc_le {x y : Int32} {a b : Int} (hx : x = iI a) (hy : y = iI b) (h : -2147483648 ≤ a ∧ a < 2147483648 ∧ -2147483648 ≤ b ∧ b < 2147483648) : x ≤ y ↔ a ≤ b := by
  rw [hx, hy, Int32.le_iff_toInt_le, iI_t ⟨h.1, h.2.1⟩, iI_t ⟨h.2.2.1, h.2.2.2⟩]
theorem zc_lt {x y : Int32} {a b : Int} (hx : x = iI a) (hy : y = iI b) (h : -2147483648 ≤ a ∧ a < 2147483648 ∧ -2147483648 ≤ b ∧ b < 2147483648) : x < y ↔ a < b := by
  rw [hx, hy, Int32.lt_iff_toInt_lt, iI_t ⟨h.1, h.2.1⟩, iI_t ⟨h.2.2.1, h.2.2.2⟩]
theorem zc_eq {x y : Int32} {a b : Int} (hx : x = iI a) (hy : y = iI b) (h : -2147483648 ≤ a ∧ a < 2147483648 ∧ -2147483648 ≤ b ∧ b < 2147483648) : x = y ↔ a = b := by
  rw [hx, hy, ← Int32.toInt_inj, iI_t ⟨h.1, h.2.1⟩, iI_t ⟨h.2.2.1, h.2.2.2⟩]
theorem zcn_le {x y : Int32} {a b : Nat} (hx : x = nI a) (hy : y = nI b) (h : a < 2147483648 ∧ b < 2147483648) : x ≤ y ↔ a ≤ b := by
  rw [hx, hy]; exact nI_leI h.1 h.2
theorem zcn_lt {x y : Int32} {a b : Nat} (hx : x = nI a) (hy : y = nI b) (h : a < 2147483648 ∧ b < 2147483648) : x < y ↔ a < b := by
  rw [hx, hy]; exact nI_ltI h.1 h.2
theorem zcn_eq {x y : Int32} {a b : Nat} (hx : x = nI a) (hy : y = nI b) (h : a < 2147483648 ∧ b < 2147483648) : x = y ↔ a = b := by
  rw [hx, hy]; exact nI_eq h.1 h.2
theorem z_NtoZ {x : Int32} {n : Nat} (h : x = nI n) : x = iI (n : Int) := h.trans (iI_N n)
theorem z_ZtoN {a : Int} {n : Nat} (h : a = (n : Int)) : iI a = nI n := by rw [h, iI_N]
theorem z_Zcg {a b : Int} (h : a = b) : iI a = iI b := by rw [h]
theorem z_Ncg {a b : Nat} (h : a = b) : nI a = nI b := by rw [h]
theorem lI_N (n : Nat) : lN n = lI (n : Int) := (Int64.ofInt_eq_ofNat (n := n)).symm
theorem lI_t {z : Int} (h : -9223372036854775808 ≤ z ∧ z < 9223372036854775808) : (lI z).toInt = z := by
  show (Int64.ofInt z).toInt = z
  rw [Int64.toInt_ofInt]; exact fb_bmodL h.1 h.2
theorem zl_add {x y : Int64} {a b : Int} (hx : x = lI a) (hy : y = lI b) : x + y = lI (a + b) := by rw [hx, hy]; exact (Int64.ofInt_add a b).symm
theorem zl_sub {x y : Int64} {a b : Int} (hx : x = lI a) (hy : y = lI b) : x - y = lI (a - b) := by rw [hx, hy]; exact (Int64.ofInt_sub a b).symm
theorem zl_mul {x y : Int64} {a b : Int} (hx : x = lI a) (hy : y = lI b) : x * y = lI (a * b) := by rw [hx, hy]; exact (Int64.ofInt_mul a b).symm
theorem zl_i2l {x : Int32} {a : Int} (hx : x = iI a) (h : -2147483648 ≤ a ∧ a < 2147483648) : x.toInt64 = lI a := by
  rw [hx]; apply Int64.toInt_inj.mp
  rw [Int32.toInt_toInt64, iI_t h, lI_t (by omega)]
theorem zl_i2lN {x : Int32} {a : Nat} (hx : x = nI a) (h : a < 2147483648) : x.toInt64 = lN a := by rw [hx]; exact nI_l h
theorem zl_le {x y : Int64} {a b : Int} (hx : x = lI a) (hy : y = lI b) (h : -9223372036854775808 ≤ a ∧ a < 9223372036854775808 ∧ -9223372036854775808 ≤ b ∧ b < 9223372036854775808) : x ≤ y ↔ a ≤ b := by
  rw [hx, hy, Int64.le_iff_toInt_le, lI_t ⟨h.1, h.2.1⟩, lI_t ⟨h.2.2.1, h.2.2.2⟩]
theorem zl_lt {x y : Int64} {a b : Int} (hx : x = lI a) (hy : y = lI b) (h : -9223372036854775808 ≤ a ∧ a < 9223372036854775808 ∧ -9223372036854775808 ≤ b ∧ b < 9223372036854775808) : x < y ↔ a < b := by
  rw [hx, hy, Int64.lt_iff_toInt_lt, lI_t ⟨h.1, h.2.1⟩, lI_t ⟨h.2.2.1, h.2.2.2⟩]
theorem zl_eq {x y : Int64} {a b : Int} (hx : x = lI a) (hy : y = lI b) (h : -9223372036854775808 ≤ a ∧ a < 9223372036854775808 ∧ -9223372036854775808 ≤ b ∧ b < 9223372036854775808) : x = y ↔ a = b := by
  rw [hx, hy, ← Int64.toInt_inj, lI_t ⟨h.1, h.2.1⟩, lI_t ⟨h.2.2.1, h.2.2.2⟩]
theorem zm_gt (x y : Int64) : 0 < lg_cmp x y ↔ y < x := by
  unfold lg_cmp
  by_cases h1 : y < x
  · simp [h1]
  · by_cases h2 : x = y
    · simp [h2]
    · simp [h1, h2]
theorem zm_eq (x y : Int64) : lg_cmp x y = 0 ↔ x = y := by
  unfold lg_cmp
  by_cases h1 : y < x
  · rw [if_pos h1]
    constructor
    · intro h; exact absurd h (by decide)
    · intro h; subst h; exact absurd h1 Int64.lt_irrefl
  · rw [if_neg h1]
    by_cases h2 : x = y
    · simp [h2]
    · simp [h2]
theorem zm_le (x y : Int64) : lg_cmp x y ≤ 0 ↔ ¬ y < x := by
  rw [← zm_gt]
  constructor
  · intro h1 h2
    rw [Int32.le_iff_toInt_le] at h1
    rw [Int32.lt_iff_toInt_lt] at h2
    omega
  · intro h
    rw [Int32.lt_iff_toInt_lt] at h
    rw [Int32.le_iff_toInt_le]
    omega
theorem zm_lt (x y : Int64) : lg_cmp x y < 0 ↔ x < y := by
  have e1 := zm_le x y
  have e2 := zm_eq x y
  constructor
  · intro h
    have h1 : ¬ y < x := e1.mp (by rw [Int32.lt_iff_toInt_lt] at h; rw [Int32.le_iff_toInt_le]; omega)
    have h2 : ¬ x = y := fun q => by rw [e2.mpr q] at h; exact absurd h (by decide)
    rw [Int64.lt_iff_toInt_lt] at h1 ⊢
    have h3 : ¬ x.toInt = y.toInt := fun q => h2 (Int64.toInt_inj.mp q)
    omega
  · intro h
    have h1 : lg_cmp x y ≤ 0 := e1.mpr (by rw [Int64.lt_iff_toInt_lt] at h ⊢; omega)
    have h2 : ¬ lg_cmp x y = 0 := fun q => by
      have := e2.mp q
      subst this
      exact absurd h Int64.lt_irrefl
    have h3 : ¬ (lg_cmp x y).toInt = (0 : Int32).toInt := fun q => h2 (Int32.toInt_inj.mp q)
    rw [Int32.le_iff_toInt_le] at h1
    rw [Int32.lt_iff_toInt_lt]
    omega
theorem zm_ge (x y : Int64) : 0 ≤ lg_cmp x y ↔ ¬ x < y := by
  rw [← zm_lt]
  constructor
  · intro h1 h2
    rw [Int32.le_iff_toInt_le] at h1
    rw [Int32.lt_iff_toInt_lt] at h2
    omega
  · intro h
    rw [Int32.lt_iff_toInt_lt] at h
    rw [Int32.le_iff_toInt_le]
    omega
/-! arrays by Nat or Int -/
def up {α : Type} (f : Nat → α) (k : Nat) (v : α) : Nat → α := fun j => if j = k then v else f j
theorem up_s {α : Type} (f : Nat → α) (k : Nat) (v : α) : up f k v k = v := if_pos rfl
theorem up_n {α : Type} (f : Nat → α) {k j : Nat} (v : α) (h : ¬ j = k) : up f k v j = f j := if_neg h
theorem up_e {α : Type} (f : Nat → α) (k : Nat) (v : α) (j : Nat) : up f k v j = if j = k then v else f j := rfl
theorem upd_N (C : Nat → Nat) (k v : Nat) : upd (fun j => nI (C j)) k (nI v) = fun j => nI (up C k v j) := by
  funext j; unfold upd up; by_cases h : j = k <;> simp [h]
theorem upd_Z (C : Nat → Int) (k : Nat) (v : Int) : upd (fun j => iI (C j)) k (iI v) = fun j => iI (up C k v j) := by
  funext j; unfold upd up; by_cases h : j = k <;> simp [h]
theorem upd_L (C : Nat → Nat) (k v : Nat) : vp_updL (fun j => lN (C j)) k (lN v) = fun j => lN (up C k v j) := by
  funext j; unfold vp_updL up; by_cases h : j = k <;> simp [h]
theorem zs_shl {x y : Int32} {n k : Nat} (hx : x = nI n) (hy : y = nI k) (hk : k < 31) (h : n * 2 ^ k < 4294967296) : x <<< (y &&& 31) = nI (n * 2 ^ k) := by
  rw [hx, hy]
  have e : ∀ k, k < 31 → ((nI k &&& 31).toBitVec.smod 32).toNat = k := by decide
  exact pk_shlN (nI k &&& 31) k (e k hk) h
theorem zs_shr {x y : Int32} {n k : Nat} (hx : x = nI n) (hy : y = nI k) (hk : k < 31) (h : n < 2147483648) : x >>> (y &&& 31) = nI (n / 2 ^ k) := by
  rw [hx, hy]
  have e : ∀ k, k < 31 → ((nI k &&& 31).toBitVec.smod 32).toNat = k := by decide
  exact pk_shrN h (nI k &&& 31) k (e k hk)
theorem zs_and {x y : Int32} {a b : Nat} (hx : x = nI a) (hy : y = nI b) : x &&& y = nI (a &&& b) := by rw [hx, hy]; exact fa_and a b
theorem zs_or {x y : Int32} {a b : Nat} (hx : x = nI a) (hy : y = nI b) : x ||| y = nI (a ||| b) := by rw [hx, hy]; exact fa_or a b
theorem zs_lshl {x : Int64} {y : Int32} {n k : Nat} (hx : x = lN n) (hy : y = nI k) (hk : k < 63) : x <<< (y.toInt64 &&& 63) = lN (n * 2 ^ k) := by
  rw [hx, hy]
  have h1 : ((nI k).toInt64 &&& 63) = lN k := by
    have e : ∀ k, k < 63 → ((nI k).toInt64 &&& 63) = lN k := by decide
    exact e k hk
  rw [h1]
  apply Int64.toBitVec_inj.mp
  have e2 : ((lN k).toBitVec.smod 64) = BitVec.ofNat 64 k := by
    have e : ∀ k, k < 63 → ((lN k).toBitVec.smod 64) = BitVec.ofNat 64 k := by decide
    exact e k hk
  show (lN n).toBitVec <<< ((lN k).toBitVec.smod 64) = (lN (n * 2 ^ k)).toBitVec
  rw [e2]
  apply BitVec.eq_of_toNat_eq
  have hb : ∀ a : Nat, (lN a).toBitVec = BitVec.ofNat 64 a := fun a => rfl
  rw [hb, hb, BitVec.shiftLeft_eq', BitVec.toNat_shiftLeft, BitVec.toNat_ofNat, BitVec.toNat_ofNat, BitVec.toNat_ofNat, Nat.mod_eq_of_lt (show k < 2 ^ 64 by omega), Nat.shiftLeft_eq, Nat.mod_mul_mod]
theorem zn_div {x y : Int32} {a b : Nat} (hx : x = nI a) (hy : y = nI b) (h : a < 2147483648 ∧ 0 < b ∧ b < 2147483648) : x / y = nI (a / b) := by rw [hx, hy]; exact pk_div h.1 h.2.1 h.2.2
theorem zn_rem {x y : Int32} {a b : Nat} (hx : x = nI a) (hy : y = nI b) (h : a < 2147483648 ∧ 0 < b ∧ b < 2147483648) : x - x / y * y = nI (a % b) := by rw [hx, hy]; exact pk_rem h.1 h.2.1 h.2.2
theorem zn_ne0 {x : Int32} {b : Nat} (hx : x = nI b) (h : 0 < b ∧ b < 2147483648) : ¬ x = 0 := by rw [hx]; exact nI_ne0 h.1 h.2
theorem zn_ldiv {x y : Int64} {a b : Nat} (hx : x = lN a) (hy : y = lN b) (h : a < 9223372036854775808 ∧ 0 < b ∧ b < 9223372036854775808) : x / y = lN (a / b) := by rw [hx, hy]; exact pk_lDiv h.1 h.2.1 h.2.2
theorem zn_lrem {x y : Int64} {a b : Nat} (hx : x = lN a) (hy : y = lN b) (h : a < 9223372036854775808 ∧ 0 < b ∧ b < 9223372036854775808) : x - x / y * y = lN (a % b) := by rw [hx, hy]; exact pk_lRem h.1 h.2.1 h.2.2
theorem zn_lne0 {x : Int64} {b : Nat} (hx : x = lN b) (h : 0 < b ∧ b < 9223372036854775808) : ¬ x = 0 := by
  rw [hx]; intro q; rw [show (0 : Int64) = lN 0 from by decide, pk_lEQ h.2 (by decide)] at q; omega
theorem zn_max {a b : Nat} (h : a < 2147483648 ∧ b < 2147483648) : (if nI a < nI b then nI b else nI a) = nI (max a b) := by
  by_cases q : a < b
  · rw [if_pos ((nI_ltI h.1 h.2).mpr q), Nat.max_eq_right (by omega)]
  · rw [if_neg (fun z => q ((nI_ltI h.1 h.2).mp z)), Nat.max_eq_left (by omega)]
theorem za_max {x y : Int32} {a b : Int} (hx : x = iI a) (hy : y = iI b) (h : -2147483648 ≤ a ∧ a < 2147483648 ∧ -2147483648 ≤ b ∧ b < 2147483648) : (if x < y then y else x) = iI (max a b) := by
  by_cases q : a < b
  · rw [if_pos ((zc_lt hx hy h).mpr q), hy, Int.max_eq_right (by omega)]
  · rw [if_neg (fun z => q ((zc_lt hx hy h).mp z)), hx, Int.max_eq_left (by omega)]

section ZK
variable {p : Program} {l : Launch} {e : Env} {R : Room} {s : State} {m : MethodId} {args : Array Value} {below : List Frame} {meth : Method} {c : Code} {H H0 : Heap} {locs : List Loc} {cells slots : Nat} {Q : State → Prop} {cc : ByteArray} {pc : Nat} {ls : Array Slot} {rest : List Value} {D : va_G} {cl : List vw_C} {ws : va_W} {tys : List (ClassId × FieldType)} {A : Nat → Prop}
theorem z_c0 {x v : Int32} (hv : x = v) (k : W p l e R s m args below meth c H locs cells slots Q (F0 m pc ls (.int v :: rest))) : W p l e R s m args below meth c H locs cells slots Q (F0 m pc ls (.int x :: rest)) := hv ▸ k
theorem z_c1 {x v : Int32} {a : Value} (hv : x = v) (k : W p l e R s m args below meth c H locs cells slots Q (F0 m pc ls (a :: .int v :: rest))) : W p l e R s m args below meth c H locs cells slots Q (F0 m pc ls (a :: .int x :: rest)) := hv ▸ k
theorem z_c2 {x v : Int32} {a b : Value} (hv : x = v) (k : W p l e R s m args below meth c H locs cells slots Q (F0 m pc ls (a :: b :: .int v :: rest))) : W p l e R s m args below meth c H locs cells slots Q (F0 m pc ls (a :: b :: .int x :: rest)) := hv ▸ k
theorem z_c3 {x v : Int32} {a b d : Value} (hv : x = v) (k : W p l e R s m args below meth c H locs cells slots Q (F0 m pc ls (a :: b :: d :: .int v :: rest))) : W p l e R s m args below meth c H locs cells slots Q (F0 m pc ls (a :: b :: d :: .int x :: rest)) := hv ▸ k
theorem z_l2 {x v : Int64} {a b : Value} (hv : x = v) (k : W p l e R s m args below meth c H locs cells slots Q (F0 m pc ls (a :: b :: .long v :: rest))) : W p l e R s m args below meth c H locs cells slots Q (F0 m pc ls (a :: b :: .long x :: rest)) := hv ▸ k
theorem z_l0 {x v : Int64} (hv : x = v) (k : W p l e R s m args below meth c H locs cells slots Q (F0 m pc ls (.long v :: rest))) : W p l e R s m args below meth c H locs cells slots Q (F0 m pc ls (.long x :: rest)) := hv ▸ k
theorem z_l1 {x v : Int64} {a : Value} (hv : x = v) (k : W p l e R s m args below meth c H locs cells slots Q (F0 m pc ls (a :: .long v :: rest))) : W p l e R s m args below meth c H locs cells slots Q (F0 m pc ls (a :: .long x :: rest)) := hv ▸ k
theorem z_iadd (hexec : p.tables.exec = Jvm.exec) (hb : c.code = cc) {x y v : Int32} (hdg : decode cc pc = .ok (.iadd, 1)) (hv : x + y = v) (k : W p l e R s m args below meth c H locs cells slots Q (F0 m (pc + 1) ls (.int v :: rest))) : W p l e R s m args below meth c H locs cells slots Q (F0 m pc ls (.int y :: .int x :: rest)) := lv_iadd hexec hb hdg (by rw [hv]; exact k)
theorem z_isub (hexec : p.tables.exec = Jvm.exec) (hb : c.code = cc) {x y v : Int32} (hdg : decode cc pc = .ok (.isub, 1)) (hv : x - y = v) (k : W p l e R s m args below meth c H locs cells slots Q (F0 m (pc + 1) ls (.int v :: rest))) : W p l e R s m args below meth c H locs cells slots Q (F0 m pc ls (.int y :: .int x :: rest)) := lv_isub hexec hb hdg (by rw [hv]; exact k)
theorem z_imul (hexec : p.tables.exec = Jvm.exec) (hb : c.code = cc) {x y v : Int32} (hdg : decode cc pc = .ok (.imul, 1)) (hv : x * y = v) (k : W p l e R s m args below meth c H locs cells slots Q (F0 m (pc + 1) ls (.int v :: rest))) : W p l e R s m args below meth c H locs cells slots Q (F0 m pc ls (.int y :: .int x :: rest)) := lv_imul hexec hb hdg (by rw [hv]; exact k)
theorem z_ishl (hexec : p.tables.exec = Jvm.exec) (hb : c.code = cc) {x y v : Int32} (hdg : decode cc pc = .ok (.ishl, 1)) (hv : x <<< (y &&& 31) = v) (k : W p l e R s m args below meth c H locs cells slots Q (F0 m (pc + 1) ls (.int v :: rest))) : W p l e R s m args below meth c H locs cells slots Q (F0 m pc ls (.int y :: .int x :: rest)) := lv_ishl hexec hb hdg (by rw [hv]; exact k)
theorem z_ishr (hexec : p.tables.exec = Jvm.exec) (hb : c.code = cc) {x y v : Int32} (hdg : decode cc pc = .ok (.ishr, 1)) (hv : x >>> (y &&& 31) = v) (k : W p l e R s m args below meth c H locs cells slots Q (F0 m (pc + 1) ls (.int v :: rest))) : W p l e R s m args below meth c H locs cells slots Q (F0 m pc ls (.int y :: .int x :: rest)) := lv_ishr hexec hb hdg (by rw [hv]; exact k)
theorem z_iand (hexec : p.tables.exec = Jvm.exec) (hb : c.code = cc) {x y v : Int32} (hdg : decode cc pc = .ok (.iand, 1)) (hv : x &&& y = v) (k : W p l e R s m args below meth c H locs cells slots Q (F0 m (pc + 1) ls (.int v :: rest))) : W p l e R s m args below meth c H locs cells slots Q (F0 m pc ls (.int y :: .int x :: rest)) := lv_iand hexec hb hdg (by rw [hv]; exact k)
theorem z_ior (hexec : p.tables.exec = Jvm.exec) (hb : c.code = cc) {x y v : Int32} (hdg : decode cc pc = .ok (.ior, 1)) (hv : x ||| y = v) (k : W p l e R s m args below meth c H locs cells slots Q (F0 m (pc + 1) ls (.int v :: rest))) : W p l e R s m args below meth c H locs cells slots Q (F0 m pc ls (.int y :: .int x :: rest)) := lv_ior hexec hb hdg (by rw [hv]; exact k)
theorem z_idiv (hexec : p.tables.exec = Jvm.exec) (hb : c.code = cc) {x y v : Int32} (hdg : decode cc pc = .ok (.idiv, 1)) (h0 : ¬ y = 0) (hv : x / y = v) (k : W p l e R s m args below meth c H locs cells slots Q (F0 m (pc + 1) ls (.int v :: rest))) : W p l e R s m args below meth c H locs cells slots Q (F0 m pc ls (.int y :: .int x :: rest)) := lv_idiv hexec hb hdg h0 (by rw [hv]; exact k)
theorem z_irem (hexec : p.tables.exec = Jvm.exec) (hb : c.code = cc) {x y v : Int32} (hdg : decode cc pc = .ok (.irem, 1)) (h0 : ¬ y = 0) (hv : x - x / y * y = v) (k : W p l e R s m args below meth c H locs cells slots Q (F0 m (pc + 1) ls (.int v :: rest))) : W p l e R s m args below meth c H locs cells slots Q (F0 m pc ls (.int y :: .int x :: rest)) := lv_irem hexec hb hdg h0 (by rw [hv]; exact k)
theorem z_ineg (hexec : p.tables.exec = Jvm.exec) (hb : c.code = cc) {x v : Int32} (hdg : decode cc pc = .ok (.ineg, 1)) (hv : -x = v) (k : W p l e R s m args below meth c H locs cells slots Q (F0 m (pc + 1) ls (.int v :: rest))) : W p l e R s m args below meth c H locs cells slots Q (F0 m pc ls (.int x :: rest)) := lv_ineg hexec hb hdg (by rw [hv]; exact k)
theorem z_ladd (hexec : p.tables.exec = Jvm.exec) (hb : c.code = cc) {x y v : Int64} (hdg : decode cc pc = .ok (.ladd, 1)) (hv : x + y = v) (k : W p l e R s m args below meth c H locs cells slots Q (F0 m (pc + 1) ls (.long v :: rest))) : W p l e R s m args below meth c H locs cells slots Q (F0 m pc ls (.long y :: .long x :: rest)) := lv_ladd hexec hb hdg (by rw [hv]; exact k)
theorem z_lsub (hexec : p.tables.exec = Jvm.exec) (hb : c.code = cc) {x y v : Int64} (hdg : decode cc pc = .ok (.lsub, 1)) (hv : x - y = v) (k : W p l e R s m args below meth c H locs cells slots Q (F0 m (pc + 1) ls (.long v :: rest))) : W p l e R s m args below meth c H locs cells slots Q (F0 m pc ls (.long y :: .long x :: rest)) := lv_lsub hexec hb hdg (by rw [hv]; exact k)
theorem z_lmul (hexec : p.tables.exec = Jvm.exec) (hb : c.code = cc) {x y v : Int64} (hdg : decode cc pc = .ok (.lmul, 1)) (hv : x * y = v) (k : W p l e R s m args below meth c H locs cells slots Q (F0 m (pc + 1) ls (.long v :: rest))) : W p l e R s m args below meth c H locs cells slots Q (F0 m pc ls (.long y :: .long x :: rest)) := lv_lmul hexec hb hdg (by rw [hv]; exact k)
theorem z_ldiv (hexec : p.tables.exec = Jvm.exec) (hb : c.code = cc) {x y v : Int64} (hdg : decode cc pc = .ok (.ldiv, 1)) (h0 : ¬ y = 0) (hv : x / y = v) (k : W p l e R s m args below meth c H locs cells slots Q (F0 m (pc + 1) ls (.long v :: rest))) : W p l e R s m args below meth c H locs cells slots Q (F0 m pc ls (.long y :: .long x :: rest)) := lv_ldiv hexec hb hdg h0 (by rw [hv]; exact k)
theorem z_lrem (hexec : p.tables.exec = Jvm.exec) (hb : c.code = cc) {x y v : Int64} (hdg : decode cc pc = .ok (.lrem, 1)) (h0 : ¬ y = 0) (hv : x - x / y * y = v) (k : W p l e R s m args below meth c H locs cells slots Q (F0 m (pc + 1) ls (.long v :: rest))) : W p l e R s m args below meth c H locs cells slots Q (F0 m pc ls (.long y :: .long x :: rest)) := lv_lrem hexec hb hdg h0 (by rw [hv]; exact k)
theorem z_if_eq (hexec : p.tables.exec = Jvm.exec) (hb : c.code = cc) {x : Int32} {off : Int} {tgt : Nat} {P : Prop} (hdg : decode cc pc = .ok (.ifCond .eq off, 3)) (ht : (pc : Int) + off = (tgt : Int)) (hp : x = 0 ↔ P) (kt : P → W p l e R s m args below meth c H locs cells slots Q (F0 m tgt ls rest)) (kf : ¬ P → W p l e R s m args below meth c H locs cells slots Q (F0 m (pc + 3) ls rest)) : W p l e R s m args below meth c H locs cells slots Q (F0 m pc ls (.int x :: rest)) := lv_if_eq hexec hb hdg ht (fun h => kt (hp.mp h)) (fun h => kf (fun z => h (hp.mpr z)))
theorem z_icmp_eq (hexec : p.tables.exec = Jvm.exec) (hb : c.code = cc) {x y : Int32} {off : Int} {tgt : Nat} {P : Prop} (hdg : decode cc pc = .ok (.if_icmp .eq off, 3)) (ht : (pc : Int) + off = (tgt : Int)) (hp : x = y ↔ P) (kt : P → W p l e R s m args below meth c H locs cells slots Q (F0 m tgt ls rest)) (kf : ¬ P → W p l e R s m args below meth c H locs cells slots Q (F0 m (pc + 3) ls rest)) : W p l e R s m args below meth c H locs cells slots Q (F0 m pc ls (.int y :: .int x :: rest)) := lv_icmp_eq hexec hb hdg ht (fun h => kt (hp.mp h)) (fun h => kf (fun z => h (hp.mpr z)))
theorem z_if_ne (hexec : p.tables.exec = Jvm.exec) (hb : c.code = cc) {x : Int32} {off : Int} {tgt : Nat} {P : Prop} (hdg : decode cc pc = .ok (.ifCond .ne off, 3)) (ht : (pc : Int) + off = (tgt : Int)) (hp : x = 0 ↔ P) (kt : ¬ P → W p l e R s m args below meth c H locs cells slots Q (F0 m tgt ls rest)) (kf : P → W p l e R s m args below meth c H locs cells slots Q (F0 m (pc + 3) ls rest)) : W p l e R s m args below meth c H locs cells slots Q (F0 m pc ls (.int x :: rest)) := lv_if_ne hexec hb hdg ht (fun h => kt (fun z => h (hp.mpr z))) (fun h => kf (hp.mp h))
theorem z_icmp_ne (hexec : p.tables.exec = Jvm.exec) (hb : c.code = cc) {x y : Int32} {off : Int} {tgt : Nat} {P : Prop} (hdg : decode cc pc = .ok (.if_icmp .ne off, 3)) (ht : (pc : Int) + off = (tgt : Int)) (hp : x = y ↔ P) (kt : ¬ P → W p l e R s m args below meth c H locs cells slots Q (F0 m tgt ls rest)) (kf : P → W p l e R s m args below meth c H locs cells slots Q (F0 m (pc + 3) ls rest)) : W p l e R s m args below meth c H locs cells slots Q (F0 m pc ls (.int y :: .int x :: rest)) := lv_icmp_ne hexec hb hdg ht (fun h => kt (fun z => h (hp.mpr z))) (fun h => kf (hp.mp h))
theorem z_if_lt (hexec : p.tables.exec = Jvm.exec) (hb : c.code = cc) {x : Int32} {off : Int} {tgt : Nat} {P : Prop} (hdg : decode cc pc = .ok (.ifCond .lt off, 3)) (ht : (pc : Int) + off = (tgt : Int)) (hp : x < 0 ↔ P) (kt : P → W p l e R s m args below meth c H locs cells slots Q (F0 m tgt ls rest)) (kf : ¬ P → W p l e R s m args below meth c H locs cells slots Q (F0 m (pc + 3) ls rest)) : W p l e R s m args below meth c H locs cells slots Q (F0 m pc ls (.int x :: rest)) := lv_if_lt hexec hb hdg ht (fun h => kt (hp.mp h)) (fun h => kf (fun z => h (hp.mpr z)))
theorem z_icmp_lt (hexec : p.tables.exec = Jvm.exec) (hb : c.code = cc) {x y : Int32} {off : Int} {tgt : Nat} {P : Prop} (hdg : decode cc pc = .ok (.if_icmp .lt off, 3)) (ht : (pc : Int) + off = (tgt : Int)) (hp : x < y ↔ P) (kt : P → W p l e R s m args below meth c H locs cells slots Q (F0 m tgt ls rest)) (kf : ¬ P → W p l e R s m args below meth c H locs cells slots Q (F0 m (pc + 3) ls rest)) : W p l e R s m args below meth c H locs cells slots Q (F0 m pc ls (.int y :: .int x :: rest)) := lv_icmp_lt hexec hb hdg ht (fun h => kt (hp.mp h)) (fun h => kf (fun z => h (hp.mpr z)))
theorem z_if_ge (hexec : p.tables.exec = Jvm.exec) (hb : c.code = cc) {x : Int32} {off : Int} {tgt : Nat} {P : Prop} (hdg : decode cc pc = .ok (.ifCond .ge off, 3)) (ht : (pc : Int) + off = (tgt : Int)) (hp : 0 ≤ x ↔ P) (kt : P → W p l e R s m args below meth c H locs cells slots Q (F0 m tgt ls rest)) (kf : ¬ P → W p l e R s m args below meth c H locs cells slots Q (F0 m (pc + 3) ls rest)) : W p l e R s m args below meth c H locs cells slots Q (F0 m pc ls (.int x :: rest)) := lv_if_ge hexec hb hdg ht (fun h => kt (hp.mp h)) (fun h => kf (fun z => h (hp.mpr z)))
theorem z_icmp_ge (hexec : p.tables.exec = Jvm.exec) (hb : c.code = cc) {x y : Int32} {off : Int} {tgt : Nat} {P : Prop} (hdg : decode cc pc = .ok (.if_icmp .ge off, 3)) (ht : (pc : Int) + off = (tgt : Int)) (hp : y ≤ x ↔ P) (kt : P → W p l e R s m args below meth c H locs cells slots Q (F0 m tgt ls rest)) (kf : ¬ P → W p l e R s m args below meth c H locs cells slots Q (F0 m (pc + 3) ls rest)) : W p l e R s m args below meth c H locs cells slots Q (F0 m pc ls (.int y :: .int x :: rest)) := lv_icmp_ge hexec hb hdg ht (fun h => kt (hp.mp h)) (fun h => kf (fun z => h (hp.mpr z)))
theorem z_if_gt (hexec : p.tables.exec = Jvm.exec) (hb : c.code = cc) {x : Int32} {off : Int} {tgt : Nat} {P : Prop} (hdg : decode cc pc = .ok (.ifCond .gt off, 3)) (ht : (pc : Int) + off = (tgt : Int)) (hp : 0 < x ↔ P) (kt : P → W p l e R s m args below meth c H locs cells slots Q (F0 m tgt ls rest)) (kf : ¬ P → W p l e R s m args below meth c H locs cells slots Q (F0 m (pc + 3) ls rest)) : W p l e R s m args below meth c H locs cells slots Q (F0 m pc ls (.int x :: rest)) := lv_if_gt hexec hb hdg ht (fun h => kt (hp.mp h)) (fun h => kf (fun z => h (hp.mpr z)))
theorem z_icmp_gt (hexec : p.tables.exec = Jvm.exec) (hb : c.code = cc) {x y : Int32} {off : Int} {tgt : Nat} {P : Prop} (hdg : decode cc pc = .ok (.if_icmp .gt off, 3)) (ht : (pc : Int) + off = (tgt : Int)) (hp : y < x ↔ P) (kt : P → W p l e R s m args below meth c H locs cells slots Q (F0 m tgt ls rest)) (kf : ¬ P → W p l e R s m args below meth c H locs cells slots Q (F0 m (pc + 3) ls rest)) : W p l e R s m args below meth c H locs cells slots Q (F0 m pc ls (.int y :: .int x :: rest)) := lv_icmp_gt hexec hb hdg ht (fun h => kt (hp.mp h)) (fun h => kf (fun z => h (hp.mpr z)))
theorem z_if_le (hexec : p.tables.exec = Jvm.exec) (hb : c.code = cc) {x : Int32} {off : Int} {tgt : Nat} {P : Prop} (hdg : decode cc pc = .ok (.ifCond .le off, 3)) (ht : (pc : Int) + off = (tgt : Int)) (hp : x ≤ 0 ↔ P) (kt : P → W p l e R s m args below meth c H locs cells slots Q (F0 m tgt ls rest)) (kf : ¬ P → W p l e R s m args below meth c H locs cells slots Q (F0 m (pc + 3) ls rest)) : W p l e R s m args below meth c H locs cells slots Q (F0 m pc ls (.int x :: rest)) := lv_if_le hexec hb hdg ht (fun h => kt (hp.mp h)) (fun h => kf (fun z => h (hp.mpr z)))
theorem z_icmp_le (hexec : p.tables.exec = Jvm.exec) (hb : c.code = cc) {x y : Int32} {off : Int} {tgt : Nat} {P : Prop} (hdg : decode cc pc = .ok (.if_icmp .le off, 3)) (ht : (pc : Int) + off = (tgt : Int)) (hp : x ≤ y ↔ P) (kt : P → W p l e R s m args below meth c H locs cells slots Q (F0 m tgt ls rest)) (kf : ¬ P → W p l e R s m args below meth c H locs cells slots Q (F0 m (pc + 3) ls rest)) : W p l e R s m args below meth c H locs cells slots Q (F0 m pc ls (.int y :: .int x :: rest)) := lv_icmp_le hexec hb hdg ht (fun h => kt (hp.mp h)) (fun h => kf (fun z => h (hp.mpr z)))
theorem z_iald (hexec : p.tables.exec = Jvm.exec) (hb : c.code = cc) (hK : va_K D cl tys s) (hP : va_P D cl ws H) (q0 t0 : Nat) {a : Nat} {cA : ClassId} {n : Nat} {f : Nat → Int32} (ha : ws[q0]? = some (a, .inl (cA, n, .inl f))) (ht : tys[t0]? = some (cA, .int)) {i v : Int32} (k : Nat) (hi : i = nI k) (hk : k < n ∧ n < 2147483648) (hv : f k = v) (hdg : decode cc pc = .ok (.iaload, 1)) (kk : W p l e R s m args below meth c H locs cells slots Q (F0 m (pc + 1) ls (.int v :: rest))) : W p l e R s m args below meth c H locs cells slots Q (F0 m pc ls (.int i :: .ref a :: rest)) := by
  subst hi
  exact va_iald hexec hb hK hP q0 t0 ha ht (vp_in_nI hk.1 hk.2) hdg (by rw [nI_clamp (show k < 2 ^ 31 by omega), hv]; exact kk)
theorem z_lald (hexec : p.tables.exec = Jvm.exec) (hb : c.code = cc) (hK : va_K D cl tys s) (hP : va_P D cl ws H) (q0 t0 : Nat) {a : Nat} {cA : ClassId} {n : Nat} {f : Nat → Int64} (ha : ws[q0]? = some (a, .inl (cA, n, .inr (.inl f)))) (ht : tys[t0]? = some (cA, .long)) {i : Int32} {v : Int64} (k : Nat) (hi : i = nI k) (hk : k < n ∧ n < 2147483648) (hv : f k = v) (hdg : decode cc pc = .ok (.laload, 1)) (kk : W p l e R s m args below meth c H locs cells slots Q (F0 m (pc + 1) ls (.long v :: rest))) : W p l e R s m args below meth c H locs cells slots Q (F0 m pc ls (.int i :: .ref a :: rest)) := by
  subst hi
  exact va_lald hexec hb hK hP q0 t0 ha ht (vp_in_nI hk.1 hk.2) hdg (by rw [nI_clamp (show k < 2 ^ 31 by omega), hv]; exact kk)
theorem z_iast (hexec : p.tables.exec = Jvm.exec) (hb : c.code = cc) (hK : va_K D cl tys s) (hP : va_P D cl ws H) (hD : va_D A ws) (hS : va_S A H0 H locs) (q0 t0 : Nat) {a : Nat} {cA : ClassId} {n : Nat} {f f' : Nat → Int32} (ha : ws[q0]? = some (a, .inl (cA, n, .inl f))) (ht : tys[t0]? = some (cA, .int)) {i x : Int32} (k : Nat) (hi : i = nI k) (hk : k < n ∧ n < 2147483648) (hf : upd f k x = f') (ws' : va_W) (hw : ws.set q0 (a, .inl (cA, n, .inl f')) = ws') (hdg : decode cc pc = .ok (.iastore, 1))
    (kk : ∀ (H : Heap) (locs : List Loc), va_P D cl ws' H → va_D A ws' → va_S A H0 H locs → W p l e R s m args below meth c H locs cells slots Q (F0 m (pc + 1) ls rest)) : W p l e R s m args below meth c H locs cells slots Q (F0 m pc ls (.int x :: .int i :: .ref a :: rest)) := by
  subst hi
  refine va_iast hexec hb hK hP hD hS q0 t0 ha ht (vp_in_nI hk.1 hk.2) hdg (fun H1 locs1 h1 h2 h3 => ?_)
  rw [nI_clamp (show k < 2 ^ 31 by omega), hf, hw] at h1 h2
  exact kk H1 locs1 h1 h2 h3
theorem z_last (hexec : p.tables.exec = Jvm.exec) (hb : c.code = cc) (hK : va_K D cl tys s) (hP : va_P D cl ws H) (hD : va_D A ws) (hS : va_S A H0 H locs) (q0 t0 : Nat) {a : Nat} {cA : ClassId} {n : Nat} {f f' : Nat → Int64} (ha : ws[q0]? = some (a, .inl (cA, n, .inr (.inl f)))) (ht : tys[t0]? = some (cA, .long)) {i : Int32} {x : Int64} (k : Nat) (hi : i = nI k) (hk : k < n ∧ n < 2147483648) (hf : vp_updL f k x = f') (ws' : va_W) (hw : ws.set q0 (a, .inl (cA, n, .inr (.inl f'))) = ws') (hdg : decode cc pc = .ok (.lastore, 1))
    (kk : ∀ (H : Heap) (locs : List Loc), va_P D cl ws' H → va_D A ws' → va_S A H0 H locs → W p l e R s m args below meth c H locs cells slots Q (F0 m (pc + 1) ls rest)) : W p l e R s m args below meth c H locs cells slots Q (F0 m pc ls (.long x :: .int i :: .ref a :: rest)) := by
  subst hi
  refine va_last hexec hb hK hP hD hS q0 t0 ha ht (vp_in_nI hk.1 hk.2) hdg (fun H1 locs1 h1 h2 h3 => ?_)
  rw [nI_clamp (show k < 2 ^ 31 by omega), hf, hw] at h1 h2
  exact kk H1 locs1 h1 h2 h3
theorem z_get (hexec : p.tables.exec = Jvm.exec) (hb : c.code = cc) {own ref C : String} {T : u_T} {N ci index : Nat} {Ts : List Cond} (hts : ∀ w ∈ Ts, w.before args s = true) (hin : ∀ w ∈ u_ws C T N, w ∈ Ts) (hown : s.vm.findClass own = some m.cls) (hK : va_K D cl tys s) (hP : va_P D cl ws H) (q0 : Nat) {a : Nat} {fs : List Value} (he : ws[q0]? = some (a, .inr (ci, fs))) (hc : cl[ci]? = some (C, T, N)) (k : Nat) (hk : k < N) (hlink : (Cond.fieldLink own index ref (T k).2.1 (T k).2.2.1).before args s = true) (href : (T k).1 = ref) {v : Value} (hv : fs[k]? = some v) (hdg : decode cc pc = .ok (.getfield index, 3)) (kk : W p l e R s m args below meth c H locs cells slots Q (F0 m (pc + 3) ls (v :: rest))) : W p l e R s m args below meth c H locs cells slots Q (F0 m pc ls (.ref a :: rest)) :=
  va_get hexec hb hts hin hown hK hP q0 he hc k hk hlink (fun x h9 => by rw [← href]; exact h9) hv hdg kk
theorem z_put (hexec : p.tables.exec = Jvm.exec) (hb : c.code = cc) {own ref C : String} {T : u_T} {N ci index : Nat} {Ts : List Cond} (hts : ∀ w ∈ Ts, w.before args s = true) (hin : ∀ w ∈ u_ws C T N, w ∈ Ts) (ty0 : Nat → FieldType) (hty : ∀ k, k < N → parseFieldDescriptor (T k).2.2.1 = some (ty0 k)) (hnm : ∀ a, a < N → ∀ b, b < N → a ≠ b → (T a).2.1 ≠ (T b).2.1) (hown : s.vm.findClass own = some m.cls) (hK : va_K D cl tys s) (hP : va_P D cl ws H) (hD : va_D A ws) (hS : va_S A H0 H locs) (q0 : Nat) {a : Nat} {fs : List Value} (he : ws[q0]? = some (a, .inr (ci, fs))) (hc : cl[ci]? = some (C, T, N)) (k : Nat) (hk : k < N) (hlink : (Cond.fieldLink own index ref (T k).2.1 (T k).2.2.1).before args s = true) (href : (T k).1 = ref) (hfin : (T k).2.2.2 = false) {v : Value} (hn : narrow (ty0 k) v = v) (hfit : fits (ty0 k) v = true) (hl : k < fs.length) (ws' : va_W) (hw : ws.set q0 (a, .inr (ci, fs.set k v)) = ws') (hdg : decode cc pc = .ok (.putfield index, 3))
    (kk : ∀ (H : Heap) (locs : List Loc), va_P D cl ws' H → va_D A ws' → va_S A H0 H locs → W p l e R s m args below meth c H locs cells slots Q (F0 m (pc + 3) ls rest)) : W p l e R s m args below meth c H locs cells slots Q (F0 m pc ls (v :: .ref a :: rest)) := by
  refine va_put hexec hb hts hin ty0 hty hnm hown hK hP hD hS q0 he hc k hk hlink (fun x h9 => by rw [← href]; exact h9) hfin (hty k hk) hn hfit hl hdg (fun H1 locs1 h1 h2 h3 => ?_)
  rw [hw] at h1 h2
  exact kk H1 locs1 h1 h2 h3
theorem z_putF (hexec : p.tables.exec = Jvm.exec) (hb : c.code = cc) {own ref C : String} {T : u_T} {N ci index : Nat} {Ts : List Cond} (hts : ∀ w ∈ Ts, w.before args s = true) (hin : ∀ w ∈ u_ws C T N, w ∈ Ts) (ty0 : Nat → FieldType) (hty : ∀ k, k < N → parseFieldDescriptor (T k).2.2.1 = some (ty0 k)) (hnm : ∀ a, a < N → ∀ b, b < N → a ≠ b → (T a).2.1 ≠ (T b).2.1) (hown : s.vm.findClass own = some m.cls) (hK : va_K D cl tys s) (hP : va_P D cl ws H) (hD : va_D A ws) (hS : va_S A H0 H locs) (q0 : Nat) {a : Nat} {fs : List Value} (he : ws[q0]? = some (a, .inr (ci, fs))) (hc : cl[ci]? = some (C, T, N)) (k : Nat) (hk : k < N) (hlink : (Cond.fieldLink own index ref (T k).2.1 (T k).2.2.1).before args s = true) (href : (T k).1 = ref) (hfin : (T k).2.2.2 = true) (hin2 : meth.name = "<init>") (hdecl : (T k).1 = own) {v : Value} (hn : narrow (ty0 k) v = v) (hfit : fits (ty0 k) v = true) (hl : k < fs.length) (ws' : va_W) (hw : ws.set q0 (a, .inr (ci, fs.set k v)) = ws') (hdg : decode cc pc = .ok (.putfield index, 3))
    (kk : ∀ (H : Heap) (locs : List Loc), va_P D cl ws' H → va_D A ws' → va_S A H0 H locs → W p l e R s m args below meth c H locs cells slots Q (F0 m (pc + 3) ls rest)) : W p l e R s m args below meth c H locs cells slots Q (F0 m pc ls (v :: .ref a :: rest)) := by
  refine va_putF hexec hb hts hin ty0 hty hnm hown hK hP hD hS q0 he hc k hk hlink (fun x h9 => by rw [← href]; exact h9) hfin hin2 hdecl (hty k hk) hn hfit hl hdg (fun H1 locs1 h1 h2 h3 => ?_)
  rw [hw] at h1 h2
  exact kk H1 locs1 h1 h2 h3
/-! a contract's start and end; a call, with the caller's cells put back in their order -/
theorem z_incN (a k : Nat) {n : Int} (h : Int32.ofInt n = nI k) : nI a + Int32.ofInt n = nI (a + k) := by rw [h]; exact nI_add a k
theorem z_decN {a : Nat} (h : 1 ≤ a) : nI a + Int32.ofInt (-1) = nI (a - 1) := by
  rw [show Int32.ofInt (-1) = iI (-1) from rfl, iI_N, iI_N]
  show Int32.ofInt _ + Int32.ofInt _ = Int32.ofInt _
  rw [← Int32.ofInt_add]
  exact congrArg Int32.ofInt (by omega)
theorem z_incZ {x : Int32} {a k n : Int} (hx : x = iI a) (h : n = k) : x + Int32.ofInt n = iI (a + k) := by rw [hx, h]; exact (Int32.ofInt_add a k).symm
theorem z_decZ {x : Int32} {a k n : Int} (hx : x = iI a) (h : n = -k) : x + Int32.ofInt n = iI (a - k) := by
  rw [hx, h, Int.sub_eq_add_neg]; exact (Int32.ofInt_add a (-k)).symm
theorem zn_min {a b : Nat} (h : a < 2147483648 ∧ b < 2147483648) : (if nI b < nI a then nI b else nI a) = nI (min a b) := by
  by_cases q : b < a
  · rw [if_pos ((nI_ltI h.2 h.1).mpr q), Nat.min_eq_right (by omega)]
  · rw [if_neg (fun z => q ((nI_ltI h.2 h.1).mp z)), Nat.min_eq_left (by omega)]
theorem za_abs {x : Int32} {a : Int} (hx : x = iI a) (h : -2147483648 < a ∧ a < 2147483648) : (if 0 ≤ x then x else 0 - x) = nI a.natAbs := by
  by_cases q : 0 ≤ a
  · rw [if_pos ((zc_le iI_0 hx (by omega)).mpr q), hx, iI_N]
    exact congrArg iI (by omega)
  · rw [if_neg (fun z => q ((zc_le iI_0 hx (by omega)).mp z)), za_sub iI_0 hx, iI_N]
    exact congrArg iI (by omega)
theorem zn_lmax {a b : Nat} (h : a < 9223372036854775808 ∧ b < 9223372036854775808) : (if lN b < lN a then lN a else lN b) = lN (max a b) := by
  by_cases q : b < a
  · rw [if_pos ((pk_lLT h.2 h.1).mpr q), Nat.max_eq_left (by omega)]
  · rw [if_neg (fun z => q ((pk_lLT h.2 h.1).mp z)), Nat.max_eq_right (by omega)]
theorem z_nb {b : Nat} (h : b = 0 ∨ b = 1) : narrow .boolean (.int (nI b)) = .int (nI b) := by rcases h with rfl | rfl <;> decide
def zP (D : va_G) (tys : List (ClassId × FieldType)) (ws : va_W) (sz : Nat) (nw : List Cond) : State → Prop := fun U => U.heap.size = sz ∧ va_P D vwCl ws U.heap ∧ va_K D vwCl tys U ∧ va_D (fun _ => True) ws ∧ ∀ w ∈ nw, va_Nw w U
def zB {S : Type} (D : va_G) (wsO : S → va_W) (A : Nat → Prop) : S → State → Prop := fun u t => va_P D vwCl (wsO u) t.heap ∧ va_D A (wsO u)
def zNw (w : Cond) : Bool := match w with
  | .methodLinkNest _ _ _ _ => true
  | _ => false
theorem zNw_warm {w : Cond} (hw : zNw w = true) {s U : State} (hW : s.WarmedH U.vm) (h : va_Nw w s) : va_Nw w U := by
  unfold zNw at hw
  split at hw
  · exact va_Nw.warmM hW h
  · cases hw
theorem zNw_tabs {w : Cond} (hw : zNw w = true) : w.onTables = true := by
  unfold zNw at hw
  split at hw
  · rfl
  · cases hw
theorem zP_blind {D : va_G} {tys : List (ClassId × FieldType)} {ws : va_W} {sz : Nat} {nw : List Cond} {av : List Value} (hnw : nw.all zNw = true) : FrameBlind (va_Pc av (zP D tys ws sz nw)) := by
  intro a U g mk q
  obtain ⟨q0, q1, qP, qK, qD, qN⟩ := q
  exact ⟨q0, q1, qP, va_K.moved (u := U) (U := U.calling g mk a) (Vm.Alike.refl U.vm) qK, qD, fun w hw => va_Nw.same (zNw_tabs (List.all_eq_true.mp hnw w hw)) (u := U) (U := U.calling g mk a) rfl (qN w hw)⟩
theorem zP_of {D : va_G} {tc : List (ClassId × FieldType)} {wc : va_W} {H : Heap} {s : State} {A : Nat → Prop} {nw : List Cond} (hnw : nw.all zNw = true) (hN : ∀ w ∈ nw, va_Nw w s) (hK : va_K D vwCl tc s) (hP : va_P D vwCl wc H) (hD : va_D A wc) {av : List Value} : ∀ U : State, U.heap = H → s.WarmedH U.vm → va_Pc av (zP D tc wc H.size nw) av.toArray U := fun U hU hW =>
  ⟨rfl, by rw [hU], by rw [hU]; exact hP, va_K.moved hW.alike hK, hD.weaken (fun _ _ _ _ => trivial), fun w hw => zNw_warm (List.all_eq_true.mp hnw w hw) hW (hN w hw)⟩
/-- the caller's cells behind a call, in any order -/
theorem z_back {A0 : Nat → Prop} {D : va_G} {ws wc wr w1 wz : va_W} {H H1 : Heap} (hP : va_P D vwCl ws H) (hD : va_D A0 ws) (isC isR isZ : List Nat) (hC : isC.map (fun i => ws[i]?) = wc.map some) (hR : isR.map (fun i => ws[i]?) = wr.map some) (hn : va_nd isR = true) (hdis : ∀ i ∈ isR, i ∉ isC) (hZ : isZ.map (fun i => (wr ++ w1)[i]?) = wz.map some) (hz : va_nd isZ = true)
    (hk : ∀ q : Nat, q < H.size → ¬ va_A wc H.size q → H1[q]? = H[q]?) (hF : ∀ q, va_A wc H.size q → A0 q) (hB : va_P D vwCl w1 H1 ∧ va_D (va_A wc H.size) w1) : va_P D vwCl wz H1 ∧ va_D A0 wz := by
  obtain ⟨h1, h2⟩ := va_join hP hD isC isR hC hR hn hdis hk hF hB.1 hB.2
  refine ⟨?_, h2.sub isZ hz hZ⟩
  intro k q hq
  have e1 : (isZ.map (fun i => (wr ++ w1)[i]?))[k]? = some (some q) := by rw [hZ, List.getElem?_map, hq]; rfl
  rw [List.getElem?_map] at e1
  cases hi : isZ[k]? with
  | none => rw [hi] at e1; cases e1
  | some i => rw [hi] at e1; exact h1 i q (Option.some.inj e1)
theorem z_subP {D : va_G} {ws wc : va_W} {H : Heap} (hP : va_P D vwCl ws H) (isC : List Nat) (hC : isC.map (fun i => ws[i]?) = wc.map some) : va_P D vwCl wc H := by
  intro k q hq
  have e1 : (isC.map (fun i => ws[i]?))[k]? = some (some q) := by rw [hC, List.getElem?_map, hq]; rfl
  rw [List.getElem?_map] at e1
  cases hi : isC[k]? with
  | none => rw [hi] at e1; cases e1
  | some i => rw [hi] at e1; exact hP i q (Option.some.inj e1)
variable {y : MethodName} {bytes : ByteArray} {maxL nL mc ms n index : Nat} {ret : Option FieldType} {wsy : List Cond} {rm : Room} {Ts : List Cond} {own : String} {b : Addr} {As : List Value} {tc : List (ClassId × FieldType)} {wc : va_W} {nw : List Cond}
theorem z_callVi {S : Type} {post : Int32 → S → Prop} {wcO : S → va_W} {C : String} (F : CallFix p m c cc nL s args Ts own) (hM : Met l y wsy rm (va_Pc (.ref b :: As) (zP D tc wc H.size nw)) (va_Qi post (zB D wcO (va_A wc H.size)) (va_A wc H.size)) mc ms (va_A wc H.size)) (cw : CallW R s args own C index y bytes maxL ret wsy rm mc ms n) (hA : ∀ q, H0.size ≤ q → A q) (hK : va_K D vwCl tc s) (hP : va_P D vwCl ws H) (hD : va_D A ws) (hS : va_S A H0 H locs) (isC isR isZ : List Nat) (hC : isC.map (fun i => ws[i]?) = wc.map some) {wr : va_W} (hR : isR.map (fun i => ws[i]?) = wr.map some) (hn : va_nd isR = true) (hdis : ∀ i ∈ isR, i ∉ isC) (hnC : va_nd isC = true) (hnw : nw.all zNw = true) (hN : ∀ w ∈ nw, va_Nw w s) {ci : Nat} {q : vw_C} (hc : vwCl[ci]? = some q) (hq : q.1 = C) (qb : Nat) {fs : List Value} (he : ws[qb]? = some (b, .inr (ci, fs))) (hls : ls.size = nL) (hroom : (rest.map fun v => v.category).sum ≤ 8) (hf : cells + mc ≤ R.cells ∧ slots + ms ≤ R.slots) (hlen : As.length = n) {st : List Value} (hst : st = As.reverse ++ .ref b :: rest) (hdg : decode cc pc = .ok (.invokevirtual index, 3)) (wsO : S → va_W) (hZ : ∀ u : S, isZ.map (fun i => (wr ++ wcO u)[i]?) = (wsO u).map some) (hz : va_nd isZ = true) (kk : ∀ (r : Int32) (u : S) (H : Heap) (locs : List Loc), post r u → va_P D vwCl (wsO u) H → va_D A (wsO u) → va_S A H0 H locs → W p l e R s m args below meth c H locs (cells + mc) (slots + ms) Q (F0 m (pc + 3) ls (.int r :: rest))) : W p l e R s m args below meth c H locs cells slots Q (F0 m pc ls st) := by
  have hFc := va_free (wc := wc) hD hS hA isC hC
  refine va_calli (va_runV F hM cw ⟨zP_blind hnw, by rw [← hq]; exact va_recv hK hP hc he, zP_of hnw hN hK (z_subP hP isC hC) (hD.sub isC hnC hC)⟩ rfl hlen hls hst (lv_room hroom) hdg hf) hS (fun q _ h => hFc q h) hFc (fun r u t H1 locs1 ht hvm hw hB hz1 hk1 hS1 => ?_)
  obtain ⟨gP, gD⟩ := hB
  rw [ht] at gP
  obtain ⟨g1, g2⟩ := z_back hP hD isC isR isZ hC hR hn hdis (hZ u) hz hk1 hFc ⟨gP, gD⟩
  exact kk r u H1 locs1 hw g1 g2 hS1
theorem z_callSi {S : Type} {post : Int32 → S → Prop} {wcO : S → va_W} (F : CallFix p m c cc nL s args Ts own) (hM : Met l y wsy rm (va_Pc As (zP D tc wc H.size nw)) (va_Qi post (zB D wcO (va_A wc H.size)) (va_A wc H.size)) mc ms (va_A wc H.size)) (cw : CallB R s args own index y bytes maxL ret wsy rm mc ms n ∧ (Cond.static y).before args s = true) (hA : ∀ q, H0.size ≤ q → A q) (hK : va_K D vwCl tc s) (hP : va_P D vwCl ws H) (hD : va_D A ws) (hS : va_S A H0 H locs) (isC isR isZ : List Nat) (hC : isC.map (fun i => ws[i]?) = wc.map some) {wr : va_W} (hR : isR.map (fun i => ws[i]?) = wr.map some) (hn : va_nd isR = true) (hdis : ∀ i ∈ isR, i ∉ isC) (hnC : va_nd isC = true) (hnw : nw.all zNw = true) (hN : ∀ w ∈ nw, va_Nw w s) (hls : ls.size = nL) (hroom : (rest.map fun v => v.category).sum ≤ 8) (hf : cells + mc ≤ R.cells ∧ slots + ms ≤ R.slots) (hlen : As.length = n) {st : List Value} (hst : st = As.reverse ++ rest) (hdg : decode cc pc = .ok (.invokestatic index, 3)) (wsO : S → va_W) (hZ : ∀ u : S, isZ.map (fun i => (wr ++ wcO u)[i]?) = (wsO u).map some) (hz : va_nd isZ = true) (kk : ∀ (r : Int32) (u : S) (H : Heap) (locs : List Loc), post r u → va_P D vwCl (wsO u) H → va_D A (wsO u) → va_S A H0 H locs → W p l e R s m args below meth c H locs (cells + mc) (slots + ms) Q (F0 m (pc + 3) ls (.int r :: rest))) : W p l e R s m args below meth c H locs cells slots Q (F0 m pc ls st) := by
  have hFc := va_free (wc := wc) hD hS hA isC hC
  refine va_calli (va_runS F hM cw ⟨zP_blind hnw, zP_of hnw hN hK (z_subP hP isC hC) (hD.sub isC hnC hC)⟩ rfl hlen hls hst (lv_room hroom) hdg hf) hS (fun q _ h => hFc q h) hFc (fun r u t H1 locs1 ht hvm hw hB hz1 hk1 hS1 => ?_)
  obtain ⟨gP, gD⟩ := hB
  rw [ht] at gP
  obtain ⟨g1, g2⟩ := z_back hP hD isC isR isZ hC hR hn hdis (hZ u) hz hk1 hFc ⟨gP, gD⟩
  exact kk r u H1 locs1 hw g1 g2 hS1
theorem z_callSNi {S : Type} {post : Int32 → S → Prop} {wcO : S → va_W} {host : String} (F : CallFix p m c cc nL s args Ts own) (hM : Met l y wsy rm (va_Pc As (zP D tc wc H.size nw)) (va_Qi post (zB D wcO (va_A wc H.size)) (va_A wc H.size)) mc ms (va_A wc H.size)) (cw : va_CN R s args own index y host bytes maxL ret wsy rm mc ms n ∧ (Cond.static y).before args s = true ∧ True) (hA : ∀ q, H0.size ≤ q → A q) (hK : va_K D vwCl tc s) (hP : va_P D vwCl ws H) (hD : va_D A ws) (hS : va_S A H0 H locs) (isC isR isZ : List Nat) (hC : isC.map (fun i => ws[i]?) = wc.map some) {wr : va_W} (hR : isR.map (fun i => ws[i]?) = wr.map some) (hn : va_nd isR = true) (hdis : ∀ i ∈ isR, i ∉ isC) (hnC : va_nd isC = true) (hnw : nw.all zNw = true) (hN : ∀ w ∈ nw, va_Nw w s) (hls : ls.size = nL) (hroom : (rest.map fun v => v.category).sum ≤ 8) (hf : cells + mc ≤ R.cells ∧ slots + ms ≤ R.slots) (hlen : As.length = n) {st : List Value} (hst : st = As.reverse ++ rest) (hdg : decode cc pc = .ok (.invokestatic index, 3)) (wsO : S → va_W) (hZ : ∀ u : S, isZ.map (fun i => (wr ++ wcO u)[i]?) = (wsO u).map some) (hz : va_nd isZ = true) (kk : ∀ (r : Int32) (u : S) (H : Heap) (locs : List Loc), post r u → va_P D vwCl (wsO u) H → va_D A (wsO u) → va_S A H0 H locs → W p l e R s m args below meth c H locs (cells + mc) (slots + ms) Q (F0 m (pc + 3) ls (.int r :: rest))) : W p l e R s m args below meth c H locs cells slots Q (F0 m pc ls st) := by
  have hFc := va_free (wc := wc) hD hS hA isC hC
  refine va_calli (va_runSN F hM cw ⟨zP_blind hnw, zP_of hnw hN hK (z_subP hP isC hC) (hD.sub isC hnC hC)⟩ rfl hlen hls hst (lv_room hroom) hdg hf) hS (fun q _ h => hFc q h) hFc (fun r u t H1 locs1 ht hvm hw hB hz1 hk1 hS1 => ?_)
  obtain ⟨gP, gD⟩ := hB
  rw [ht] at gP
  obtain ⟨g1, g2⟩ := z_back hP hD isC isR isZ hC hR hn hdis (hZ u) hz hk1 hFc ⟨gP, gD⟩
  exact kk r u H1 locs1 hw g1 g2 hS1
theorem z_callVl {S : Type} {post : Int64 → S → Prop} {wcO : S → va_W} {C : String} (F : CallFix p m c cc nL s args Ts own) (hM : Met l y wsy rm (va_Pc (.ref b :: As) (zP D tc wc H.size nw)) (va_Ql post (zB D wcO (va_A wc H.size)) (va_A wc H.size)) mc ms (va_A wc H.size)) (cw : CallW R s args own C index y bytes maxL ret wsy rm mc ms n) (hA : ∀ q, H0.size ≤ q → A q) (hK : va_K D vwCl tc s) (hP : va_P D vwCl ws H) (hD : va_D A ws) (hS : va_S A H0 H locs) (isC isR isZ : List Nat) (hC : isC.map (fun i => ws[i]?) = wc.map some) {wr : va_W} (hR : isR.map (fun i => ws[i]?) = wr.map some) (hn : va_nd isR = true) (hdis : ∀ i ∈ isR, i ∉ isC) (hnC : va_nd isC = true) (hnw : nw.all zNw = true) (hN : ∀ w ∈ nw, va_Nw w s) {ci : Nat} {q : vw_C} (hc : vwCl[ci]? = some q) (hq : q.1 = C) (qb : Nat) {fs : List Value} (he : ws[qb]? = some (b, .inr (ci, fs))) (hls : ls.size = nL) (hroom : (rest.map fun v => v.category).sum ≤ 8) (hf : cells + mc ≤ R.cells ∧ slots + ms ≤ R.slots) (hlen : As.length = n) {st : List Value} (hst : st = As.reverse ++ .ref b :: rest) (hdg : decode cc pc = .ok (.invokevirtual index, 3)) (wsO : S → va_W) (hZ : ∀ u : S, isZ.map (fun i => (wr ++ wcO u)[i]?) = (wsO u).map some) (hz : va_nd isZ = true) (kk : ∀ (r : Int64) (u : S) (H : Heap) (locs : List Loc), post r u → va_P D vwCl (wsO u) H → va_D A (wsO u) → va_S A H0 H locs → W p l e R s m args below meth c H locs (cells + mc) (slots + ms) Q (F0 m (pc + 3) ls (.long r :: rest))) : W p l e R s m args below meth c H locs cells slots Q (F0 m pc ls st) := by
  have hFc := va_free (wc := wc) hD hS hA isC hC
  refine va_calll (va_runV F hM cw ⟨zP_blind hnw, by rw [← hq]; exact va_recv hK hP hc he, zP_of hnw hN hK (z_subP hP isC hC) (hD.sub isC hnC hC)⟩ rfl hlen hls hst (lv_room hroom) hdg hf) hS (fun q _ h => hFc q h) hFc (fun r u t H1 locs1 ht hvm hw hB hz1 hk1 hS1 => ?_)
  obtain ⟨gP, gD⟩ := hB
  rw [ht] at gP
  obtain ⟨g1, g2⟩ := z_back hP hD isC isR isZ hC hR hn hdis (hZ u) hz hk1 hFc ⟨gP, gD⟩
  exact kk r u H1 locs1 hw g1 g2 hS1
theorem z_callSl {S : Type} {post : Int64 → S → Prop} {wcO : S → va_W} (F : CallFix p m c cc nL s args Ts own) (hM : Met l y wsy rm (va_Pc As (zP D tc wc H.size nw)) (va_Ql post (zB D wcO (va_A wc H.size)) (va_A wc H.size)) mc ms (va_A wc H.size)) (cw : CallB R s args own index y bytes maxL ret wsy rm mc ms n ∧ (Cond.static y).before args s = true) (hA : ∀ q, H0.size ≤ q → A q) (hK : va_K D vwCl tc s) (hP : va_P D vwCl ws H) (hD : va_D A ws) (hS : va_S A H0 H locs) (isC isR isZ : List Nat) (hC : isC.map (fun i => ws[i]?) = wc.map some) {wr : va_W} (hR : isR.map (fun i => ws[i]?) = wr.map some) (hn : va_nd isR = true) (hdis : ∀ i ∈ isR, i ∉ isC) (hnC : va_nd isC = true) (hnw : nw.all zNw = true) (hN : ∀ w ∈ nw, va_Nw w s) (hls : ls.size = nL) (hroom : (rest.map fun v => v.category).sum ≤ 8) (hf : cells + mc ≤ R.cells ∧ slots + ms ≤ R.slots) (hlen : As.length = n) {st : List Value} (hst : st = As.reverse ++ rest) (hdg : decode cc pc = .ok (.invokestatic index, 3)) (wsO : S → va_W) (hZ : ∀ u : S, isZ.map (fun i => (wr ++ wcO u)[i]?) = (wsO u).map some) (hz : va_nd isZ = true) (kk : ∀ (r : Int64) (u : S) (H : Heap) (locs : List Loc), post r u → va_P D vwCl (wsO u) H → va_D A (wsO u) → va_S A H0 H locs → W p l e R s m args below meth c H locs (cells + mc) (slots + ms) Q (F0 m (pc + 3) ls (.long r :: rest))) : W p l e R s m args below meth c H locs cells slots Q (F0 m pc ls st) := by
  have hFc := va_free (wc := wc) hD hS hA isC hC
  refine va_calll (va_runS F hM cw ⟨zP_blind hnw, zP_of hnw hN hK (z_subP hP isC hC) (hD.sub isC hnC hC)⟩ rfl hlen hls hst (lv_room hroom) hdg hf) hS (fun q _ h => hFc q h) hFc (fun r u t H1 locs1 ht hvm hw hB hz1 hk1 hS1 => ?_)
  obtain ⟨gP, gD⟩ := hB
  rw [ht] at gP
  obtain ⟨g1, g2⟩ := z_back hP hD isC isR isZ hC hR hn hdis (hZ u) hz hk1 hFc ⟨gP, gD⟩
  exact kk r u H1 locs1 hw g1 g2 hS1
theorem z_callSNl {S : Type} {post : Int64 → S → Prop} {wcO : S → va_W} {host : String} (F : CallFix p m c cc nL s args Ts own) (hM : Met l y wsy rm (va_Pc As (zP D tc wc H.size nw)) (va_Ql post (zB D wcO (va_A wc H.size)) (va_A wc H.size)) mc ms (va_A wc H.size)) (cw : va_CN R s args own index y host bytes maxL ret wsy rm mc ms n ∧ (Cond.static y).before args s = true ∧ True) (hA : ∀ q, H0.size ≤ q → A q) (hK : va_K D vwCl tc s) (hP : va_P D vwCl ws H) (hD : va_D A ws) (hS : va_S A H0 H locs) (isC isR isZ : List Nat) (hC : isC.map (fun i => ws[i]?) = wc.map some) {wr : va_W} (hR : isR.map (fun i => ws[i]?) = wr.map some) (hn : va_nd isR = true) (hdis : ∀ i ∈ isR, i ∉ isC) (hnC : va_nd isC = true) (hnw : nw.all zNw = true) (hN : ∀ w ∈ nw, va_Nw w s) (hls : ls.size = nL) (hroom : (rest.map fun v => v.category).sum ≤ 8) (hf : cells + mc ≤ R.cells ∧ slots + ms ≤ R.slots) (hlen : As.length = n) {st : List Value} (hst : st = As.reverse ++ rest) (hdg : decode cc pc = .ok (.invokestatic index, 3)) (wsO : S → va_W) (hZ : ∀ u : S, isZ.map (fun i => (wr ++ wcO u)[i]?) = (wsO u).map some) (hz : va_nd isZ = true) (kk : ∀ (r : Int64) (u : S) (H : Heap) (locs : List Loc), post r u → va_P D vwCl (wsO u) H → va_D A (wsO u) → va_S A H0 H locs → W p l e R s m args below meth c H locs (cells + mc) (slots + ms) Q (F0 m (pc + 3) ls (.long r :: rest))) : W p l e R s m args below meth c H locs cells slots Q (F0 m pc ls st) := by
  have hFc := va_free (wc := wc) hD hS hA isC hC
  refine va_calll (va_runSN F hM cw ⟨zP_blind hnw, zP_of hnw hN hK (z_subP hP isC hC) (hD.sub isC hnC hC)⟩ rfl hlen hls hst (lv_room hroom) hdg hf) hS (fun q _ h => hFc q h) hFc (fun r u t H1 locs1 ht hvm hw hB hz1 hk1 hS1 => ?_)
  obtain ⟨gP, gD⟩ := hB
  rw [ht] at gP
  obtain ⟨g1, g2⟩ := z_back hP hD isC isR isZ hC hR hn hdis (hZ u) hz hk1 hFc ⟨gP, gD⟩
  exact kk r u H1 locs1 hw g1 g2 hS1
theorem z_callVv {S : Type} {post : S → Prop} {wcO : S → va_W} {C : String} (F : CallFix p m c cc nL s args Ts own) (hM : Met l y wsy rm (va_Pc (.ref b :: As) (zP D tc wc H.size nw)) (va_Qv post (zB D wcO (va_A wc H.size)) (va_A wc H.size)) mc ms (va_A wc H.size)) (cw : CallW R s args own C index y bytes maxL ret wsy rm mc ms n) (hA : ∀ q, H0.size ≤ q → A q) (hK : va_K D vwCl tc s) (hP : va_P D vwCl ws H) (hD : va_D A ws) (hS : va_S A H0 H locs) (isC isR isZ : List Nat) (hC : isC.map (fun i => ws[i]?) = wc.map some) {wr : va_W} (hR : isR.map (fun i => ws[i]?) = wr.map some) (hn : va_nd isR = true) (hdis : ∀ i ∈ isR, i ∉ isC) (hnC : va_nd isC = true) (hnw : nw.all zNw = true) (hN : ∀ w ∈ nw, va_Nw w s) {ci : Nat} {q : vw_C} (hc : vwCl[ci]? = some q) (hq : q.1 = C) (qb : Nat) {fs : List Value} (he : ws[qb]? = some (b, .inr (ci, fs))) (hls : ls.size = nL) (hroom : (rest.map fun v => v.category).sum ≤ 8) (hf : cells + mc ≤ R.cells ∧ slots + ms ≤ R.slots) (hlen : As.length = n) {st : List Value} (hst : st = As.reverse ++ .ref b :: rest) (hdg : decode cc pc = .ok (.invokevirtual index, 3)) (wsO : S → va_W) (hZ : ∀ u : S, isZ.map (fun i => (wr ++ wcO u)[i]?) = (wsO u).map some) (hz : va_nd isZ = true) (kk : ∀ (u : S) (H : Heap) (locs : List Loc), post u → va_P D vwCl (wsO u) H → va_D A (wsO u) → va_S A H0 H locs → W p l e R s m args below meth c H locs (cells + mc) (slots + ms) Q (F0 m (pc + 3) ls rest)) : W p l e R s m args below meth c H locs cells slots Q (F0 m pc ls st) := by
  have hFc := va_free (wc := wc) hD hS hA isC hC
  refine va_callv (va_runV F hM cw ⟨zP_blind hnw, by rw [← hq]; exact va_recv hK hP hc he, zP_of hnw hN hK (z_subP hP isC hC) (hD.sub isC hnC hC)⟩ rfl hlen hls hst (lv_room hroom) hdg hf) hS (fun q _ h => hFc q h) hFc (fun u t H1 locs1 ht hvm hw hB hz1 hk1 hS1 => ?_)
  obtain ⟨gP, gD⟩ := hB
  rw [ht] at gP
  obtain ⟨g1, g2⟩ := z_back hP hD isC isR isZ hC hR hn hdis (hZ u) hz hk1 hFc ⟨gP, gD⟩
  exact kk u H1 locs1 hw g1 g2 hS1
theorem z_callSv {S : Type} {post : S → Prop} {wcO : S → va_W} (F : CallFix p m c cc nL s args Ts own) (hM : Met l y wsy rm (va_Pc As (zP D tc wc H.size nw)) (va_Qv post (zB D wcO (va_A wc H.size)) (va_A wc H.size)) mc ms (va_A wc H.size)) (cw : CallB R s args own index y bytes maxL ret wsy rm mc ms n ∧ (Cond.static y).before args s = true) (hA : ∀ q, H0.size ≤ q → A q) (hK : va_K D vwCl tc s) (hP : va_P D vwCl ws H) (hD : va_D A ws) (hS : va_S A H0 H locs) (isC isR isZ : List Nat) (hC : isC.map (fun i => ws[i]?) = wc.map some) {wr : va_W} (hR : isR.map (fun i => ws[i]?) = wr.map some) (hn : va_nd isR = true) (hdis : ∀ i ∈ isR, i ∉ isC) (hnC : va_nd isC = true) (hnw : nw.all zNw = true) (hN : ∀ w ∈ nw, va_Nw w s) (hls : ls.size = nL) (hroom : (rest.map fun v => v.category).sum ≤ 8) (hf : cells + mc ≤ R.cells ∧ slots + ms ≤ R.slots) (hlen : As.length = n) {st : List Value} (hst : st = As.reverse ++ rest) (hdg : decode cc pc = .ok (.invokestatic index, 3)) (wsO : S → va_W) (hZ : ∀ u : S, isZ.map (fun i => (wr ++ wcO u)[i]?) = (wsO u).map some) (hz : va_nd isZ = true) (kk : ∀ (u : S) (H : Heap) (locs : List Loc), post u → va_P D vwCl (wsO u) H → va_D A (wsO u) → va_S A H0 H locs → W p l e R s m args below meth c H locs (cells + mc) (slots + ms) Q (F0 m (pc + 3) ls rest)) : W p l e R s m args below meth c H locs cells slots Q (F0 m pc ls st) := by
  have hFc := va_free (wc := wc) hD hS hA isC hC
  refine va_callv (va_runS F hM cw ⟨zP_blind hnw, zP_of hnw hN hK (z_subP hP isC hC) (hD.sub isC hnC hC)⟩ rfl hlen hls hst (lv_room hroom) hdg hf) hS (fun q _ h => hFc q h) hFc (fun u t H1 locs1 ht hvm hw hB hz1 hk1 hS1 => ?_)
  obtain ⟨gP, gD⟩ := hB
  rw [ht] at gP
  obtain ⟨g1, g2⟩ := z_back hP hD isC isR isZ hC hR hn hdis (hZ u) hz hk1 hFc ⟨gP, gD⟩
  exact kk u H1 locs1 hw g1 g2 hS1
theorem z_callSNv {S : Type} {post : S → Prop} {wcO : S → va_W} {host : String} (F : CallFix p m c cc nL s args Ts own) (hM : Met l y wsy rm (va_Pc As (zP D tc wc H.size nw)) (va_Qv post (zB D wcO (va_A wc H.size)) (va_A wc H.size)) mc ms (va_A wc H.size)) (cw : va_CN R s args own index y host bytes maxL ret wsy rm mc ms n ∧ (Cond.static y).before args s = true ∧ True) (hA : ∀ q, H0.size ≤ q → A q) (hK : va_K D vwCl tc s) (hP : va_P D vwCl ws H) (hD : va_D A ws) (hS : va_S A H0 H locs) (isC isR isZ : List Nat) (hC : isC.map (fun i => ws[i]?) = wc.map some) {wr : va_W} (hR : isR.map (fun i => ws[i]?) = wr.map some) (hn : va_nd isR = true) (hdis : ∀ i ∈ isR, i ∉ isC) (hnC : va_nd isC = true) (hnw : nw.all zNw = true) (hN : ∀ w ∈ nw, va_Nw w s) (hls : ls.size = nL) (hroom : (rest.map fun v => v.category).sum ≤ 8) (hf : cells + mc ≤ R.cells ∧ slots + ms ≤ R.slots) (hlen : As.length = n) {st : List Value} (hst : st = As.reverse ++ rest) (hdg : decode cc pc = .ok (.invokestatic index, 3)) (wsO : S → va_W) (hZ : ∀ u : S, isZ.map (fun i => (wr ++ wcO u)[i]?) = (wsO u).map some) (hz : va_nd isZ = true) (kk : ∀ (u : S) (H : Heap) (locs : List Loc), post u → va_P D vwCl (wsO u) H → va_D A (wsO u) → va_S A H0 H locs → W p l e R s m args below meth c H locs (cells + mc) (slots + ms) Q (F0 m (pc + 3) ls rest)) : W p l e R s m args below meth c H locs cells slots Q (F0 m pc ls st) := by
  have hFc := va_free (wc := wc) hD hS hA isC hC
  refine va_callv (va_runSN F hM cw ⟨zP_blind hnw, zP_of hnw hN hK (z_subP hP isC hC) (hD.sub isC hnC hC)⟩ rfl hlen hls hst (lv_room hroom) hdg hf) hS (fun q _ h => hFc q h) hFc (fun u t H1 locs1 ht hvm hw hB hz1 hk1 hS1 => ?_)
  obtain ⟨gP, gD⟩ := hB
  rw [ht] at gP
  obtain ⟨g1, g2⟩ := z_back hP hD isC isR isZ hC hR hn hdis (hZ u) hz hk1 hFc ⟨gP, gD⟩
  exact kk u H1 locs1 hw g1 g2 hS1
theorem z_callIv {S : Type} {post : S → Prop} {wcO : S → va_W} (F : CallFix p m c cc nL s args Ts own) (hM : Met l y wsy rm (va_Pc (.ref b :: As) (zP D tc wc H.size nw)) (va_Qv post (zB D wcO (va_A wc H.size)) (va_A wc H.size)) mc ms (va_A wc H.size)) (cw : CallB R s args own index y bytes maxL none wsy rm mc ms n ∧ y.name = "<init>" ∧ (Cond.instanceMethod y).before args s = true) (hA : ∀ q, H0.size ≤ q → A q) (hK : va_K D vwCl tc s) (hP : va_P D vwCl ws H) (hD : va_D A ws) (hS : va_S A H0 H locs) (isC isR isZ : List Nat) (hC : isC.map (fun i => ws[i]?) = wc.map some) {wr : va_W} (hR : isR.map (fun i => ws[i]?) = wr.map some) (hn : va_nd isR = true) (hdis : ∀ i ∈ isR, i ∉ isC) (hnC : va_nd isC = true) (hnw : nw.all zNw = true) (hN : ∀ w ∈ nw, va_Nw w s) (hls : ls.size = nL) (hroom : (rest.map fun v => v.category).sum ≤ 8) (hf : cells + mc ≤ R.cells ∧ slots + ms ≤ R.slots) (hlen : As.length = n) {st : List Value} (hst : st = As.reverse ++ .ref b :: rest) (hdg : decode cc pc = .ok (.invokespecial index, 3)) (wsO : S → va_W) (hZ : ∀ u : S, isZ.map (fun i => (wr ++ wcO u)[i]?) = (wsO u).map some) (hz : va_nd isZ = true) (kk : ∀ (u : S) (H : Heap) (locs : List Loc), post u → va_P D vwCl (wsO u) H → va_D A (wsO u) → va_S A H0 H locs → W p l e R s m args below meth c H locs (cells + mc) (slots + ms) Q (F0 m (pc + 3) ls rest)) : W p l e R s m args below meth c H locs cells slots Q (F0 m pc ls st) := by
  have hFc := va_free (wc := wc) hD hS hA isC hC
  refine va_callv (va_runI F hM cw ⟨zP_blind hnw, zP_of hnw hN hK (z_subP hP isC hC) (hD.sub isC hnC hC)⟩ rfl hlen hls hst (lv_room hroom) hdg hf) hS (fun q _ h => hFc q h) hFc (fun u t H1 locs1 ht hvm hw hB hz1 hk1 hS1 => ?_)
  obtain ⟨gP, gD⟩ := hB
  rw [ht] at gP
  obtain ⟨g1, g2⟩ := z_back hP hD isC isR isZ hC hR hn hdis (hZ u) hz hk1 hFc ⟨gP, gD⟩
  exact kk u H1 locs1 hw g1 g2 hS1
theorem z_callINv {S : Type} {post : S → Prop} {wcO : S → va_W} {host : String} (F : CallFix p m c cc nL s args Ts own) (hM : Met l y wsy rm (va_Pc (.ref b :: As) (zP D tc wc H.size nw)) (va_Qv post (zB D wcO (va_A wc H.size)) (va_A wc H.size)) mc ms (va_A wc H.size)) (cw : va_CN R s args own index y host bytes maxL none wsy rm mc ms n ∧ y.name = "<init>" ∧ (Cond.instanceMethod y).before args s = true) (hA : ∀ q, H0.size ≤ q → A q) (hK : va_K D vwCl tc s) (hP : va_P D vwCl ws H) (hD : va_D A ws) (hS : va_S A H0 H locs) (isC isR isZ : List Nat) (hC : isC.map (fun i => ws[i]?) = wc.map some) {wr : va_W} (hR : isR.map (fun i => ws[i]?) = wr.map some) (hn : va_nd isR = true) (hdis : ∀ i ∈ isR, i ∉ isC) (hnC : va_nd isC = true) (hnw : nw.all zNw = true) (hN : ∀ w ∈ nw, va_Nw w s) (hls : ls.size = nL) (hroom : (rest.map fun v => v.category).sum ≤ 8) (hf : cells + mc ≤ R.cells ∧ slots + ms ≤ R.slots) (hlen : As.length = n) {st : List Value} (hst : st = As.reverse ++ .ref b :: rest) (hdg : decode cc pc = .ok (.invokespecial index, 3)) (wsO : S → va_W) (hZ : ∀ u : S, isZ.map (fun i => (wr ++ wcO u)[i]?) = (wsO u).map some) (hz : va_nd isZ = true) (kk : ∀ (u : S) (H : Heap) (locs : List Loc), post u → va_P D vwCl (wsO u) H → va_D A (wsO u) → va_S A H0 H locs → W p l e R s m args below meth c H locs (cells + mc) (slots + ms) Q (F0 m (pc + 3) ls rest)) : W p l e R s m args below meth c H locs cells slots Q (F0 m pc ls st) := by
  have hFc := va_free (wc := wc) hD hS hA isC hC
  refine va_callv (va_runIN F hM cw ⟨zP_blind hnw, zP_of hnw hN hK (z_subP hP isC hC) (hD.sub isC hnC hC)⟩ rfl hlen hls hst (lv_room hroom) hdg hf) hS (fun q _ h => hFc q h) hFc (fun u t H1 locs1 ht hvm hw hB hz1 hk1 hS1 => ?_)
  obtain ⟨gP, gD⟩ := hB
  rw [ht] at gP
  obtain ⟨g1, g2⟩ := z_back hP hD isC isR isZ hC hR hn hdis (hZ u) hz hk1 hFc ⟨gP, gD⟩
  exact kk u H1 locs1 hw g1 g2 hS1
theorem z_met_i {l : Launch} {S : Type} {post : Int32 → S → Prop} {wsO : S → va_W} {y : MethodName} {ws ws' nw : List Cond} {rm : Room} {av : List Value} {D : va_G} {tys : List (ClassId × FieldType)} {wsI : va_W} {sz mc ms : Nat} (cc : ByteArray) (maxL : Nat) (hy : plainName y.cls = true) (hw : ws = Cond.code y cc maxL (some .int) :: ws') (hlen : (lg_sl av).length ≤ maxL)
    (body : ∀ (p : Program) (e : Env) (s : State) (m : MethodId) (args : Array Value) (below : List Frame) (meth : Method) (c : Code) (Q : State → Prop) (A : Nat → Prop) (ls : Array Slot), p.tables.exec = Jvm.exec → c.code = cc → c.maxLocals = maxL → s.vm.findClass y.cls = some m.cls → (∀ w ∈ ws, w.before args s = true) → meth.name = y.name → (∀ q : Nat, s.heap.size ≤ q → A q) → va_K D vwCl tys s → va_P D vwCl wsI s.heap → va_D A wsI → (∀ w ∈ nw, va_Nw w s) → lv_has ls maxL (lv_args 0 av) →
      (∀ (pc : Nat) (ls : Array Slot) (H : Heap) (locs : List Loc) (r : Int32) (u : S), decode cc pc = .ok (.ireturn, 1) → post r u → va_P D vwCl (wsO u) H → va_D A (wsO u) → va_S A s.heap H locs → W p l e rm s m args below meth c H locs mc ms Q (F0 m pc ls [.int r])) → W p l e rm s m args below meth c s.heap [] 0 0 Q (F0 m 0 ls [])) :
    Met l y ws rm (va_Pc av (zP D tys wsI sz nw)) (va_Qi post (zB D wsO (va_A wsI sz)) (va_A wsI sz)) mc ms (va_A wsI sz) := by
  refine Met.ofW (cc := cc) (maxL := maxL) (ret := (some .int)) hy hw ?_
  intro p e s m args below meth c s₁ B hml hv
  obtain ⟨rfl, hsz, hP, hK, hD0, hN⟩ := hv
  have hx := B.exec
  have hb := B.bytes
  have hr := B.returns
  have hts := atoms_spec (ws := ws) B.pre
  have hown : s.vm.findClass y.cls = some m.cls := findClass_of_methodNamed B.named
  have hlocks := B.notSynchronized
  have hin : meth.name = y.name := (name_of_methodNamed B.named B.method).1
  subst hsz
  have hD := hD0.self (sz := s.heap.size)
  have hl := lv_entry av (n := maxL) hlen
  rw [lg_entry_eq]
  exact body p e s m av.toArray below meth c _ _ _ hx hb hml hown hts hin (fun q h => Or.inr h) hK hP hD hN hl (fun pc ls H locs r u hdg hp hP hD hS => W.iret (v := r) hx hb hr (fun t ht hW => ⟨⟨r, u, rfl, hp, by rw [ht]; exact hP, hD⟩, hS.F ht⟩) hS.2.2 hdg)
theorem z_met_z {l : Launch} {S : Type} {post : Int32 → S → Prop} {wsO : S → va_W} {y : MethodName} {ws ws' nw : List Cond} {rm : Room} {av : List Value} {D : va_G} {tys : List (ClassId × FieldType)} {wsI : va_W} {sz mc ms : Nat} (cc : ByteArray) (maxL : Nat) (hy : plainName y.cls = true) (hw : ws = Cond.code y cc maxL (some .boolean) :: ws') (hlen : (lg_sl av).length ≤ maxL)
    (body : ∀ (p : Program) (e : Env) (s : State) (m : MethodId) (args : Array Value) (below : List Frame) (meth : Method) (c : Code) (Q : State → Prop) (A : Nat → Prop) (ls : Array Slot), p.tables.exec = Jvm.exec → c.code = cc → c.maxLocals = maxL → s.vm.findClass y.cls = some m.cls → (∀ w ∈ ws, w.before args s = true) → meth.name = y.name → (∀ q : Nat, s.heap.size ≤ q → A q) → va_K D vwCl tys s → va_P D vwCl wsI s.heap → va_D A wsI → (∀ w ∈ nw, va_Nw w s) → lv_has ls maxL (lv_args 0 av) →
      (∀ (pc : Nat) (ls : Array Slot) (H : Heap) (locs : List Loc) (r : Int32) (u : S), decode cc pc = .ok (.ireturn, 1) → narrow .boolean (.int r) = .int r → post r u → va_P D vwCl (wsO u) H → va_D A (wsO u) → va_S A s.heap H locs → W p l e rm s m args below meth c H locs mc ms Q (F0 m pc ls [.int r])) → W p l e rm s m args below meth c s.heap [] 0 0 Q (F0 m 0 ls [])) :
    Met l y ws rm (va_Pc av (zP D tys wsI sz nw)) (va_Qi post (zB D wsO (va_A wsI sz)) (va_A wsI sz)) mc ms (va_A wsI sz) := by
  refine Met.ofW (cc := cc) (maxL := maxL) (ret := (some .boolean)) hy hw ?_
  intro p e s m args below meth c s₁ B hml hv
  obtain ⟨rfl, hsz, hP, hK, hD0, hN⟩ := hv
  have hx := B.exec
  have hb := B.bytes
  have hr := B.returns
  have hts := atoms_spec (ws := ws) B.pre
  have hown : s.vm.findClass y.cls = some m.cls := findClass_of_methodNamed B.named
  have hlocks := B.notSynchronized
  have hin : meth.name = y.name := (name_of_methodNamed B.named B.method).1
  subst hsz
  have hD := hD0.self (sz := s.heap.size)
  have hl := lv_entry av (n := maxL) hlen
  rw [lg_entry_eq]
  exact body p e s m av.toArray below meth c _ _ _ hx hb hml hown hts hin (fun q h => Or.inr h) hK hP hD hN hl (fun pc ls H locs r u hdg hn hp hP hD hS => W.zret (v := r) hx hb hr hn (fun t ht hW => ⟨⟨r, u, rfl, hp, by rw [ht]; exact hP, hD⟩, hS.F ht⟩) hS.2.2 hdg)
theorem z_met_l {l : Launch} {S : Type} {post : Int64 → S → Prop} {wsO : S → va_W} {y : MethodName} {ws ws' nw : List Cond} {rm : Room} {av : List Value} {D : va_G} {tys : List (ClassId × FieldType)} {wsI : va_W} {sz mc ms : Nat} (cc : ByteArray) (maxL : Nat) (hy : plainName y.cls = true) (hw : ws = Cond.code y cc maxL (some .long) :: ws') (hlen : (lg_sl av).length ≤ maxL)
    (body : ∀ (p : Program) (e : Env) (s : State) (m : MethodId) (args : Array Value) (below : List Frame) (meth : Method) (c : Code) (Q : State → Prop) (A : Nat → Prop) (ls : Array Slot), p.tables.exec = Jvm.exec → c.code = cc → c.maxLocals = maxL → s.vm.findClass y.cls = some m.cls → (∀ w ∈ ws, w.before args s = true) → meth.name = y.name → (∀ q : Nat, s.heap.size ≤ q → A q) → va_K D vwCl tys s → va_P D vwCl wsI s.heap → va_D A wsI → (∀ w ∈ nw, va_Nw w s) → lv_has ls maxL (lv_args 0 av) →
      (∀ (pc : Nat) (ls : Array Slot) (H : Heap) (locs : List Loc) (r : Int64) (u : S), decode cc pc = .ok (.lreturn, 1) → post r u → va_P D vwCl (wsO u) H → va_D A (wsO u) → va_S A s.heap H locs → W p l e rm s m args below meth c H locs mc ms Q (F0 m pc ls [.long r])) → W p l e rm s m args below meth c s.heap [] 0 0 Q (F0 m 0 ls [])) :
    Met l y ws rm (va_Pc av (zP D tys wsI sz nw)) (va_Ql post (zB D wsO (va_A wsI sz)) (va_A wsI sz)) mc ms (va_A wsI sz) := by
  refine Met.ofW (cc := cc) (maxL := maxL) (ret := (some .long)) hy hw ?_
  intro p e s m args below meth c s₁ B hml hv
  obtain ⟨rfl, hsz, hP, hK, hD0, hN⟩ := hv
  have hx := B.exec
  have hb := B.bytes
  have hr := B.returns
  have hts := atoms_spec (ws := ws) B.pre
  have hown : s.vm.findClass y.cls = some m.cls := findClass_of_methodNamed B.named
  have hlocks := B.notSynchronized
  have hin : meth.name = y.name := (name_of_methodNamed B.named B.method).1
  subst hsz
  have hD := hD0.self (sz := s.heap.size)
  have hl := lv_entry av (n := maxL) hlen
  rw [lg_entry_eq]
  exact body p e s m av.toArray below meth c _ _ _ hx hb hml hown hts hin (fun q h => Or.inr h) hK hP hD hN hl (fun pc ls H locs r u hdg hp hP hD hS => W.lret (v := r) hx hb hr (fun t ht hW => ⟨⟨r, u, rfl, hp, by rw [ht]; exact hP, hD⟩, hS.F ht⟩) hS.2.2 hdg)
theorem z_met_v {l : Launch} {S : Type} {post : S → Prop} {wsO : S → va_W} {y : MethodName} {ws ws' nw : List Cond} {rm : Room} {av : List Value} {D : va_G} {tys : List (ClassId × FieldType)} {wsI : va_W} {sz mc ms : Nat} (cc : ByteArray) (maxL : Nat) (hy : plainName y.cls = true) (hw : ws = Cond.code y cc maxL none :: ws') (hlen : (lg_sl av).length ≤ maxL)
    (body : ∀ (p : Program) (e : Env) (s : State) (m : MethodId) (args : Array Value) (below : List Frame) (meth : Method) (c : Code) (Q : State → Prop) (A : Nat → Prop) (ls : Array Slot), p.tables.exec = Jvm.exec → c.code = cc → c.maxLocals = maxL → s.vm.findClass y.cls = some m.cls → (∀ w ∈ ws, w.before args s = true) → meth.name = y.name → (∀ q : Nat, s.heap.size ≤ q → A q) → va_K D vwCl tys s → va_P D vwCl wsI s.heap → va_D A wsI → (∀ w ∈ nw, va_Nw w s) → lv_has ls maxL (lv_args 0 av) →
      (∀ (pc : Nat) (ls : Array Slot) (H : Heap) (locs : List Loc) (u : S), decode cc pc = .ok (.return_, 1) → post u → va_P D vwCl (wsO u) H → va_D A (wsO u) → va_S A s.heap H locs → W p l e rm s m args below meth c H locs mc ms Q (F0 m pc ls [])) → W p l e rm s m args below meth c s.heap [] 0 0 Q (F0 m 0 ls [])) :
    Met l y ws rm (va_Pc av (zP D tys wsI sz nw)) (va_Qv post (zB D wsO (va_A wsI sz)) (va_A wsI sz)) mc ms (va_A wsI sz) := by
  refine Met.ofW (cc := cc) (maxL := maxL) (ret := none) hy hw ?_
  intro p e s m args below meth c s₁ B hml hv
  obtain ⟨rfl, hsz, hP, hK, hD0, hN⟩ := hv
  have hx := B.exec
  have hb := B.bytes
  have hr := B.returns
  have hts := atoms_spec (ws := ws) B.pre
  have hown : s.vm.findClass y.cls = some m.cls := findClass_of_methodNamed B.named
  have hlocks := B.notSynchronized
  have hin : meth.name = y.name := (name_of_methodNamed B.named B.method).1
  subst hsz
  have hD := hD0.self (sz := s.heap.size)
  have hl := lv_entry av (n := maxL) hlen
  rw [lg_entry_eq]
  exact body p e s m av.toArray below meth c _ _ _ hx hb hml hown hts hin (fun q h => Or.inr h) hK hP hD hN hl (fun pc ls H locs u hdg hp hP hD hS => W.vret hx hb hr (fun t ht hW => ⟨⟨u, rfl, hp, by rw [ht]; exact hP, hD⟩, hS.F ht⟩) hS.2.2 hdg)
end ZK
abbrev zR (f c s l : Nat) : Room := { frames := f, cells := c, slots := s, locals := l }
def nwA : List Cond := [.methodLinkNest RX5 9 yX0_init "PullCards", .methodLinkNest RX5 34 yX2_init "PullCards", .methodLinkNest RX5 41 yX3_init "PullCards", .methodLinkNest RX0 28 yX5_within "PullCards", .methodLinkNest RX1 32 yX5_within "PullCards"]
theorem nwA_ok : nwA.all zNw = true := by rfl
