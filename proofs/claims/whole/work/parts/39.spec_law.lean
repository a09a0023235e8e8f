/-! for the law -/
theorem sp_lv_none {K : Nat} {F G : Nat → Nat} {st : Nat} (h : ∀ a, a < K → F a < st) : sp_lv K F G st 8 [] = [] := by
  unfold sp_lv
  refine List.flatMap_eq_nil_iff.mpr (fun a ha => ?_)
  have h1 := h a (List.mem_range.mp ha)
  have h2 : ¬ F a = sp_at G st [] := by show ¬ F a = st; omega
  exact if_pos h2
theorem sp_all_st {N K : Nat} {F G : Nat → Nat} (h : ∀ a, a < K → F a < N ∧ G a < N) : sp_all (N + 1) K F G = sp_all N K F G := by
  rw [sp_all_s, sp_lv_none (fun a ha => (h a ha).1), List.append_nil]
theorem sp_cdL_cpy {C NC : Nat → Nat} {N K : Nat} {F G : Nat → Nat} (hK : K ≤ 16) {q : Nat} (hq : q < (sp_all N K F G).length) : sp_cdL (sp_cpy 16 C NC) (sp_all N K F G) q = sp_cdL C (sp_all N K F G) q := by
  unfold sp_cdL
  refine fb_sm_cong (fun i hi => ?_)
  have h1 := (sp_all_mem (sp_getD_mem hq)).2.2 _ (List.getElem_mem hi)
  have h2 : ((sp_all N K F G).getD q []).getD i 0 = ((sp_all N K F G).getD q [])[i] := by
    rw [List.getD_eq_getElem?_getD, List.getElem?_eq_getElem hi]; rfl
  show sp_cpy 16 C NC (((sp_all N K F G).getD q []).getD i 0) = C (((sp_all N K F G).getD q []).getD i 0)
  rw [h2]
  exact if_pos (by omega)
theorem sp_cpy_le {C NC : Nat → Nat} (h1 : ∀ a, C a ≤ 9) (h2 : ∀ a, NC a ≤ 9) : ∀ a, sp_cpy 16 C NC a ≤ 9 := fun a => by
  show (if a < 16 then C a else NC a) ≤ 9
  split
  · exact h1 a
  · exact h2 a
def xz (xs : Nat → Int32) (k : Nat) : Int := (xs k).toInt
theorem xz_b (xs : Nat → Int32) (k : Nat) : -2147483648 ≤ xz xs k ∧ xz xs k < 2147483648 := ⟨(xs k).le_toInt, (xs k).toInt_lt⟩
section ZK4
variable {p : Program} {l : Launch} {e : Env} {R : Room} {s : State} {m : MethodId} {args : Array Value} {below : List Frame} {meth : Method} {c : Code} {H H0 : Heap} {locs : List Loc} {cells slots : Nat} {Q : State → Prop} {cc : ByteArray} {pc : Nat} {ls : Array Slot} {rest : List Value} {A : Nat → Prop}
theorem z_sld (hexec : p.tables.exec = Jvm.exec) (hb : c.code = cc) {b L : Nat} {xs : Nat → Int32} (hX : va_X b L xs s H0) (hbl : b < H0.size) (hbA : ¬ A b) (hS : va_S A H0 H locs) {i : Nat} (hi : i < L) (hL : L ≤ 2048) (hdg : decode cc pc = .ok (.iaload, 1))
    (kk : W p l e R s m args below meth c H locs cells slots Q (F0 m (pc + 1) ls (.int (iI (xz xs i)) :: rest))) : W p l e R s m args below meth c H locs cells slots Q (F0 m pc ls (.int (nI i) :: .ref b :: rest)) := by
  refine va_sld hexec hb hX hbl hbA hS (vp_in_nI hi (by omega)) hdg ?_
  rw [nI_clamp (by omega)]
  have e2 : xs i = iI (xz xs i) := (iI_as _).symm
  rw [e2]
  exact kk
end ZK4
theorem sp_rowok_0 : sp_rowok zF zF 0 0 0 := ⟨rfl, fun q h => absurd h (Nat.not_lt_zero _), rfl, rfl⟩
