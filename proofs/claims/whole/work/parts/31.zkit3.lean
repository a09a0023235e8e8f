/-! fresh arrays -/
def zF : Nat → Nat := fun _ => 0
def zZ : Nat → Int := fun _ => 0
section ZK3
variable {p : Program} {l : Launch} {e : Env} {R : Room} {s : State} {m : MethodId} {args : Array Value} {below : List Frame} {meth : Method} {c : Code} {H H0 : Heap} {locs : List Loc} {cells slots : Nat} {Q : State → Prop} {cc : ByteArray} {pc : Nat} {ls : Array Slot} {rest : List Value} {D : va_G} {cl : List vw_C} {ws : va_W} {tys : List (ClassId × FieldType)} {A : Nat → Prop}
theorem z_newaI (hexec : p.tables.exec = Jvm.exec) (hb : c.code = cc) (harr : (Cond.arrayClass .int).before args s = true) (hK : va_K D cl tys s) (hP : va_P D cl ws H) (hD : va_D A ws) (hS : va_S A H0 H locs) (hA : ∀ q, H0.size ≤ q → A q) (t0 : Nat) {cA : ClassId} (ht : tys[t0]? = some (cA, .int)) (N' : Nat) (hn : N' < 134217729) (hcells : cells + 1 ≤ R.cells) (hslots : slots + N' ≤ R.slots) (hdg : decode cc pc = .ok (.newarray .int, 2))
    (kk : ∀ (q : Nat) (H1 : Heap), va_P D cl (ws ++ [(q, .inl (cA, N', .inl (fun z_ => nI (zF z_))))]) H1 → va_D A (ws ++ [(q, .inl (cA, N', .inl (fun z_ => nI (zF z_))))]) → va_S A H0 H1 locs → W p l e R s m args below meth c H1 locs (cells + 1) (slots + N') Q (F0 m (pc + 2) ls (.ref q :: rest))) : W p l e R s m args below meth c H locs cells slots Q (F0 m pc ls (.int (nI N') :: rest)) := by
  refine va_newa (atype := .int) (ty := .int) hexec hb harr rfl hK hP hD hS hA (N' := N') (a0 := (N', .inl (fun z_ => nI (zF z_)))) (fun cA => ?_) (nI_pos (by omega)) (nI_clamp (by omega)) (by show N' * 4 ≤ _; omega) hcells hslots hdg (fun q cB H1 hK2 hP2 hD2 hS2 => ?_)
  · show arrV cA N' (fun _ => Value.int (nI 0)) = _
    rw [← nI_00]; rfl
  · have h1 : s.vm.findClass ("[" ++ FieldType.int.toString) = some cB := (hK2.2 tys.length (cB, .int) (by simp)).2
    have h2 : s.vm.findClass ("[" ++ FieldType.int.toString) = some cA := (hK.2 t0 (cA, .int) ht).2
    have e : cB = cA := Option.some.inj (h1.symm.trans h2)
    subst e
    exact kk q H1 hP2 hD2 hS2
theorem z_newaZ (hexec : p.tables.exec = Jvm.exec) (hb : c.code = cc) (harr : (Cond.arrayClass .int).before args s = true) (hK : va_K D cl tys s) (hP : va_P D cl ws H) (hD : va_D A ws) (hS : va_S A H0 H locs) (hA : ∀ q, H0.size ≤ q → A q) (t0 : Nat) {cA : ClassId} (ht : tys[t0]? = some (cA, .int)) (N' : Nat) (hn : N' < 134217729) (hcells : cells + 1 ≤ R.cells) (hslots : slots + N' ≤ R.slots) (hdg : decode cc pc = .ok (.newarray .int, 2))
    (kk : ∀ (q : Nat) (H1 : Heap), va_P D cl (ws ++ [(q, .inl (cA, N', .inl (fun z_ => iI (zZ z_))))]) H1 → va_D A (ws ++ [(q, .inl (cA, N', .inl (fun z_ => iI (zZ z_))))]) → va_S A H0 H1 locs → W p l e R s m args below meth c H1 locs (cells + 1) (slots + N') Q (F0 m (pc + 2) ls (.ref q :: rest))) : W p l e R s m args below meth c H locs cells slots Q (F0 m pc ls (.int (nI N') :: rest)) := by
  refine z_newaI hexec hb harr hK hP hD hS hA t0 ht N' hn hcells hslots hdg (fun q H1 hP2 hD2 hS2 => ?_)
  have e : (fun z_ => nI (zF z_)) = (fun z_ => iI (zZ z_)) := by
    funext z
    show nI 0 = iI 0
    decide
  rw [e] at hP2 hD2
  exact kk q H1 hP2 hD2 hS2
theorem z_newaL (hexec : p.tables.exec = Jvm.exec) (hb : c.code = cc) (harr : (Cond.arrayClass .long).before args s = true) (hK : va_K D cl tys s) (hP : va_P D cl ws H) (hD : va_D A ws) (hS : va_S A H0 H locs) (hA : ∀ q, H0.size ≤ q → A q) (t0 : Nat) {cA : ClassId} (ht : tys[t0]? = some (cA, .long)) (N' : Nat) (hn : N' < 67108864) (hcells : cells + 1 ≤ R.cells) (hslots : slots + N' ≤ R.slots) (hdg : decode cc pc = .ok (.newarray .long, 2))
    (kk : ∀ (q : Nat) (H1 : Heap), va_P D cl (ws ++ [(q, .inl (cA, N', .inr (.inl (fun z_ => lN (zF z_)))))]) H1 → va_D A (ws ++ [(q, .inl (cA, N', .inr (.inl (fun z_ => lN (zF z_)))))]) → va_S A H0 H1 locs → W p l e R s m args below meth c H1 locs (cells + 1) (slots + N') Q (F0 m (pc + 2) ls (.ref q :: rest))) : W p l e R s m args below meth c H locs cells slots Q (F0 m pc ls (.int (nI N') :: rest)) := by
  refine va_newa (atype := .long) (ty := .long) hexec hb harr rfl hK hP hD hS hA (N' := N') (a0 := (N', .inr (.inl (fun z_ => lN (zF z_))))) (fun cA => ?_) (nI_pos (by omega)) (nI_clamp (by omega)) (by show N' * 8 ≤ _; omega) hcells hslots hdg (fun q cB H1 hK2 hP2 hD2 hS2 => ?_)
  · show arrV cA N' (fun _ => Value.long (lN 0)) = _
    rw [show lN 0 = 0 from by decide]; rfl
  · have h1 : s.vm.findClass ("[" ++ FieldType.long.toString) = some cB := (hK2.2 tys.length (cB, .long) (by simp)).2
    have h2 : s.vm.findClass ("[" ++ FieldType.long.toString) = some cA := (hK.2 t0 (cA, .long) ht).2
    have e : cB = cA := Option.some.inj (h1.symm.trans h2)
    subst e
    exact kk q H1 hP2 hD2 hS2
end ZK3
