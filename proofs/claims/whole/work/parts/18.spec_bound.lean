theorem sp_636 {K N : Nat} (hK : K ≤ 16) (hN : N ≤ 8) (F G : Nat → Nat) : (sp_all N K F G).length ≤ 636 := by
  sorry
