theorem und_mod : ∀ b, b < 9 → (nI b + 8) - (nI b + 8) / (9 : Int32) * (9 : Int32) = nI ((b + 8) % 9) := by decide +kernel
theorem max_0 {I : kgM} {n : Nat} (h : n ≤ 8) : f_J9_max_7cf53 (0 : Int32) (nI n) I = some (nI n, I) := by
  unfold f_J9_max_7cf53
  by_cases e : n = 0
  · subst e; rw [if_neg (by decide)]; rfl
  · rw [if_pos (show (0 : Int32) < nI n from nI_lt (a := 0) (by omega) (by omega))]
