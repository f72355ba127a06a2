/-! COPIES -/
theorem kgCp_n {I : kgM} {x y n a : Nat} (h : a ≠ y) : kgCp I x y n a = I a := if_neg h
theorem kgCp_e {I : kgM} {x y n b : Nat} (h : b < n) : kgCp I x y n y b = I x b := by
  show (if y = y then va_cpy (I x) (I y) 0 0 n else I y) b = _
  rw [if_pos rfl]
  unfold va_cpy
  first | simp [h] | (rw [if_pos ⟨Nat.zero_le _, by omega⟩]; simp)
def lenS (i : Nat) : Nat := [13, 4, 4, 4, 6, 10, 10, 10, 10, 10, 10, 10, 10, 10].getD i 0
def cpT (I : kgM) (k1 k2 : Nat) : Nat → kgM
  | 0 => I
  | i + 1 => kgCp (cpT I k1 k2 i) (k2 + 1 + i) (k1 + 1 + i) (lenS i)
theorem cpT_at {I : kgM} {k1 k2 : Nat} (hk : k1 + 15 ≤ k2 ∨ k2 + 15 ≤ k1) (i : Nat) (hi : i ≤ 14) (a b : Nat) : cpT I k1 k2 i a b = if k1 + 1 ≤ a ∧ a < k1 + 1 + i ∧ b < lenS (a - (k1 + 1)) then I (k2 + (a - k1)) b else I a b := by
  induction i generalizing a b with
  | zero => rw [if_neg (by omega)]; rfl
  | succ i ih =>
    show kgCp (cpT I k1 k2 i) (k2 + 1 + i) (k1 + 1 + i) (lenS i) a b = _
    by_cases q : a = k1 + 1 + i
    · subst q
      rw [show k1 + 1 + i - (k1 + 1) = i by omega, show k2 + (k1 + 1 + i - k1) = k2 + 1 + i by omega]
      by_cases q2 : b < lenS i
      · rw [kgCp_e q2, if_pos ⟨by omega, by omega, q2⟩, ih (by omega), if_neg (by omega)]
      · rw [if_neg (fun z => q2 z.2.2)]
        show (if k1 + 1 + i = k1 + 1 + i then va_cpy _ _ 0 0 (lenS i) else _) b = _
        rw [if_pos rfl]
        unfold va_cpy
        rw [if_neg (by omega), ih (by omega), if_neg (by omega)]
    · rw [kgCp_n q, ih (by omega)]
      by_cases q2 : k1 + 1 ≤ a ∧ a < k1 + 1 + i ∧ b < lenS (a - (k1 + 1))
      · rw [if_pos q2, if_pos ⟨q2.1, by omega, q2.2.2⟩]
      · rw [if_neg q2, if_neg (fun z => q2 ⟨z.1, by omega, z.2.2⟩)]
def cpJ (I : kgM) (k1 k2 : Nat) : kgM := kgW (kgW (kgW (kgW (cpT I k1 k2 14) k1 14 (I k2 14)) k1 15 (I k2 15)) k1 16 (I k2 16)) k1 17 (I k2 17)
theorem c_copy (I : kgM) {k1 k2 : Nat} (hk : k1 + 15 ≤ k2 ∨ k2 + 15 ≤ k1) : f_X3_copyFrom k1 k2 I = some (0, cpJ I k1 k2) := by
  have e0 : f_X3_copyFrom k1 k2 I = bnd (kgW (cpT I k1 k2 14) k1 14 (cpT I k1 k2 14 k2 14)) (fun I15 => bnd (kgW I15 k1 15 (I15 k2 15)) (fun I16 => bnd (kgW I16 k1 16 (I16 k2 16)) (fun I17 => bnd (kgW I17 k1 17 (I17 k2 17)) (fun I18 => some ((0 : Int32), I18))))) := by
    unfold f_X3_copyFrom
    rw [show f_X3_copyRow (k2 + 1 + 0) (k1 + 1 + 0) 13 (I) = some (0, cpT I k1 k2 1) from rfl, bndC_s, show f_X3_copyRow (k2 + 1 + 1) (k1 + 1 + 1) 4 (cpT I k1 k2 1) = some (0, cpT I k1 k2 2) from rfl, bndC_s, show f_X3_copyRow (k2 + 1 + 2) (k1 + 1 + 2) 4 (cpT I k1 k2 2) = some (0, cpT I k1 k2 3) from rfl, bndC_s, show f_X3_copyRow (k2 + 1 + 3) (k1 + 1 + 3) 4 (cpT I k1 k2 3) = some (0, cpT I k1 k2 4) from rfl, bndC_s, show f_X3_copyRow (k2 + 1 + 4) (k1 + 1 + 4) 6 (cpT I k1 k2 4) = some (0, cpT I k1 k2 5) from rfl, bndC_s, show f_X3_copyRow (k2 + 1 + 5) (k1 + 1 + 5) 10 (cpT I k1 k2 5) = some (0, cpT I k1 k2 6) from rfl, bndC_s, show f_X3_copyRow (k2 + 1 + 6) (k1 + 1 + 6) 10 (cpT I k1 k2 6) = some (0, cpT I k1 k2 7) from rfl, bndC_s, show f_X3_copyRow (k2 + 1 + 7) (k1 + 1 + 7) 10 (cpT I k1 k2 7) = some (0, cpT I k1 k2 8) from rfl, bndC_s, show f_X3_copyRow (k2 + 1 + 8) (k1 + 1 + 8) 10 (cpT I k1 k2 8) = some (0, cpT I k1 k2 9) from rfl, bndC_s, show f_X3_copyRow (k2 + 1 + 9) (k1 + 1 + 9) 10 (cpT I k1 k2 9) = some (0, cpT I k1 k2 10) from rfl, bndC_s, show f_X3_copyRow (k2 + 1 + 10) (k1 + 1 + 10) 10 (cpT I k1 k2 10) = some (0, cpT I k1 k2 11) from rfl, bndC_s, show f_X3_copyRow (k2 + 1 + 11) (k1 + 1 + 11) 10 (cpT I k1 k2 11) = some (0, cpT I k1 k2 12) from rfl, bndC_s, show f_X3_copyRow (k2 + 1 + 12) (k1 + 1 + 12) 10 (cpT I k1 k2 12) = some (0, cpT I k1 k2 13) from rfl, bndC_s, show f_X3_copyRow (k2 + 1 + 13) (k1 + 1 + 13) 10 (cpT I k1 k2 13) = some (0, cpT I k1 k2 14) from rfl, bndC_s]
  have e : ∀ p, cpT I k1 k2 14 k2 p = I k2 p := fun p => by rw [cpT_at hk 14 (by omega), if_neg (by omega)]
  have hne : k2 ≠ k1 := by omega
  rw [e0, bnd_s, bnd_s, bnd_s, bnd_s]
  unfold cpJ
  rw [kgW_n _ _ _ hne, kgW_n _ _ _ hne, kgW_n _ _ _ hne, e, e, kgW_n _ _ _ hne, kgW_n _ _ _ hne, e, kgW_n _ _ _ hne, e]
theorem cpJ_n {I : kgM} {k1 k2 c : Nat} (hk : k1 + 15 ≤ k2 ∨ k2 + 15 ≤ k1) (h : c < k1 ∨ k1 + 15 ≤ c) : cpJ I k1 k2 c = I c := by
  unfold cpJ
  rw [kgW_n _ _ _ (by omega), kgW_n _ _ _ (by omega), kgW_n _ _ _ (by omega), kgW_n _ _ _ (by omega)]
  funext b
  rw [cpT_at hk 14 (by omega), if_neg (by omega)]
theorem cpJ_G {I : kgM} {k1 k2 : Nat} {s : kgS} (hk : k1 + 15 ≤ k2 ∨ k2 + 15 ≤ k1) (hG : RepG I k2 s) (hn : kgN s ≤ 10) : RepG (cpJ I k1 k2) k1 s := by
  have row : ∀ j p, 1 ≤ j → j < 15 → p < lenS (j - 1) → cpJ I k1 k2 (k1 + j) p = I (k2 + j) p := by
    intro j p h1 h2 h3
    unfold cpJ
    rw [kgW_n _ _ _ (by omega), kgW_n _ _ _ (by omega), kgW_n _ _ _ (by omega), kgW_n _ _ _ (by omega), cpT_at hk 14 (by omega), if_pos ⟨by omega, by omega, by rw [show k1 + j - (k1 + 1) = j - 1 by omega]; exact h3⟩, show k2 + (k1 + j - k1) = k2 + j by omega]
  have own : ∀ p, 14 ≤ p → p < 18 → cpJ I k1 k2 k1 p = I k2 p := by
    intro p h1 h2
    have : p = 14 ∨ p = 15 ∨ p = 16 ∨ p = 17 := by omega
    unfold cpJ
    rw [kgW_r, kgW_r, kgW_r, kgW_r]
    rcases this with rfl | rfl | rfl | rfl <;> simp
  have len : ∀ j p, kgDm (kgN s) j p → p < lenS (j - 1) := fun j p h => by
    rcases dm_cases h with ⟨rfl, h1, h2⟩ | ⟨rfl, h1⟩ | ⟨h1, h2⟩
    · exact h2
    · exact h1
    · have : lenS (j - 1) = 10 := by rcases h2 with rfl | rfl | rfl | rfl | rfl | rfl | rfl | rfl | rfl <;> rfl
      omega
  refine ⟨fun j p hd => ?_, by rw [own 14 (by omega) (by omega)]; exact hG.2.1, fun m hm => ?_, by rw [own 15 (by omega) (by omega)]; exact hG.2.2.2.1, by rw [own 16 (by omega) (by omega)]; exact hG.2.2.2.2.1, by rw [own 17 (by omega) (by omega)]; exact hG.2.2.2.2.2⟩
  · rw [row j p (by unfold kgDm at hd; omega) (by unfold kgDm at hd; omega) (len j p hd)]; exact hG.1 j p hd
  · rw [row 2 m (by omega) (by omega) hm, row 3 m (by omega) (by omega) hm, row 4 m (by omega) (by omega) hm]; exact hG.2.2.1 m hm
/-- rows of the reference -/
def cpR (I : kgM) (a b : Nat) : Nat → kgM
  | 0 => I
  | i + 1 => kgW (cpR I a b i) 178 (125 * b + i) (cpR I a b i 178 (125 * a + i))
theorem cpR_at {I : kgM} {a b : Nat} (h : a ≠ b) (i : Nat) (hi : i ≤ 125) (x y : Nat) : cpR I a b i x y = if x = 178 ∧ 125 * b ≤ y ∧ y < 125 * b + i then I 178 (125 * a + (y - 125 * b)) else I x y := by
  induction i generalizing x y with
  | zero => rw [if_neg (by omega)]; rfl
  | succ i ih =>
    show kgW (cpR I a b i) 178 (125 * b + i) (cpR I a b i 178 (125 * a + i)) x y = _
    rw [kgW_r, ih (by omega), ih (by omega), if_neg (show ¬ (178 = 178 ∧ 125 * b ≤ 125 * a + i ∧ 125 * a + i < 125 * b + i) from by omega)]
    by_cases q : x = 178 ∧ y = 125 * b + i
    · rw [if_pos q, if_pos (by omega), show y - 125 * b = i by omega]
    · rw [if_neg q]
      by_cases q2 : x = 178 ∧ 125 * b ≤ y ∧ y < 125 * b + i
      · rw [if_pos q2, if_pos (by omega)]
      · rw [if_neg q2, if_neg (by omega)]
theorem m_copies {I : kgM} {a b : Nat} (ha : a ≤ 10) (hb : b ≤ 10) : f_X5_copies (nI a) (nI b) I = some (0, cpR I a b 125) := by
  unfold f_X5_copies
  refine lp (T := fun q k => f_X5_copies_L2 (nI a) (nI b) (fun I2 => some ((0 : Int32), I2)) q (nI k) (cpR I a b k)) (R := some (0, cpR I a b 125)) (n := 125) (k0 := 0) (fun q k _ hk => ?_) (fun q => ?_) 200 0 (by omega) (by omega) (by omega)
  · have e1 : (125 : Int32) * nI a + nI k = nI (125 * a + k) := by rw [show (125 : Int32) = nI 125 from rfl, nI_mul, nI_add]
    have e2 : (125 : Int32) * nI b + nI k = nI (125 * b + k) := by rw [show (125 : Int32) = nI 125 from rfl, nI_mul, nI_add]
    show f_X5_copies_L2 (nI a) (nI b) _ (q + 1) (nI k) (cpR I a b k) = _
    rw [f_X5_copies_L2, if_neg (show ¬ (125 : Int32) ≤ nI k from nI_ge (b := 125) hk (by omega)), e1, e2, ck_inb (by omega) (by omega), ck_inb (by omega) (by omega), nI_clamp (by omega), nI_clamp (by omega), bnd_s, bnd_s, nI_1]
    rfl
  · show f_X5_copies_L2 (nI a) (nI b) _ (q + 1) (nI 125) (cpR I a b 125) = _
    rw [f_X5_copies_L2, if_pos (show (125 : Int32) ≤ nI 125 from Int32.le_refl _)]
/-- row b is row a, all else is as it was -/
def mvR (I J : kgM) (a b : Nat) : Prop := (∀ c, c ≠ 178 → J c = I c) ∧ ∀ r j, j < 125 → J 178 (125 * r + j) = if r = b then I 178 (125 * a + j) else I 178 (125 * r + j)
theorem cpR_mv {I : kgM} {a b : Nat} (h : a ≠ b) : mvR I (cpR I a b 125) a b := by
  refine ⟨fun c hc => ?_, fun r j hj => ?_⟩
  · funext y; rw [cpR_at h 125 (Nat.le_refl _), if_neg (fun z => hc z.1)]
  · rw [cpR_at h 125 (Nat.le_refl _)]
    by_cases e : r = b
    · subst e
      rw [if_pos (by omega), if_pos rfl, show 125 * r + j - 125 * r = j by omega]
    · rw [if_neg (by omega), if_neg e]
theorem mvR.row {I J : kgM} {a b : Nat} (h : mvR I J a b) {r : Nat} {s : kgS} (hn : kgN s ≤ 10) (hR : RepR (kgRow I (if r = b then a else r)) s) : RepR (kgRow J r) s := by
  refine hR.same hn (fun x hx => ?_)
  unfold kgRow
  rw [h.2 r x hx]
  by_cases e : r = b
  · rw [if_pos e, if_pos e]
  · rw [if_neg e, if_neg e]

