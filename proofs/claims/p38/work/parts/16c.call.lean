def kgCc (F : kgM → Option (Int32 × kgM)) (I : kgM) : Option (Int32 × kgM) := bndC (f_X0_begin I) (fun _ I1 => bndC (F I1) (fun x2 I2 => bndC (f_X4_settle x2 I2) (fun x3 I3 => some (x3, I3))))
def kgMm (G : kgM → Option (Int32 × kgM)) (I : kgM) : Option (Int32 × kgM) := bndC (f_X5_begins I) (fun _ I1 => bndC (G I1) (fun x2 I2 => bndC (f_X5_ends x2 I2) (fun x3 I3 => some (x3, I3))))
theorem OpOK.mono {B B' B'' : Int} {F G : kgM → Option (Int32 × kgM)} (h : OpOK B B' F G) (hB : B' ≤ B'') : OpOK B B'' F G := by
  intro s IC IM a b c d e
  obtain ⟨s', x, JC, JM, h1, h2, h3, h4, h5, h6, h7⟩ := h s IC IM a b c d e
  exact ⟨s', x, JC, JM, h1, h2, h3, h4, h5, pt_mono h6 hB, h7⟩
theorem beg_mod : ∀ b, b < 9 → (nI b + 1) - (nI b + 1) / (9 : Int32) * (9 : Int32) = nI ((b + 1) % 9) := by decide +kernel
theorem min_8 {I : kgM} {n : Nat} (h : n ≤ 8) : f_J9_min_7cf53 (8 : Int32) (nI (n + 1)) I = some (nI (if n = 8 then 8 else n + 1), I) := by
  unfold f_J9_min_7cf53
  by_cases e : n = 8
  · subst e; rw [if_neg (by decide), if_pos rfl]; rfl
  · by_cases e7 : n = 7
    · subst e7; rw [if_neg (by decide), if_neg (by decide)]; rfl
    · rw [if_pos (show nI (n + 1) < (8 : Int32) from nI_lt (b := 8) (by omega) (by omega)), if_neg e]
theorem c_begin {I : kgM} {b : Nat} (hb : b < 9) (h : I 31 1 = nI b) : f_X0_begin I = some (0, cpJ I (33 + 15 * b) 1) := by
  unfold f_X0_begin
  rw [h, ck_inb (by omega) (by omega), nI_clamp (by omega), c_copy I (k1 := 33 + 15 * b) (k2 := 1) (by omega), bndC_s]
theorem c_keep {I : kgM} {b n : Nat} (hb : b < 9) (hn : n ≤ 8) (h1 : I 31 1 = nI b) (h2 : I 31 2 = nI n) : f_X0_keepBegun I = some (0, kgW (kgW I 31 1 (nI ((b + 1) % 9))) 31 2 (nI (if n = 8 then 8 else n + 1))) := by
  unfold f_X0_keepBegun
  have e : kgW I 31 1 (nI ((b + 1) % 9)) 31 2 = nI n := by rw [kgW_r, if_neg (by omega)]; exact h2
  rw [h1, beg_mod b hb, bnd_s, e, nI_1, min_8 hn, bndC_s, bnd_s]
theorem m_begins {I : kgM} : f_X5_begins I = some (0, cpR I 0 10 125) := by
  unfold f_X5_begins
  rw [show f_X5_copies (0 : Int32) (10 : Int32) I = some (0, cpR I 0 10 125) from m_copies (a := 0) (b := 10) (by omega) (by omega), bndC_s]
theorem row_of {I J : kgM} {r r' : Nat} {s : kgS} (hn : kgN s ≤ 10) (h : RepR (kgRow I r') s) (e : ∀ x, x < 125 → J 178 (125 * r + x) = I 178 (125 * r' + x)) : RepR (kgRow J r) s := h.same hn (fun x hx => e x hx)
