/-! TELL STOVES, CHARACTER -/
def stL (s : kgS) (i : Nat) : List Nat := dgs (s.1 5 i) ++ onf (fnd (fun k => decide (s.1 10 k = i + 1)) (kgN s) 0) (fun k => [40] ++ dgs k ++ [41]) []
def stA (s : kgS) : Nat → List Nat
  | 0 => []
  | i + 1 => stA s i ++ stL s i
section STV
variable {s : kgS}
theorem stL_len (w : kgWF s) {i : Nat} (hi : i < 6) : (stL s i).length ≤ 4 ∧ goodL (stL s i) := by
  have hn := w.1
  have b := w.2.2.1 i hi
  have d1 := dgs_1 (v := s.1 5 i) (by omega)
  unfold stL
  cases r : fnd (fun k => decide (s.1 10 k = i + 1)) (kgN s) 0 with
  | none =>
    refine ⟨?_, (dgs_good (by omega)).app goodL.nil⟩
    show (dgs (s.1 5 i) ++ []).length ≤ 4
    rw [List.length_append, d1]; exact Nat.le_of_ble_eq_true rfl
  | some k =>
    have hk := (fnd_some r).2.1
    have d2 := dgs_1 (v := k) (by omega)
    refine ⟨?_, (dgs_good (by omega)).app (((goodL.one (by omega) (by omega)).app (dgs_good (by omega))).app (goodL.one (by omega) (by omega)))⟩
    show (dgs (s.1 5 i) ++ ([40] ++ dgs k ++ [41])).length ≤ 4
    simp only [List.length_append, List.length_cons, List.length_nil]
    omega
theorem stA_len (w : kgWF s) : ∀ i, i ≤ 6 → (stA s i).length ≤ 4 * i ∧ goodL (stA s i) := by
  intro i
  induction i with
  | zero => intro _; exact ⟨Nat.le_refl _, goodL.nil⟩
  | succ i ih =>
    intro h
    have a := ih (by omega)
    have b := stL_len w (i := i) (by omega)
    refine ⟨?_, a.2.app b.2⟩
    show (stA s i ++ stL s i).length ≤ 4 * (i + 1)
    rw [List.length_append]; omega
theorem c_stoveL (w : kgWF s) (K : kgM → Option (Int32 × kgM)) : ∀ d i (I : kgM), i + d = 6 → ∀ q, d < q → RepG I 1 s → LnC (stA s i) I → ∃ J, f_X4_tellStoves_L10 K q (nI i) I = K J ∧ LnC (stA s 6) J ∧ lfC I J := by
  have hn := w.1
  intro d
  induction d with
  | zero =>
    intro i I hi q hq hG h
    obtain ⟨q, rfl⟩ : ∃ r, q = r + 1 := ⟨q - 1, by omega⟩
    have : i = 6 := by omega
    subst this
    exact ⟨I, by rw [f_X4_tellStoves_L10, if_pos (show (6 : Int32) ≤ nI 6 from Int32.le_refl _)], h, lfC.rf⟩
  | succ d ih =>
    intro i I hi q hq hG h
    obtain ⟨q, rfl⟩ : ∃ r, q = r + 1 := ⟨q - 1, by omega⟩
    have i6 : i < 6 := by omega
    have b := w.2.2.1 i i6
    have d1 := dgs_1 (v := s.1 5 i) (by omega)
    have sl := (stA_len w i (by omega)).1
    obtain ⟨I2, a2, l2, f2⟩ := c_addI (v := s.1 5 i) h (by omega) (by omega)
    have G2 := f2.G hG
    have e : stA s (i + 1) = stA s i ++ stL s i := rfl
    rw [f_X4_tellStoves_L10, if_neg (show ¬ (6 : Int32) ≤ nI i from nI_ge (b := 6) i6 (by omega)), ck_inb (by omega) (by omega), nI_clamp (by omega), hG.hea i6, a2, bndC_s, c_kettleOn G2 w i6, bndC_s]
    unfold stL at e
    cases r : fnd (fun k => decide (s.1 10 k = i + 1)) (kgN s) 0 with
    | none =>
      rw [r] at e
      rw [show onf none nI (-1 : Int32) = -1 from rfl, if_pos rfl, nI_1, bnd_s]
      obtain ⟨J, j1, j2, j3⟩ := ih (i + 1) I2 (by omega) q (by omega) G2 (by rw [e]; exact (List.append_nil (dgs (s.1 5 i))).symm ▸ l2)
      exact ⟨J, j1, j2, f2.trans j3⟩
    | some k =>
      rw [r] at e
      have hk := (fnd_some r).2.1
      have d2 := dgs_1 (v := k) (by omega)
      obtain ⟨I3, a3, l3, f3⟩ := c_addC (ch := 40) l2 (by simp only [List.length_append]; omega) (by omega)
      have a3 : f_addC (40 : Int32) I2 = some (0, I3) := a3
      obtain ⟨I4, a4, l4, f4⟩ := c_addI (v := k) l3 (by omega) (by simp only [List.length_append, List.length_cons, List.length_nil]; omega)
      obtain ⟨I5, a5, l5, f5⟩ := c_addC (ch := 41) l4 (by simp only [List.length_append, List.length_cons, List.length_nil]; omega) (by omega)
      have a5 : f_addC (41 : Int32) I4 = some (0, I5) := a5
      have fA := ((f2.trans f3).trans f4).trans f5
      rw [show onf (some k) nI (-1 : Int32) = nI k from rfl, if_neg (of_eq_false (nI_m1 (k := k) (by omega))), a3, bndC_s, a4, bndC_s, a5, bndC_s, nI_1, bnd_s]
      obtain ⟨J, j1, j2, j3⟩ := ih (i + 1) I5 (by omega) q (by omega) (fA.G hG) (by
        rw [e]
        show LnC (stA s i ++ (dgs (s.1 5 i) ++ ([40] ++ dgs k ++ [41]))) I5
        rw [← List.append_assoc, ← List.append_assoc, ← List.append_assoc]; exact l5)
      exact ⟨J, j1, j2, fA.trans j3⟩
end STV
theorem chr_v : ∀ ch, ch < 127 → ((nI ch &&& (255 : Int32)).toUInt32 % 65536).toInt32 = nI ch ∧ isc (nI ch) = true := by decide +kernel
