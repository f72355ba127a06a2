section BAL
variable {I : kgM} {s : kgS}
theorem c_hasPitch (hG : RepG I 1 s) (w : kgWF s) : f_X3_hasPitchOnTwoStoves I = some (0, I) := by
  have hn := w.1
  have lt : ∀ k, k ≤ kgN s → orf k (fun i => decide (s.1 10 i ≠ 0)) (s.1 7) < 8192 := fun k hk => orf_lt (b := 13) (fun i hi _ => (w.2.2.2.1 i (by omega)).2.2.1)
  unfold f_X3_hasPitchOnTwoStoves
  refine lp (T := fun q k => f_X3_hasPitchOnTwoStoves_L4 (fun I2 => some ((0 : Int32), I2)) q (nI (orf k (fun i => decide (s.1 10 i ≠ 0)) (s.1 7))) (nI k) I) (R := some ((0 : Int32), I)) (n := kgN s) (k0 := 0) (fun q k _ hk => ?_) (fun q => ?_) 200 0 (by omega) (by omega) (by omega)
  · have b := w.2.2.2.1 k hk
    have hl := lt k (by omega)
    show f_X3_hasPitchOnTwoStoves_L4 _ (q + 1) _ (nI k) I = _
    rw [f_X3_hasPitchOnTwoStoves_L4, hG.2.1, if_neg (nI_ge hk (by omega)), ck_inb (by omega) (by omega), nI_clamp (by omega), hG.stv hk]
    by_cases z : s.1 10 k = 0
    · rw [if_pos (by rw [z]; rfl), bnd_s, nI_1, show orf (k + 1) (fun i => decide (s.1 10 i ≠ 0)) (s.1 7) = orf k (fun i => decide (s.1 10 i ≠ 0)) (s.1 7) from by
        show orf k _ _ ||| (if decide (s.1 10 k ≠ 0) = true then _ else 0) = _
        rw [if_neg (by simp [z]), Nat.or_zero]]
    · have ez : ¬ nI (s.1 10 k) - 1 = -1 := fun h => z (by
        have := oc_m1 (a := s.1 10 k) (by omega)
        rw [this] at h; exact h)
      have hnot : (orf k (fun i => decide (s.1 10 i ≠ 0)) (s.1 7)).testBit (s.1 7 k) = false := by
        cases h : (orf k (fun i => decide (s.1 10 i ≠ 0)) (s.1 7)).testBit (s.1 7 k) with
        | false => rfl
        | true =>
          obtain ⟨j, h1, h2, h3⟩ := orf_bit.mp h
          exact absurd h3 (w.2.2.2.2.1 j k h1 hk (of_decide_eq_true h2) z).2
      rw [if_neg ez, ck_inb (by omega) (by omega), hG.pit hk, c_isIn (by omega) (by omega), bndC_s, hnot, b2i_f, if_pos (show (0 : Int32) = 0 from rfl), ck_inb (by omega) (by omega), hG.pit hk, kl_shl1 (by omega), kl_or, bnd_s, bnd_s, nI_1, show orf (k + 1) (fun i => decide (s.1 10 i ≠ 0)) (s.1 7) = orf k (fun i => decide (s.1 10 i ≠ 0)) (s.1 7) ||| 2 ^ s.1 7 k from by
        show orf k _ _ ||| (if decide (s.1 10 k ≠ 0) = true then _ else 0) = _
        rw [if_pos (decide_eq_true z)]]
  · show f_X3_hasPitchOnTwoStoves_L4 _ (q + 1) _ (nI (kgN s)) I = _
    rw [f_X3_hasPitchOnTwoStoves_L4, hG.2.1, if_pos (Int32.le_refl _)]
theorem c_boilSame (hG : RepG I 1 s) (w : kgWF s) : f_X4_isBoilingSame I = some (1, I) := by
  have hn := w.1
  unfold f_X4_isBoilingSame
  refine lp (T := fun q k => f_X4_isBoilingSame_L2 (fun I3 => some ((1 : Int32), I3)) q (nI k) I) (R := some ((1 : Int32), I)) (n := kgN s) (k0 := 0) (fun q k _ hk => ?_) (fun q => ?_) 200 0 (by omega) (by omega) (by omega)
  · show f_X4_isBoilingSame_L2 _ (q + 1) (nI k) I = _
    rw [f_X4_isBoilingSame_L2, hG.2.1, if_neg (nI_ge hk (by omega)), c_boilsIn hG w hk, bndC_s, c_boilsInAgain hG w hk, bndC_s, if_pos rfl, bnd_s, nI_1]
  · show f_X4_isBoilingSame_L2 _ (q + 1) (nI (kgN s)) I = _
    rw [f_X4_isBoilingSame_L2, hG.2.1, if_pos (Int32.le_refl _)]
theorem c_balanced (hG : RepG I 1 s) (w : kgWF s) : f_X4_isBalanced I = some (1, I) := by
  have e16 : I 1 16 = s.2 13 := hG.2.2.2.2.1
  have e17 : I 1 17 = s.2 14 := hG.2.2.2.2.2
  have t10 : ¬ (1 : Int32) = 0 := by decide
  unfold f_X4_isBalanced
  rw [c_sumWater hG w, bndC_s, letJ_s]
  dsimp only
  rw [if_pos (show I 1 16 = nI (smN (kgN s) (s.1 8)) + I 1 17 from by rw [e16, e17]; exact w.2.2.2.2.2.2), c_harmony hG w, bndC_s, c_harmonyAgain hG w, bndC_s, letJ_s]
  dsimp only
  rw [if_pos rfl, if_neg t10, if_neg t10, c_boilSame hG w, bndC_s, if_neg t10, c_hasPitch hG w, bndC_s, if_pos (show (0 : Int32) = 0 from rfl)]
end BAL
