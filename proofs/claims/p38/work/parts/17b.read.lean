theorem fp_mean : ∀ a, a < 21 → ∀ c, c < 10 → ∀ b, b < 10 → kn64 (FP.ddiv (FP.i2d (nI (10 * a + c))) (FP.i2d (nI (b + 1)))) = true ∧ Op.cmpValue (FP.dcmp (FP.ddiv (FP.i2d (nI (10 * a + c))) (FP.i2d (nI (b + 1)))) (FP.ddiv (FP.i2d (nI (10 * a + c))) (FP.i2d (nI (b + 1))))) .l = 0 := by decide +kernel
theorem fp_share : ∀ a, a < 14 → ∀ b, b < 10 → kn32 (FP.fdiv (FP.i2f (nI a)) (FP.i2f (nI (b + 1)))) = true ∧ (FP.f2d (FP.fdiv (FP.i2f (nI a)) (FP.i2f (nI (b + 1))))) &&& 0x7fffffffffffffff ≤ 0x7ff0000000000000 ∧ Op.cmpValue (FP.dcmp (FP.f2d (FP.fdiv (FP.i2f (nI a)) (FP.i2f (nI (b + 1))))) (FP.f2d (FP.fdiv (FP.i2f (nI a)) (FP.i2f (nI (b + 1)))))) .l = 0 := by decide +kernel
theorem fp_c0 : Op.cmpValue (FP.dcmp FP.dconst0 FP.dconst0) .l = 0 ∧ (FP.f2d FP.fconst0) &&& 0x7fffffffffffffff ≤ 0x7ff0000000000000 ∧ Op.cmpValue (FP.dcmp (FP.f2d FP.fconst0) (FP.f2d FP.fconst0)) .l = 0 := by decide +kernel
section READ
variable {q : Nat}
theorem c_sumOf4 {I : kgM} {s : kgS} (hG : RepG I 1 s) : f_X4_sumOf_4 I = some (smI 4 (fun k => s.2 (4 + k)), I) := by
  unfold f_X4_sumOf_4
  rw [bnd_s]
  refine lp (T := fun q k => f_X4_sumOf_4_L10 (Int32.ofNat 4) (fun x5 I1 => some (x5, I1)) q (smI k (fun k => s.2 (4 + k))) (nI k) I) (R := some (smI 4 (fun k => s.2 (4 + k)), I)) (n := 4) (k0 := 0) (fun q k _ hk => ?_) (fun q => ?_) 200 0 (by omega) (by omega) (by omega)
  · have e : I 4 k = s.2 (4 + k) := (hG.2.2.1 k hk).2.1
    show f_X4_sumOf_4_L10 (Int32.ofNat 4) _ (q + 1) _ (nI k) I = _
    rw [f_X4_sumOf_4_L10, if_neg (show ¬ Int32.ofNat 4 ≤ nI k from nI_ge (b := 4) hk (by omega)), ck_inb (by omega) (by omega), nI_clamp (by omega), e, bnd_s, bnd_s, bnd_s, nI_1]
    rfl
  · show f_X4_sumOf_4_L10 (Int32.ofNat 4) _ (q + 1) _ (nI 4) I = _
    rw [f_X4_sumOf_4_L10, if_pos (show Int32.ofNat 4 ≤ nI 4 from Int32.le_refl _)]
theorem c_sumOf3 {I : kgM} {s : kgS} (hG : RepG I 1 s) : f_X4_sumOf_3 I = some (smI 4 s.2, I) := by
  unfold f_X4_sumOf_3
  rw [bnd_s]
  refine lp (T := fun q k => f_X4_sumOf_3_L10 (Int32.ofNat 4) (fun x5 I1 => some (x5, I1)) q (smI k s.2) (nI k) I) (R := some (smI 4 s.2, I)) (n := 4) (k0 := 0) (fun q k _ hk => ?_) (fun q => ?_) 200 0 (by omega) (by omega) (by omega)
  · have e : I 3 k = s.2 k := (hG.2.2.1 k hk).1
    show f_X4_sumOf_3_L10 (Int32.ofNat 4) _ (q + 1) _ (nI k) I = _
    rw [f_X4_sumOf_3_L10, if_neg (show ¬ Int32.ofNat 4 ≤ nI k from nI_ge (b := 4) hk (by omega)), ck_inb (by omega) (by omega), nI_clamp (by omega), e, bnd_s, bnd_s, bnd_s, nI_1]
    rfl
  · show f_X4_sumOf_3_L10 (Int32.ofNat 4) _ (q + 1) _ (nI 4) I = _
    rw [f_X4_sumOf_3_L10, if_pos (show Int32.ofNat 4 ≤ nI 4 from Int32.le_refl _)]
end READ
