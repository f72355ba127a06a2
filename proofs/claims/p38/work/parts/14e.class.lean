theorem oc_eq {a m : Nat} (ha : a < 2147483648) (hm : m < 2147483647) : (nI a - 1 = nI m) = (a = m + 1) := by
  by_cases q : a = m + 1
  · subst q; rw [nI_pred]; simp
  · refine (eq_false (fun z => q ?_)).trans (eq_false q).symm
    have : nI a = nI (m + 1) := by rw [← nI_1, ← z, Int32.sub_add_cancel]
    exact (nI_eq ha (by omega)).mp this
section CLL
variable {I : kgM} {s : kgS}
theorem c_onStoves (h : RepG I 1 s) (w : kgWF s) : f_X3_countOnStoves I = some (nI (cnt (kgN s) (fun k => decide (s.1 10 k ≠ 0))), I) := by
  have hn := w.1
  unfold f_X3_countOnStoves
  refine lp (T := fun q k => f_X3_countOnStoves_L4 (fun x J => some (x, J)) q (nI (cnt k (fun k => decide (s.1 10 k ≠ 0)))) (nI k) I) (R := some (nI (cnt (kgN s) (fun k => decide (s.1 10 k ≠ 0))), I)) (n := kgN s) (k0 := 0) (fun q k _ hk => ?_) (fun q => ?_) 200 0 (by omega) (by omega) (by omega)
  · have b := w.2.2.2.1 k hk
    simp (disch := omega) only [f_X3_countOnStoves_L4, h.2.1, nI_leE, if_neg (show ¬ kgN s ≤ k by omega), ck_inb, nI_clamp, bnd_s, bndC_s, nI_1, h.stv hk, oc_m1]
    by_cases z : s.1 10 k = 0 <;> simp [z, cnt]
  · simp (disch := omega) only [f_X3_countOnStoves_L4, h.2.1, nI_leE, Nat.le_refl, if_true]
theorem c_countBoiling (h : RepG I 1 s) (w : kgWF s) : f_X3_countBoiling I = some (nI (cnt (kgN s) (bo s)), I) := by
  have hn := w.1
  unfold f_X3_countBoiling
  refine lp (T := fun q k => f_X3_countBoiling_L4 (fun x J => some (x, J)) q (nI (cnt k (bo s))) (nI k) I) (R := some (nI (cnt (kgN s) (bo s)), I)) (n := kgN s) (k0 := 0) (fun q k _ hk => ?_) (fun q => ?_) 200 0 (by omega) (by omega) (by omega)
  · have b := w.2.2.2.1 k hk
    simp (disch := omega) only [f_X3_countBoiling_L4, h.2.1, nI_leE, if_neg (show ¬ kgN s ≤ k by omega), ck_inb, nI_clamp, bnd_s, bndC_s, nI_1, c_boils h w hk, b2i_0]
    by_cases z : bo s k = false <;> simp [z, cnt]
  · simp (disch := omega) only [f_X3_countBoiling_L4, h.2.1, nI_leE, Nat.le_refl, if_true]
theorem c_lidsOn (h : RepG I 1 s) (w : kgWF s) : f_X3_countLidsOn I = some (nI (smN (kgN s) (s.1 12)), I) := by
  have hn := w.1
  unfold f_X3_countLidsOn
  refine lp (T := fun q k => f_X3_countLidsOn_L4 (fun x J => some (x, J)) q (nI (smN k (s.1 12))) (nI k) I) (R := some (nI (smN (kgN s) (s.1 12)), I)) (n := kgN s) (k0 := 0) (fun q k _ hk => ?_) (fun q => ?_) 200 0 (by omega) (by omega) (by omega)
  · have b := w.2.2.2.1 k hk
    simp (disch := omega) only [f_X3_countLidsOn_L4, h.2.1, nI_leE, if_neg (show ¬ kgN s ≤ k by omega), ck_inb, nI_clamp, bnd_s, bndC_s, nI_1, h.lid hk, nI_add, smN]
  · simp (disch := omega) only [f_X3_countLidsOn_L4, h.2.1, nI_leE, Nat.le_refl, if_true]
theorem c_barred (h : RepG I 1 s) (w : kgWF s) : f_X3_countLidsBarred I = some (nI (smN (kgN s) (s.1 13)), I) := by
  have hn := w.1
  unfold f_X3_countLidsBarred
  refine lp (T := fun q k => f_X3_countLidsBarred_L4 (fun x J => some (x, J)) q (nI (smN k (s.1 13))) (nI k) I) (R := some (nI (smN (kgN s) (s.1 13)), I)) (n := kgN s) (k0 := 0) (fun q k _ hk => ?_) (fun q => ?_) 200 0 (by omega) (by omega) (by omega)
  · have b := w.2.2.2.1 k hk
    simp (disch := omega) only [f_X3_countLidsBarred_L4, h.2.1, nI_leE, if_neg (show ¬ kgN s ≤ k by omega), ck_inb, nI_clamp, bnd_s, bndC_s, nI_1, h.bar hk, nI_add, smN]
  · simp (disch := omega) only [f_X3_countLidsBarred_L4, h.2.1, nI_leE, Nat.le_refl, if_true]
theorem c_sumWater (h : RepG I 1 s) (w : kgWF s) : f_X3_sumWater I = some (nI (smN (kgN s) (s.1 8)), I) := by
  have hn := w.1
  unfold f_X3_sumWater
  refine lp (T := fun q k => f_X3_sumWater_L4 (fun x J => some (x, J)) q (nI (smN k (s.1 8))) (nI k) I) (R := some (nI (smN (kgN s) (s.1 8)), I)) (n := kgN s) (k0 := 0) (fun q k _ hk => ?_) (fun q => ?_) 200 0 (by omega) (by omega) (by omega)
  · have b := w.2.2.2.1 k hk
    simp (disch := omega) only [f_X3_sumWater_L4, h.2.1, nI_leE, if_neg (show ¬ kgN s ≤ k by omega), ck_inb, nI_clamp, bnd_s, bndC_s, nI_1, h.wat hk, nI_add, smN]
  · simp (disch := omega) only [f_X3_sumWater_L4, h.2.1, nI_leE, Nat.le_refl, if_true]
theorem c_pitchesOf (h : RepG I 1 s) (w : kgWF s) {m : Nat} (hm : m < 4) : f_X3_countPitchesOf (nI m) I = some (nI (own s m), I) := by
  have hn := w.1
  unfold f_X3_countPitchesOf
  refine lp (T := fun q k => f_X3_countPitchesOf_L4 (nI m) (fun x J => some (x, J)) q (nI (cnt (k - 1) (fun p => decide (s.1 1 (p + 1) = m + 1)))) (nI k) I) (R := some (nI (own s m), I)) (n := 13) (k0 := 1) (fun q k _ hk => ?_) (fun q => ?_) 200 1 (by omega) (by omega) (by omega)
  · obtain ⟨j, rfl⟩ : ∃ j, k = j + 1 := ⟨k - 1, by omega⟩
    have e := h.own (p := j + 1) (by omega) (by omega)
    have b := w.2.1 (j + 1) (by omega) (by omega)
    simp (disch := omega) only [f_X3_countPitchesOf_L4, l12, nI_ltE, if_neg (show ¬ 12 < j + 1 by omega), ck_inb, nI_clamp, bnd_s, e, nI_1, oc_eq, Nat.add_sub_cancel, cnt]
    by_cases z : s.1 1 (j + 1) = m + 1
    · simp only [z, decide_true, if_true]
    · simp only [z, decide_false, if_false, Bool.false_eq_true, Nat.add_zero]
  · simp (disch := omega) only [f_X3_countPitchesOf_L4, l12, nI_ltE, show 12 < 13 from by omega, if_true]; rfl
theorem c_kettlesOf (h : RepG I 1 s) (w : kgWF s) {m : Nat} (hm : m < 4) : f_X3_countKettlesOf (nI m) I = some (nI (cnt (kgN s) (fun k => decide (s.1 6 k = m))), I) := by
  have hn := w.1
  unfold f_X3_countKettlesOf
  refine lp (T := fun q k => f_X3_countKettlesOf_L4 (nI m) (fun x J => some (x, J)) q (nI (cnt k (fun k => decide (s.1 6 k = m)))) (nI k) I) (R := some (nI (cnt (kgN s) (fun k => decide (s.1 6 k = m))), I)) (n := kgN s) (k0 := 0) (fun q k _ hk => ?_) (fun q => ?_) 200 0 (by omega) (by omega) (by omega)
  · have b := w.2.2.2.1 k hk
    simp (disch := omega) only [f_X3_countKettlesOf_L4, h.2.1, nI_leE, if_neg (show ¬ kgN s ≤ k by omega), ck_inb, nI_clamp, bnd_s, bndC_s, nI_1, h.mem hk, nI_eqE]
    by_cases z : s.1 6 k = m <;> simp [z, cnt]
  · simp (disch := omega) only [f_X3_countKettlesOf_L4, h.2.1, nI_leE, Nat.le_refl, if_true]
def wK (s : kgS) : Nat := orf (kgN s) (wh s) (fun k => k)
def wP (s : kgS) : Nat := orf (kgN s) (wh s) (s.1 7)
theorem wK_lt (w : kgWF s) : wK s < 1024 := orf_lt (b := 10) (fun k hk _ => Nat.lt_of_lt_of_le hk w.1)
theorem wP_lt (w : kgWF s) : wP s < 8192 := orf_lt (b := 13) (fun k hk _ => (w.2.2.2.1 k hk).2.2.1)
theorem c_whistlers (h : RepG I 1 s) (w : kgWF s) : f_X3_whistlers I = some (nI (wK s), I) := by
  have hn := w.1
  unfold f_X3_whistlers
  refine lp (T := fun q k => f_X3_whistlers_L4 (fun x J => some (x, J)) q (nI (orf k (wh s) (fun k => k))) (nI k) I) (R := some (nI (wK s), I)) (n := kgN s) (k0 := 0) (fun q k _ hk => ?_) (fun q => ?_) 200 0 (by omega) (by omega) (by omega)
  · have b := w.2.2.2.1 k hk
    simp (disch := omega) only [f_X3_whistlers_L4, h.2.1, nI_leE, if_neg (show ¬ kgN s ≤ k by omega), ck_inb, nI_clamp, bnd_s, bndC_s, nI_1, c_boils h w hk, b2i_0, h.wat hk, h.lid hk, nI_le0, kl_shl1, kl_or, orf, show (nI (s.1 12 k) = 1) = (s.1 12 k = 1) from nI_eqE (b := 1) (by omega) (by omega)]
    unfold wh
    by_cases z : bo s k = true
    · by_cases z2 : s.1 8 k = 0
      · simp [z, z2]
      · have z3 : 0 < s.1 8 k := by omega
        by_cases z4 : s.1 12 k = 1 <;> simp [z, z2, z3, z4]
    · simp [z]
  · simp (disch := omega) only [f_X3_whistlers_L4, h.2.1, nI_leE, Nat.le_refl, if_true]; rfl
theorem c_whistles (h : RepG I 1 s) (w : kgWF s) {k : Nat} (hk : k < kgN s) : f_X3_whistles (nI k) I = some (b2i (wh s k), I) := by
  have hn := w.1
  have hl := wK_lt w
  unfold f_X3_whistles
  simp (disch := omega) only [c_whistlers h w, bndC_s, c_isIn, ck_t (b2i_isz _)]
  rw [show (wK s).testBit k = wh s k from orf_id hk]
theorem c_whistledPitches (h : RepG I 1 s) (w : kgWF s) : f_X3_whistledPitches I = some (nI (wP s), I) := by
  have hn := w.1
  unfold f_X3_whistledPitches
  simp only [bndC_s, c_whistlers h w]
  refine lp (T := fun q k => f_X3_whistledPitches_L9 (nI (wK s)) (fun x J => some (x, J)) q (nI (orf k (wh s) (s.1 7))) (nI k) I) (R := some (nI (wP s), I)) (n := kgN s) (k0 := 0) (fun q k _ hk => ?_) (fun q => ?_) 200 0 (by omega) (by omega) (by omega)
  · have b := w.2.2.2.1 k hk
    have hl := wK_lt w
    simp (disch := omega) only [f_X3_whistledPitches_L9, h.2.1, nI_leE, if_neg (show ¬ kgN s ≤ k by omega), ck_inb, nI_clamp, bnd_s, bndC_s, nI_1, c_isIn, show (wK s).testBit k = wh s k from orf_id hk, b2i_0, h.pit hk, kl_shl1, kl_or, orf]
    by_cases z : wh s k = true
    · simp [z]
    · simp [z]
  · simp (disch := omega) only [f_X3_whistledPitches_L9, h.2.1, nI_leE, Nat.le_refl, if_true]; rfl
theorem c_whistlersOf (h : RepG I 1 s) (w : kgWF s) {m : Nat} (hm : m < 4) : f_X3_countWhistlersOf (nI m) I = some (nI (cnt (kgN s) (fun k => decide (s.1 6 k = m) && wh s k)), I) := by
  have hn := w.1
  unfold f_X3_countWhistlersOf
  simp only [bndC_s, c_whistlers h w]
  refine lp (T := fun q k => f_X3_countWhistlersOf_L10 (nI m) (nI (wK s)) (fun x J => some (x, J)) q (nI (cnt k (fun k => decide (s.1 6 k = m) && wh s k))) (nI k) I) (R := some (nI (cnt (kgN s) (fun k => decide (s.1 6 k = m) && wh s k)), I)) (n := kgN s) (k0 := 0) (fun q k _ hk => ?_) (fun q => ?_) 200 0 (by omega) (by omega) (by omega)
  · have b := w.2.2.2.1 k hk
    have hl := wK_lt w
    simp (disch := omega) only [f_X3_countWhistlersOf_L10, h.2.1, nI_leE, if_neg (show ¬ kgN s ≤ k by omega), ck_inb, nI_clamp, bnd_s, bndC_s, nI_1, c_isIn, show (wK s).testBit k = wh s k from orf_id hk, b2i_0, h.mem hk, nI_eqE, cnt]
    by_cases z : s.1 6 k = m
    · by_cases z2 : wh s k = true <;> simp [z, z2]
    · simp [z]
  · simp (disch := omega) only [f_X3_countWhistlersOf_L10, h.2.1, nI_leE, Nat.le_refl, if_true]
end CLL
