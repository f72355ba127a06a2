section MDL
variable {I : kgM} {s : kgS}
theorem ck_one {ρ : Type} {x : Option ρ} : ck (inb (1 : Int32) 1375) x = x := ck_t rfl
theorem cl_one : (1 : Int32).toNatClampNeg = 1 := rfl
theorem RepR.n (h : RepR (kgRow I 0) s) : I 178 1 = nI (kgN s) := h.2.1
theorem m_onStoves (h : RepR (kgRow I 0) s) (w : kgWF s) : f_X5_onStoves I = some (nI (cnt (kgN s) (fun k => decide (s.1 10 k ≠ 0))), I) := by
  have hn := w.1
  unfold f_X5_onStoves
  refine lp (T := fun q k => f_X5_onStoves_L4 (fun x J => some (x, J)) q (nI (cnt k (fun k => decide (s.1 10 k ≠ 0)))) (nI k) I) (R := some (nI (cnt (kgN s) (fun k => decide (s.1 10 k ≠ 0))), I)) (n := kgN s) (k0 := 0) (fun q k _ hk => ?_) (fun q => ?_) 200 0 (by omega) (by omega) (by omega)
  · have b := w.2.2.2.1 k hk
    simp (disch := omega) only [f_X5_onStoves_L4, ck_one, cl_one, h.n, nI_leE, if_neg (show ¬ kgN s ≤ k by omega), bnd_s, bndC_s, nI_1, Int32.add_zero, Int32.or_zero, m_isOn h w hk, b2i_0]
    by_cases z : s.1 10 k = 0 <;> simp [z, cnt]
  · simp (disch := omega) only [f_X5_onStoves_L4, ck_one, cl_one, h.n, nI_leE, Nat.le_refl, if_true]
theorem m_lidsOn (h : RepR (kgRow I 0) s) (w : kgWF s) : f_X5_lidsOn I = some (nI (smN (kgN s) (s.1 12)), I) := by
  have hn := w.1
  unfold f_X5_lidsOn
  refine lp (T := fun q k => f_X5_lidsOn_L4 (fun x J => some (x, J)) q (nI (smN k (s.1 12))) (nI k) I) (R := some (nI (smN (kgN s) (s.1 12)), I)) (n := kgN s) (k0 := 0) (fun q k _ hk => ?_) (fun q => ?_) 200 0 (by omega) (by omega) (by omega)
  · have b := w.2.2.2.1 k hk
    simp (disch := omega) only [f_X5_lidsOn_L4, ck_one, cl_one, h.n, nI_leE, if_neg (show ¬ kgN s ≤ k by omega), bnd_s, bndC_s, nI_1, Int32.add_zero, Int32.or_zero, m_lid h hn hk, nI_add, smN]
  · simp (disch := omega) only [f_X5_lidsOn_L4, ck_one, cl_one, h.n, nI_leE, Nat.le_refl, if_true]
theorem m_whistling (h : RepR (kgRow I 0) s) (w : kgWF s) : f_X5_whistling I = some (nI (wK s), I) := by
  have hn := w.1
  unfold f_X5_whistling
  refine lp (T := fun q k => f_X5_whistling_L4 (fun x J => some (x, J)) q (nI (orf k (wh s) (fun k => k))) (nI k) I) (R := some (nI (wK s), I)) (n := kgN s) (k0 := 0) (fun q k _ hk => ?_) (fun q => ?_) 200 0 (by omega) (by omega) (by omega)
  · have b := w.2.2.2.1 k hk
    simp (disch := omega) only [f_X5_whistling_L4, ck_one, cl_one, h.n, nI_leE, if_neg (show ¬ kgN s ≤ k by omega), bnd_s, bndC_s, nI_1, Int32.add_zero, Int32.or_zero, m_whistles h w hk, b2i_0, kl_shl1, kl_or]
    by_cases z : wh s k = true <;> simp [z, orf]
  · simp (disch := omega) only [f_X5_whistling_L4, ck_one, cl_one, h.n, nI_leE, Nat.le_refl, if_true]; rfl
theorem m_kettlesOf0 (h : RepR (kgRow I 0) s) (w : kgWF s) {m : Nat} (hm : m < 4) : f_X5_kettlesOf (nI m) 0 I = some (nI (cnt (kgN s) (fun k => decide (s.1 6 k = m))), I) := by
  have hn := w.1
  unfold f_X5_kettlesOf
  refine lp (T := fun q k => f_X5_kettlesOf_L5 (nI m) 0 (fun x J => some (x, J)) q (nI (cnt k (fun k => decide (s.1 6 k = m)))) (nI k) I) (R := some (nI (cnt (kgN s) (fun k => decide (s.1 6 k = m))), I)) (n := kgN s) (k0 := 0) (fun q k _ hk => ?_) (fun q => ?_) 200 0 (by omega) (by omega) (by omega)
  · have b := w.2.2.2.1 k hk
    simp (disch := omega) only [f_X5_kettlesOf_L5, ck_one, cl_one, h.n, nI_leE, if_neg (show ¬ kgN s ≤ k by omega), bnd_s, bndC_s, nI_1, Int32.add_zero, Int32.or_zero, m_of h hn hk, nI_eqE, if_true]
    by_cases z : s.1 6 k = m <;> simp [z, cnt]
  · simp (disch := omega) only [f_X5_kettlesOf_L5, ck_one, cl_one, h.n, nI_leE, Nat.le_refl, if_true]
theorem m_kettlesOf1 (h : RepR (kgRow I 0) s) (w : kgWF s) {m : Nat} (hm : m < 4) : f_X5_kettlesOf (nI m) 1 I = some (nI (cnt (kgN s) (fun k => decide (s.1 6 k = m) && wh s k)), I) := by
  have hn := w.1
  unfold f_X5_kettlesOf
  refine lp (T := fun q k => f_X5_kettlesOf_L5 (nI m) 1 (fun x J => some (x, J)) q (nI (cnt k (fun k => decide (s.1 6 k = m) && wh s k))) (nI k) I) (R := some (nI (cnt (kgN s) (fun k => decide (s.1 6 k = m) && wh s k)), I)) (n := kgN s) (k0 := 0) (fun q k _ hk => ?_) (fun q => ?_) 200 0 (by omega) (by omega) (by omega)
  · have b := w.2.2.2.1 k hk
    simp (disch := omega) only [f_X5_kettlesOf_L5, ck_one, cl_one, h.n, nI_leE, if_neg (show ¬ kgN s ≤ k by omega), bnd_s, bndC_s, nI_1, Int32.add_zero, Int32.or_zero, m_of h hn hk, nI_eqE, m_whistles h w hk, b2i_0, if_true, if_neg (show ¬ (1 : Int32) = 0 by decide)]
    by_cases z : s.1 6 k = m <;> by_cases z2 : wh s k = true <;> simp [z, z2, cnt]
  · simp (disch := omega) only [f_X5_kettlesOf_L5, ck_one, cl_one, h.n, nI_leE, Nat.le_refl, if_true]
theorem m_boiling (h : RepR (kgRow I 0) s) (w : kgWF s) : f_X5_ofKettles 0 I = some (nI (cnt (kgN s) (bo s)), I) := by
  have hn := w.1
  unfold f_X5_ofKettles
  refine lp (T := fun q k => f_X5_ofKettles_L4 0 (fun x J => some (x, J)) q (nI (cnt k (bo s))) (nI k) I) (R := some (nI (cnt (kgN s) (bo s)), I)) (n := kgN s) (k0 := 0) (fun q k _ hk => ?_) (fun q => ?_) 200 0 (by omega) (by omega) (by omega)
  · have b := w.2.2.2.1 k hk
    simp (disch := omega) only [f_X5_ofKettles_L4, ck_one, cl_one, h.n, nI_leE, if_neg (show ¬ kgN s ≤ k by omega), bnd_s, bndC_s, nI_1, Int32.add_zero, Int32.or_zero, m_boils h w hk, b2i_0, if_true]
    by_cases z : bo s k = true <;> simp [z, cnt]
  · simp (disch := omega) only [f_X5_ofKettles_L4, ck_one, cl_one, h.n, nI_leE, Nat.le_refl, if_true]
theorem m_barred (h : RepR (kgRow I 0) s) (w : kgWF s) : f_X5_ofKettles 1 I = some (nI (smN (kgN s) (s.1 13)), I) := by
  have hn := w.1
  unfold f_X5_ofKettles
  refine lp (T := fun q k => f_X5_ofKettles_L4 1 (fun x J => some (x, J)) q (nI (smN k (s.1 13))) (nI k) I) (R := some (nI (smN (kgN s) (s.1 13)), I)) (n := kgN s) (k0 := 0) (fun q k _ hk => ?_) (fun q => ?_) 200 0 (by omega) (by omega) (by omega)
  · have b := w.2.2.2.1 k hk
    simp (disch := omega) only [f_X5_ofKettles_L4, ck_one, cl_one, h.n, nI_leE, if_neg (show ¬ kgN s ≤ k by omega), bnd_s, bndC_s, nI_1, Int32.add_zero, Int32.or_zero, m_bar h hn hk, nI_add, smN, if_true, if_neg (show ¬ (1 : Int32) = 0 by decide)]
  · simp (disch := omega) only [f_X5_ofKettles_L4, ck_one, cl_one, h.n, nI_leE, Nat.le_refl, if_true]
theorem m_sumWater (h : RepR (kgRow I 0) s) (w : kgWF s) : f_X5_ofKettles 2 I = some (nI (smN (kgN s) (s.1 8)), I) := by
  have hn := w.1
  unfold f_X5_ofKettles
  refine lp (T := fun q k => f_X5_ofKettles_L4 2 (fun x J => some (x, J)) q (nI (smN k (s.1 8))) (nI k) I) (R := some (nI (smN (kgN s) (s.1 8)), I)) (n := kgN s) (k0 := 0) (fun q k _ hk => ?_) (fun q => ?_) 200 0 (by omega) (by omega) (by omega)
  · have b := w.2.2.2.1 k hk
    simp (disch := omega) only [f_X5_ofKettles_L4, ck_one, cl_one, h.n, nI_leE, if_neg (show ¬ kgN s ≤ k by omega), bnd_s, bndC_s, nI_1, Int32.add_zero, Int32.or_zero, m_wat h hn hk, nI_add, smN, if_neg (show ¬ (2 : Int32) = 0 by decide), if_neg (show ¬ (2 : Int32) = 1 by decide)]
  · simp (disch := omega) only [f_X5_ofKettles_L4, ck_one, cl_one, h.n, nI_leE, Nat.le_refl, if_true]
theorem m_pitchesOf (h : RepR (kgRow I 0) s) (w : kgWF s) {m : Nat} (hm : m < 4) : f_X5_pitchesOf (nI m) I = some (nI (own s m), I) := by
  have hn := w.1
  unfold f_X5_pitchesOf
  refine lp (T := fun q k => f_X5_pitchesOf_L4 (nI m) (fun x J => some (x, J)) q (nI (cnt (k - 1) (fun p => decide (s.1 1 (p + 1) = m + 1)))) (nI k) I) (R := some (nI (own s m), I)) (n := 13) (k0 := 1) (fun q k _ hk => ?_) (fun q => ?_) 200 1 (by omega) (by omega) (by omega)
  · obtain ⟨j, rfl⟩ : ∃ j, k = j + 1 := ⟨k - 1, by omega⟩
    have b := w.2.1 (j + 1) (by omega) (by omega)
    simp (disch := omega) only [f_X5_pitchesOf_L4, l13, nI_leE, if_neg (show ¬ 13 ≤ j + 1 by omega), bnd_s, bndC_s, m_ownerOf h (show 1 ≤ j + 1 by omega) (show j + 1 < 13 by omega), nI_1, oc_eq, Nat.add_sub_cancel, cnt, Int32.add_zero]
    by_cases z : s.1 1 (j + 1) = m + 1 <;> simp [z]
  · simp (disch := omega) only [f_X5_pitchesOf_L4, l13, nI_leE, Nat.le_refl, if_true]; rfl
theorem m_m (h : RepR (kgRow I 0) s) {m : Nat} (hm : m < 4) : f_X5_m (nI m) 0 I = some (s.2 m, I) ∧ f_X5_m (nI m) 1 I = some (s.2 (4 + m), I) ∧ f_X5_m (nI m) 2 I = some (s.2 (8 + m), I) := by
  have key : ∀ a : Nat, a < 3 → f_X5_m (nI m) (nI a) I = some (I 178 (5 + 3 * m + a), I) := fun a ha => by
    have e : ((5 : Int32) + ((3 : Int32) * nI m)) + nI a = nI (5 + 3 * m + a) := by
      rw [show (3 : Int32) = nI 3 from rfl, nI_mul, show (5 : Int32) = nI 5 from rfl, nI_add, nI_add]
    unfold f_X5_m
    rw [e, ck_inb (by omega) (by omega), nI_clamp (by omega)]
  have b := h.2.2.1 m hm
  simp only [RepR.low] at b
  refine ⟨?_, ?_, ?_⟩
  · have := key 0 (by omega); rw [Nat.add_zero, b.1] at this; exact this
  · have := key 1 (by omega); rw [show 5 + 3 * m + 1 = 6 + 3 * m by omega, b.2.1] at this; exact this
  · have := key 2 (by omega); rw [show 5 + 3 * m + 2 = 7 + 3 * m by omega, b.2.2] at this; exact this
theorem m_allPoints (h : RepR (kgRow I 0) s) (w : kgWF s) : f_X5_allPoints I = some (smI 4 s.2, I) := by
  have hn := w.1
  unfold f_X5_allPoints
  refine lp (T := fun q k => f_X5_allPoints_L4 (fun x J => some (x, J)) q (smI k s.2) (nI k) I) (R := some (smI 4 s.2, I)) (n := 4) (k0 := 0) (fun q k _ hk => ?_) (fun q => ?_) 200 0 (by omega) (by omega) (by omega)
  · simp (disch := omega) only [f_X5_allPoints_L4, l4, nI_leE, if_neg (show ¬ 4 ≤ k by omega), bnd_s, bndC_s, nI_1, (m_m h hk).1, smI]
  · simp (disch := omega) only [f_X5_allPoints_L4, l4, nI_leE, Nat.le_refl, if_true]
theorem m_kettleOn (h : RepR (kgRow I 0) s) (w : kgWF s) {st : Nat} (hst : st < 6) : f_X5_kettleOn (nI st) I = some (onf (fnd (fun k => decide (s.1 10 k = st + 1)) (kgN s) 0) nI (-1), I) := by
  have hn := w.1
  unfold f_X5_kettleOn
  have := lf (T := fun q k => f_X5_kettleOn_L2 (nI st) (fun I2 => some ((-1 : Int32), I2)) q (nI k) I) (R := some ((-1 : Int32), I)) (F := fun j => some (nI j, I)) (p := fun k => decide (s.1 10 k = st + 1)) (n := kgN s) (fun q k hk hp => ?_) (fun q k hk hp => ?_) (fun q => ?_) 200 0 (by omega) (by omega)
  · refine this.trans ?_
    rw [Nat.sub_zero]
    cases fnd (fun k => decide (s.1 10 k = st + 1)) (kgN s) 0 <;> rfl
  · have b := w.2.2.2.1 k hk
    have hp := of_decide_eq_false hp
    simp (disch := omega) only [f_X5_kettleOn_L2, ck_one, cl_one, h.n, nI_leE, if_neg (show ¬ kgN s ≤ k by omega), bnd_s, bndC_s, nI_1, m_stv h hn hk, nI_eqE, if_neg hp]
  · have b := w.2.2.2.1 k hk
    have hp := of_decide_eq_true hp
    simp (disch := omega) only [f_X5_kettleOn_L2, ck_one, cl_one, h.n, nI_leE, if_neg (show ¬ kgN s ≤ k by omega), bnd_s, bndC_s, nI_1, m_stv h hn hk, nI_eqE, if_pos hp]
  · simp (disch := omega) only [f_X5_kettleOn_L2, ck_one, cl_one, h.n, nI_leE, Nat.le_refl, if_true]
theorem m_stoveWith (h : RepR (kgRow I 0) s) (w : kgWF s) {pt : Nat} (hpt : pt < 13) : f_X5_stoveWith (nI pt) I = some (onf (fnd (fun k => decide (s.1 10 k ≠ 0) && decide (s.1 7 k = pt)) (kgN s) 0) (fun k => nI (s.1 10 k) - 1) (-1), I) := by
  have hn := w.1
  unfold f_X5_stoveWith
  have := lf (T := fun q k => f_X5_stoveWith_L2 (nI pt) (fun I2 => some ((-1 : Int32), I2)) q (nI k) I) (R := some ((-1 : Int32), I)) (F := fun k => some (nI (s.1 10 k) - 1, I)) (p := fun k => decide (s.1 10 k ≠ 0) && decide (s.1 7 k = pt)) (n := kgN s) (fun q k hk hp => ?_) (fun q k hk hp => ?_) (fun q => ?_) 200 0 (by omega) (by omega)
  · refine this.trans ?_
    rw [Nat.sub_zero]
    cases fnd (fun k => decide (s.1 10 k ≠ 0) && decide (s.1 7 k = pt)) (kgN s) 0 <;> rfl
  · have b := w.2.2.2.1 k hk
    simp only [Bool.and_eq_false_iff, decide_eq_false_iff_not] at hp
    simp (disch := omega) only [f_X5_stoveWith_L2, ck_one, cl_one, h.n, nI_leE, if_neg (show ¬ kgN s ≤ k by omega), bnd_s, bndC_s, nI_1, m_isOn h w hk, b2i_0, m_pit h hn hk, nI_eqE]
    by_cases z : s.1 10 k = 0
    · simp [z]
    · have z2 : ¬ s.1 7 k = pt := by omega
      simp [z, z2]
  · have b := w.2.2.2.1 k hk
    simp only [Bool.and_eq_true, decide_eq_true_eq] at hp
    simp (disch := omega) only [f_X5_stoveWith_L2, ck_one, cl_one, h.n, nI_leE, if_neg (show ¬ kgN s ≤ k by omega), bnd_s, bndC_s, nI_1, m_isOn h w hk, b2i_0, m_pit h hn hk, nI_eqE, m_stv h hn hk, hp.2]
    simp [hp.1]
  · simp (disch := omega) only [f_X5_stoveWith_L2, ck_one, cl_one, h.n, nI_leE, Nat.le_refl, if_true]
/-- how two pitches sound -/
def sd (a b : Nat) : Int32 := kg_snd (if a ≤ b then b - a else a - b)
theorem m_sound {a b : Nat} (ha : a < 13) (hb : b < 13) (h0 : 1 ≤ a ∧ 1 ≤ b) : f_X5_sound (nI a) (nI b) I = some (sd a b, I) := by
  have key : ∀ d, d < 12 → (bndC (f_X5_in (nI d) (3 : Int32) (5 : Int32) I) (fun x1 I1 => (if x1 = 0 then bndC (f_X5_in (nI d) (7 : Int32) (9 : Int32) I1) (fun x2 I2 => (if x2 = 0 then (if nI d = 0 then some ((0 : Int32), I2) else some ((-1 : Int32), I2)) else some ((1 : Int32), I2))) else some ((1 : Int32), I1)))) = some (kg_snd d, I) := by
    intro d hd
    match d, hd with
    | 0, _ => rfl
    | 1, _ => rfl
    | 2, _ => rfl
    | 3, _ => rfl
    | 4, _ => rfl
    | 5, _ => rfl
    | 6, _ => rfl
    | 7, _ => rfl
    | 8, _ => rfl
    | 9, _ => rfl
    | 10, _ => rfl
    | 11, _ => rfl
  unfold f_X5_sound sd
  simp (disch := omega) only [letJ_s, nI_leE]
  by_cases q : b ≤ a
  · rw [if_pos q, nI_sub q, key _ (by omega)]
    by_cases q2 : a ≤ b
    · rw [if_pos q2, show a - b = b - a by omega]
    · rw [if_neg q2]
  · rw [if_neg q, nI_sub (by omega), key _ (by omega), if_pos (by omega)]
end MDL
section CLM
variable {I : kgM} {s : kgS}
theorem c_kettleOn (h : RepG I 1 s) (w : kgWF s) {st : Nat} (hst : st < 6) : f_X3_kettleOn (nI st) I = some (onf (fnd (fun k => decide (s.1 10 k = st + 1)) (kgN s) 0) nI (-1), I) := by
  have hn := w.1
  unfold f_X3_kettleOn
  have := lf (T := fun q k => f_X3_kettleOn_L2 (nI st) (fun I2 => some ((-1 : Int32), I2)) q (nI k) I) (R := some ((-1 : Int32), I)) (F := fun j => some (nI j, I)) (p := fun k => decide (s.1 10 k = st + 1)) (n := kgN s) (fun q k hk hp => ?_) (fun q k hk hp => ?_) (fun q => ?_) 200 0 (by omega) (by omega)
  · refine this.trans ?_
    rw [Nat.sub_zero]
    cases fnd (fun k => decide (s.1 10 k = st + 1)) (kgN s) 0 <;> rfl
  · have b := w.2.2.2.1 k hk
    have hp := of_decide_eq_false hp
    simp (disch := omega) only [f_X3_kettleOn_L2, h.2.1, nI_leE, if_neg (show ¬ kgN s ≤ k by omega), ck_inb, nI_clamp, bnd_s, bndC_s, nI_1, h.stv hk, oc_eq, if_neg hp]
  · have b := w.2.2.2.1 k hk
    have hp := of_decide_eq_true hp
    simp (disch := omega) only [f_X3_kettleOn_L2, h.2.1, nI_leE, if_neg (show ¬ kgN s ≤ k by omega), ck_inb, nI_clamp, bnd_s, bndC_s, nI_1, h.stv hk, oc_eq, if_pos hp]
  · simp (disch := omega) only [f_X3_kettleOn_L2, h.2.1, nI_leE, Nat.le_refl, if_true]
theorem c_stoveWith (h : RepG I 1 s) (w : kgWF s) {pt : Nat} (hpt : pt < 13) : f_X3_stoveWithPitch (nI pt) I = some (onf (fnd (fun k => decide (s.1 10 k ≠ 0) && decide (s.1 7 k = pt)) (kgN s) 0) (fun k => nI (s.1 10 k) - 1) (-1), I) := by
  have hn := w.1
  unfold f_X3_stoveWithPitch
  have := lf (T := fun q k => f_X3_stoveWithPitch_L2 (nI pt) (fun I2 => some ((-1 : Int32), I2)) q (nI k) I) (R := some ((-1 : Int32), I)) (F := fun k => some (nI (s.1 10 k) - 1, I)) (p := fun k => decide (s.1 10 k ≠ 0) && decide (s.1 7 k = pt)) (n := kgN s) (fun q k hk hp => ?_) (fun q k hk hp => ?_) (fun q => ?_) 200 0 (by omega) (by omega)
  · refine this.trans ?_
    rw [Nat.sub_zero]
    cases fnd (fun k => decide (s.1 10 k ≠ 0) && decide (s.1 7 k = pt)) (kgN s) 0 <;> rfl
  · have b := w.2.2.2.1 k hk
    simp only [Bool.and_eq_false_iff, decide_eq_false_iff_not] at hp
    simp (disch := omega) only [f_X3_stoveWithPitch_L2, h.2.1, nI_leE, if_neg (show ¬ kgN s ≤ k by omega), ck_inb, nI_clamp, bnd_s, bndC_s, nI_1, h.stv hk, h.pit hk, nI_eqE, oc_m1]
    by_cases z : s.1 7 k = pt
    · have z2 : s.1 10 k = 0 := by omega
      simp [z, z2]
    · simp [z]
  · have b := w.2.2.2.1 k hk
    simp only [Bool.and_eq_true, decide_eq_true_eq] at hp
    simp (disch := omega) only [f_X3_stoveWithPitch_L2, h.2.1, nI_leE, if_neg (show ¬ kgN s ≤ k by omega), ck_inb, nI_clamp, bnd_s, bndC_s, nI_1, h.stv hk, h.pit hk, nI_eqE, oc_m1, hp.2, if_true, if_neg hp.1]
  · simp (disch := omega) only [f_X3_stoveWithPitch_L2, h.2.1, nI_leE, Nat.le_refl, if_true]
theorem c_soundOf {a b : Nat} (ha : a < 13) (hb : b < 13) (h0 : 1 ≤ a ∧ 1 ≤ b) : f_X4_soundOf (nI a) (nI b) I = some (sd a b, I) := by
  have key : ∀ d, d < 12 → (if nI d < 0 then some ((0 : Int32), I) else (if (12 : Int32) ≤ nI d then some ((0 : Int32), I) else ck (inb (nI d) 12) (some (kg_snd (nI d).toNatClampNeg, I)))) = some (kg_snd d, I) := by
    intro d hd
    simp (disch := omega) only [nI_lt0, l12, nI_leE, if_neg (show ¬ 12 ≤ d by omega), ck_inb, nI_clamp, if_false]
  have t0 : (0 : Int32).toInt = 0 := rfl
  have e := pk_sub_toInt (a := a) (b := b) (by omega) (by omega)
  unfold f_X4_soundOf f_J9_abs_0f7a4 sd
  by_cases q : b ≤ a
  · rw [if_pos (by rw [le_t, e, t0]; omega), bndC_s, nI_sub q, key _ (by omega)]
    by_cases q2 : a ≤ b
    · rw [if_pos q2, show a - b = b - a by omega]
    · rw [if_neg q2]
  · rw [if_neg (by rw [le_t, e, t0]; omega), bndC_s, Int32.neg_sub, nI_sub (by omega), key _ (by omega), if_pos (by omega)]
end CLM
