/-! REASONS, AND WHAT AN ORDER DOES -/
def RepQ (IC IM : kgM) : Prop := ∃ d, d ≤ 3 ∧ IC 168 2 = nI d ∧ IM 177 5 = nI d ∧ ∀ i, i < d → IC 169 i = IM 179 i ∧ IC 170 i = IM 180 i
/-- the reasons told, as a list: both sides -/
def RsC (I : kgM) (l : List (Int32 × Int32)) : Prop := I 168 2 = nI l.length ∧ ∀ i, i < l.length → I 169 i = (l.getD i (0, 0)).1 ∧ I 170 i = (l.getD i (0, 0)).2
def RsM (I : kgM) (l : List (Int32 × Int32)) : Prop := I 177 5 = nI l.length ∧ ∀ i, i < l.length → I 179 i = (l.getD i (0, 0)).1 ∧ I 180 i = (l.getD i (0, 0)).2
theorem RepQ.of {IC IM : kgM} {l : List (Int32 × Int32)} (hl : l.length ≤ 3) (h1 : RsC IC l) (h2 : RsM IM l) : RepQ IC IM := ⟨l.length, hl, h1.1, h2.1, fun i hi => ⟨(h1.2 i hi).1.trans (h2.2 i hi).1.symm, (h1.2 i hi).2.trans (h2.2 i hi).2.symm⟩⟩
theorem RepQ.to {IC IM : kgM} (h : RepQ IC IM) : ∃ l : List (Int32 × Int32), l.length ≤ 3 ∧ RsC IC l ∧ RsM IM l := by
  obtain ⟨d, h1, h2, h3, h4⟩ := h
  refine ⟨(List.range d).map (fun i => (IC 169 i, IC 170 i)), by simpa using h1, ⟨by simpa using h2, fun i hi => ?_⟩, ⟨by simpa using h3, fun i hi => ?_⟩⟩
  · have hi : i < d := by simpa using hi
    simp [hi]
  · have hi : i < d := by simpa using hi
    simp [hi, (h4 i hi).1, (h4 i hi).2]
/-- nothing but the reasons is touched -/
def frQ (I J : kgM) : Prop := ∀ k, k ≠ 168 → k ≠ 169 → k ≠ 170 → J k = I k
theorem i0 : inb (0 : Int32) 3 = true := rfl
theorem i1 : inb ((2 : Int32) + -1) 3 = true := rfl
theorem i2 : inb (2 : Int32) 3 = true := rfl
theorem i21 : inb ((2 : Int32) - 1) 3 = true := rfl
theorem i11 : inb ((2 : Int32) + -1 - 1) 3 = true := rfl
theorem i3 : inb ((1 : Int32)) 3 = true := rfl
theorem i31 : inb ((1 : Int32) - 1) 3 = true := rfl
theorem c_putAhead {I : kgM} {l : List (Int32 × Int32)} (a b : Int32) (hl : l.length ≤ 2) (h : RsC I l) : ∃ J, f_X2_putAhead a b I = some (0, J) ∧ RsC J ((a, b) :: l) ∧ frQ I J := by
  have e : f_X2_putAhead a b I = bndC (f_J9_min_7cf53 (3 : Int32) (I 168 2 + (1 : Int32)) (kgW (kgW (kgW (kgW (kgW (kgW I 169 2 (I 169 1)) 170 2 (I 170 1)) 169 1 (I 169 0)) 170 1 (I 170 0)) 169 0 a) 170 0 b)) (fun x2 I6 => some ((0 : Int32), kgW I6 168 2 x2)) := by
    unfold f_X2_putAhead
    rw [f_X2_putAhead_L2, if_neg (show ¬ (2 : Int32) ≤ 0 by decide), ck_t i21, ck_t i2, bnd_s, ck_t i21, ck_t i2, bnd_s, bnd_s, f_X2_putAhead_L2, if_neg (show ¬ (2 : Int32) + -1 ≤ 0 by decide), ck_t i11, ck_t i1, bnd_s, ck_t i11, ck_t i1, bnd_s, bnd_s, f_X2_putAhead_L2, if_pos (show (2 : Int32) + -1 + -1 ≤ 0 by decide), ck_t i0, bnd_s, ck_t i0, bnd_s]
    simp only [show (2 : Int32).toNatClampNeg = 2 from rfl, show ((2 : Int32) - 1).toNatClampNeg = 1 from rfl, show ((2 : Int32) + -1).toNatClampNeg = 1 from rfl, show ((2 : Int32) + -1 - 1).toNatClampNeg = 0 from rfl, show (0 : Int32).toNatClampNeg = 0 from rfl]
    simp only [bnd_s]
    congr 1
  rw [e, h.1, nI_1]
  unfold f_J9_min_7cf53
  have e3 : (nI (l.length + 1) < (3 : Int32)) = (l.length + 1 < 3) := nI_ltE (b := 3) (by omega) (by omega)
  have e4 : (if nI (l.length + 1) < (3 : Int32) then some (nI (l.length + 1), kgW (kgW (kgW (kgW (kgW (kgW I 169 2 (I 169 1)) 170 2 (I 170 1)) 169 1 (I 169 0)) 170 1 (I 170 0)) 169 0 a) 170 0 b) else some ((3 : Int32), kgW (kgW (kgW (kgW (kgW (kgW I 169 2 (I 169 1)) 170 2 (I 170 1)) 169 1 (I 169 0)) 170 1 (I 170 0)) 169 0 a) 170 0 b)) = some (nI (l.length + 1), kgW (kgW (kgW (kgW (kgW (kgW I 169 2 (I 169 1)) 170 2 (I 170 1)) 169 1 (I 169 0)) 170 1 (I 170 0)) 169 0 a) 170 0 b) := by
    simp only [e3]
    by_cases q : l.length + 1 < 3
    · rw [if_pos q]
    · rw [if_neg q, show l.length + 1 = 3 by omega]; rfl
  rw [e4, bndC_s]
  refine ⟨_, rfl, ⟨?_, fun i hi => ?_⟩, fun k h1 h2 h3 => ?_⟩
  · rw [kgW_r, if_pos ⟨rfl, rfl⟩]; rfl
  · have hi : i < l.length + 1 := hi
    simp only [kgW_r]
    match i, hi with
    | 0, _ => exact ⟨by simp, by simp⟩
    | 1, hi => have := h.2 0 (by omega); exact ⟨by simp [this.1], by simp [this.2]⟩
    | 2, hi => have := h.2 1 (by omega); exact ⟨by simp [this.1], by simp [this.2]⟩
    | i + 3, hi => omega
  · rw [kgW_n _ _ _ h1, kgW_n _ _ _ h3, kgW_n _ _ _ h2, kgW_n _ _ _ h3, kgW_n _ _ _ h2, kgW_n _ _ _ h3, kgW_n _ _ _ h2]
theorem c_refuse {I : kgM} (a b : Int32) : ∃ J, f_X4_refuse a b I = some (-1014, J) ∧ RsC J [(a, b)] ∧ frQ I J := by
  unfold f_X4_refuse
  obtain ⟨J, h1, h2, h3⟩ := c_putAhead (I := kgW I 168 2 0) (l := []) a b (Nat.zero_le _) ⟨by rw [kgW_r, if_pos ⟨rfl, rfl⟩]; rfl, fun i hi => absurd hi (Nat.not_lt_zero _)⟩
  refine ⟨J, by rw [bnd_s, h1, bndC_s], h2, fun k g1 g2 g3 => ?_⟩
  rw [h3 k g1 g2 g3, kgW_n _ _ _ g1]
theorem frQ.trans {I J K : kgM} (h1 : frQ I J) (h2 : frQ J K) : frQ I K := fun k a b c => (h2 k a b c).trans (h1 k a b c)
theorem c_refuseStove {I : kgM} (k a b : Int32) : ∃ J, f_X4_refuseStove k a b I = some (-1014, J) ∧ RsC J [(4, k), (a, b)] ∧ frQ I J := by
  unfold f_X4_refuseStove
  obtain ⟨J, h1, h2, h3⟩ := c_refuse (I := I) a b
  obtain ⟨K, g1, g2, g3⟩ := c_putAhead (I := J) (l := [(a, b)]) 4 k (show 1 ≤ 2 by omega) h2
  exact ⟨K, by rw [h1, bndC_s, g1, bndC_s], g2, h3.trans g3⟩
/-- of the reference nothing but the reasons is touched -/
def frP (I J : kgM) : Prop := (∀ k, k ≠ 177 → k ≠ 179 → k ≠ 180 → J k = I k) ∧ ∀ j, j ≠ 5 → J 177 j = I 177 j
theorem frP.trans {I J K : kgM} (h1 : frP I J) (h2 : frP J K) : frP I K := ⟨fun k a b c => (h2.1 k a b c).trans (h1.1 k a b c), fun j a => (h2.2 j a).trans (h1.2 j a)⟩
theorem frP.rf {I : kgM} : frP I I := ⟨fun _ _ _ _ => rfl, fun _ _ => rfl⟩
theorem m_refuse {I : kgM} (a b : Int32) : ∃ J, f_X5_refuses 1 a b I = some (1, J) ∧ RsM J [(a, b)] ∧ frP I J := by
  unfold f_X5_refuses
  rw [if_neg (show ¬ (1 : Int32) = 0 by decide), ck_t i0, bnd_s, ck_t i0, bnd_s, bnd_s, ck_t (show isz 1 = true from rfl)]
  refine ⟨_, rfl, ⟨by rw [kgW_r, if_pos ⟨rfl, rfl⟩]; rfl, fun i hi => ?_⟩, fun k h1 h2 h3 => ?_, fun j hj => ?_⟩
  · have hi : i < 1 := hi
    have : i = 0 := by omega
    subst this
    simp only [kgW_r]
    exact ⟨by simp [show (0 : Int32).toNatClampNeg = 0 from rfl], by simp [show (0 : Int32).toNatClampNeg = 0 from rfl]⟩
  · rw [kgW_n _ _ _ h1, kgW_n _ _ _ h3, kgW_n _ _ _ h2]
  · rw [kgW_r, if_neg (by omega), kgW_n _ _ _ (by decide), kgW_n _ _ _ (by decide)]
theorem m_refuse0 {I : kgM} (a b : Int32) : f_X5_refuses 0 a b I = some (0, I) := by
  unfold f_X5_refuses
  rw [if_pos rfl, ck_t (show isz 0 = true from rfl)]
theorem m_causes {I : kgM} {l : List (Int32 × Int32)} (a b : Int32) (hl : l.length ≤ 2) (h : RsM I l) : ∃ J, f_X5_causes a b I = some (0, J) ∧ RsM J ((a, b) :: l) ∧ frP I J := by
  unfold f_X5_causes
  rw [bnd_s, h.1]
  have hd : l.length = 0 ∨ l.length = 1 ∨ l.length = 2 := by omega
  have fin : ∀ J : kgM, J 177 5 = nI l.length → (∀ i, i < l.length → J 179 (i + 1) = (l.getD i (0, 0)).1 ∧ J 180 (i + 1) = (l.getD i (0, 0)).2) → frP I J → ∃ K, (ck (inb (0 : Int32) 3) (bnd (kgW J 179 (0 : Int32).toNatClampNeg a) (fun I4 => ck (inb (0 : Int32) 3) (bnd (kgW I4 180 (0 : Int32).toNatClampNeg b) (fun I5 => bnd (kgW I5 177 5 ((I5 177 5) + (1 : Int32))) (fun I6 => some ((0 : Int32), I6))))))) = some (0, K) ∧ RsM K ((a, b) :: l) ∧ frP I K := by
    intro J g1 g2 g3
    rw [ck_t i0, bnd_s, ck_t i0, bnd_s, bnd_s]
    refine ⟨_, rfl, ⟨?_, fun i hi => ?_⟩, fun k h1 h2 h3 => ?_, fun j hj => ?_⟩
    · rw [kgW_r, if_pos ⟨rfl, rfl⟩]
      simp only [kgW_r]
      simp [g1, nI_1]
    · have hi : i < l.length + 1 := hi
      simp only [kgW_r]
      match i, hi with
      | 0, _ => exact ⟨by simp [show (0 : Int32).toNatClampNeg = 0 from rfl], by simp [show (0 : Int32).toNatClampNeg = 0 from rfl]⟩
      | i + 1, hi => have := g2 i (by omega); exact ⟨by simp [show (0 : Int32).toNatClampNeg = 0 from rfl, this.1], by simp [show (0 : Int32).toNatClampNeg = 0 from rfl, this.2]⟩
    · rw [kgW_n _ _ _ h1, kgW_n _ _ _ h3, kgW_n _ _ _ h2]; exact g3.1 k h1 h2 h3
    · rw [kgW_r, if_neg (by omega), kgW_n _ _ _ (by decide), kgW_n _ _ _ (by decide)]; exact g3.2 j hj
  rcases hd with e | e | e
  · rw [e, show nI 0 = (0 : Int32) from rfl]
    rw [f_X5_causes_L5, if_pos (Int32.le_refl _)]
    exact fin I h.1 (fun i hi => by omega) frP.rf
  · rw [e, show nI 1 = (1 : Int32) from rfl]
    rw [f_X5_causes_L5, if_neg (show ¬ (1 : Int32) ≤ 0 by decide), ck_t i31, ck_t i3, bnd_s, ck_t i31, ck_t i3, bnd_s, bnd_s, f_X5_causes_L5, if_pos (show (1 : Int32) + -1 ≤ 0 by decide)]
    refine fin _ ?_ (fun i hi => ?_) ⟨fun k h1 h2 h3 => ?_, fun j hj => ?_⟩
    · rw [kgW_n _ _ _ (by decide), kgW_n _ _ _ (by decide)]; exact h.1
    · have : i = 0 := by omega
      subst this
      have := h.2 0 (by omega)
      simp only [kgW_r]
      exact ⟨by simp [show (1 : Int32).toNatClampNeg = 1 from rfl, show ((1 : Int32) - 1).toNatClampNeg = 0 from rfl, this.1], by simp [show (1 : Int32).toNatClampNeg = 1 from rfl, show ((1 : Int32) - 1).toNatClampNeg = 0 from rfl, this.2]⟩
    · rw [kgW_n _ _ _ h3, kgW_n _ _ _ h2]
    · rw [kgW_n _ _ _ (by decide), kgW_n _ _ _ (by decide)]
  · rw [e, show nI 2 = (2 : Int32) from rfl]
    rw [f_X5_causes_L5, if_neg (show ¬ (2 : Int32) ≤ 0 by decide), ck_t i21, ck_t i2, bnd_s, ck_t i21, ck_t i2, bnd_s, bnd_s, f_X5_causes_L5, if_neg (show ¬ (2 : Int32) + -1 ≤ 0 by decide), ck_t i11, ck_t i1, bnd_s, ck_t i11, ck_t i1, bnd_s, bnd_s, f_X5_causes_L5, if_pos (show (2 : Int32) + -1 + -1 ≤ 0 by decide)]
    refine fin _ ?_ (fun i hi => ?_) ⟨fun k h1 h2 h3 => ?_, fun j hj => ?_⟩
    · rw [kgW_n _ _ _ (by decide), kgW_n _ _ _ (by decide), kgW_n _ _ _ (by decide), kgW_n _ _ _ (by decide)]; exact h.1
    · have q0 := h.2 0 (by omega)
      have q1 := h.2 1 (by omega)
      simp only [kgW_r, show (2 : Int32).toNatClampNeg = 2 from rfl, show ((2 : Int32) - 1).toNatClampNeg = 1 from rfl, show ((2 : Int32) + -1).toNatClampNeg = 1 from rfl, show ((2 : Int32) + -1 - 1).toNatClampNeg = 0 from rfl]
      match i, hi with
      | 0, _ => exact ⟨by simp [q0.1], by simp [q0.2]⟩
      | 1, _ => exact ⟨by simp [q1.1], by simp [q1.2]⟩
      | i + 2, hi => omega
    · rw [kgW_n _ _ _ h3, kgW_n _ _ _ h2, kgW_n _ _ _ h3, kgW_n _ _ _ h2]
    · rw [kgW_n _ _ _ (by decide), kgW_n _ _ _ (by decide), kgW_n _ _ _ (by decide), kgW_n _ _ _ (by decide)]

