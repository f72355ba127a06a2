/-! the pitch that fits best -/
def fM (m p : Nat) : Int32 := smI 13 (fun i => if m.testBit i = true then (if i = p then -100 else sd p i) else 0)
theorem sdI (a b : Nat) (ha : a < 13) (hb : b < 13) : bdd 1 (sd a b) := by
  unfold sd
  have : ∀ d, d < 13 → bdd 1 (kg_snd d) := fun d hd => by
    by_cases h : d < 12
    · rcases sd_bdd d h with h | h | h <;> rw [h] <;> exact ⟨by decide, by decide⟩
    · rw [show d = 12 by omega]; exact ⟨by decide, by decide⟩
  split <;> exact this _ (by omega)
theorem fitI_b {m p : Nat} (hp : p < 13) : bdd 13 (fitI m p) := by
  have := bdd_sm (n := 13) (b := 1) (f := fun i => if m.testBit i = true then sd i p else 0) (fun k hk => by
    show bdd 1 (if m.testBit k = true then sd k p else 0)
    split
    · exact sdI _ _ hk hp
    · exact bdd_0 (by decide)) (by decide)
  exact this
theorem fM_free {m p : Nat} (h : m.testBit p = false) : fM m p = fitI m p := by
  unfold fM fitI
  refine smI_congr (fun i _ => ?_)
  by_cases c : m.testBit i = true
  · rw [if_pos c, if_pos c, if_neg (fun e => by rw [e, h] at c; exact absurd c (by decide)), sd_comm]
  · rw [if_neg c, if_neg c]
theorem fM_in {m p : Nat} (hp : p < 13) (h : m.testBit p = true) : (fM m p).toInt ≤ -87 := by
  have e := smI_upd (n := 13) (i := p) (f := fun i => if m.testBit i = true then (if i = p then -100 else sd p i) else 0) (g := fun i => if m.testBit i = true then (if i = p then 0 else sd p i) else 0) hp (fun k _ hne => by
    show (if m.testBit k = true then (if k = p then -100 else sd p k) else 0) = (if m.testBit k = true then (if k = p then 0 else sd p k) else 0)
    rw [if_neg hne, if_neg hne])
  rw [if_pos h, if_pos rfl, if_pos h, if_pos rfl, Int32.add_zero] at e
  have b := bdd_sm (n := 13) (b := 1) (f := fun i => if m.testBit i = true then (if i = p then 0 else sd p i) else 0) (fun k hk => by
    show bdd 1 (if m.testBit k = true then (if k = p then 0 else sd p k) else 0)
    split
    · split
      · exact bdd_0 (by decide)
      · exact sdI _ _ hp hk
    · exact bdd_0 (by decide)) (by decide)
  have b1 : (smI 13 (fun i => if m.testBit i = true then (if i = p then 0 else sd p i) else 0)).toInt ≤ 13 := b.2
  have b2 : -13 ≤ (smI 13 (fun i => if m.testBit i = true then (if i = p then 0 else sd p i) else 0)).toInt := b.1
  show (smI 13 _).toInt ≤ -87
  rw [e, Int32.toInt_add, show (-100 : Int32).toInt = -100 from by decide, Int.bmod_eq_of_le (by omega) (by omega)]
  omega
section BEST
variable {I : kgM} {s : kgS}
theorem c_fitOf {m p : Nat} (hm : m < 8192) (hm0 : m.testBit 0 = false) (hp : 1 ≤ p) (hp2 : p < 13) : f_X4_fitOf (nI p) (nI m) I = some (fitI m p, I) := by
  have e13 : fitI m p = smI 12 (fun i => if m.testBit (i + 1) = true then sd (i + 1) p else 0) := by
    unfold fitI
    rw [show (13 : Nat) = 1 + 12 from rfl, smI_split]
    show (0 + (if m.testBit 0 = true then sd 0 p else 0)) + _ = _
    rw [hm0, if_neg (by decide), Int32.add_zero, Int32.zero_add]
    exact smI_congr (fun i _ => by rw [Nat.add_comm 1 i])
  unfold f_X4_fitOf
  rw [e13]
  refine lp (T := fun q k => f_X4_fitOf_L4 (nI p) (nI m) (fun x6 I3 => some (x6, I3)) q (smI (k - 1) (fun i => if m.testBit (i + 1) = true then sd (i + 1) p else 0)) (nI k) I) (R := some (smI 12 (fun i => if m.testBit (i + 1) = true then sd (i + 1) p else 0), I)) (n := 13) (k0 := 1) (fun q k h1 hk => ?_) (fun q => ?_) 200 1 (by omega) (by omega) (by omega)
  · obtain ⟨d, rfl⟩ : ∃ d, k = d + 1 := ⟨k - 1, by omega⟩
    show f_X4_fitOf_L4 (nI p) (nI m) _ (q + 1) (smI d _) (nI (d + 1)) I = f_X4_fitOf_L4 (nI p) (nI m) _ q (smI d (fun i => if m.testBit (i + 1) = true then sd (i + 1) p else 0) + (if m.testBit (d + 1) = true then sd (d + 1) p else 0)) (nI (d + 1 + 1)) I
    rw [f_X4_fitOf_L4, if_neg (show ¬ (12 : Int32) < nI (d + 1) from nI_nlt (a := 12) (by omega) (by omega)), c_isIn (by omega) (by omega), bndC_s]
    cases c : m.testBit (d + 1) with
    | false => rw [b2i_f, if_pos (show (0 : Int32) = 0 from rfl), bnd_s, nI_1, if_neg (show ¬ false = true by decide), Int32.add_zero]
    | true => rw [b2i_t, if_neg (show ¬ (1 : Int32) = 0 by decide), c_soundOf (by omega) (by omega) (by omega), bndC_s, bnd_s, bnd_s, nI_1, if_pos rfl, sd_comm]
  · show f_X4_fitOf_L4 (nI p) (nI m) _ (q + 1) _ (nI 13) I = _
    rw [f_X4_fitOf_L4, if_pos (show (12 : Int32) < nI 13 from nI_lt (a := 12) (by omega) (by omega))]
theorem m_fits (hR : RepR (kgRow I 0) s) (w : kgWF s) {p : Nat} (hp : 1 ≤ p) (hp2 : p < 13) : f_X5_fits (nI p) I = some (fM (wP s) p, I) := by
  have hn := w.1
  have e : fM (wP s) p = smI (kgN s) (fun k => if wh s k = true then (if s.1 7 k = p then -100 else sd p (s.1 7 k)) else 0) := (sum_bits (n := kgN s) (p := wh s) (f := s.1 7) (F := fun i => if i = p then -100 else sd p i) (fun k hk _ => (w.2.2.2.1 k hk).2.2.1) (wf_dist w)).symm
  unfold f_X5_fits
  rw [e]
  refine lp (T := fun q k => f_X5_fits_L4 (nI p) (fun x11 I5 => some (x11, I5)) q (smI k (fun k => if wh s k = true then (if s.1 7 k = p then -100 else sd p (s.1 7 k)) else 0)) (nI k) I) (R := some (smI (kgN s) (fun k => if wh s k = true then (if s.1 7 k = p then -100 else sd p (s.1 7 k)) else 0), I)) (n := kgN s) (k0 := 0) (fun q k _ hk => ?_) (fun q => ?_) 200 0 (by omega) (by omega) (by omega)
  · have b := w.2.2.2.1 k hk
    show f_X5_fits_L4 (nI p) _ (q + 1) _ (nI k) I = f_X5_fits_L4 (nI p) _ q (smI k (fun k => if wh s k = true then (if s.1 7 k = p then -100 else sd p (s.1 7 k)) else 0) + (if wh s k = true then (if s.1 7 k = p then -100 else sd p (s.1 7 k)) else 0)) (nI (k + 1)) I
    rw [f_X5_fits_L4, ck_one, cl_one, hR.n, if_neg (nI_ge hk (by omega)), m_whistles hR w hk, bndC_s]
    cases hw : wh s k with
    | false => rw [b2i_f, if_pos (show (0 : Int32) = 0 from rfl), bnd_s, bnd_s, nI_1, if_neg (show ¬ false = true by decide)]
    | true =>
      rw [b2i_t, if_neg (show ¬ (1 : Int32) = 0 by decide), m_pit hR hn hk, bndC_s, if_pos (show true = true from rfl)]
      by_cases c : s.1 7 k = p
      · rw [if_pos (show nI (s.1 7 k) = nI p by rw [c]), bnd_s, bnd_s, nI_1, if_pos c]
      · rw [if_neg (show ¬ nI (s.1 7 k) = nI p from fun h => c ((nI_eq (by omega) (by omega)).mp h)), m_pit hR hn hk, bndC_s, m_sound (by omega) (by omega) (by omega), bndC_s, bnd_s, bnd_s, nI_1, if_neg c]
  · show f_X5_fits_L4 (nI p) _ (q + 1) _ (nI (kgN s)) I = _
    rw [f_X5_fits_L4, ck_one, cl_one, hR.n, if_pos (Int32.le_refl _)]
/-- the two choices, step by step -/
def bC (m : Nat) : Nat → Int32 × Int32
  | 0 => (-1, 0)
  | p + 1 => if m.testBit (p + 1) = true then bC m p else if (bC m p).1 = -1 then (nI (p + 1), fitI m (p + 1)) else if fitI m (p + 1) ≤ (bC m p).2 then bC m p else (nI (p + 1), fitI m (p + 1))
def bM (m : Nat) : Nat → Nat
  | 0 => 1
  | p + 1 => if fM m (p + 1) ≤ fM m (bM m p) then bM m p else p + 1
theorem c_best (hG : RepG I 1 s) (w : kgWF s) : f_X4_bestPitch I = some ((bC (wP s) 12).1, I) := by
  have hl := wP_lt w
  have h0 : (wP s).testBit 0 = false := by
    cases h : (wP s).testBit 0 with
    | false => rfl
    | true =>
      obtain ⟨k, h1, h2, h3⟩ := orf_bit.mp h
      have := (w.2.2.2.1 k h1).2.1
      omega
  unfold f_X4_bestPitch
  rw [c_whistledPitches hG w, bndC_s]
  refine lp (T := fun q k => f_X4_bestPitch_L15 (nI (wP s)) (fun x8 I4 => some (x8, I4)) q (bC (wP s) (k - 1)).1 (bC (wP s) (k - 1)).2 (nI k) I) (R := some ((bC (wP s) 12).1, I)) (n := 13) (k0 := 1) (fun q k h1 hk => ?_) (fun q => ?_) 200 1 (by omega) (by omega) (by omega)
  · obtain ⟨d, rfl⟩ : ∃ d, k = d + 1 := ⟨k - 1, by omega⟩
    show f_X4_bestPitch_L15 (nI (wP s)) _ (q + 1) (bC (wP s) d).1 (bC (wP s) d).2 (nI (d + 1)) I = f_X4_bestPitch_L15 (nI (wP s)) _ q (bC (wP s) (d + 1)).1 (bC (wP s) (d + 1)).2 (nI (d + 1 + 1)) I
    rw [f_X4_bestPitch_L15, if_neg (show ¬ (12 : Int32) < nI (d + 1) from nI_nlt (a := 12) (by omega) (by omega)), c_fitOf hl h0 (by omega) (by omega), bndC_s, c_isIn (by omega) (by omega), bndC_s]
    show _ = f_X4_bestPitch_L15 (nI (wP s)) _ q (if (wP s).testBit (d + 1) = true then bC (wP s) d else if (bC (wP s) d).1 = -1 then (nI (d + 1), fitI (wP s) (d + 1)) else if fitI (wP s) (d + 1) ≤ (bC (wP s) d).2 then bC (wP s) d else (nI (d + 1), fitI (wP s) (d + 1))).1 (if (wP s).testBit (d + 1) = true then bC (wP s) d else if (bC (wP s) d).1 = -1 then (nI (d + 1), fitI (wP s) (d + 1)) else if fitI (wP s) (d + 1) ≤ (bC (wP s) d).2 then bC (wP s) d else (nI (d + 1), fitI (wP s) (d + 1))).2 (nI (d + 1 + 1)) I
    cases c : (wP s).testBit (d + 1) with
    | true => rw [b2i_t, if_neg (show ¬ (1 : Int32) = 0 by decide), bnd_s, nI_1, if_pos rfl]
    | false =>
      rw [b2i_f, if_pos (show (0 : Int32) = 0 from rfl), if_neg (show ¬ false = true by decide)]
      by_cases c2 : (bC (wP s) d).1 = -1
      · rw [if_pos c2, if_pos c2, bnd_s, nI_1]
      · rw [if_neg c2, if_neg c2]
        by_cases c3 : fitI (wP s) (d + 1) ≤ (bC (wP s) d).2
        · rw [if_pos c3, if_pos c3, bnd_s, nI_1]
        · rw [if_neg c3, if_neg c3, bnd_s, nI_1]
  · show f_X4_bestPitch_L15 (nI (wP s)) _ (q + 1) _ _ (nI 13) I = _
    rw [f_X4_bestPitch_L15, if_pos (show (12 : Int32) < nI 13 from nI_lt (a := 12) (by omega) (by omega))]
theorem bM_in (m p : Nat) : 1 ≤ bM m p ∧ (bM m p ≤ p ∨ bM m p = 1) := by
  induction p with
  | zero => exact ⟨Nat.le_refl _, Or.inr rfl⟩
  | succ p ih =>
    show 1 ≤ (if fM m (p + 1) ≤ fM m (bM m p) then bM m p else p + 1) ∧ _
    show 1 ≤ (if fM m (p + 1) ≤ fM m (bM m p) then bM m p else p + 1) ∧ ((if fM m (p + 1) ≤ fM m (bM m p) then bM m p else p + 1) ≤ p + 1 ∨ (if fM m (p + 1) ≤ fM m (bM m p) then bM m p else p + 1) = 1)
    split <;> omega
theorem m_best (hR : RepR (kgRow I 0) s) (w : kgWF s) : f_X5_bestPitch I = some (nI (bM (wP s) 12), I) := by
  have e1 : bM (wP s) 1 = 1 := by
    show (if fM (wP s) 1 ≤ fM (wP s) 1 then 1 else 1) = 1
    rw [if_pos (Int32.le_refl _)]
  unfold f_X5_bestPitch
  have h : f_X5_bestPitch_L4 (fun x5 I3 => some (x5, I3)) 200 (nI (bM (wP s) (2 - 1))) (nI 2) I = some (nI (bM (wP s) 12), I) := by
    refine lp (T := fun q k => f_X5_bestPitch_L4 (fun x5 I3 => some (x5, I3)) q (nI (bM (wP s) (k - 1))) (nI k) I) (R := some (nI (bM (wP s) 12), I)) (n := 13) (k0 := 2) (fun q k h1 hk => ?_) (fun q => ?_) 200 2 (by omega) (by omega) (by omega)
    · obtain ⟨d, rfl⟩ : ∃ d, k = d + 1 := ⟨k - 1, by omega⟩
      have hb := bM_in (wP s) d
      show f_X5_bestPitch_L4 _ (q + 1) (nI (bM (wP s) d)) (nI (d + 1)) I = f_X5_bestPitch_L4 _ q (nI (if fM (wP s) (d + 1) ≤ fM (wP s) (bM (wP s) d) then bM (wP s) d else d + 1)) (nI (d + 1 + 1)) I
      rw [f_X5_bestPitch_L4, if_neg (show ¬ (13 : Int32) ≤ nI (d + 1) from nI_ge (b := 13) hk (by omega)), m_fits hR w (by omega) (by omega), bndC_s, m_fits hR w (by omega) (by omega), bndC_s]
      by_cases c : fM (wP s) (d + 1) ≤ fM (wP s) (bM (wP s) d)
      · rw [if_pos c, if_pos c, bnd_s, nI_1]
      · rw [if_neg c, if_neg c, bnd_s, nI_1]
    · show f_X5_bestPitch_L4 _ (q + 1) _ (nI 13) I = _
      rw [f_X5_bestPitch_L4, if_pos (show (13 : Int32) ≤ nI 13 from Int32.le_refl _)]
  rw [show (2 - 1 : Nat) = 1 from rfl, e1] at h
  exact h
end BEST
/-- what both choices have in common -/
theorem best_rel (m : Nat) : ∀ p, p < 13 → ((bC m p).1 = -1 ∧ (∀ i, 1 ≤ i → i ≤ p → m.testBit i = true)) ∨ (∃ b, 1 ≤ b ∧ b ≤ p ∧ m.testBit b = false ∧ (bC m p).1 = nI b ∧ (bC m p).2 = fitI m b ∧ bM m p = b) := by
  intro p
  induction p with
  | zero => intro _; exact Or.inl ⟨rfl, fun i h1 h2 => by omega⟩
  | succ p ih =>
    intro hp
    have hbm := bM_in m p
    have eC : bC m (p + 1) = if m.testBit (p + 1) = true then bC m p else if (bC m p).1 = -1 then (nI (p + 1), fitI m (p + 1)) else if fitI m (p + 1) ≤ (bC m p).2 then bC m p else (nI (p + 1), fitI m (p + 1)) := rfl
    have eM : bM m (p + 1) = if fM m (p + 1) ≤ fM m (bM m p) then bM m p else p + 1 := rfl
    cases c : m.testBit (p + 1) with
    | true =>
      rw [c, if_pos rfl] at eC
      rcases ih (by omega) with ⟨h1, h2⟩ | ⟨b, h1, h2, h3, h4, h5, h6⟩
      · refine Or.inl ⟨by rw [eC]; exact h1, fun i i1 i2 => ?_⟩
        by_cases e : i = p + 1
        · rw [e]; exact c
        · exact h2 i i1 (by omega)
      · refine Or.inr ⟨b, h1, by omega, h3, by rw [eC]; exact h4, by rw [eC]; exact h5, ?_⟩
        have f1 := fM_in (m := m) (p := p + 1) (by omega) c
        have f2 := (fitI_b (m := m) (p := b) (by omega)).1
        rw [eM, h6, fM_free h3, if_pos (by rw [le_t]; omega)]
    | false =>
      rw [c, if_neg (by decide)] at eC
      have f0 := fM_free (m := m) (p := p + 1) c
      have fb := (fitI_b (m := m) (p := p + 1) (by omega)).1
      rcases ih (by omega) with ⟨h1, h2⟩ | ⟨b, h1, h2, h3, h4, h5, h6⟩
      · rw [if_pos h1] at eC
        refine Or.inr ⟨p + 1, by omega, by omega, c, by rw [eC], by rw [eC], ?_⟩
        by_cases e0 : p = 0
        · subst e0
          rw [eM, show bM m 0 = 1 from rfl, if_pos (Int32.le_refl _)]
        · have hin : m.testBit (bM m p) = true := h2 _ hbm.1 (by omega)
          have f1 := fM_in (m := m) (p := bM m p) (by omega) hin
          rw [eM, f0, if_neg (by rw [le_t]; omega)]
      · rw [if_neg (by rw [h4]; exact of_eq_false (nI_m1 (by omega))), h5] at eC
        by_cases c3 : fitI m (p + 1) ≤ fitI m b
        · rw [if_pos c3] at eC
          exact Or.inr ⟨b, h1, by omega, h3, by rw [eC]; exact h4, by rw [eC]; exact h5, by rw [eM, h6, f0, fM_free h3, if_pos c3]⟩
        · rw [if_neg c3] at eC
          exact Or.inr ⟨p + 1, by omega, by omega, c, by rw [eC], by rw [eC], by rw [eM, h6, f0, fM_free h3, if_neg c3]⟩
/-- twelve pitches are more than ten kettles -/
theorem orf_cnt {n : Nat} {p : Nat → Bool} {f : Nat → Nat} : cnt 13 (fun i => (orf n p f).testBit i) ≤ n := by
  induction n with
  | zero =>
    have : cnt 13 (fun i => (orf 0 p f).testBit i) = cnt 13 (fun _ => false) := cnt_congr (fun i _ => by show (0 : Nat).testBit i = false; simp)
    rw [this]; decide
  | succ n ih =>
    by_cases q : p n = true
    · have bit : ∀ i, (orf (n + 1) p f).testBit i = ((orf n p f).testBit i || decide (f n = i)) := fun i => by
        show (orf n p f ||| (if p n = true then 2 ^ f n else 0)).testBit i = _
        rw [if_pos q, Nat.testBit_or, Nat.testBit_two_pow]
      by_cases hf : f n < 13
      · have := cnt_upd (n := 13) (i := f n) (p := fun i => (orf (n + 1) p f).testBit i) (q := fun i => (orf n p f).testBit i) hf (fun k _ hne => by
          show (orf (n + 1) p f).testBit k = _
          rw [bit, decide_eq_false (Ne.symm hne), Bool.or_false])
        split at this <;> split at this <;> omega
      · have : cnt 13 (fun i => (orf (n + 1) p f).testBit i) = cnt 13 (fun i => (orf n p f).testBit i) := cnt_congr (fun i hi => by rw [bit, decide_eq_false (show ¬ f n = i by omega), Bool.or_false])
        omega
    · have : cnt 13 (fun i => (orf (n + 1) p f).testBit i) = cnt 13 (fun i => (orf n p f).testBit i) := cnt_congr (fun i hi => by
        show (orf n p f ||| (if p n = true then 2 ^ f n else 0)).testBit i = _
        rw [if_neg q, Nat.or_zero])
      omega
theorem best_eq {s : kgS} (w : kgWF s) : (bC (wP s) 12).1 = nI (bM (wP s) 12) := by
  rcases best_rel (wP s) 12 (by omega) with ⟨h1, h2⟩ | ⟨b, h1, h2, h3, h4, h5, h6⟩
  · exfalso
    have hn := w.1
    have hc : cnt 13 (fun i => (wP s).testBit i) ≤ kgN s := orf_cnt
    have h0 : cnt 13 (fun i => (wP s).testBit i) = cnt 13 (fun i => decide (1 ≤ i) || (wP s).testBit 0) := cnt_congr (fun i hi => by
      by_cases e : 1 ≤ i
      · rw [h2 i e (by omega), decide_eq_true e, Bool.true_or]
      · rw [show i = 0 by omega]; rfl)
    have h12 : ∀ b : Bool, 12 ≤ cnt 13 (fun i => decide (1 ≤ i) || b) := by decide
    have := h12 ((wP s).testBit 0)
    omega
  · rw [h4, h6]
