def fitI (m j : Nat) : Int32 := smI 13 (fun i => if m.testBit i = true then sd i j else 0)
def hBN (N m : Nat) : Int32 := smI N (fun b => smI N (fun a => if a < b ∧ (m.testBit a && m.testBit b) = true then sd a b else 0))
theorem hBN_add {N m j : Nat} (hj : j < N) (h : m.testBit j = false) : hBN N (m ||| 2 ^ j) = hBN N m + smI N (fun i => if m.testBit i = true then sd i j else 0) := by
  have bit : ∀ i, (m ||| 2 ^ j).testBit i = (m.testBit i || decide (j = i)) := fun i => by rw [Nat.testBit_or, Nat.testBit_two_pow]
  have col : ∀ b, b < N → smI N (fun a => if a < b ∧ ((m ||| 2 ^ j).testBit a && (m ||| 2 ^ j).testBit b) = true then sd a b else 0) = smI N (fun a => if a < b ∧ (m.testBit a && m.testBit b) = true then sd a b else 0) + (if b = j then smI N (fun a => if a < j ∧ m.testBit a = true then sd a j else 0) else if j < b ∧ m.testBit b = true then sd j b else 0) := by
    intro b hb
    by_cases e : b = j
    · subst e
      rw [if_pos rfl, smI_0 (f := fun a => if a < b ∧ (m.testBit a && m.testBit b) = true then sd a b else 0) (fun a _ => if_neg (fun z => by rw [h, Bool.and_false] at z; exact absurd z.2 (by decide))), Int32.zero_add]
      refine smI_congr (fun a _ => ?_)
      rw [bit, bit, decide_eq_true rfl, Bool.or_true, Bool.and_true]
      by_cases c : a < b
      · rw [decide_eq_false (show ¬ b = a by omega), Bool.or_false]
      · rw [if_neg (fun z => c z.1), if_neg (fun z => c z.1)]
    · rw [if_neg e]
      have := smI_upd (n := N) (i := j) (f := fun a => if a < b ∧ ((m ||| 2 ^ j).testBit a && (m ||| 2 ^ j).testBit b) = true then sd a b else 0) (g := fun a => if a < b ∧ (m.testBit a && m.testBit b) = true then sd a b else 0) hj (fun a _ hne => by
        show (if a < b ∧ ((m ||| 2 ^ j).testBit a && (m ||| 2 ^ j).testBit b) = true then sd a b else 0) = _
        rw [bit, bit, decide_eq_false (Ne.symm hne), decide_eq_false (Ne.symm e), Bool.or_false, Bool.or_false])
      rw [show (if j < b ∧ (m.testBit j && m.testBit b) = true then sd j b else 0) = 0 from if_neg (fun z => by rw [h, Bool.false_and] at z; exact absurd z.2 (by decide)), Int32.add_zero] at this
      rw [this]
      congr 1
      show (if j < b ∧ ((m ||| 2 ^ j).testBit j && (m ||| 2 ^ j).testBit b) = true then sd j b else 0) = _
      rw [bit, bit, decide_eq_true rfl, Bool.or_true, decide_eq_false (Ne.symm e), Bool.or_false, Bool.true_and]
  unfold hBN
  rw [smI_congr col, smI_add]
  congr 1
  have two := smI_upd (n := N) (i := j) (f := fun b => if b = j then smI N (fun a => if a < j ∧ m.testBit a = true then sd a j else 0) else if j < b ∧ m.testBit b = true then sd j b else 0) (g := fun b => if j < b ∧ m.testBit b = true then sd j b else 0) hj (fun b _ hne => if_neg hne)
  rw [show (if j < j ∧ m.testBit j = true then sd j j else 0) = 0 from if_neg (by omega), Int32.add_zero, if_pos (show j = j from rfl)] at two
  rw [two, ← smI_add]
  refine smI_congr (fun i _ => ?_)
  by_cases c : m.testBit i = true
  · rw [if_pos c]
    by_cases c1 : i < j
    · rw [if_neg (by omega), if_pos ⟨c1, c⟩, Int32.zero_add]
    · by_cases c2 : j < i
      · rw [if_pos ⟨c2, c⟩, if_neg (fun z => c1 z.1), Int32.add_zero, sd_comm]
      · have : i = j := by omega
        subst this
        rw [h] at c; exact absurd c (by decide)
  · rw [if_neg (fun z => c z.2), if_neg (fun z => c z.2), if_neg c]; rfl
theorem hB_add {m j : Nat} (hj : j < 13) (h : m.testBit j = false) : hB (m ||| 2 ^ j) = hB m + fitI m j := hBN_add (N := 13) hj h
theorem wf_dist {s : kgS} (w : kgWF s) : ∀ j k, j < k → k < kgN s → wh s j = true → wh s k = true → s.1 7 j ≠ s.1 7 k := by
  intro j k h1 h2 h3 h4
  have on : ∀ i, wh s i = true → s.1 10 i ≠ 0 := fun i hi z => by
    unfold wh bo at hi
    rw [Bool.and_eq_true, Bool.and_eq_true, decide_eq_true_eq] at hi
    have := hi.1.1
    unfold hU at this
    rw [if_pos z] at this
    omega
  exact (w.2.2.2.2.1 j k h1 h2 (on j h3) (on k h4)).2
theorem hv_hB {s : kgS} (w : kgWF s) : hvS s = hB (wP s) := by
  have key : ∀ n, n ≤ kgN s → smI n (fun b => smI (kgN s) (fun a => gF s a b)) = hB (orf n (wh s) (s.1 7)) := by
    intro n
    induction n with
    | zero =>
      intro _
      show 0 = hB 0
      unfold hB
      exact (smI_0 (fun b _ => smI_0 (fun a _ => if_neg (by simp)))).symm
    | succ n ih =>
      intro hn
      have hp : ∀ k, k < kgN s → s.1 7 k < 13 := fun k hk => (w.2.2.2.1 k hk).2.2.1
      show smI n _ + smI (kgN s) (fun a => gF s a n) = hB (orf n (wh s) (s.1 7) ||| (if wh s n = true then 2 ^ s.1 7 n else 0))
      rw [ih (by omega), smI_ext (n := kgN s) (k := n) (by omega) (fun a h1 h2 => gF_0 h1)]
      by_cases q : wh s n = true
      · have hnot : (orf n (wh s) (s.1 7)).testBit (s.1 7 n) = false := by
          cases h : (orf n (wh s) (s.1 7)).testBit (s.1 7 n) with
          | false => rfl
          | true =>
            obtain ⟨k, h1, h2, h3⟩ := orf_bit.mp h
            exact absurd h3 (wf_dist w k n h1 (by omega) h2 q)
        rw [if_pos q, hB_add (hp n (by omega)) hnot]
        congr 1
        unfold fitI
        rw [← sum_bits (n := n) (p := wh s) (f := s.1 7) (F := fun i => sd i (s.1 7 n)) (fun k hk _ => hp k (by omega)) (fun j k h1 h2 => wf_dist w j k h1 (by omega))]
        refine smI_congr (fun a ha => ?_)
        show (if a < n then vv s a n else 0) = _
        rw [if_pos ha]
        unfold vv
        rw [q, Bool.and_true]
      · rw [if_neg q, Nat.or_zero, smI_0 (fun a ha => by
          show (if a < n then vv s a n else 0) = 0
          rw [if_pos ha, vv_0 (by rw [Bool.not_eq_true] at q; rw [q, Bool.and_false])]), Int32.add_zero]
  exact key (kgN s) (Nat.le_refl _)
theorem smI_split {x k : Nat} {f : Nat → Int32} : smI (x + k) f = smI x f + smI k (fun i => f (x + i)) := by
  induction k with
  | zero => exact (Int32.add_zero _).symm
  | succ k ih => show smI (x + k) f + f (x + k) = _ + (smI k _ + f (x + k)); rw [ih, Int32.add_assoc]
theorem mul_cnt {n : Nat} {c : Int32} {p : Nat → Bool} : c * nI (cnt n p) = smI n (fun i => if p i = true then c else 0) := by
  induction n with
  | zero => exact Int32.mul_zero
  | succ n ih =>
    show c * nI (cnt n p + (if p n then 1 else 0)) = smI n _ + (if p n = true then c else 0)
    rw [← ih]
    by_cases q : p n = true
    · rw [if_pos q, if_pos q, ← nI_1, Int32.mul_add, Int32.mul_one]
    · rw [if_neg q, if_neg q, Nat.add_zero, Int32.add_zero]
theorem hA_hB {m : Nat} (hm : m < 8192) : hA m = hB m := by
  have big : ∀ i, 13 ≤ i → m.testBit i = false := fun i hi => Nat.testBit_lt_two_pow (Nat.lt_of_lt_of_le hm (by show 2 ^ 13 ≤ 2 ^ i; exact Nat.pow_le_pow_right (by decide) hi))
  have e1 : hA m = smI 12 (fun d => smI 13 (fun a => if (m.testBit a && m.testBit (a + (d + 1))) = true then kg_snd (d + 1) else 0)) := by
    show _ = smI 11 _ + smI 13 (fun a => if (m.testBit a && m.testBit (a + 12)) = true then kg_snd 12 else 0)
    rw [smI_0 (f := fun a => if (m.testBit a && m.testBit (a + 12)) = true then kg_snd 12 else 0) (fun a _ => by
      show (if _ then (0 : Int32) else 0) = 0
      split <;> rfl), Int32.add_zero]
    unfold hA pop
    refine smI_congr (fun d _ => ?_)
    rw [mul_cnt]
    refine smI_congr (fun a _ => ?_)
    show (if (m &&& m / 2 ^ (d + 1)).testBit a = true then _ else _) = _
    rw [Nat.testBit_and, Nat.testBit_div_two_pow]
  rw [e1, smI_swap]
  unfold hB
  rw [smI_swap (n := 13) (m := 13) (F := fun b a => if a < b ∧ (m.testBit a && m.testBit b) = true then sd a b else 0)]
  refine smI_congr (fun a ha => ?_)
  have e13 : (13 : Nat) = (a + 1) + (12 - a) := by omega
  rw [show smI 13 (fun b => if a < b ∧ (m.testBit a && m.testBit b) = true then sd a b else 0) = smI ((a + 1) + (12 - a)) (fun b => if a < b ∧ (m.testBit a && m.testBit b) = true then sd a b else 0) from by rw [← e13], smI_split, smI_0 (n := a + 1) (fun b hb => if_neg (by omega)), Int32.zero_add, smI_ext (n := 12) (k := 12 - a) (by omega) (fun d h1 h2 => by
    rw [big (a + (d + 1)) (by omega), Bool.and_false]; rfl)]
  refine smI_congr (fun d _ => ?_)
  rw [show a + (d + 1) = a + 1 + d by omega]
  have es : sd a (a + 1 + d) = kg_snd (d + 1) := by
    unfold sd
    rw [if_pos (by omega), show a + 1 + d - a = d + 1 by omega]
  rw [es]
  by_cases c : (m.testBit a && m.testBit (a + 1 + d)) = true
  · rw [if_pos c, if_pos ⟨by omega, c⟩]
  · rw [if_neg c, if_neg (fun z => c z.2)]
section HARM3
variable {I : kgM} {s : kgS}
theorem c_harmonyAgain (hG : RepG I 1 s) (w : kgWF s) : f_X4_harmonyAgain I = some (hvS s, I) := by
  have hl := wP_lt w
  rw [hv_hB w, ← hA_hB hl]
  unfold f_X4_harmonyAgain
  rw [c_whistledPitches hG w, bndC_s]
  refine lp (T := fun q k => f_X4_harmonyAgain_L12 (nI (wP s)) (fun x5 I3 => some (x5, I3)) q (smI (k - 1) (fun d => kg_snd (d + 1) * nI (pop (wP s &&& (wP s / 2 ^ (d + 1)))))) (nI k) I) (R := some (hA (wP s), I)) (n := 12) (k0 := 1) (fun q k h1 hk => ?_) (fun q => ?_) 200 1 (by omega) (by omega) (by omega)
  · obtain ⟨d, rfl⟩ : ∃ d, k = d + 1 := ⟨k - 1, by omega⟩
    have lt : wP s &&& (wP s / 2 ^ (d + 1)) < 8192 := Nat.lt_of_le_of_lt Nat.and_le_left hl
    show f_X4_harmonyAgain_L12 (nI (wP s)) _ (q + 1) _ (nI (d + 1)) I = _
    rw [f_X4_harmonyAgain_L12, if_neg (show ¬ (12 : Int32) ≤ nI (d + 1) from nI_ge (b := 12) hk (by omega)), kl_shr (by omega) (by omega), kl_and, c_bits lt, bndC_s, ck_inb (by omega) (by omega), nI_clamp (by omega), bnd_s, bnd_s, nI_1]
    rfl
  · show f_X4_harmonyAgain_L12 (nI (wP s)) _ (q + 1) _ (nI 12) I = _
    rw [f_X4_harmonyAgain_L12, if_pos (show (12 : Int32) ≤ nI 12 from Int32.le_refl _)]
    rfl
theorem m_harmonyAgain (hR : RepR (kgRow I 0) s) (w : kgWF s) : f_X5_harmonyAgain I = some (hvS s, I) := by
  unfold f_X5_harmonyAgain
  rw [m_harmony hR w, bndC_s]
end HARM3
