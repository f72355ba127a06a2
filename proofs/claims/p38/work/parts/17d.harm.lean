/-! HARMONY, told -/
def gF (s : kgS) (i j : Nat) : Int32 := if i < j then vv s i j else 0
def hvS (s : kgS) : Int32 := smI (kgN s) (fun b => smI (kgN s) (fun a => gF s a b))
def acC (s : kgS) (i j : Nat) : Int32 := smI i (fun a => smI (kgN s) (fun b => gF s a b)) + smI j (fun b => gF s i b)
def acM (s : kgS) (k j : Nat) : Int32 := smI k (fun b => smI (kgN s) (fun a => gF s a b)) + smI j (fun a => gF s a k)
theorem gF_0 {s : kgS} {i j : Nat} (h : j ≤ i) : gF s i j = 0 := if_neg (by omega)
section HARM2
variable {I : kgM} {s : kgS}
theorem c_harIn (hG : RepG I 1 s) (w : kgWF s) {i : Nat} (hi : i < kgN s) (KK : Int32 → kgM → Option (Int32 × kgM)) :
    ∀ q j, i < j → j ≤ kgN s → kgN s < q + j → f_X4_harmony_L28 (nI (wK s)) (nI i) KK q (acC s i j) (nI j) I = KK (acC s i (kgN s)) I := by
  have hn := w.1
  have hl := wK_lt w
  intro q
  induction q with
  | zero => intro j h0 h1 h2; omega
  | succ q ih =>
    intro j h0 h1 h2
    by_cases e : j = kgN s
    · subst e
      rw [f_X4_harmony_L28, hG.2.1, if_pos (Int32.le_refl _)]
    · have hj : j < kgN s := by omega
      have bi := w.2.2.2.1 i hi
      have bj := w.2.2.2.1 j hj
      have t1 : (wK s).testBit i = wh s i := orf_id hi
      have t2 : (wK s).testBit j = wh s j := orf_id hj
      have st : acC s i (j + 1) = acC s i j + vv s i j := by
        unfold acC
        show _ + (smI j (fun b => gF s i b) + gF s i j) = _
        rw [← Int32.add_assoc, show gF s i j = vv s i j from if_pos h0]
      rw [f_X4_harmony_L28, hG.2.1, if_neg (nI_ge hj (by omega)), c_isIn (by omega) (by omega), bndC_s, t1]
      cases hw : wh s i with
      | false =>
        have ev : vv s i j = 0 := vv_0 (by rw [hw]; rfl)
        rw [b2i_f, if_pos (show (0 : Int32) = 0 from rfl), bnd_s, nI_1, show acC s i j = acC s i (j + 1) from by rw [st, ev, Int32.add_zero]]
        exact ih (j + 1) (by omega) (by omega) (by omega)
      | true =>
        rw [b2i_t, if_neg (show ¬ (1 : Int32) = 0 by decide), c_isIn (by omega) (by omega), bndC_s, t2]
        cases hw2 : wh s j with
        | false =>
          have ev : vv s i j = 0 := vv_0 (by rw [hw, hw2]; rfl)
          rw [b2i_f, if_pos (show (0 : Int32) = 0 from rfl), bnd_s, nI_1, show acC s i j = acC s i (j + 1) from by rw [st, ev, Int32.add_zero]]
          exact ih (j + 1) (by omega) (by omega) (by omega)
        | true =>
          have ev : vv s i j = sd (s.1 7 i) (s.1 7 j) := by unfold vv; rw [hw, hw2]; rfl
          rw [b2i_t, if_neg (show ¬ (1 : Int32) = 0 by decide), ck_inb (by omega) (by omega), ck_inb (by omega) (by omega), nI_clamp (by omega), nI_clamp (by omega), hG.pit hi, hG.pit hj, c_soundOf (by omega) (by omega) (by omega), bndC_s, bnd_s, bnd_s, nI_1, ← ev, ← st]
          exact ih (j + 1) (by omega) (by omega) (by omega)
theorem acC_0 {i : Nat} : acC s i (i + 1) = smI i (fun a => smI (kgN s) (fun b => gF s a b)) := by
  unfold acC
  rw [smI_0 (n := i + 1) (fun k hk => gF_0 (by omega)), Int32.add_zero]
theorem acC_n {i : Nat} : acC s i (kgN s) = smI (i + 1) (fun a => smI (kgN s) (fun b => gF s a b)) := rfl
theorem c_harmony (hG : RepG I 1 s) (w : kgWF s) : f_X4_harmony I = some (hvS s, I) := by
  have hn := w.1
  unfold f_X4_harmony
  rw [c_whistlers hG w, bndC_s, show hvS s = smI (kgN s) (fun a => smI (kgN s) (fun b => gF s a b)) from smI_swap.symm]
  refine lp (T := fun q i => f_X4_harmony_L12 (nI (wK s)) (fun x12 I6 => some (x12, I6)) q (smI i (fun a => smI (kgN s) (fun b => gF s a b))) (nI i) I) (R := some (smI (kgN s) (fun a => smI (kgN s) (fun b => gF s a b)), I)) (n := kgN s) (k0 := 0) (fun q i _ hi => ?_) (fun q => ?_) 200 0 (by omega) (by omega) (by omega)
  · show f_X4_harmony_L12 (nI (wK s)) _ (q + 1) _ (nI i) I = _
    rw [f_X4_harmony_L12, hG.2.1, if_neg (nI_ge hi (by omega)), bnd_s, nI_1, ← acC_0, c_harIn hG w hi _ 200 (i + 1) (by omega) (by omega) (by omega), bnd_s]
    rfl
  · show f_X4_harmony_L12 (nI (wK s)) _ (q + 1) _ (nI (kgN s)) I = _
    rw [f_X4_harmony_L12, hG.2.1, if_pos (Int32.le_refl _)]
theorem m_harIn (hR : RepR (kgRow I 0) s) (w : kgWF s) {k : Nat} (hk : k < kgN s) (KK : Int32 → kgM → Option (Int32 × kgM)) :
    ∀ q j, j ≤ k → k < q + j → f_X5_harmony_L16 (nI k) KK q (acM s k j) (nI j) I = KK (acM s k k) I := by
  have hn := w.1
  intro q
  induction q with
  | zero => intro j h1 h2; omega
  | succ q ih =>
    intro j h1 h2
    by_cases e : j = k
    · subst e
      rw [f_X5_harmony_L16, if_pos (Int32.le_refl _)]
    · have hj : j < k := by omega
      have hjn : j < kgN s := by omega
      have bk := w.2.2.2.1 k hk
      have bj := w.2.2.2.1 j hjn
      have st : acM s k (j + 1) = acM s k j + vv s j k := by
        unfold acM
        show _ + (smI j (fun a => gF s a k) + gF s j k) = _
        rw [← Int32.add_assoc, show gF s j k = vv s j k from if_pos hj]
      rw [f_X5_harmony_L16, if_neg (nI_ge hj (by omega)), m_whistles hR w hk, bndC_s]
      cases hw : wh s k with
      | false =>
        have ev : vv s j k = 0 := vv_0 (by rw [hw]; simp)
        rw [b2i_f, if_pos (show (0 : Int32) = 0 from rfl), bnd_s, bnd_s, nI_1, Int32.add_zero, show acM s k j = acM s k (j + 1) from by rw [st, ev, Int32.add_zero]]
        exact ih (j + 1) (by omega) (by omega)
      | true =>
        rw [b2i_t, if_neg (show ¬ (1 : Int32) = 0 by decide), m_whistles hR w hjn, bndC_s]
        cases hw2 : wh s j with
        | false =>
          have ev : vv s j k = 0 := vv_0 (by rw [hw2]; simp)
          rw [b2i_f, if_pos (show (0 : Int32) = 0 from rfl), bnd_s, bnd_s, nI_1, Int32.add_zero, show acM s k j = acM s k (j + 1) from by rw [st, ev, Int32.add_zero]]
          exact ih (j + 1) (by omega) (by omega)
        | true =>
          have ev : vv s j k = sd (s.1 7 k) (s.1 7 j) := by unfold vv; rw [hw, hw2]; exact sd_comm
          rw [b2i_t, if_neg (show ¬ (1 : Int32) = 0 by decide), m_pit hR hn hk, bndC_s, m_pit hR hn hjn, bndC_s, m_sound (by omega) (by omega) (by omega), bndC_s, bnd_s, bnd_s, nI_1, ← ev, ← st]
          exact ih (j + 1) (by omega) (by omega)
theorem m_harmony (hR : RepR (kgRow I 0) s) (w : kgWF s) : f_X5_harmony I = some (hvS s, I) := by
  have hn := w.1
  unfold f_X5_harmony
  refine lp (T := fun q k => f_X5_harmony_L4 (fun x14 I7 => some (x14, I7)) q (smI k (fun b => smI (kgN s) (fun a => gF s a b))) (nI k) I) (R := some (hvS s, I)) (n := kgN s) (k0 := 0) (fun q k _ hk => ?_) (fun q => ?_) 200 0 (by omega) (by omega) (by omega)
  · have e0 : smI k (fun b => smI (kgN s) (fun a => gF s a b)) = acM s k 0 := by
      unfold acM
      rw [show smI 0 (fun a => gF s a k) = 0 from rfl, Int32.add_zero]
    have e1 : acM s k k = smI (k + 1) (fun b => smI (kgN s) (fun a => gF s a b)) := by
      unfold acM
      show _ = smI k (fun b => smI (kgN s) (fun a => gF s a b)) + smI (kgN s) (fun a => gF s a k)
      rw [smI_ext (n := kgN s) (k := k) (by omega) (fun a h1 h2 => gF_0 h1)]
    show f_X5_harmony_L4 _ (q + 1) _ (nI k) I = _
    rw [f_X5_harmony_L4, ck_one, cl_one, hR.n, if_neg (nI_ge hk (by omega)), e0, show f_X5_harmony_L16 (nI k) _ 200 (acM s k 0) 0 I = _ from m_harIn hR w hk _ 200 0 (by omega) (by omega), bnd_s, nI_1, e1]
  · show f_X5_harmony_L4 _ (q + 1) _ (nI (kgN s)) I = _
    rw [f_X5_harmony_L4, ck_one, cl_one, hR.n, if_pos (Int32.le_refl _)]
    rfl
end HARM2
/-! by pitches -/
/-- the harmony of a set of pitches -/
def hB (m : Nat) : Int32 := smI 13 (fun b => smI 13 (fun a => if a < b ∧ (m.testBit a && m.testBit b) = true then sd a b else 0))
def hA (m : Nat) : Int32 := smI 11 (fun d => kg_snd (d + 1) * nI (pop (m &&& (m / 2 ^ (d + 1)))))
theorem smI_upd {n i : Nat} {f g : Nat → Int32} (hi : i < n) (h : ∀ k, k < n → k ≠ i → f k = g k) : smI n f + g i = smI n g + f i := by
  induction n with
  | zero => omega
  | succ n ih =>
    show smI n f + f n + _ = smI n g + g n + _
    by_cases e : i = n
    · subst e; rw [smI_congr (fun k hk => h k (by omega) (by omega))]; ac_rfl
    · have := ih (by omega) (fun k hk hne => h k (by omega) hne)
      rw [h n (by omega) (by omega), show smI n f + g n + g i = (smI n f + g i) + g n by ac_rfl, this]; ac_rfl
/-- one sum over kettles is one over pitches -/
theorem sum_bits {n : Nat} {p : Nat → Bool} {f : Nat → Nat} {F : Nat → Int32} (hf : ∀ k, k < n → p k = true → f k < 13) (hd : ∀ j k, j < k → k < n → p j = true → p k = true → f j ≠ f k) : smI n (fun k => if p k = true then F (f k) else 0) = smI 13 (fun i => if (orf n p f).testBit i = true then F i else 0) := by
  induction n with
  | zero =>
    refine (smI_0 (fun i _ => ?_)).symm
    rw [if_neg (by simp [orf])]
  | succ n ih =>
    show smI n _ + (if p n = true then F (f n) else 0) = _
    rw [ih (fun k hk => hf k (by omega)) (fun j k h1 h2 => hd j k h1 (by omega))]
    by_cases q : p n = true
    · have hnot : (orf n p f).testBit (f n) = false := by
        cases h : (orf n p f).testBit (f n) with
        | false => rfl
        | true =>
          obtain ⟨k, h1, h2, h3⟩ := orf_bit.mp h
          exact absurd h3 (hd k n h1 (by omega) h2 q)
      have bit : ∀ i, (orf (n + 1) p f).testBit i = ((orf n p f).testBit i || decide (f n = i)) := fun i => by
        show (orf n p f ||| (if p n = true then 2 ^ f n else 0)).testBit i = _
        rw [if_pos q, Nat.testBit_or, Nat.testBit_two_pow]
      have := smI_upd (n := 13) (i := f n) (f := fun i => if (orf (n + 1) p f).testBit i = true then F i else 0) (g := fun i => if (orf n p f).testBit i = true then F i else 0) (hf n (by omega) q) (fun k hk hne => by
        show (if (orf (n + 1) p f).testBit k = true then F k else 0) = (if (orf n p f).testBit k = true then F k else 0)
        rw [bit, decide_eq_false (Ne.symm hne), Bool.or_false])
      rw [show (if (orf n p f).testBit (f n) = true then F (f n) else 0) = 0 from by rw [hnot]; rfl, Int32.add_zero, show (if (orf (n + 1) p f).testBit (f n) = true then F (f n) else 0) = F (f n) from by rw [bit, decide_eq_true rfl, Bool.or_true]; rfl] at this
      rw [if_pos q, this]
    · rw [if_neg q, Int32.add_zero]
      refine smI_congr (fun i _ => ?_)
      show _ = (if (orf n p f ||| (if p n = true then 2 ^ f n else 0)).testBit i = true then F i else 0)
      rw [if_neg q, Nat.or_zero]

