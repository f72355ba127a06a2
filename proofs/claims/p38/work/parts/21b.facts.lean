section FCT
variable {s : kgS}
/-! the whistling mask -/
theorem wK_s (k : Nat) : nI (orf (k + 1) (wh s) (fun k => k)) = nI (orf k (wh s) (fun k => k)) ||| (if wh s k = true then nI (2 ^ k) else 0) := by
  show nI (orf k (wh s) (fun k => k) ||| (if wh s k = true then 2 ^ k else 0)) = _
  rw [← kl_or]
  congr 1
  split <;> rfl
theorem or_lt {k : Nat} (hk : k ≤ 10) : orf k (wh s) (fun k => k) < 1024 := orf_lt (b := 10) (fun j hj _ => by omega)
theorem bit_v {a k : Nat} (h : a < 2147483648) (hk : k < 32) : (nI a >>> (nI k &&& 31)) &&& 1 = b2i (a.testBit k) := by
  rw [kl_shr h hk, show (1 : Int32) = nI 1 from rfl, kl_and, Nat.testBit_eq_decide_div_mod_eq, Nat.and_one_is_mod]
  have h2 : a / 2 ^ k % 2 < 2 := Nat.mod_lt _ (by decide)
  by_cases q : a / 2 ^ k % 2 = 1
  · rw [q, decide_eq_true rfl]; rfl
  · rw [show a / 2 ^ k % 2 = 0 by omega, decide_eq_false (by decide)]; rfl
/-! the harmony -/
theorem acM_s {k j : Nat} (h : j < k) : acM s k (j + 1) = acM s k j + vv s j k := by
  unfold acM
  show _ + (smI j (fun a => gF s a k) + gF s j k) = _
  rw [← Int32.add_assoc, show gF s j k = vv s j k from if_pos h]
theorem acM_0 {k : Nat} : acM s k 0 = smI k (fun b => smI (kgN s) (fun a => gF s a b)) := by
  unfold acM
  rw [show smI 0 (fun a => gF s a k) = 0 from rfl, Int32.add_zero]
theorem acM_k {k : Nat} (hk : k ≤ kgN s) : acM s k k = smI (k + 1) (fun b => smI (kgN s) (fun a => gF s a b)) := by
  unfold acM
  show _ = smI k (fun b => smI (kgN s) (fun a => gF s a b)) + smI (kgN s) (fun a => gF s a k)
  rw [smI_ext (n := kgN s) (k := k) hk (fun a h1 h2 => gF_0 h1)]
theorem vv_v {j k : Nat} (h : (wh s k && wh s j) = true) : vv s j k = sd (s.1 7 k) (s.1 7 j) := by
  unfold vv
  rw [Bool.and_comm, h, if_pos rfl]; exact sd_comm
theorem vv_n {j k : Nat} (h : ¬ (wh s k && wh s j) = true) : vv s j k = 0 := by
  unfold vv
  rw [Bool.and_comm, if_neg h]
/-! the best pitch -/
def frE (s : kgS) (p : Nat) : Nat → Bool
  | 0 => true
  | k + 1 => frE s p k && !(wh s k && decide (s.1 7 k = p))
def ftP (s : kgS) (p : Nat) (k : Nat) : Int32 := smI k (fun k => if wh s k = true then sdl p (s.1 7 k) else 0)
theorem frE_orf (p : Nat) : ∀ k, frE s p k = !(orf k (wh s) (s.1 7)).testBit p := by
  intro k
  induction k with
  | zero => show true = !(Nat.testBit 0 p); rw [Nat.zero_testBit]; rfl
  | succ k ih =>
    show (frE s p k && !(wh s k && decide (s.1 7 k = p))) = !(orf k (wh s) (s.1 7) ||| (if wh s k = true then 2 ^ s.1 7 k else 0)).testBit p
    rw [ih, Nat.testBit_or]
    cases c : wh s k with
    | false => simp
    | true => rw [if_pos rfl, Nat.testBit_two_pow]; simp
theorem ft_fit (w : kgWF s) {p : Nat} (h : (wP s).testBit p = false) : ftP s p (kgN s) = fitI (wP s) p := by
  unfold ftP fitI wP
  rw [sum_bits (n := kgN s) (p := wh s) (f := s.1 7) (F := fun i => sdl p i) (fun k hk _ => (w.2.2.2.1 k hk).2.2.1) (fun j k hj hk h1 h2 => wf_dist w j k hj hk h1 h2)]
  refine smI_congr (fun i _ => ?_)
  by_cases c : (orf (kgN s) (wh s) (s.1 7)).testBit i = true
  · rw [if_pos c, if_pos c]
    have e : ¬ p = i := fun e => by
      have h : (orf (kgN s) (wh s) (s.1 7)).testBit p = false := h
      rw [e, c] at h; exact absurd h (by decide)
    unfold sdl
    rw [if_neg e, sd_comm]
  · rw [if_neg c, if_neg c]
def lbP (m : Nat) : Nat → Nat × Int32
  | 0 => (0, -100)
  | p + 1 => if m.testBit (p + 1) = true then lbP m p else if fitI m (p + 1) ≤ (lbP m p).2 then lbP m p else (p + 1, fitI m (p + 1))
theorem lb_rel (m : Nat) : ∀ p, p < 13 → ((bC m p).1 = -1 ∧ lbP m p = (0, -100)) ∨ (bC m p = (nI (lbP m p).1, (lbP m p).2) ∧ (lbP m p).1 ≤ p) := by
  intro p
  induction p with
  | zero => intro _; exact Or.inl ⟨rfl, rfl⟩
  | succ p ih =>
    intro hp
    have eC : bC m (p + 1) = if m.testBit (p + 1) = true then bC m p else if (bC m p).1 = -1 then (nI (p + 1), fitI m (p + 1)) else if fitI m (p + 1) ≤ (bC m p).2 then bC m p else (nI (p + 1), fitI m (p + 1)) := rfl
    have eL : lbP m (p + 1) = if m.testBit (p + 1) = true then lbP m p else if fitI m (p + 1) ≤ (lbP m p).2 then lbP m p else (p + 1, fitI m (p + 1)) := rfl
    have fb := (fitI_b (m := m) (p := p + 1) (by omega)).1
    rcases ih (by omega) with ⟨h1, h2⟩ | ⟨h1, h2⟩
    · by_cases c : m.testBit (p + 1) = true
      · rw [if_pos c] at eC eL
        exact Or.inl ⟨by rw [eC]; exact h1, by rw [eL]; exact h2⟩
      · rw [if_neg c, if_pos h1] at eC
        rw [if_neg c, h2, if_neg (by rw [le_t, show ((0, -100) : Nat × Int32).2.toInt = -100 from by decide]; omega)] at eL
        exact Or.inr ⟨by rw [eC, eL], by rw [eL]; exact Nat.le_refl _⟩
    · by_cases c : m.testBit (p + 1) = true
      · rw [if_pos c] at eC eL
        exact Or.inr ⟨by rw [eC, eL]; exact h1, by rw [eL]; omega⟩
      · rw [if_neg c, if_neg (by rw [h1]; exact of_eq_false (nI_m1 (by show (lbP m p).1 < _; omega)))] at eC
        rw [if_neg c] at eL
        by_cases c3 : fitI m (p + 1) ≤ (lbP m p).2
        · rw [if_pos (by rw [h1]; exact c3)] at eC
          rw [if_pos c3] at eL
          exact Or.inr ⟨by rw [eC, eL]; exact h1, by rw [eL]; omega⟩
        · rw [if_neg (by rw [h1]; exact c3)] at eC
          rw [if_neg c3] at eL
          exact Or.inr ⟨by rw [eC, eL], by rw [eL]; exact Nat.le_refl _⟩
theorem lb_best (w : kgWF s) : (bC (wP s) 12).1 = nI (lbP (wP s) 12).1 := by
  rcases lb_rel (wP s) 12 (by omega) with ⟨h1, -⟩ | ⟨h1, -⟩
  · have h2 := best_eq w
    rw [h1] at h2
    have h3 := (bM_in (wP s) 12).1
    have h4 := (bM_in (wP s) 12).2
    exact absurd h2.symm (of_eq_false (nI_m1 (by omega)))
  · rw [h1]
/-! stoves -/
theorem on_of (w : kgWF s) {k t : Nat} (hk : k < kgN s) (h : s.1 10 k = t + 1) : onI s t = nI k := by
  unfold onI
  cases e : fnd (fun k => decide (s.1 10 k = t + 1)) (kgN s) 0 with
  | none => exact absurd h (of_decide_eq_false (fnd_none e k (by omega) (by omega)))
  | some j =>
    have hj := fnd_some e
    have h2 := of_decide_eq_true hj.2.2
    have hd := w.2.2.2.2.1
    by_cases c : j = k
    · rw [c]; rfl
    · rcases Nat.lt_or_gt_of_ne c with c | c
      · have := hd j k c hk (by omega) (by omega); omega
      · have := hd k j c (by omega) (by omega) (by omega); omega
/-! the text of a kettle -/
theorem dgs_no0 : ∀ v, v < 101 → (dgs v).all (fun c => decide (c ≠ 35)) = true := by decide +kernel
theorem dgs_no {v : Nat} (h : v ≤ 100) : ¬ 35 ∈ dgs v := fun hc => by
  have := List.all_eq_true.mp (dgs_no0 v (by omega)) 35 hc
  exact absurd rfl (of_decide_eq_true this)
theorem tl_has (w : kgWF s) {k : Nat} (hk : k < kgN s) : (tlB s k (tlA s k)).contains 35 = decide (s.1 13 k = 1) := by
  have hn := w.1
  have b := w.2.2.2.1 k hk
  have e13 : (nI (s.1 13 k) = (1 : Int32)) = (s.1 13 k = 1) := nI_eqE (b := 1) (by omega) (by omega)
  have d1 := dgs_no (v := k) (by omega)
  have d2 := dgs_no (v := s.1 6 k) (by omega)
  have d3 := dgs_no (v := s.1 7 k) (by omega)
  have d4 := dgs_no (v := s.1 8 k) (by omega)
  have d5 := dgs_no (v := 5 * s.1 9 k) (by omega)
  have d6 := dgs_no (v := s.1 10 k - 1) (by omega)
  have d7 := dgs_no (v := s.1 11 k) (by omega)
  have hA : ¬ 35 ∈ tlA s k := by
    unfold tlA
    simp only [List.mem_append, List.mem_cons, List.not_mem_nil, or_false, d1, d2, d3, d4, d5]
    decide
  have hS : ¬ 35 ∈ tlS s k := by
    unfold tlS
    split
    · exact List.not_mem_nil
    · simp only [List.mem_append, List.mem_cons, List.not_mem_nil, or_false, d6]; decide
  have hX : ¬ 35 ∈ tlX s k := by
    unfold tlX
    split
    · exact List.not_mem_nil
    · simp only [List.mem_append, List.mem_cons, List.not_mem_nil, or_false, d7]; decide
  have hL : ¬ 35 ∈ (if nI (s.1 12 k) = 0 then [95] else ([] : List Nat)) := by split <;> decide
  have hW : ¬ 35 ∈ (if b2i (wh s k) = 0 then ([] : List Nat) else [33]) := by split <;> decide
  unfold tlB
  simp only [e13]
  by_cases c : s.1 13 k = 1
  · rw [decide_eq_true c, if_pos c, List.contains_iff_mem]
    simp only [List.mem_append, List.mem_cons]
    simp
  · rw [decide_eq_false c, if_neg c]
    rw [← Bool.not_eq_true, List.contains_iff_mem]
    simp only [List.mem_append, hA, hS, hX, hL, hW, List.not_mem_nil, or_false, not_false_eq_true]
theorem tl_pos {k : Nat} : 0 < (tlB s k (tlA s k)).length := by
  unfold tlB tlA
  simp only [List.length_append, List.length_cons]
  omega
theorem pop_1 (w : kgWF s) {k : Nat} (hk : k < kgN s) : pop (s.1 14 k) ≤ 1 := by
  have b := (w.2.2.2.1 k hk).2.2.2.2.2.2.2.2.2.2
  rcases b with h | h | h | h | h <;> rw [h] <;> decide
end FCT
