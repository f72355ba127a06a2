/-! WHAT THE LAW'S OWN NUMBERS ARE -/
def sdv (d : Int32) : Int32 := if (if d < 0 then -d else d) ≤ 2 then (if (if d < 0 then -d else d) ≤ 6 then -1 else if 10 ≤ (if d < 0 then -d else d) then -1 else 1) else if (if d < 0 then -d else d) < 6 then 1 else (if (if d < 0 then -d else d) ≤ 6 then -1 else if 10 ≤ (if d < 0 then -d else d) then -1 else 1)
theorem snd_v (x y : Int32) (I : kgM) : f_L_sound x y I = some (sdv (x - y), I) := by
  unfold f_L_sound sdv
  rw [show f_J9_abs_0f7a4 (x - y) I = some ((if x - y < 0 then -(x - y) else x - y), I) from by
    unfold f_J9_abs_0f7a4
    generalize x - y = d
    by_cases c : d < 0
    · rw [if_pos c]
      have c2 : ¬ 0 ≤ d := by rw [le_t]; rw [lt_t] at c; omega
      simp [c2]
    · rw [if_neg c]
      have c2 : 0 ≤ d := by rw [le_t]; rw [lt_t] at c; omega
      simp [c2], bndC_s, letJ_s]
  generalize (if x - y < 0 then -(x - y) else x - y) = v
  split <;> split <;> (try split) <;> (try split) <;> first | rfl | (split <;> rfl)
def sdl (a b : Nat) : Int32 := if a = b then -1 else sd a b
theorem sdv_all : ∀ a, a < 12 → ∀ b, b < 12 → sdv (nI (a + 1) - nI (b + 1)) = sdl (a + 1) (b + 1) := by decide +kernel
theorem r_sound {a b : Nat} (h1 : 1 ≤ a) (h2 : a < 13) (h3 : 1 ≤ b) (h4 : b < 13) (I : kgM) : f_L_sound (nI a) (nI b) I = some (sdl a b, I) := by
  have h := sdv_all (a - 1) (by omega) (b - 1) (by omega)
  rw [show a - 1 + 1 = a by omega, show b - 1 + 1 = b by omega] at h
  rw [snd_v, h]
/-! ranks -/
theorem pigeon : ∀ n (f : Nat → Nat), (∀ k, k < n → f k < n) → (∀ j k, j < k → k < n → f j ≠ f k) → ∀ r, r < n → ∃ k, k < n ∧ f k = r := by
  intro n
  induction n with
  | zero => intro f _ _ r hr; omega
  | succ n ih =>
    intro f h1 h2 r hr
    have ht := h1 n (by omega)
    have hne : ∀ k, k < n → f k ≠ f n := fun k hk => h2 k n hk (by omega)
    by_cases e : r = f n
    · exact ⟨n, by omega, e.symm⟩
    · obtain ⟨k, k1, k2⟩ := ih (fun k => if f k > f n then f k - 1 else f k) (fun k hk => by
        have a := h1 k (by omega)
        have b := hne k hk
        show (if f k > f n then f k - 1 else f k) < n
        split <;> omega) (fun j k hj hk => by
        have a := hne j (by omega)
        have b := hne k hk
        have c := h2 j k hj (by omega)
        show (if f j > f n then f j - 1 else f j) ≠ (if f k > f n then f k - 1 else f k)
        split <;> split <;> omega) (if r > f n then r - 1 else r) (by split <;> omega)
      have b := hne k k1
      refine ⟨k, by omega, ?_⟩
      have k2 : (if f k > f n then f k - 1 else f k) = (if r > f n then r - 1 else r) := k2
      split at k2 <;> split at k2 <;> omega
theorem cnt_mono {n : Nat} {p q : Nat → Bool} (h : ∀ k, k < n → p k = true → q k = true) : cnt n p ≤ cnt n q := by
  induction n with
  | zero => exact Nat.le_refl _
  | succ n ih =>
    have a := ih (fun k hk => h k (by omega))
    have b := h n (by omega)
    show cnt n p + _ ≤ cnt n q + _
    cases c : p n with
    | false => simp only [Bool.false_eq_true, if_false]; split <;> omega
    | true => rw [b c]; simp only [if_true]; omega
theorem cnt_more {n i : Nat} {p q : Nat → Bool} (hi : i < n) (hp : p i = false) (hq : q i = true) (h : ∀ k, k < n → p k = true → q k = true) : cnt n p < cnt n q := by
  have a := cnt_mono (n := n) (p := fun k => if k = i then true else p k) (q := q) (fun k hk hh => by
    by_cases e : k = i
    · rw [e]; exact hq
    · have hh : (if k = i then true else p k) = true := hh
      rw [if_neg e] at hh; exact h k hk hh)
  have b := cnt_upd (n := n) (i := i) (p := fun k => if k = i then true else p k) (q := p) hi (fun k _ hne => if_neg hne)
  rw [if_pos rfl, hp] at b
  simp only [Bool.false_eq_true, if_false, if_true] at b
  omega
/-- an order of n, counted: every place has one -/
theorem rank_at {n : Nat} {R : Nat → Nat → Bool} (hi : ∀ k, k < n → R k k = false) (ht : ∀ a b c, a < n → b < n → c < n → R a b = true → R b c = true → R a c = true) (hc : ∀ a b, a < n → b < n → a ≠ b → R a b = true ∨ R b a = true) :
    (∀ k, k < n → cnt n (R k) < n) ∧ (∀ j k, j < n → k < n → R k j = true → cnt n (R j) < cnt n (R k)) ∧ ∀ r, r < n → ∃ k, k < n ∧ cnt n (R k) = r := by
  have h1 : ∀ k, k < n → cnt n (R k) < n := fun k hk => by
    have := cnt_more (n := n) (i := k) (p := R k) (q := fun _ => true) hk (hi k hk) rfl (fun _ _ _ => rfl)
    have h2 := cnt_le n (fun _ => true)
    omega
  have h2 : ∀ j k, j < n → k < n → R k j = true → cnt n (R j) < cnt n (R k) := fun j k hj hk hR => by
    refine cnt_more (n := n) (i := j) (p := R j) (q := R k) hj (hi j hj) hR (fun i hi2 h => ht k j i hk hj hi2 hR h)
  refine ⟨h1, h2, pigeon n (fun k => cnt n (R k)) h1 (fun j k hj hk e => ?_)⟩
  have e : cnt n (R j) = cnt n (R k) := e
  rcases hc j k (by omega) hk (by omega) with h | h
  · have := h2 k j hk (by omega) h; omega
  · have := h2 j k (by omega) hk h; omega
section RK
variable {s : kgS}
theorem aM_irr {k : Nat} : aM s k k = false := by
  unfold aM
  rw [if_neg (Int.lt_irrefl _), if_pos rfl, if_neg (Nat.lt_irrefl _), if_pos rfl, decide_eq_false (Nat.lt_irrefl _)]
theorem aM_iff {k j : Nat} : aM s k j = true ↔ (s.2 k).toInt < (s.2 j).toInt ∨ (s.2 j).toInt = (s.2 k).toInt ∧ (own s k < own s j ∨ own s j = own s k ∧ j < k) := by
  unfold aM
  by_cases h1 : (s.2 k).toInt < (s.2 j).toInt
  · rw [if_pos h1]; exact ⟨fun _ => Or.inl h1, fun _ => rfl⟩
  · rw [if_neg h1]
    by_cases h2 : (s.2 j).toInt = (s.2 k).toInt
    · rw [if_pos h2]
      by_cases h3 : own s k < own s j
      · rw [if_pos h3]; exact ⟨fun _ => Or.inr ⟨h2, Or.inl h3⟩, fun _ => rfl⟩
      · rw [if_neg h3]
        by_cases h4 : own s j = own s k
        · rw [if_pos h4, decide_eq_true_iff]
          exact ⟨fun h => Or.inr ⟨h2, Or.inr ⟨h4, h⟩⟩, fun h => by omega⟩
        · rw [if_neg h4]; exact ⟨fun h => absurd h (by decide), fun h => by omega⟩
    · rw [if_neg h2]; exact ⟨fun h => absurd h (by decide), fun h => by omega⟩
theorem aK_irr {k : Nat} : aK s k k = false := by
  unfold aK
  rw [if_neg (Nat.lt_irrefl _), if_pos rfl, if_neg (Nat.lt_irrefl _), if_pos rfl, decide_eq_false (Nat.lt_irrefl _)]
theorem aK_iff {k j : Nat} : aK s k j = true ↔ s.1 9 k < s.1 9 j ∨ s.1 9 j = s.1 9 k ∧ (s.1 8 j < s.1 8 k ∨ s.1 8 j = s.1 8 k ∧ j < k) := by
  unfold aK
  by_cases h1 : s.1 9 k < s.1 9 j
  · rw [if_pos h1]; exact ⟨fun _ => Or.inl h1, fun _ => rfl⟩
  · rw [if_neg h1]
    by_cases h2 : s.1 9 j = s.1 9 k
    · rw [if_pos h2]
      by_cases h3 : s.1 8 j < s.1 8 k
      · rw [if_pos h3]; exact ⟨fun _ => Or.inr ⟨h2, Or.inl h3⟩, fun _ => rfl⟩
      · rw [if_neg h3]
        by_cases h4 : s.1 8 j = s.1 8 k
        · rw [if_pos h4, decide_eq_true_iff]
          exact ⟨fun h => Or.inr ⟨h2, Or.inr ⟨h4, h⟩⟩, fun h => by omega⟩
        · rw [if_neg h4]; exact ⟨fun h => absurd h (by decide), fun h => by omega⟩
    · rw [if_neg h2]; exact ⟨fun h => absurd h (by decide), fun h => by omega⟩
theorem rkM : (∀ k, k < 4 → cnt 4 (aM s k) < 4) ∧ (∀ j k, j < 4 → k < 4 → aM s k j = true → cnt 4 (aM s j) < cnt 4 (aM s k)) ∧ ∀ r, r < 4 → ∃ k, k < 4 ∧ cnt 4 (aM s k) = r :=
  rank_at (fun k _ => aM_irr) (fun a b c _ _ _ h1 h2 => by rw [aM_iff] at h1 h2 ⊢; omega) (fun a b _ _ h => by rw [aM_iff, aM_iff]; omega)
theorem rkK {n : Nat} : (∀ k, k < n → cnt n (aK s k) < n) ∧ (∀ j k, j < n → k < n → aK s k j = true → cnt n (aK s j) < cnt n (aK s k)) ∧ ∀ r, r < n → ∃ k, k < n ∧ cnt n (aK s k) = r :=
  rank_at (fun k _ => aK_irr) (fun a b c _ _ _ h1 h2 => by rw [aK_iff] at h1 h2 ⊢; omega) (fun a b _ _ h => by rw [aK_iff, aK_iff]; omega)
/-- who stands at the place r -/
theorem fnd_at {n r : Nat} {f : Nat → Nat} (hb : ∀ k, k < n → f k < 1000) (hr : r < 1000) : (∃ k, k < n ∧ f k = r) → ∃ j, j < n ∧ f j = r ∧ onf (fnd (fun k => decide (nI (f k) = nI r)) n 0) nI (-1011) = nI j := by
  rintro ⟨k, h1, h2⟩
  cases e : fnd (fun k => decide (nI (f k) = nI r)) n 0 with
  | some j =>
    have hj := fnd_some e
    exact ⟨j, by omega, (nI_eq (by have := hb j (by omega); omega) (by omega)).mp (of_decide_eq_true hj.2.2), rfl⟩
  | none =>
    have := fnd_none e k (by omega) (by omega)
    exact absurd (congrArg nI h2) (of_decide_eq_false this)
theorem fnd_no {n r : Nat} {f : Nat → Nat} (hb : ∀ k, k < n → f k < r) (hr : r < 1000) : onf (fnd (fun k => decide (nI (f k) = nI r)) n 0) nI (-1011) = -1011 := by
  cases e : fnd (fun k => decide (nI (f k) = nI r)) n 0 with
  | none => rfl
  | some j =>
    have hj := fnd_some e
    have a := hb j (by omega)
    have := (nI_eq (by omega) (by omega)).mp (of_decide_eq_true hj.2.2)
    omega
variable {I : kgM}
theorem r_ranked (hG : RepG I 1 s) (w : kgWF s) {r : Nat} (hr : r < 4) : ∃ j, j < 4 ∧ cnt 4 (aM s j) = r ∧ f_X4_ranked (nI r) I = some (nI j, I) := by
  obtain ⟨j, a, b, c⟩ := fnd_at (n := 4) (r := r) (f := fun k => cnt 4 (aM s k)) (fun k hk => by have := (rkM (s := s)).1 k hk; omega) (by omega) (rkM.2.2 r hr)
  exact ⟨j, a, b, by rw [c_ranked hG w, c]⟩
theorem r_ranked4 (hG : RepG I 1 s) (w : kgWF s) : f_X4_ranked 4 I = some (-1011, I) := by
  rw [c_ranked hG w, show (4 : Int32) = nI 4 from rfl, fnd_no (f := fun k => cnt 4 (aM s k)) (fun k hk => rkM.1 k hk) (by omega)]
theorem r_hottest (hG : RepG I 1 s) (w : kgWF s) {r : Nat} (hr : r < kgN s) : ∃ j, j < kgN s ∧ cnt (kgN s) (aK s j) = r ∧ f_X4_hottest (nI r) I = some (nI j, I) := by
  have hn := w.1
  obtain ⟨j, a, b, c⟩ := fnd_at (n := kgN s) (r := r) (f := fun k => cnt (kgN s) (aK s k)) (fun k hk => by have := (rkK (s := s) (n := kgN s)).1 k hk; omega) (by omega) (rkK.2.2 r hr)
  exact ⟨j, a, b, by rw [c_hottest hG w, c]⟩
theorem r_hottestN (hG : RepG I 1 s) (w : kgWF s) : f_X4_hottest (nI (kgN s)) I = some (-1011, I) := by
  have hn := w.1
  rw [c_hottest hG w, fnd_no (f := fun k => cnt (kgN s) (aK s k)) (fun k hk => rkK.1 k hk) (by omega)]
end RK
