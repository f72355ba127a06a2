/-! bits -/
theorem kl_or (a b : Nat) : nI a ||| nI b = nI (a ||| b) := Int32.toBitVec_inj.mp (by
  rw [Int32.toBitVec_or]
  show BitVec.ofNat 32 a ||| BitVec.ofNat 32 b = BitVec.ofNat 32 (a ||| b)
  apply BitVec.eq_of_getLsbD_eq
  intro i hi
  simp [BitVec.getLsbD_ofNat, Nat.testBit_or, hi])
theorem kl_and (a b : Nat) : nI a &&& nI b = nI (a &&& b) := Int32.toBitVec_inj.mp (by
  rw [Int32.toBitVec_and]
  show BitVec.ofNat 32 a &&& BitVec.ofNat 32 b = BitVec.ofNat 32 (a &&& b)
  apply BitVec.eq_of_getLsbD_eq
  intro i hi
  simp [BitVec.getLsbD_ofNat, Nat.testBit_and, hi])
theorem kl_s : ∀ n, n < 32 → ((nI n &&& 31).toBitVec.smod 32).toNat = n := by decide +kernel
theorem kl_shl1 {k : Nat} (hk : k < 31) : (1 : Int32) <<< (nI k &&& 31) = nI (2 ^ k) := by
  have h2 : 2 ^ k ≤ 2 ^ 30 := Nat.pow_le_pow_right (by decide) (by omega)
  have := pk_shlN (n := 1) (nI k &&& 31) k (kl_s k (by omega)) (by omega)
  rw [Nat.one_mul] at this
  exact this
theorem kl_shr {a k : Nat} (h : a < 2147483648) (hk : k < 32) : nI a >>> (nI k &&& 31) = nI (a / 2 ^ k) := pk_shrN h (nI k &&& 31) k (kl_s k hk)
theorem c_isIn {I : kgM} {a k : Nat} (h : a < 2147483648) (hk : k < 32) : f_X4_isIn (nI a) (nI k) I = some (b2i (a.testBit k), I) := by
  unfold f_X4_isIn
  rw [kl_shr h hk]
  have e : (nI (a / 2 ^ k) &&& 1 : Int32) = nI (a / 2 ^ k % 2) := by
    have := kl_and (a / 2 ^ k) 1
    rw [Nat.and_one_is_mod] at this
    exact this
  rw [e, Nat.testBit_eq_decide_div_mod_eq]
  have h2 : a / 2 ^ k % 2 < 2 := Nat.mod_lt _ (by decide)
  by_cases q : a / 2 ^ k % 2 = 1
  · rw [q, if_pos (by decide), decide_eq_true rfl]; rfl
  · have q0 : a / 2 ^ k % 2 = 0 := by omega
    rw [q0, if_neg (by decide), decide_eq_false (by decide)]; rfl
/-- the bits of all f k of which p k holds -/
def orf (n : Nat) (p : Nat → Bool) (f : Nat → Nat) : Nat := match n with
  | 0 => 0
  | n + 1 => orf n p f ||| (if p n then 2 ^ f n else 0)
theorem orf_bit {n : Nat} {p : Nat → Bool} {f : Nat → Nat} {i : Nat} : (orf n p f).testBit i = true ↔ ∃ k, k < n ∧ p k = true ∧ f k = i := by
  induction n with
  | zero => simp [orf]
  | succ n ih =>
    unfold orf
    rw [Nat.testBit_or, Bool.or_eq_true, ih]
    constructor
    · rintro (⟨k, h1, h2, h3⟩ | h)
      · exact ⟨k, by omega, h2, h3⟩
      · by_cases q : p n = true
        · rw [if_pos q, Nat.testBit_two_pow] at h
          exact ⟨n, by omega, q, by simpa using h⟩
        · rw [if_neg q] at h; simp at h
    · rintro ⟨k, h1, h2, h3⟩
      by_cases q : k = n
      · subst q
        refine Or.inr ?_
        rw [if_pos h2, Nat.testBit_two_pow]; simpa using h3
      · exact Or.inl ⟨k, by omega, h2, h3⟩
theorem orf_lt {n b : Nat} {p : Nat → Bool} {f : Nat → Nat} (h : ∀ k, k < n → p k = true → f k < b) : orf n p f < 2 ^ b := by
  induction n with
  | zero => exact Nat.two_pow_pos b
  | succ n ih =>
    unfold orf
    refine Nat.or_lt_two_pow (ih (fun k hk => h k (by omega))) ?_
    split
    · exact Nat.pow_lt_pow_right (by decide) (h n (by omega) (by assumption))
    · exact Nat.two_pow_pos b
theorem orf_congr {n : Nat} {p q : Nat → Bool} {f g : Nat → Nat} (h : ∀ k, k < n → p k = q k ∧ f k = g k) : orf n p f = orf n q g := by
  induction n with
  | zero => rfl
  | succ n ih => unfold orf; rw [ih (fun k hk => h k (by omega)), (h n (by omega)).1, (h n (by omega)).2]
theorem orf_id {n : Nat} {p : Nat → Bool} {k : Nat} (hk : k < n) : (orf n p (fun k => k)).testBit k = p k := by
  by_cases q : p k = true
  · rw [q]; exact orf_bit.mpr ⟨k, hk, q, rfl⟩
  · have h2 : ¬ (orf n p (fun k => k)).testBit k = true := fun z => by
      obtain ⟨j, h1, h2, h3⟩ := orf_bit.mp z
      subst h3; exact q h2
    rw [Bool.not_eq_true] at q h2
    rw [q, h2]
/-- searching -/
def fnd (p : Nat → Bool) (d k : Nat) : Option Nat := match d with
  | 0 => none
  | d + 1 => if p k then some k else fnd p d (k + 1)
theorem fnd_congr {p q : Nat → Bool} {d : Nat} : ∀ {k : Nat}, (∀ j, k ≤ j → j < k + d → p j = q j) → fnd p d k = fnd q d k := by
  induction d with
  | zero => intro k h; rfl
  | succ d ih => intro k h; unfold fnd; rw [h k (by omega) (by omega), ih (fun j h1 h2 => h j (by omega) (by omega))]
theorem fnd_some {p : Nat → Bool} {d : Nat} : ∀ {k j : Nat}, fnd p d k = some j → k ≤ j ∧ j < k + d ∧ p j = true := by
  induction d with
  | zero => intro k j h; cases h
  | succ d ih =>
    intro k j h
    unfold fnd at h
    by_cases q : p k = true
    · rw [if_pos q] at h; cases h; exact ⟨by omega, by omega, q⟩
    · rw [if_neg q] at h; have := ih h; exact ⟨by omega, by omega, this.2.2⟩
theorem fnd_none {p : Nat → Bool} {d : Nat} : ∀ {k : Nat}, fnd p d k = none → ∀ j, k ≤ j → j < k + d → p j = false := by
  induction d with
  | zero => intro k h j h1 h2; omega
  | succ d ih =>
    intro k h j h1 h2
    unfold fnd at h
    by_cases q : p k = true
    · rw [if_pos q] at h; cases h
    · rw [if_neg q] at h
      by_cases e : j = k
      · subst e; exact Bool.not_eq_true _ ▸ q
      · exact ih h j (by omega) (by omega)
def onf {ρ : Type} (o : Option Nat) (F : Nat → ρ) (R : ρ) : ρ := match o with
  | some j => F j
  | none => R
theorem lf {ρ : Type} {T : Nat → Nat → ρ} {R : ρ} {F : Nat → ρ} {p : Nat → Bool} {n : Nat} (hs : ∀ q k, k < n → p k = false → T (q + 1) k = T q (k + 1)) (hf : ∀ q k, k < n → p k = true → T (q + 1) k = F k) (he : ∀ q, T (q + 1) n = R) : ∀ q k, k ≤ n → n < q + k → T q k = onf (fnd p (n - k) k) F R := by
  intro q
  induction q with
  | zero => intro k h1 h2; omega
  | succ q ih =>
    intro k h1 h2
    by_cases e : k = n
    · subst e; rw [Nat.sub_self]; exact he q
    · obtain ⟨d, hd⟩ : ∃ d, n - k = d + 1 := ⟨n - k - 1, by omega⟩
      rw [hd]
      unfold fnd
      by_cases z : p k = true
      · rw [if_pos z]; exact hf q k (by omega) z
      · rw [if_neg z, hs q k (by omega) (Bool.not_eq_true _ ▸ z), ih (k + 1) (by omega) (by omega)]
        rw [show n - (k + 1) = d by omega]

