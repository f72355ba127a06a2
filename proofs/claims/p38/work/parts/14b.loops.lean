/-! walking pure loops -/
theorem lp {ρ : Type} {T : Nat → Nat → ρ} {R : ρ} {n k0 : Nat} (hs : ∀ q k, k0 ≤ k → k < n → T (q + 1) k = T q (k + 1)) (he : ∀ q, T (q + 1) n = R) : ∀ q k, k0 ≤ k → k ≤ n → n < q + k → T q k = R := by
  intro q
  induction q with
  | zero => intro k h1 h2 h3; omega
  | succ q ih =>
    intro k h1 h2 h3
    by_cases h : k = n
    · subst h; exact he q
    · rw [hs q k h1 (by omega)]
      exact ih (k + 1) (by omega) (by omega) (by omega)
theorem ck_t {ρ : Type} {b : Bool} {x : Option ρ} (h : b = true) : ck b x = x := by rw [h]; rfl
theorem inb_nI {k n : Nat} (h : k < n) (h2 : k < 2147483648) : inb (nI k) n = true := by
  unfold inb
  rw [nI_toInt h2]
  exact decide_eq_true ⟨by omega, by omega⟩
theorem ck_inb {ρ : Type} {k n : Nat} {x : Option ρ} (h : k < n) (h2 : k < 2147483648) : ck (inb (nI k) n) x = x := ck_t (inb_nI h h2)
theorem bndC_s {α ρ : Type} (x : α) (I : kgM) (f : α → kgM → Option ρ) : bndC (some (x, I)) f = f x I := Eq.trans rfl rfl
theorem bnd_s {α ρ : Type} (x : α) (f : α → Option ρ) : bnd x f = f x := Eq.trans rfl rfl
theorem letJ_s {α β : Type} (x : α) (f : α → β) : letJ x f = f x := Eq.trans rfl rfl
theorem ck_isz0 {ρ : Type} {x : Option ρ} : ck (isz 0) x = x := ck_t rfl
theorem ck_isz1 {ρ : Type} {x : Option ρ} : ck (isz 1) x = x := ck_t rfl
def b2i (b : Bool) : Int32 := match b with
  | true => 1
  | false => 0
theorem b2i_isz (b : Bool) : isz (b2i b) = true := by cases b <;> rfl
theorem b2i_0 (b : Bool) : (b2i b = 0) = (b = false) := by cases b <;> simp [b2i]
def cnt (n : Nat) (p : Nat → Bool) : Nat := match n with
  | 0 => 0
  | n + 1 => cnt n p + (if p n then 1 else 0)
theorem cnt_le (n : Nat) (p : Nat → Bool) : cnt n p ≤ n := by
  induction n with
  | zero => exact Nat.le_refl _
  | succ n ih => unfold cnt; split <;> omega
def smN (n : Nat) (f : Nat → Nat) : Nat := match n with
  | 0 => 0
  | n + 1 => smN n f + f n
def smI (n : Nat) (f : Nat → Int32) : Int32 := match n with
  | 0 => 0
  | n + 1 => smI n f + f n
theorem smN_le {n : Nat} {f : Nat → Nat} {b : Nat} (h : ∀ k, k < n → f k ≤ b) : smN n f ≤ n * b := by
  induction n with
  | zero => exact Nat.zero_le _
  | succ n ih =>
    have h1 := ih (fun k hk => h k (by omega))
    have h2 := h n (by omega)
    show smN n f + f n ≤ (n + 1) * b
    rw [Nat.succ_mul]; omega
theorem smI_nI {n : Nat} {f : Nat → Nat} : smI n (fun k => nI (f k)) = nI (smN n f) := by
  induction n with
  | zero => rfl
  | succ n ih => show smI n _ + nI (f n) = nI (smN n f + f n); rw [ih, nI_add]
theorem smI_congr {n : Nat} {f g : Nat → Int32} (h : ∀ k, k < n → f k = g k) : smI n f = smI n g := by
  induction n with
  | zero => rfl
  | succ n ih => show smI n f + f n = smI n g + g n; rw [ih (fun k hk => h k (by omega)), h n (by omega)]
theorem cnt_congr {n : Nat} {f g : Nat → Bool} (h : ∀ k, k < n → f k = g k) : cnt n f = cnt n g := by
  induction n with
  | zero => rfl
  | succ n ih => show cnt n f + _ = cnt n g + _; rw [ih (fun k hk => h k (by omega)), h n (by omega)]
/-- the first below n of which p holds -/
def fst? (n : Nat) (p : Nat → Bool) : Option Nat := match n with
  | 0 => none
  | n + 1 => match fst? n p with
    | some k => some k
    | none => if p n then some n else none
theorem nI_lt0 {k : Nat} (h : k < 2147483648) : (nI k < 0) = False := eq_false (nI_pos h)
theorem nI_le0 {k : Nat} (h : k < 2147483648) : (nI k ≤ 0) = (k = 0) := by
  by_cases q : k = 0
  · subst q; simp [nI]
  · exact (eq_false (nI_nle (by omega) h)).trans (eq_false q).symm
theorem nI_eq0 {k : Nat} (h : k < 2147483648) : (nI k = 0) = (k = 0) := propext (nI_eq (a := k) (b := 0) h (by omega))
theorem nI_leE {a b : Nat} (ha : a < 2147483648) (hb : b < 2147483648) : (nI a ≤ nI b) = (a ≤ b) := propext (nI_leI ha hb)
theorem nI_ltE {a b : Nat} (ha : a < 2147483648) (hb : b < 2147483648) : (nI a < nI b) = (a < b) := propext (nI_ltI ha hb)
theorem nI_eqE {a b : Nat} (ha : a < 2147483648) (hb : b < 2147483648) : (nI a = nI b) = (a = b) := propext (nI_eq ha hb)
theorem oc_m1 {a : Nat} (h : a < 2147483648) : (nI a - 1 = -1) = (a = 0) := by
  by_cases q : a = 0
  · subst q; simp [nI]
  · obtain ⟨b, rfl⟩ : ∃ b, a = b + 1 := ⟨a - 1, by omega⟩
    rw [nI_pred]
    refine eq_false' (fun z => ?_) |>.trans (eq_false q).symm
    have := congrArg Int32.toInt z
    rw [nI_toInt (by omega)] at this
    have h2 : (-1 : Int32).toInt = -1 := by decide
    omega

