/-! counting bits -/
def bcV (p1 : Int32) : Int32 :=
  let x1 := p1 - (((p1.toUInt32 >>> ((1 : Int32).toUInt32 &&& Int32.toUInt32 31)).toInt32) &&& (1431655765 : Int32))
  let x2 := (x1 &&& (858993459 : Int32)) + (((x1.toUInt32 >>> ((2 : Int32).toUInt32 &&& Int32.toUInt32 31)).toInt32) &&& (858993459 : Int32))
  let x3 := (x2 + ((x2.toUInt32 >>> ((4 : Int32).toUInt32 &&& Int32.toUInt32 31)).toInt32)) &&& (252645135 : Int32)
  let x4 := x3 + ((x3.toUInt32 >>> ((8 : Int32).toUInt32 &&& Int32.toUInt32 31)).toInt32)
  let x5 := x4 + ((x4.toUInt32 >>> ((16 : Int32).toUInt32 &&& Int32.toUInt32 31)).toInt32)
  x5 &&& (63 : Int32)
theorem bc_V (p1 : Int32) (I : kgM) : f_J6_bitCount_0f7a4 p1 I = some (bcV p1, I) := rfl
def pop (a : Nat) : Nat := cnt 13 (fun i => a.testBit i)
theorem bc_pop0 : ∀ b, b < 128 → ∀ c, c < 64 → bcV (nI (64 * b + c)) = nI (pop (64 * b + c)) := by decide +kernel
theorem c_bits {a : Nat} {I : kgM} (h : a < 8192) : f_J6_bitCount_0f7a4 (nI a) I = some (nI (pop a), I) := by
  have := bc_pop0 (a / 64) (by omega) (a % 64) (Nat.mod_lt _ (by decide))
  rw [show 64 * (a / 64) + a % 64 = a by omega] at this
  rw [bc_V, this]
def blV : Nat → Int32 → Int32 → Option Int32
  | 0, _, _ => none
  | q + 1, x, y => if y = 0 then some x else blV q (x + 1) (y &&& (y - 1))
def blO (o : Option Int32) (I : kgM) : Option (Int32 × kgM) := match o with
  | some x => some (x, I)
  | none => none
theorem bl_V (q : Nat) : ∀ (x y : Int32) (I : kgM), f_X5_bits_L4 (fun x3 I1 => some (x3, I1)) q x y I = blO (blV q x y) I := by
  induction q with
  | zero => intro x y I; rfl
  | succ q ih =>
    intro x y I
    rw [f_X5_bits_L4, blV]
    by_cases h : y = 0
    · rw [if_pos h, if_pos h]; rfl
    · rw [if_neg h, if_neg h]; exact ih _ _ I
theorem bl_pop0 : ∀ b, b < 16 → ∀ c, c < 64 → blV 200 0 (nI (64 * b + c)) = some (nI (pop (64 * b + c))) := by decide +kernel
theorem m_bits {a : Nat} {I : kgM} (h : a < 1024) : f_X5_bits (nI a) I = some (nI (pop a), I) := by
  have := bl_pop0 (a / 64) (by omega) (a % 64) (Nat.mod_lt _ (by decide))
  rw [show 64 * (a / 64) + a % 64 = a by omega] at this
  unfold f_X5_bits
  rw [bl_V, this]; rfl
theorem pop_ap0 : ∀ m, m < 4 → ∀ a ∈ [0, 1, 2, 4, 8], (a.testBit m || (decide (a ||| 2 ^ m < 16) && (decide (pop (a ||| 2 ^ m) = 2) || (decide (pop (a ||| 2 ^ m) < 2) && [0, 1, 2, 4, 8].contains (a ||| 2 ^ m))))) = true := by decide +kernel
theorem pop_ap {m a : Nat} (hm : m < 4) (ha : a = 0 ∨ a = 1 ∨ a = 2 ∨ a = 4 ∨ a = 8) (hb : a.testBit m = false) : a ||| 2 ^ m < 16 ∧ (pop (a ||| 2 ^ m) = 2 ∨ (pop (a ||| 2 ^ m) < 2 ∧ (a ||| 2 ^ m = 0 ∨ a ||| 2 ^ m = 1 ∨ a ||| 2 ^ m = 2 ∨ a ||| 2 ^ m = 4 ∨ a ||| 2 ^ m = 8))) := by
  have := pop_ap0 m hm a (by simp only [List.mem_cons, List.not_mem_nil, or_false]; exact ha)
  rw [hb, Bool.false_or, Bool.and_eq_true, Bool.or_eq_true, Bool.and_eq_true, decide_eq_true_eq, decide_eq_true_eq, decide_eq_true_eq, List.contains_iff_mem] at this
  simp only [List.mem_cons, List.not_mem_nil, or_false] at this
  exact this

