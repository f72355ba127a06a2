theorem to_nI {x : Int32} {j : Nat} (h : x.toInt = (j : Int)) (hj : j < 2147483648) : x = nI j := Int32.toInt_inj.mp (h.trans (nI_toInt hj).symm)
theorem ge0_nI {k : Nat} (h : k < 2147483648) : (0 ≤ nI k) = True := eq_true (nI_pos' h)
theorem m1_ge : ((0 : Int32) ≤ -1) = False := eq_false (by decide)
theorem oN_nI {I : kgM} {k : Nat} (h : k < 2147483648) : f_X4_orNothing (nI k) I = some (nI k, I) := by
  unfold f_X4_orNothing
  rw [if_neg (of_eq_false (nI_m1 h))]
theorem oN_m1 {I : kgM} : f_X4_orNothing (-1) I = some (-1015, I) := by
  unfold f_X4_orNothing
  rw [if_pos rfl]
theorem b2i_sel {I : kgM} (b : Bool) : (if b2i b = 0 then some ((0 : Int32), I) else some ((1 : Int32), I)) = some (b2i b, I) := by cases b <;> rfl
section READ
variable {q : Nat}
/-! when a kettle boils -/
def bmI (h t : Nat) : Int32 := if h = 0 then -1015 else nI ((100 - 5 * t + 5 * h - 1) / (5 * h))
def bV (a2 : Int32) : Nat → Int32 → Int32 → Option Int32
  | 0, _, _ => none
  | q + 1, x, y => if (100 : Int32) < y then some (-1015) else if a2 ≤ 0 then bV a2 q (if x + 5 * a2 < 100 then x + 5 * a2 else 100) (y + 1) else if x = 100 then some y else bV a2 q (if x + 5 * a2 < 100 then x + 5 * a2 else 100) (y + 1)
theorem b_V (a2 : Int32) (q : Nat) : ∀ (x y : Int32) (I : kgM), f_X4_boilsIn_L34 a2 (fun I4 => some ((-1015 : Int32), I4)) q x y I = blO (bV a2 q x y) I := by
  induction q with
  | zero => intro x y I; rfl
  | succ q ih =>
    intro x y I
    have mn : ∀ z : Int32, f_J9_min_7cf53 100 z I = some ((if z < 100 then z else 100), I) := fun z => by
      unfold f_J9_min_7cf53
      by_cases c : z < 100
      · rw [if_pos c, if_pos c]
      · rw [if_neg c, if_neg c]
    rw [f_X4_boilsIn_L34, bV, letJ_s, mn, bndC_s, bnd_s, ih]
    by_cases c1 : (100 : Int32) < y
    · rw [if_pos c1, if_pos c1]; rfl
    · rw [if_neg c1, if_neg c1]
      by_cases c2 : a2 ≤ 0
      · rw [if_pos c2, if_pos c2]
      · rw [if_neg c2, if_neg c2]
        by_cases c3 : x = 100
        · rw [if_pos c3, if_pos c3]; rfl
        · rw [if_neg c3, if_neg c3]
theorem bV_all : ∀ h, h < 6 → ∀ t, t < 17 → bV (nI h) 200 (nI (5 * (t + 4))) 0 = some (bmI h (t + 4)) := by decide +kernel
theorem bA_all : ∀ h, h < 5 → ∀ t, t < 17 → (((100 : Int32) - nI (5 * (t + 4))) + (5 : Int32) * nI (h + 1) - 1) / ((5 : Int32) * nI (h + 1)) = bmI (h + 1) (t + 4) := by decide +kernel
theorem b5_all : ∀ h, h < 5 → (0 : Int32) < (5 : Int32) * nI (h + 1) ∧ ¬ (5 : Int32) * nI (h + 1) = 0 := by decide +kernel
theorem bm_all : ∀ h, h < 5 → ∀ t, t < 17 → ¬ bmI (h + 1) (t + 4) < 0 ∧ ¬ bmI (h + 1) (t + 4) = -1015 := by decide +kernel
section BOIL
variable {I : kgM} {s : kgS}
theorem c_boilsIn (hG : RepG I 1 s) (w : kgWF s) {k : Nat} (hk : k < kgN s) : f_X4_boilsIn (nI k) I = some (bmI (hU s k) (s.1 9 k), I) := by
  have hn := w.1
  have b := w.2.2.2.1 k hk
  have hh := hU_le w hk
  have q1 : rgI 0 ((kgN s : Int) - 1) (nI k) = true := decide_eq_true (by rw [nI_toInt (by omega)]; omega)
  have := bV_all (hU s k) (by omega) (s.1 9 k - 4) (by omega)
  rw [show s.1 9 k - 4 + 4 = s.1 9 k by omega] at this
  unfold f_X4_boilsIn
  rw [c_isKettle hG w, bndC_s, if_neg (b2i_n0 q1), c_heat hG w hk, bndC_s, ck_inb (by omega) (by omega), nI_clamp (by omega), hG.tmp hk, bnd_s, b_V, this]; rfl
theorem c_boilsInAgain (hG : RepG I 1 s) (w : kgWF s) {k : Nat} (hk : k < kgN s) : f_X4_boilsInAgain (nI k) I = some (bmI (hU s k) (s.1 9 k), I) := by
  have hn := w.1
  have b := w.2.2.2.1 k hk
  have hh := hU_le w hk
  have q1 : rgI 0 ((kgN s : Int) - 1) (nI k) = true := decide_eq_true (by rw [nI_toInt (by omega)]; omega)
  unfold f_X4_boilsInAgain
  rw [c_isKettle hG w, bndC_s, if_neg (b2i_n0 q1), c_heat hG w hk, bndC_s, bnd_s]
  by_cases z : hU s k = 0
  · rw [z, if_neg (by decide)]; rfl
  · obtain ⟨h, eh⟩ : ∃ h, hU s k = h + 1 := ⟨hU s k - 1, by omega⟩
    have a1 := bA_all h (by omega) (s.1 9 k - 4) (by omega)
    have a2 := b5_all h (by omega)
    rw [show s.1 9 k - 4 + 4 = s.1 9 k by omega] at a1
    rw [eh, if_pos a2.1, ck_inb (by omega) (by omega), nI_clamp (by omega), hG.tmp hk, bnd_s, ck_t (decide_eq_true a2.2), a1]
theorem m_minutesTo (hR : RepR (kgRow I 0) s) (w : kgWF s) {k : Nat} (hk : k < kgN s) : f_X5_minutesTo (nI k) I = some (bmI (hU s k) (s.1 9 k), I) := by
  have hn := w.1
  have b := w.2.2.2.1 k hk
  have hh := hU_le w hk
  unfold f_X5_minutesTo
  rw [m_heat hR w hk, bndC_s, bnd_s]
  by_cases z : hU s k = 0
  · rw [z, if_pos (by decide)]; rfl
  · obtain ⟨h, eh⟩ : ∃ h, hU s k = h + 1 := ⟨hU s k - 1, by omega⟩
    have a1 := bA_all h (by omega) (s.1 9 k - 4) (by omega)
    have a2 := b5_all h (by omega)
    rw [show s.1 9 k - 4 + 4 = s.1 9 k by omega] at a1
    rw [eh, if_neg a2.2, m_wrm hR hn hk, bndC_s, ck_t (decide_eq_true a2.2), a1]
end BOIL
end READ
