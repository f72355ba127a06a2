/-! QUESTIONS -/
def hU (s : kgS) (k : Nat) : Nat := if s.1 10 k = 0 then 0 else s.1 5 (s.1 10 k - 1)
def bo (s : kgS) (k : Nat) : Bool := decide (0 < hU s k) && decide (s.1 9 k = 20)
def wh (s : kgS) (k : Nat) : Bool := bo s k && (decide (0 < s.1 8 k) && decide (s.1 12 k = 1))
def own (s : kgS) (m : Nat) : Nat := cnt 12 (fun p => decide (s.1 1 (p + 1) = m + 1))
def kgWF (s : kgS) : Prop := kgN s ≤ 10 ∧ (∀ p, 1 ≤ p → p < 13 → s.1 1 p ≤ 4) ∧ (∀ i, i < 6 → s.1 5 i ≤ 5) ∧
  (∀ k, k < kgN s → s.1 6 k < 4 ∧ 1 ≤ s.1 7 k ∧ s.1 7 k < 13 ∧ s.1 8 k ≤ 20 ∧ 4 ≤ s.1 9 k ∧ s.1 9 k ≤ 20 ∧ s.1 10 k ≤ 6 ∧ s.1 11 k ≤ 7 ∧ s.1 12 k ≤ 1 ∧ s.1 13 k ≤ 1 ∧ (s.1 14 k = 0 ∨ s.1 14 k = 1 ∨ s.1 14 k = 2 ∨ s.1 14 k = 4 ∨ s.1 14 k = 8)) ∧
  (∀ j k, j < k → k < kgN s → s.1 10 j ≠ 0 → s.1 10 k ≠ 0 → s.1 10 j ≠ s.1 10 k ∧ s.1 7 j ≠ s.1 7 k) ∧ (∀ m, m < 4 → own s m ≤ 4) ∧ s.2 13 = nI (smN (kgN s) (s.1 8)) + s.2 14
section CLQ
variable {I : kgM} {s : kgS}
theorem RepG.own (h : RepG I 1 s) {p : Nat} (h1 : 1 ≤ p) (h2 : p < 13) : I 2 p = nI (s.1 1 p) - 1 := h.1 1 p (Or.inl ⟨rfl, h1, h2⟩)
theorem RepG.hea (h : RepG I 1 s) {i : Nat} (h2 : i < 6) : I 6 i = nI (s.1 5 i) := h.1 5 i (Or.inr (Or.inl ⟨rfl, h2⟩))
theorem RepG.mem (h : RepG I 1 s) {k : Nat} (hk : k < kgN s) : I 7 k = nI (s.1 6 k) := h.1 6 k (Or.inr (Or.inr ⟨by omega, by omega, hk⟩))
theorem RepG.pit (h : RepG I 1 s) {k : Nat} (hk : k < kgN s) : I 8 k = nI (s.1 7 k) := h.1 7 k (Or.inr (Or.inr ⟨by omega, by omega, hk⟩))
theorem RepG.wat (h : RepG I 1 s) {k : Nat} (hk : k < kgN s) : I 9 k = nI (s.1 8 k) := h.1 8 k (Or.inr (Or.inr ⟨by omega, by omega, hk⟩))
theorem RepG.tmp (h : RepG I 1 s) {k : Nat} (hk : k < kgN s) : I 10 k = nI (5 * s.1 9 k) := h.1 9 k (Or.inr (Or.inr ⟨by omega, by omega, hk⟩))
theorem RepG.stv (h : RepG I 1 s) {k : Nat} (hk : k < kgN s) : I 11 k = nI (s.1 10 k) - 1 := h.1 10 k (Or.inr (Or.inr ⟨by omega, by omega, hk⟩))
theorem RepG.ban (h : RepG I 1 s) {k : Nat} (hk : k < kgN s) : I 12 k = nI (s.1 11 k) := h.1 11 k (Or.inr (Or.inr ⟨by omega, by omega, hk⟩))
theorem RepG.lid (h : RepG I 1 s) {k : Nat} (hk : k < kgN s) : I 13 k = nI (s.1 12 k) := h.1 12 k (Or.inr (Or.inr ⟨by omega, by omega, hk⟩))
theorem RepG.bar (h : RepG I 1 s) {k : Nat} (hk : k < kgN s) : I 14 k = nI (s.1 13 k) := h.1 13 k (Or.inr (Or.inr ⟨by omega, by omega, hk⟩))
theorem RepG.apl (h : RepG I 1 s) {k : Nat} (hk : k < kgN s) : I 15 k = nI (s.1 14 k) := h.1 14 k (Or.inr (Or.inr ⟨by omega, by omega, hk⟩))
theorem hU_le (w : kgWF s) {k : Nat} (hk : k < kgN s) : hU s k ≤ 5 := by
  unfold hU
  split
  · omega
  · have := (w.2.2.2.1 k hk).2.2.2.2.2.2.1
    exact w.2.2.1 _ (by omega)
theorem l0 : (0 : Int32) = nI 0 := rfl
theorem l1 : (1 : Int32) = nI 1 := rfl
theorem l2 : (2 : Int32) = nI 2 := rfl
theorem l3 : (3 : Int32) = nI 3 := rfl
theorem l4 : (4 : Int32) = nI 4 := rfl
theorem l5 : (5 : Int32) = nI 5 := rfl
theorem l6 : (6 : Int32) = nI 6 := rfl
theorem l7 : (7 : Int32) = nI 7 := rfl
theorem l8 : (8 : Int32) = nI 8 := rfl
theorem l9 : (9 : Int32) = nI 9 := rfl
theorem l10 : (10 : Int32) = nI 10 := rfl
theorem l11 : (11 : Int32) = nI 11 := rfl
theorem l12 : (12 : Int32) = nI 12 := rfl
theorem l13 : (13 : Int32) = nI 13 := rfl
theorem l20 : (20 : Int32) = nI 20 := rfl
theorem l29 : (29 : Int32) = nI 29 := rfl
theorem l35 : (35 : Int32) = nI 35 := rfl
theorem l100 : (100 : Int32) = nI 100 := rfl
theorem nI_mul (a b : Nat) : nI a * nI b = nI (a * b) := (Int32.ofNat_mul a b).symm
theorem nI_sub {a b : Nat} (h : b ≤ a) : nI a - nI b = nI (a - b) := by
  obtain ⟨c, rfl⟩ : ∃ c, a = c + b := ⟨a - b, by omega⟩
  rw [← nI_add, Nat.add_sub_cancel, Int32.add_sub_cancel]
theorem c_heat (h : RepG I 1 s) (w : kgWF s) {k : Nat} (hk : k < kgN s) : f_X3_heatUnder (nI k) I = some (nI (hU s k), I) := by
  have hn := w.1
  have b := w.2.2.2.1 k hk
  unfold f_X3_heatUnder hU
  simp (disch := omega) only [ck_inb, bnd_s, nI_clamp, h.stv hk]
  by_cases q : s.1 10 k = 0
  · rw [q, if_pos rfl]; rfl
  · obtain ⟨a, ha⟩ : ∃ a, s.1 10 k = a + 1 := ⟨s.1 10 k - 1, by omega⟩
    have e := h.hea (i := a) (by omega)
    simp (disch := omega) only [if_neg q, ha, nI_pred, l6, nI_lt0, nI_leE, if_neg, ck_inb, nI_clamp, e, if_false, if_neg (show ¬ 6 ≤ a by omega), Nat.add_sub_cancel]
theorem c_boils (h : RepG I 1 s) (w : kgWF s) {k : Nat} (hk : k < kgN s) : f_X3_boils (nI k) I = some (b2i (bo s k), I) := by
  have hn := w.1
  have b := w.2.2.2.1 k hk
  have h5 := hU_le w hk
  unfold f_X3_boils bo
  simp (disch := omega) only [c_heat h w hk, bndC_s, nI_le0, ck_inb, nI_clamp, h.tmp hk, l100, nI_eqE]
  by_cases q : hU s k = 0
  · rw [if_pos q, q]; rfl
  · rw [if_neg q, decide_eq_true (show 0 < hU s k by omega)]
    by_cases q2 : s.1 9 k = 20
    · rw [if_pos (by omega), decide_eq_true q2]; rfl
    · rw [if_neg (by omega), decide_eq_false q2]; rfl
end CLQ
