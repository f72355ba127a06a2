theorem smN_congr {n : Nat} {f g : Nat → Nat} (h : ∀ k, k < n → f k = g k) : smN n f = smN n g := by
  induction n with
  | zero => rfl
  | succ n ih => show smN n f + f n = smN n g + g n; rw [ih (fun k hk => h k (by omega)), h n (by omega)]
theorem smN_upd {n i : Nat} {f g : Nat → Nat} (hi : i < n) (h : ∀ k, k < n → k ≠ i → f k = g k) : smN n f + g i = smN n g + f i := by
  induction n with
  | zero => omega
  | succ n ih =>
    show smN n f + f n + _ = smN n g + g n + _
    by_cases e : i = n
    · subst e; rw [smN_congr (fun k hk => h k (by omega) (by omega))]; omega
    · have := ih (by omega) (fun k hk hne => h k (by omega) hne)
      rw [h n (by omega) (by omega)]; omega
theorem kgSet_ne {s : kgS} {j p v a b : Nat} (h : a ≠ j ∨ b ≠ p) : (kgSet s j p v).1 a b = s.1 a b := if_neg (by omega)
theorem kgSet_eq {s : kgS} {j p v : Nat} : (kgSet s j p v).1 j p = v := if_pos ⟨rfl, rfl⟩
/-- what a field of a kettle may be -/
def kgOv (j v : Nat) : Prop := (j = 9 ∧ 4 ≤ v ∧ v ≤ 20) ∨ (j = 11 ∧ v ≤ 7) ∨ (j = 12 ∧ v ≤ 1) ∨ (j = 13 ∧ v ≤ 1) ∨ (j = 14 ∧ (v = 0 ∨ v = 1 ∨ v = 2 ∨ v = 4 ∨ v = 8)) ∨ (j = 5 ∧ v ≤ 5)
theorem own_ne {s : kgS} {j p v m : Nat} (h : j ≠ 1) : own (kgSet s j p v) m = own s m := by
  unfold own; exact cnt_congr (fun k _ => by rw [kgSet_ne (Or.inl (Ne.symm h))])
theorem wf_free {s : kgS} (w : kgWF s) {j k v : Nat} (hv : kgOv j v) : kgWF (kgSet s j k v) := by
  have hj : j ≠ 0 ∧ j ≠ 1 ∧ j ≠ 6 ∧ j ≠ 7 ∧ j ≠ 8 ∧ j ≠ 10 := by unfold kgOv at hv; omega
  have en : kgN (kgSet s j k v) = kgN s := kgSet_ne (Or.inl (Ne.symm hj.1))
  refine ⟨by rw [en]; exact w.1, fun q a b => by rw [kgSet_ne (Or.inl (Ne.symm hj.2.1))]; exact w.2.1 q a b, fun i hi => ?_, fun i hi => ?_, fun a b h1 h2 => ?_, fun m hm => by rw [own_ne hj.2.1]; exact w.2.2.2.2.2.1 m hm, ?_⟩
  · by_cases e : 5 = j ∧ i = k
    · rw [e.1, e.2, kgSet_eq]; unfold kgOv at hv; omega
    · rw [kgSet_ne (by omega)]; exact w.2.2.1 i hi
  · rw [en] at hi
    have b := w.2.2.2.1 i hi
    have key : ∀ a, (kgSet s j k v).1 a i = if a = j ∧ i = k then v else s.1 a i := fun a => rfl
    unfold kgOv at hv
    simp only [key]
    by_cases e : i = k
    · subst e
      simp only [and_true]
      rw [if_neg (show ¬ 6 = j by omega), if_neg (show ¬ 7 = j by omega), if_neg (show ¬ 8 = j by omega), if_neg (show ¬ 10 = j by omega)]
      refine ⟨b.1, b.2.1, b.2.2.1, b.2.2.2.1, ?_, ?_, b.2.2.2.2.2.2.1, ?_, ?_, ?_, ?_⟩ <;> (split <;> omega)
    · simp only [e, and_false, if_false]; exact b
  · rw [en] at h2
    simp only [kgSet_ne (s := s) (j := j) (p := k) (v := v) (Or.inl (show 10 ≠ j by omega)), kgSet_ne (s := s) (j := j) (p := k) (v := v) (Or.inl (show 7 ≠ j by omega))]
    exact w.2.2.2.2.1 a b h1 h2
  · rw [en]
    have : smN (kgN s) ((kgSet s j k v).1 8) = smN (kgN s) (s.1 8) := smN_congr (fun i _ => kgSet_ne (Or.inl (show 8 ≠ j by omega)))
    rw [this]; exact w.2.2.2.2.2.2
theorem wf_stv {s : kgS} (w : kgWF s) {k v : Nat} (hk : k < kgN s) (hv : v ≤ 6) (hd : v = 0 ∨ ∀ i, i < kgN s → i ≠ k → s.1 10 i ≠ 0 → s.1 10 i ≠ v ∧ s.1 7 i ≠ s.1 7 k) : kgWF (kgSet s 10 k v) := by
  have en : kgN (kgSet s 10 k v) = kgN s := kgSet_ne (Or.inl (by decide))
  refine ⟨by rw [en]; exact w.1, fun q a b => by rw [kgSet_ne (Or.inl (by decide))]; exact w.2.1 q a b, fun i hi => by rw [kgSet_ne (Or.inl (by decide))]; exact w.2.2.1 i hi, fun i hi => ?_, fun a b h1 h2 => ?_, fun m hm => by rw [own_ne (by decide)]; exact w.2.2.2.2.2.1 m hm, ?_⟩
  · rw [en] at hi
    have b := w.2.2.2.1 i hi
    have key : ∀ a, (kgSet s 10 k v).1 a i = if a = 10 ∧ i = k then v else s.1 a i := fun a => rfl
    simp only [key]
    refine ⟨b.1, b.2.1, b.2.2.1, b.2.2.2.1, b.2.2.2.2.1, b.2.2.2.2.2.1, ?_, b.2.2.2.2.2.2.2⟩
    by_cases e : i = k
    · rw [if_pos ⟨trivial, e⟩]; exact hv
    · rw [if_neg (fun z => e z.2)]; exact b.2.2.2.2.2.2.1
  · rw [en] at h2
    have key : ∀ i, (kgSet s 10 k v).1 10 i = if i = k then v else s.1 10 i := fun i => by
      show (if 10 = 10 ∧ i = k then v else s.1 10 i) = _
      simp
    have key7 : ∀ i, (kgSet s 10 k v).1 7 i = s.1 7 i := fun i => kgSet_ne (Or.inl (by decide))
    rw [key, key, key7, key7]
    have old := w.2.2.2.2.1 a b h1 h2
    by_cases e1 : a = k
    · subst e1
      rw [if_pos rfl, if_neg (show ¬ b = a by omega)]
      intro z1 z2
      rcases hd with hd | hd
      · exact absurd hd z1
      · have := hd b h2 (by omega) z2
        exact ⟨Ne.symm this.1, Ne.symm this.2⟩
    · rw [if_neg e1]
      by_cases e2 : b = k
      · subst e2
        rw [if_pos rfl]
        intro z1 z2
        rcases hd with hd | hd
        · exact absurd hd z2
        · exact hd a (by omega) e1 z1
      · rw [if_neg e2]; exact old
  · rw [en]
    have : smN (kgN s) ((kgSet s 10 k v).1 8) = smN (kgN s) (s.1 8) := smN_congr (fun i _ => kgSet_ne (Or.inl (by decide)))
    rw [this]; exact w.2.2.2.2.2.2
/-- water and its account -/
theorem wf_wat {s : kgS} (w : kgWF s) {k v : Nat} (hk : k < kgN s) (hv : v ≤ 20) {i : Nat} {x : Int32} (hx : (i = 13 ∧ x + nI (s.1 8 k) = s.2 13 + nI v) ∨ (i = 14 ∧ x + nI v = s.2 14 + nI (s.1 8 k))) : kgWF (kgSeb (kgSet s 8 k v) i x) := by
  have en : kgN (kgSeb (kgSet s 8 k v) i x) = kgN s := kgSet_ne (s := s) (j := 8) (p := k) (v := v) (a := 0) (b := 0) (Or.inl (by decide))
  have e1 : (kgSeb (kgSet s 8 k v) i x).1 = (kgSet s 8 k v).1 := rfl
  refine ⟨by rw [en]; exact w.1, fun q a b => by rw [e1, kgSet_ne (Or.inl (by decide))]; exact w.2.1 q a b, fun i hi => by rw [e1, kgSet_ne (Or.inl (by decide))]; exact w.2.2.1 i hi, fun i hi => ?_, fun a b h1 h2 => ?_, fun m hm => Nat.le_trans (Nat.le_of_eq (own_ne (s := s) (j := 8) (p := k) (v := v) (m := m) (by decide))) (w.2.2.2.2.2.1 m hm), ?_⟩
  · rw [en] at hi
    have b := w.2.2.2.1 i hi
    have key : ∀ a, (kgSeb (kgSet s 8 k v) i x).1 a i = if a = 8 ∧ i = k then v else s.1 a i := fun a => rfl
    rw [e1]
    have key : ∀ a, (kgSet s 8 k v).1 a i = if a = 8 ∧ i = k then v else s.1 a i := fun a => rfl
    simp only [key]
    refine ⟨b.1, b.2.1, b.2.2.1, ?_, b.2.2.2.2⟩
    by_cases e : i = k
    · rw [if_pos ⟨trivial, e⟩]; exact hv
    · rw [if_neg (fun z => e z.2)]; exact b.2.2.2.1
  · rw [en] at h2
    rw [e1]
    simp only [kgSet_ne (s := s) (j := 8) (p := k) (v := v) (Or.inl (show 10 ≠ 8 by omega)), kgSet_ne (s := s) (j := 8) (p := k) (v := v) (Or.inl (show 7 ≠ 8 by omega))]
    exact w.2.2.2.2.1 a b h1 h2
  · rw [en, e1]
    have h1 := smN_upd (n := kgN s) (i := k) (f := (kgSet s 8 k v).1 8) (g := s.1 8) hk (fun i _ hne => kgSet_ne (Or.inr hne))
    rw [kgSet_eq] at h1
    have h2 : nI (smN (kgN s) ((kgSet s 8 k v).1 8)) + nI (s.1 8 k) = nI (smN (kgN s) (s.1 8)) + nI v := by rw [nI_add, nI_add, h1]
    have h3 := w.2.2.2.2.2.2
    have b13 : (kgSeb (kgSet s 8 k v) i x).2 13 = if 13 = i then x else s.2 13 := rfl
    have b14 : (kgSeb (kgSet s 8 k v) i x).2 14 = if 14 = i then x else s.2 14 := rfl
    rw [b13, b14]
    generalize nI (smN (kgN s) ((kgSet s 8 k v).1 8)) = P at h2 ⊢
    generalize nI (smN (kgN s) (s.1 8)) = Q at h2 h3
    generalize nI (s.1 8 k) = c at h2 hx
    generalize nI v = d at h2 hx
    have hP : P = Q + d - c := by rw [← h2, Int32.add_sub_cancel]
    rcases hx with ⟨rfl, hx⟩ | ⟨rfl, hx⟩
    · rw [if_pos rfl, if_neg (by decide), hP]
      have : x = s.2 13 + d - c := by rw [← hx, Int32.add_sub_cancel]
      rw [this, h3]
      simp only [Int32.sub_eq_add_neg]; ac_rfl
    · rw [if_neg (by decide), if_pos rfl, hP]
      have : x = s.2 14 + c - d := by rw [← hx, Int32.add_sub_cancel]
      rw [this, h3]
      have : Q + d - c + (s.2 14 + c - d) = Q + s.2 14 + (d - d) + (c - c) := by simp only [Int32.sub_eq_add_neg]; ac_rfl
      rw [this, Int32.sub_self, Int32.sub_self, Int32.add_zero, Int32.add_zero]
theorem pt_set {B : Int} {s : kgS} {j p v : Nat} (h : kgPt B s) : kgPt B (kgSet s j p v) := h
theorem pt_seb {B : Int} {s : kgS} {i : Nat} {x : Int32} (h : kgPt B s) (hi : 4 ≤ i) : kgPt B (kgSeb s i x) := fun m hm => by
  rw [show (kgSeb s i x).2 m = s.2 m from if_neg (by omega)]; exact h m hm

