theorem lpE {σ ρ : Type} {T : Nat → Nat → σ → Option ρ} {P : Nat → σ → Prop} {Q : ρ → Prop} {n : Nat} (hs : ∀ q k x, k < n → P k x → ∃ y, P (k + 1) y ∧ T (q + 1) k x = T q (k + 1) y) (he : ∀ q x, P n x → ∃ r, T (q + 1) n x = some r ∧ Q r) : ∀ q k x, k ≤ n → n < q + k → P k x → ∃ r, T q k x = some r ∧ Q r := by
  intro q
  induction q with
  | zero => intro k x h1 h2; omega
  | succ q ih =>
    intro k x h1 h2 h3
    by_cases e : k = n
    · subst e; exact he q x h3
    · obtain ⟨y, h4, h5⟩ := hs q k x (by omega) h3
      rw [h5]
      exact ih (k + 1) y (by omega) (by omega) h4
def fo1 (s : kgS) : Nat → kgS
  | 0 => s
  | i + 1 => st1 (fo1 s i) i
def fo2 (s : kgS) : Nat → kgS
  | 0 => s
  | i + 1 => st2 (fo2 s i) i
def foB (s : kgS) : Nat → kgS
  | 0 => s
  | i + 1 => st2 (st1 (foB s i) i) i
theorem st2_f {s : kgS} {k a b : Nat} (h : b ≠ k ∨ (a ≠ 9 ∧ a ≠ 11)) : (st2 s k).1 a b = s.1 a b := by
  unfold st2
  rw [kgSet_ne (by omega), kgSet_ne (by omega)]
theorem st1_f {s : kgS} {k a b : Nat} (h : b ≠ k ∨ (a ≠ 8 ∧ a ≠ 10 ∧ a ≠ 11)) : (st1 s k).1 a b = s.1 a b := by
  have hw : (watS s k).1 a b = s.1 a b := by
    unfold watS
    split
    · exact kgSet_ne (s := s) (j := 8) (p := k) (v := s.1 8 k - 1) (by omega)
    · rfl
  unfold st1
  split
  · split
    · rw [dryS_f, if_neg (by omega), if_neg (by omega), hw]
    · exact hw
  · rfl
theorem hU_of {s u : kgS} {k : Nat} (h : u.1 10 k = s.1 10 k) (h5 : ∀ b, u.1 5 b = s.1 5 b) : hU u k = hU s k := by
  unfold hU; rw [h, h5]
theorem bo_of {s u : kgS} {k : Nat} (h : u.1 10 k = s.1 10 k) (h5 : ∀ b, u.1 5 b = s.1 5 b) (h9 : u.1 9 k = s.1 9 k) : bo u k = bo s k := by
  unfold bo; rw [hU_of h h5, h9]
theorem tw_of {s u : kgS} {k : Nat} (h : u.1 10 k = s.1 10 k) (h5 : ∀ b, u.1 5 b = s.1 5 b) (h9 : u.1 9 k = s.1 9 k) : tw u k = tw s k := by
  unfold tw; rw [hU_of h h5, h9, h]
theorem foB_f {s : kgS} {i : Nat} : (∀ a b, i ≤ b ∨ a = 5 ∨ a = 6 ∨ a = 7 → (foB s i).1 a b = s.1 a b) := by
  induction i with
  | zero => intro a b _; rfl
  | succ i ih =>
    intro a b h
    show (st2 (st1 (foB s i) i) i).1 a b = _
    rw [st2_f (by omega), st1_f (by omega)]
    exact ih a b (by omega)
theorem fo1_f {s : kgS} {i : Nat} : (∀ a b, i ≤ b ∨ a = 5 ∨ a = 6 ∨ a = 7 → (fo1 s i).1 a b = s.1 a b) := by
  induction i with
  | zero => intro a b _; rfl
  | succ i ih =>
    intro a b h
    show (st1 (fo1 s i) i).1 a b = _
    rw [st1_f (by omega)]
    exact ih a b (by omega)
theorem foB_n {s : kgS} {i : Nat} : kgN (foB s i) = kgN s := by
  induction i with
  | zero => rfl
  | succ i ih => show kgN (st2 (st1 (foB s i) i) i) = _; rw [st2_n, st1_n, ih]
theorem fo1_n {s : kgS} {i : Nat} : kgN (fo1 s i) = kgN s := by
  induction i with
  | zero => rfl
  | succ i ih => show kgN (st1 (fo1 s i) i) = _; rw [st1_n, ih]
theorem fo2_n {s : kgS} {i : Nat} : kgN (fo2 s i) = kgN s := by
  induction i with
  | zero => rfl
  | succ i ih => show kgN (st2 (fo2 s i) i) = _; rw [st2_n, ih]
theorem wf_foB {s : kgS} (w : kgWF s) {i : Nat} (hi : i ≤ kgN s) : kgWF (foB s i) := by
  induction i with
  | zero => exact w
  | succ i ih =>
    have h := ih (by omega)
    exact wf_st2 (wf_st1 h (by rw [foB_n]; omega)) (by rw [st1_n, foB_n]; omega)
theorem wf_fo1 {s : kgS} (w : kgWF s) {i : Nat} (hi : i ≤ kgN s) : kgWF (fo1 s i) := by
  induction i with
  | zero => exact w
  | succ i ih => exact wf_st1 (ih (by omega)) (by rw [fo1_n]; omega)
theorem wf_fo2 {s : kgS} (w : kgWF s) {i : Nat} (hi : i ≤ kgN s) : kgWF (fo2 s i) := by
  induction i with
  | zero => exact w
  | succ i ih => exact wf_st2 (ih (by omega)) (by rw [fo2_n]; omega)
theorem dr_foB {s : kgS} {i : Nat} : dr (foB s i) i = dr s i := by
  unfold dr
  rw [bo_of (foB_f 10 i (by omega)) (fun b => foB_f 5 b (by omega)) (foB_f 9 i (by omega)), foB_f 8 i (by omega)]
theorem dr_fo1 {s : kgS} {i : Nat} : dr (fo1 s i) i = dr s i := by
  unfold dr
  rw [bo_of (fo1_f 10 i (by omega)) (fun b => fo1_f 5 b (by omega)) (fo1_f 9 i (by omega)), fo1_f 8 i (by omega)]
theorem seb_set {s : kgS} {i j p v : Nat} {x : Int32} : kgSeb (kgSet s j p v) i x = kgSet (kgSeb s i x) j p v := rfl
theorem watS_st2 {X : kgS} {i j : Nat} (h : i ≠ j) : watS (st2 X j) i = st2 (watS X i) j := by
  have e8 : (st2 X j).1 8 i = X.1 8 i := st2_f (by omega)
  have et : tw (watS X i) j = tw X j := tw_of (watS_f (by decide) j) (fun b => watS_f (by decide) b) (watS_f (by decide) j)
  have eb : (watS X i).1 11 j = X.1 11 j := watS_f (by decide) j
  have : st2 (watS X i) j = kgSet (kgSet (watS X i) 9 j (tw X j)) 11 j (X.1 11 j - 1) := by unfold st2; rw [et, eb]
  rw [this]
  unfold watS
  rw [e8]
  by_cases z : 0 < X.1 8 i
  · rw [if_pos z, if_pos z]
    unfold st2
    rw [kgSet_comm (s := kgSet X 9 j (tw X j)) (Or.inl (by decide)), kgSet_comm (s := X) (j := 9) (j' := 8) (Or.inl (by decide))]
    rfl
  · rw [if_neg z, if_neg z]; rfl
theorem dryS_st2 {X : kgS} {i j : Nat} (h : i ≠ j) : dryS (st2 X j) i 7 = st2 (dryS X i 7) j := by
  have e6 : (st2 X j).1 6 i = X.1 6 i := st2_f (by omega)
  have g : ∀ a, (dryS X i 7).1 a j = X.1 a j := fun a => by rw [dryS_f, if_neg (by omega), if_neg (by omega)]
  have g5 : ∀ b, (dryS X i 7).1 5 b = X.1 5 b := fun b => by rw [dryS_f, if_neg (by omega), if_neg (by omega)]
  have : st2 (dryS X i 7) j = kgSet (kgSet (dryS X i 7) 9 j (tw X j)) 11 j (X.1 11 j - 1) := by unfold st2; rw [tw_of (g 10) g5 (g 9), g 11]
  rw [this]
  unfold dryS
  rw [e6]
  unfold st2
  rw [kgSet_comm (s := kgSet X 9 j (tw X j)) (j := 11) (j' := 10) (Or.inl (by decide)), kgSet_comm (s := X) (j := 9) (j' := 10) (Or.inl (by decide)), kgSet_comm (s := kgSet (kgSet X 10 i 0) 9 j (tw X j)) (j := 11) (p := j) (j' := 11) (p' := i) (Or.inr (Ne.symm h)), kgSet_comm (s := kgSet X 10 i 0) (j := 9) (j' := 11) (Or.inl (by decide))]
  rfl
theorem st_comm {X : kgS} {i j : Nat} (h : i ≠ j) : st1 (st2 X j) i = st2 (st1 X i) j := by
  have eb : bo (st2 X j) i = bo X i := bo_of (st2_f (by omega)) (fun b => st2_f (by omega)) (st2_f (by omega))
  have e8 : (st2 X j).1 8 i = X.1 8 i := st2_f (by omega)
  unfold st1
  rw [eb, e8]
  by_cases z : bo X i = true
  · rw [if_pos z, if_pos z]
    by_cases z2 : X.1 8 i ≤ 1
    · rw [if_pos z2, if_pos z2, watS_st2 h, dryS_st2 h]
    · rw [if_neg z2, if_neg z2, watS_st2 h]
  · rw [if_neg z, if_neg z]
theorem fo2_st1 {X : kgS} {n i : Nat} (h : n ≤ i) : st1 (fo2 X n) i = fo2 (st1 X i) n := by
  induction n with
  | zero => rfl
  | succ n ih =>
    show st1 (st2 (fo2 X n) n) i = st2 (fo2 (st1 X i) n) n
    rw [st_comm (by omega), ih (by omega)]
theorem fo_eq {s : kgS} {n : Nat} : fo2 (fo1 s n) n = foB s n := by
  induction n with
  | zero => rfl
  | succ n ih =>
    show st2 (fo2 (st1 (fo1 s n) n) n) n = st2 (st1 (foB s n) n) n
    rw [← fo2_st1 (Nat.le_refl n), ih]
/-! points -/
theorem pt_st1 {B : Int} {s : kgS} (w : kgWF s) (hp : kgPt B s) (hB : 0 ≤ B ∧ B < 2000000000) {k : Nat} (hk : k < kgN s) : kgPt (B + 2) (st1 s k) := by
  have b := w.2.2.2.1 k hk
  have hw : ∀ m, m < 4 → (watS s k).2 m = s.2 m := fun m hm => by
    unfold watS
    split
    · exact if_neg (by omega)
    · rfl
  have h6 : (watS s k).1 6 k = s.1 6 k := watS_f (by decide) k
  intro m hm
  have old := hp m hm
  unfold st1
  split
  · split
    · show -(B + 2) ≤ (if m = 4 + (watS s k).1 6 k then _ else if m = (watS s k).1 6 k then (watS s k).2 ((watS s k).1 6 k) - 2 else (watS s k).2 m).toInt ∧ (if m = 4 + (watS s k).1 6 k then _ else if m = (watS s k).1 6 k then (watS s k).2 ((watS s k).1 6 k) - 2 else (watS s k).2 m).toInt ≤ B + 2
      rw [if_neg (by omega), h6, hw _ b.1, hw m hm]
      by_cases e : m = s.1 6 k
      · rw [if_pos e, ← e, Int32.toInt_sub, show (2 : Int32).toInt = 2 from rfl, Int.bmod_eq_of_le (by omega) (by omega)]
        omega
      · rw [if_neg e]; omega
    · rw [hw m hm]; omega
  · omega
theorem pt_foB {B : Int} {s : kgS} (w : kgWF s) (hp : kgPt B s) (hB : 0 ≤ B ∧ B < 1000000000) {i : Nat} (hi : i ≤ kgN s) : kgPt (B + 2 * i) (foB s i) := by
  induction i with
  | zero =>
    rw [show B + 2 * ((0 : Nat) : Int) = B by omega]; exact hp
  | succ i ih =>
    have hn := w.1
    have := pt_st1 (wf_foB w (i := i) (by omega)) (ih (by omega)) (by omega) (k := i) (by rw [foB_n]; omega)
    rw [show B + 2 * ((i + 1 : Nat) : Int) = B + 2 * (i : Int) + 2 by omega]
    exact this

