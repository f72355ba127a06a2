/-! THE GUILD IN NUMBERS: what the cells of both sides stand for. s.1: 0 0 kettles; 1 p owner and 1; 5 s heat; 6 k member; 7 pitch; 8 water; 9 a fifth of the warmth; 10 stove and 1; 11 ban; 12 lid; 13 bar; 14 who appealed. s.2: m points; 4+m dry; 8+m appeals; 12 minutes; 13 came; 14 away -/
abbrev kgS : Type := (Nat → Nat → Nat) × (Nat → Int32)
abbrev kgN (s : kgS) : Nat := s.1 0 0
def kgDm (n j p : Nat) : Prop := (j = 1 ∧ 1 ≤ p ∧ p < 13) ∨ (j = 5 ∧ p < 6) ∨ (6 ≤ j ∧ j < 15 ∧ p < n)
def kgCo (j v : Nat) : Int32 := if j = 1 ∨ j = 10 then nI v - 1 else if j = 9 then nI (5 * v) else nI v
def kgCm (j v : Nat) : Int32 := if j = 9 then nI (5 * v) else nI v
def kgLo (j p : Nat) : Nat := if j = 1 then 16 + p else if j = 5 then 29 + p else 35 + 9 * p + [0, 1, 2, 3, 5, 6, 4, 7, 8].getD (j - 6) 0
def RepG (I : kgM) (c : Nat) (s : kgS) : Prop :=
  (∀ j p, kgDm (kgN s) j p → I (c + j) p = kgCo j (s.1 j p)) ∧ I c 14 = nI (kgN s) ∧ (∀ m, m < 4 → I (c + 2) m = s.2 m ∧ I (c + 3) m = s.2 (4 + m) ∧ I (c + 4) m = s.2 (8 + m)) ∧ I c 15 = s.2 12 ∧ I c 16 = s.2 13 ∧ I c 17 = s.2 14
def RepR (R : Nat → Int32) (s : kgS) : Prop :=
  (∀ j p, kgDm (kgN s) j p → R (kgLo j p) = kgCm j (s.1 j p)) ∧ R 1 = nI (kgN s) ∧ (∀ m, m < 4 → R (5 + 3 * m) = s.2 m ∧ R (6 + 3 * m) = s.2 (4 + m) ∧ R (7 + 3 * m) = s.2 (8 + m)) ∧ R 0 = s.2 12 ∧ R 2 = s.2 13 ∧ R 3 = s.2 14 ∧ R 4 = s.2 4 + s.2 5 + s.2 6 + s.2 7
def kgRow (I : kgM) (r : Nat) : Nat → Int32 := fun j => I 178 (125 * r + j)
def kgSet (s : kgS) (j p v : Nat) : kgS := (fun a b => if a = j ∧ b = p then v else s.1 a b, s.2)
def kgSeb (s : kgS) (i : Nat) (x : Int32) : kgS := (s.1, fun a => if a = i then x else s.2 a)
theorem kgW_r (I : kgM) (k j a b : Nat) (x : Int32) : kgW I k j x a b = if a = k ∧ b = j then x else I a b := by
  by_cases h : a = k
  · subst h
    rw [kgW_s]
    by_cases h2 : b = j
    · subst h2; rw [pk_us, if_pos ⟨rfl, rfl⟩]
    · rw [if_neg (fun q => h2 q.2)]; unfold upd; rw [if_neg h2]
  · rw [kgW_n _ _ _ h, if_neg (fun q => h q.1)]
/-- a field that is set -/
def kgFd (j : Nat) : Prop := j = 1 ∨ (5 ≤ j ∧ j < 15)
theorem RepG.set {I : kgM} {c : Nat} {s : kgS} (h : RepG I c s) {j p v : Nat} (hj : kgFd j) : RepG (kgW I (c + j) p (kgCo j v)) c (kgSet s j p v) := by
  have hj0 : j ≠ 0 ∧ j ≠ 2 ∧ j ≠ 3 ∧ j ≠ 4 := by unfold kgFd at hj; omega
  have hn : kgN (kgSet s j p v) = kgN s := if_neg (fun q => hj0.1 q.1.symm)
  have hc : ∀ b, kgW I (c + j) p (kgCo j v) c b = I c b := fun b => by rw [kgW_r, if_neg (by omega)]
  refine ⟨fun a b hd => ?_, by rw [hc, hn]; exact h.2.1, fun m hm => ?_, by rw [hc]; exact h.2.2.2.1, by rw [hc]; exact h.2.2.2.2.1, by rw [hc]; exact h.2.2.2.2.2⟩
  · rw [hn] at hd
    rw [kgW_r]
    show _ = kgCo a (if a = j ∧ b = p then v else s.1 a b)
    by_cases q : a = j ∧ b = p
    · rw [if_pos q, if_pos ⟨by omega, q.2⟩, q.1]
    · rw [if_neg q, if_neg (by omega)]; exact h.1 a b hd
  · rw [kgW_r, kgW_r, kgW_r, if_neg (by omega), if_neg (by omega), if_neg (by omega)]
    exact h.2.2.1 m hm
theorem RepG.same {I J : kgM} {c : Nat} {s : kgS} (h : RepG I c s) (e : ∀ j, j < 15 → J (c + j) = I (c + j)) : RepG J c s := by
  have e0 : J c = I c := e 0 (by omega)
  refine ⟨fun j p hd => ?_, by rw [e0]; exact h.2.1, fun m hm => ?_, by rw [e0]; exact h.2.2.2.1, by rw [e0]; exact h.2.2.2.2.1, by rw [e0]; exact h.2.2.2.2.2⟩
  · rw [e j (by unfold kgDm at hd; omega)]; exact h.1 j p hd
  · rw [e 2 (by omega), e 3 (by omega), e 4 (by omega)]; exact h.2.2.1 m hm
/-- the numbers of s.2, set in the class's memory -/
def kgAt (c i k p : Nat) : Prop := (i < 4 ∧ k = c + 2 ∧ p = i) ∨ (4 ≤ i ∧ i < 8 ∧ k = c + 3 ∧ p + 4 = i) ∨ (8 ≤ i ∧ i < 12 ∧ k = c + 4 ∧ p + 8 = i) ∨ (12 ≤ i ∧ i < 15 ∧ k = c ∧ p = i + 3)
theorem RepG.seb {I : kgM} {c : Nat} {s : kgS} (h : RepG I c s) {i k p : Nat} (x : Int32) (hk : kgAt c i k p) : RepG (kgW I k p x) c (kgSeb s i x) := by
  unfold kgAt at hk
  have key : ∀ a b : Nat, ∀ t : Nat, I a b = s.2 t → ((a = k ∧ b = p) ↔ t = i) → kgW I k p x a b = (kgSeb s i x).2 t := by
    intro a b t h1 h2
    rw [kgW_r]
    show _ = if t = i then x else s.2 t
    by_cases q : t = i
    · rw [if_pos q, if_pos (h2.mpr q)]
    · rw [if_neg q, if_neg (fun z => q (h2.mp z))]; exact h1
  refine ⟨fun a b hd => ?_, ?_, fun m hm => ⟨?_, ?_, ?_⟩, ?_, ?_, ?_⟩
  · have hd : kgDm (kgN s) a b := hd
    rw [kgW_r, if_neg (by unfold kgDm at hd; omega)]
    exact h.1 a b hd
  · rw [kgW_r, if_neg (by omega)]
    exact h.2.1
  · exact key _ _ m (h.2.2.1 m hm).1 (by omega)
  · exact key _ _ (4 + m) (h.2.2.1 m hm).2.1 (by omega)
  · exact key _ _ (8 + m) (h.2.2.1 m hm).2.2 (by omega)
  · exact key _ _ 12 h.2.2.2.1 (by omega)
  · exact key _ _ 13 h.2.2.2.2.1 (by omega)
  · exact key _ _ 14 h.2.2.2.2.2 (by omega)
/-- places of the row are apart -/
def kgIv (x : Nat) : Nat × Nat := if x < 29 then (1, x - 16) else if x < 35 then (5, x - 29) else ([6, 7, 8, 9, 12, 10, 11, 13, 14].getD ((x - 35) % 9) 0, (x - 35) / 9)
theorem kgLo_iv0 : ∀ j, j < 15 → ∀ p, p < 13 → (!(decide (j = 1) && decide (1 ≤ p) || decide (j = 5) && decide (p < 6) || decide (6 ≤ j) && decide (p < 10)) || (kgIv (kgLo j p)).1 == j && (kgIv (kgLo j p)).2 == p && decide (17 ≤ kgLo j p) && decide (kgLo j p < 125)) = true := by decide +kernel
theorem kgLo_iv (j : Nat) (hj : j < 15) (p : Nat) (hp : p < 13) (h : (j = 1 ∧ 1 ≤ p) ∨ (j = 5 ∧ p < 6) ∨ (6 ≤ j ∧ p < 10)) : kgIv (kgLo j p) = (j, p) ∧ 17 ≤ kgLo j p ∧ kgLo j p < 125 := by
  have := kgLo_iv0 j hj p hp
  simp only [Bool.or_eq_true, Bool.and_eq_true, Bool.not_eq_true', decide_eq_true_eq, beq_iff_eq] at this
  rcases this with h2 | ⟨⟨⟨h1, h2⟩, h3⟩, h4⟩
  · simp only [Bool.or_eq_false_iff, Bool.and_eq_false_iff, decide_eq_false_iff_not] at h2; omega
  · exact ⟨Prod.ext h1 h2, h3, h4⟩
theorem kgLo_iv' {n j p : Nat} (hn : n ≤ 10) (h : kgDm n j p) : kgIv (kgLo j p) = (j, p) ∧ 17 ≤ kgLo j p ∧ kgLo j p < 125 := by
  unfold kgDm at h
  exact kgLo_iv j (by omega) p (by omega) (by omega)
theorem RepR.set {R R' : Nat → Int32} {s : kgS} (h : RepR R s) (hn : kgN s ≤ 10) {j p v : Nat} (hd : kgDm (kgN s) j p) (e : ∀ x, R' x = if x = kgLo j p then kgCm j v else R x) : RepR R' (kgSet s j p v) := by
  have hl := kgLo_iv' hn hd
  have hj0 : j ≠ 0 := by unfold kgDm at hd; omega
  have hnn : kgN (kgSet s j p v) = kgN s := if_neg (fun q => hj0 q.1.symm)
  have hlow : ∀ x, x < 17 → R' x = R x := fun x hx => by rw [e, if_neg (by omega)]
  refine ⟨fun a b hd2 => ?_, by rw [hlow 1 (by omega), hnn]; exact h.2.1, fun m hm => ?_, by rw [hlow _ (by omega)]; exact h.2.2.2.1, by rw [hlow _ (by omega)]; exact h.2.2.2.2.1, by rw [hlow _ (by omega)]; exact h.2.2.2.2.2.1, by rw [hlow _ (by omega)]; exact h.2.2.2.2.2.2⟩
  · rw [hnn] at hd2
    have hl2 := kgLo_iv' hn hd2
    rw [e]
    show _ = kgCm a (if a = j ∧ b = p then v else s.1 a b)
    by_cases q : a = j ∧ b = p
    · rw [if_pos q, q.1, q.2, if_pos rfl]
    · rw [if_neg q, if_neg (fun z => q ?_)]
      · exact h.1 a b hd2
      · rw [z, hl.1] at hl2
        have := Prod.mk.inj hl2.1
        exact ⟨this.1.symm, this.2.symm⟩
  · rw [hlow _ (by omega), hlow _ (by omega), hlow _ (by omega)]; exact h.2.2.1 m hm
theorem RepR.same {R R' : Nat → Int32} {s : kgS} (h : RepR R s) (hn : kgN s ≤ 10) (e : ∀ x, x < 125 → R' x = R x) : RepR R' s :=
  ⟨fun j p hd => by rw [e _ (kgLo_iv' hn hd).2.2]; exact h.1 j p hd, by rw [e _ (by omega)]; exact h.2.1, fun m hm => by rw [e _ (by omega), e _ (by omega), e _ (by omega)]; exact h.2.2.1 m hm, by rw [e _ (by omega)]; exact h.2.2.2.1, by rw [e _ (by omega)]; exact h.2.2.2.2.1, by rw [e _ (by omega)]; exact h.2.2.2.2.2.1, by rw [e _ (by omega)]; exact h.2.2.2.2.2.2⟩
/-- the numbers of s.2, set in the row -/
def kgBt (i x : Nat) : Prop := (i < 4 ∧ x = 5 + 3 * i) ∨ (8 ≤ i ∧ i < 12 ∧ x = 7 + 3 * (i - 8)) ∨ (i = 12 ∧ x = 0) ∨ (i = 13 ∧ x = 2) ∨ (i = 14 ∧ x = 3)
theorem RepR.seb {R R' : Nat → Int32} {s : kgS} (h : RepR R s) (hn : kgN s ≤ 10) {i x : Nat} {v : Int32} (hk : kgBt i x) (e : ∀ a, R' a = if a = x then v else R a) : RepR R' (kgSeb s i v) := by
  unfold kgBt at hk
  have key : ∀ a t : Nat, R a = s.2 t → (a = x ↔ t = i) → R' a = (kgSeb s i v).2 t := by
    intro a t h1 h2
    rw [e]
    show _ = if t = i then v else s.2 t
    by_cases q : t = i
    · rw [if_pos q, if_pos (h2.mpr q)]
    · rw [if_neg q, if_neg (fun z => q (h2.mp z))]; exact h1
  have key2 : ∀ t, 4 ≤ t → t < 8 → (kgSeb s i v).2 t = s.2 t := fun t h1 h2 => if_neg (by omega)
  refine ⟨fun a b hd => ?_, ?_, fun m hm => ⟨?_, ?_, ?_⟩, ?_, ?_, ?_, ?_⟩
  · have hd : kgDm (kgN s) a b := hd
    have := kgLo_iv' hn hd
    rw [e, if_neg (by omega)]
    exact h.1 a b hd
  · rw [e, if_neg (by omega)]; exact h.2.1
  · exact key _ m (h.2.2.1 m hm).1 (by omega)
  · rw [e, if_neg (by omega), key2 _ (by omega) (by omega)]; exact (h.2.2.1 m hm).2.1
  · exact key _ (8 + m) (h.2.2.1 m hm).2.2 (by omega)
  · exact key _ 12 h.2.2.2.1 (by omega)
  · exact key _ 13 h.2.2.2.2.1 (by omega)
  · exact key _ 14 h.2.2.2.2.2.1 (by omega)
  · rw [e, if_neg (by omega), key2 4 (by omega) (by omega), key2 5 (by omega) (by omega), key2 6 (by omega) (by omega), key2 7 (by omega) (by omega)]; exact h.2.2.2.2.2.2
/-- one more dry for member m: two writes in the row -/
theorem RepR.dry {R R' : Nat → Int32} {s : kgS} (h : RepR R s) (hn : kgN s ≤ 10) {m : Nat} (hm : m < 4) (e : ∀ a, R' a = if a = 6 + 3 * m then R (6 + 3 * m) + 1 else if a = 4 then R 4 + 1 else R a) : RepR R' (kgSeb s (4 + m) (s.2 (4 + m) + 1)) := by
  have keep : ∀ a, a ≠ 6 + 3 * m → a ≠ 4 → R' a = R a := fun a h1 h2 => by rw [e, if_neg h1, if_neg h2]
  have key2 : ∀ t, t ≠ 4 + m → (kgSeb s (4 + m) (s.2 (4 + m) + 1)).2 t = s.2 t := fun t h1 => if_neg h1
  have key3 : (kgSeb s (4 + m) (s.2 (4 + m) + 1)).2 (4 + m) = s.2 (4 + m) + 1 := if_pos rfl
  refine ⟨fun a b hd => ?_, ?_, fun m2 hm2 => ⟨?_, ?_, ?_⟩, ?_, ?_, ?_, ?_⟩
  · have hd : kgDm (kgN s) a b := hd
    have := kgLo_iv' hn hd
    rw [keep _ (by omega) (by omega)]; exact h.1 a b hd
  · rw [keep _ (by omega) (by omega)]; exact h.2.1
  · rw [keep _ (by omega) (by omega), key2 _ (by omega)]; exact (h.2.2.1 m2 hm2).1
  · by_cases q : m2 = m
    · subst q
      rw [e, if_pos rfl, key3, (h.2.2.1 m2 hm2).2.1]
    · rw [keep _ (by omega) (by omega), key2 _ (by omega)]; exact (h.2.2.1 m2 hm2).2.1
  · rw [keep _ (by omega) (by omega), key2 _ (by omega)]; exact (h.2.2.1 m2 hm2).2.2
  · rw [keep _ (by omega) (by omega), key2 _ (by omega)]; exact h.2.2.2.1
  · rw [keep _ (by omega) (by omega), key2 _ (by omega)]; exact h.2.2.2.2.1
  · rw [keep _ (by omega) (by omega), key2 _ (by omega)]; exact h.2.2.2.2.2.1
  · rw [e, if_neg (by omega), if_pos rfl, h.2.2.2.2.2.2]
    have hm4 : m = 0 ∨ m = 1 ∨ m = 2 ∨ m = 3 := by omega
    rcases hm4 with rfl | rfl | rfl | rfl
    · rw [key3, key2 5 (by omega), key2 6 (by omega), key2 7 (by omega)]; show _ = s.2 4 + 1 + _ + _ + _; ac_rfl
    · rw [key2 4 (by omega), key2 6 (by omega), key2 7 (by omega), key3]; show _ = _ + (s.2 5 + 1) + _ + _; ac_rfl
    · rw [key2 4 (by omega), key2 5 (by omega), key2 7 (by omega), key3]; show _ = _ + _ + (s.2 6 + 1) + _; ac_rfl
    · rw [key2 4 (by omega), key2 5 (by omega), key2 6 (by omega), key3]; show _ = _ + _ + _ + (s.2 7 + 1); ac_rfl

