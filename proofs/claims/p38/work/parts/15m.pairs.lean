/-! HARMONY: pairs -/
def vv (s : kgS) (i j : Nat) : Int32 := if wh s i && wh s j then sd (s.1 7 i) (s.1 7 j) else 0
def pF (s : kgS) (m i j : Nat) : Int32 := if i < j then (if s.1 6 i = m then vv s i j else 0) + (if s.1 6 j = m then vv s i j else 0) else 0
def accC (s : kgS) (i j m : Nat) : Int32 := s.2 m + smI i (fun a => smI (kgN s) (fun b => pF s m a b)) + smI j (fun b => pF s m i b)
def accM (s : kgS) (k j m : Nat) : Int32 := s.2 m + smI k (fun b => smI (kgN s) (fun a => pF s m a b)) + smI j (fun a => pF s m a k)
theorem smI_0 {n : Nat} {f : Nat → Int32} (h : ∀ k, k < n → f k = 0) : smI n f = 0 := by
  induction n with
  | zero => rfl
  | succ n ih => show smI n f + f n = 0; rw [ih (fun k hk => h k (by omega)), h n (by omega)]; rfl
theorem smI_ext {n k : Nat} {f : Nat → Int32} (hk : k ≤ n) (h : ∀ a, k ≤ a → a < n → f a = 0) : smI n f = smI k f := by
  induction n with
  | zero => rw [show k = 0 by omega]
  | succ n ih =>
    by_cases e : k = n + 1
    · rw [e]
    · show smI n f + f n = _
      rw [ih (by omega) (fun a h1 h2 => h a h1 (by omega)), h n (by omega) (by omega), Int32.add_zero]
theorem smI_add {n : Nat} {f g : Nat → Int32} : smI n (fun k => f k + g k) = smI n f + smI n g := by
  induction n with
  | zero => rfl
  | succ n ih => show smI n _ + (f n + g n) = (smI n f + f n) + (smI n g + g n); rw [ih]; ac_rfl
theorem smI_swap {n m : Nat} {F : Nat → Nat → Int32} : smI n (fun a => smI m (fun b => F a b)) = smI m (fun b => smI n (fun a => F a b)) := by
  induction n with
  | zero => exact (smI_0 (fun _ _ => rfl)).symm
  | succ n ih =>
    show smI n _ + smI m (fun b => F n b) = smI m (fun b => smI n (fun a => F a b) + F n b)
    rw [ih, smI_add]
theorem pF_0 {s : kgS} {m i j : Nat} (h : j ≤ i) : pF s m i j = 0 := if_neg (by omega)
theorem accC_0 {s : kgS} {i m : Nat} : accC s i (i + 1) m = s.2 m + smI i (fun a => smI (kgN s) (fun b => pF s m a b)) := by
  unfold accC
  rw [smI_0 (fun k hk => pF_0 (by omega)), Int32.add_zero]
theorem accC_n {s : kgS} {i m : Nat} : accC s i (kgN s) m = s.2 m + smI (i + 1) (fun a => smI (kgN s) (fun b => pF s m a b)) := by
  unfold accC
  show _ = s.2 m + (smI i (fun a => smI (kgN s) (fun b => pF s m a b)) + smI (kgN s) (fun b => pF s m i b))
  rw [Int32.add_assoc]
theorem accM_0 {s : kgS} {k m : Nat} : accM s k 0 m = s.2 m + smI k (fun b => smI (kgN s) (fun a => pF s m a b)) := by
  unfold accM
  rw [show smI 0 (fun a => pF s m a k) = 0 from rfl, Int32.add_zero]
theorem accM_n {s : kgS} {k m : Nat} (hk : k ≤ kgN s) : accM s k k m = s.2 m + smI (k + 1) (fun b => smI (kgN s) (fun a => pF s m a b)) := by
  unfold accM
  show _ = s.2 m + (smI k (fun b => smI (kgN s) (fun a => pF s m a b)) + smI (kgN s) (fun a => pF s m a k))
  rw [Int32.add_assoc, smI_ext (n := kgN s) (k := k) hk (fun a h1 h2 => pF_0 h1)]
theorem acc_eq {s : kgS} {m : Nat} : s.2 m + smI (kgN s) (fun a => smI (kgN s) (fun b => pF s m a b)) = s.2 m + smI (kgN s) (fun b => smI (kgN s) (fun a => pF s m a b)) := by rw [smI_swap]
/-- other points -/
def ptS (s : kgS) (P : Nat → Int32) : kgS := (s.1, fun t => if t < 4 then P t else s.2 t)
theorem wf_ptS {s : kgS} (w : kgWF s) {P : Nat → Int32} : kgWF (ptS s P) :=
  ⟨w.1, w.2.1, w.2.2.1, w.2.2.2.1, w.2.2.2.2.1, w.2.2.2.2.2.1, by
    show (if 13 < 4 then P 13 else s.2 13) = _ + (if 14 < 4 then P 14 else s.2 14)
    rw [if_neg (by decide), if_neg (by decide)]; exact w.2.2.2.2.2.2⟩
theorem ptS_id {s : kgS} {P : Nat → Int32} (h : ∀ m, m < 4 → P m = s.2 m) : ptS s P = s := by
  refine Prod.ext rfl (funext fun t => ?_)
  show (if t < 4 then P t else s.2 t) = s.2 t
  by_cases q : t < 4
  · rw [if_pos q, h t q]
  · rw [if_neg q]
theorem ptS_congr {s : kgS} {P Q : Nat → Int32} (h : ∀ m, m < 4 → P m = Q m) : ptS s P = ptS s Q := by
  refine Prod.ext rfl (funext fun t => ?_)
  show (if t < 4 then P t else s.2 t) = (if t < 4 then Q t else s.2 t)
  by_cases q : t < 4
  · rw [if_pos q, if_pos q, h t q]
  · rw [if_neg q, if_neg q]
theorem ptS_two {s : kgS} {P : Nat → Int32} {m1 m2 : Nat} {v : Int32} (h1 : m1 < 4) (h2 : m2 < 4) : kgSeb (kgSeb (ptS s P) m1 (P m1 + v)) m2 ((if m2 = m1 then P m1 + v else P m2) + v) = ptS s (fun m => P m + ((if m1 = m then v else 0) + (if m2 = m then v else 0))) := by
  refine Prod.ext rfl (funext fun t => ?_)
  show (if t = m2 then (if m2 = m1 then P m1 + v else P m2) + v else if t = m1 then P m1 + v else if t < 4 then P t else s.2 t) = (if t < 4 then P t + ((if m1 = t then v else 0) + (if m2 = t then v else 0)) else s.2 t)
  by_cases q : t < 4
  · rw [if_pos q, if_pos q]
    by_cases e2 : t = m2
    · subst e2
      rw [if_pos rfl, if_pos rfl]
      by_cases e1 : t = m1
      · subst e1; rw [if_pos rfl, if_pos rfl, Int32.add_assoc]
      · rw [if_neg e1, if_neg (Ne.symm e1), Int32.zero_add]
    · rw [if_neg e2, if_neg (Ne.symm e2)]
      by_cases e1 : t = m1
      · subst e1; rw [if_pos rfl, if_pos rfl, Int32.add_zero]
      · rw [if_neg e1, if_neg (Ne.symm e1), Int32.add_zero, Int32.add_zero]
  · rw [if_neg (by omega), if_neg (by omega), if_neg q, if_neg q]
/-- bars away -/
def zbS (s : kgS) (i : Nat) : kgS := (fun a b => if a = 13 ∧ b < i then 0 else s.1 a b, s.2)
theorem zbS_0 {s : kgS} : zbS s 0 = s := Prod.ext (funext fun a => funext fun b => if_neg (by omega)) rfl
theorem zbS_s {s : kgS} {i : Nat} : kgSet (zbS s i) 13 i 0 = zbS s (i + 1) := by
  refine Prod.ext (funext fun a => funext fun b => ?_) rfl
  show (if a = 13 ∧ b = i then 0 else if a = 13 ∧ b < i then 0 else s.1 a b) = (if a = 13 ∧ b < i + 1 then 0 else s.1 a b)
  by_cases q : a = 13 ∧ b < i + 1
  · rw [if_pos q]
    by_cases q2 : a = 13 ∧ b = i
    · rw [if_pos q2]
    · rw [if_neg q2, if_pos (by omega)]
  · rw [if_neg q, if_neg (by omega), if_neg (by omega)]
theorem wf_zbS {s : kgS} (w : kgWF s) {i : Nat} : kgWF (zbS s i) := by
  induction i with
  | zero => rw [zbS_0]; exact w
  | succ i ih => rw [← zbS_s]; exact wf_free ih (j := 13) (k := i) (v := 0) (by unfold kgOv; omega)
theorem zbS_n {s : kgS} {i : Nat} : kgN (zbS s i) = kgN s := by
  show (if 0 = 13 ∧ 0 < i then 0 else s.1 0 0) = s.1 0 0
  rw [if_neg (by omega)]
def hrS (s : kgS) : kgS := zbS (ptS s (fun m => s.2 m + smI (kgN s) (fun a => smI (kgN s) (fun b => pF s m a b)))) (kgN s)
theorem wf_hrS {s : kgS} (w : kgWF s) : kgWF (hrS s) := wf_zbS (wf_ptS w)
theorem hrS_n {s : kgS} : kgN (hrS s) = kgN s := zbS_n
/-! how large -/
def bdd (b : Int) (x : Int32) : Prop := -b ≤ x.toInt ∧ x.toInt ≤ b
theorem bdd_add {a b : Int} {x y : Int32} (h1 : bdd a x) (h2 : bdd b y) (h : a + b < 2147483648) : bdd (a + b) (x + y) := by
  unfold bdd at *
  rw [Int32.toInt_add, Int.bmod_eq_of_le (by omega) (by omega)]
  omega
theorem bdd_mono {a b : Int} {x : Int32} (h : bdd a x) (hab : a ≤ b) : bdd b x := ⟨by have := h.1; omega, by have := h.2; omega⟩
theorem bdd_sm {n : Nat} {b : Nat} {f : Nat → Int32} (h : ∀ k, k < n → bdd b (f k)) (hs : n * b < 2147483648) : bdd ((n * b : Nat) : Int) (smI n f) := by
  induction n with
  | zero =>
    rw [Nat.zero_mul]
    have : (0 : Int32).toInt = 0 := rfl
    exact ⟨by show -((0 : Nat) : Int) ≤ (0 : Int32).toInt; omega, by show (0 : Int32).toInt ≤ ((0 : Nat) : Int); omega⟩
  | succ n ih =>
    rw [Nat.succ_mul] at hs ⊢
    have := bdd_add (ih (fun k hk => h k (by omega)) (by omega)) (h n (by omega)) (by omega)
    rw [show ((n * b + b : Nat) : Int) = ((n * b : Nat) : Int) + (b : Int) by omega]
    exact this
theorem sd_bdd : ∀ d, d < 12 → (kg_snd d = 0 ∨ kg_snd d = 1 ∨ kg_snd d = -1) := by decide
theorem sd_b1 {a b : Nat} (ha : a < 13) (hb : b < 13) (h0 : 1 ≤ a ∧ 1 ≤ b) : bdd 1 (sd a b) := by
  unfold sd
  have : ∀ d, d < 12 → bdd 1 (kg_snd d) := fun d hd => by
    rcases sd_bdd d hd with h | h | h <;> rw [h] <;> exact ⟨by decide, by decide⟩
  split <;> exact this _ (by omega)
theorem bdd_0 {b : Int} (h : 0 ≤ b) : bdd b 0 := ⟨by have : (0 : Int32).toInt = 0 := rfl; omega, by have : (0 : Int32).toInt = 0 := rfl; omega⟩
theorem pF_b {s : kgS} (w : kgWF s) {m i j : Nat} (hi : i < kgN s) (hj : j < kgN s) : bdd 2 (pF s m i j) := by
  have b1 := w.2.2.2.1 i hi
  have b2 := w.2.2.2.1 j hj
  have hv : bdd 1 (vv s i j) := by
    unfold vv
    split
    · exact sd_b1 (by omega) (by omega) (by omega)
    · exact bdd_0 (by decide)
  unfold pF
  split
  · refine bdd_add (a := 1) (b := 1) ?_ ?_ (by decide)
    · split
      · exact hv
      · exact bdd_0 (by decide)
    · split
      · exact hv
      · exact bdd_0 (by decide)
  · exact bdd_0 (by decide)
theorem pt_hrS {B : Int} {s : kgS} (w : kgWF s) (hp : kgPt B s) (hB : 0 ≤ B ∧ B < 1000000000) : kgPt (B + 200) (hrS s) := by
  have hn := w.1
  intro m hm
  show -(B + 200) ≤ (if m < 4 then _ else s.2 m).toInt ∧ (if m < 4 then _ else s.2 m).toInt ≤ B + 200
  rw [if_pos hm]
  have h1 : bdd ((kgN s * (kgN s * 2) : Nat) : Int) (smI (kgN s) (fun a => smI (kgN s) (fun b => pF s m a b))) := bdd_sm (fun a ha => bdd_sm (b := 2) (fun b hb => pF_b w ha hb) (by omega)) (by have := Nat.mul_le_mul hn (show kgN s * 2 ≤ 20 by omega); omega)
  have h2 : kgN s * (kgN s * 2) ≤ 10 * 20 := Nat.mul_le_mul hn (by omega)
  exact bdd_add (hp m hm) (bdd_mono h1 (b := 200) (by omega)) (by omega)

