/-! THE TEXT AS ORDERS -/
def dg (v : Nat) : Bool := decide (48 ≤ v ∧ v ≤ 57)
/-- one sign of a form, at h -/
def rd1 (t : Nat → Nat) (c h : Nat) : Option (Nat × List Nat) :=
  if c = 35 then (if dg (t h) = true then some (h + 1, [t h - 48]) else none)
  else if c = 37 then (if dg (t h) = true then (if dg (t (h + 1)) = true then some (h + 2, [10 * (t h - 48) + (t (h + 1) - 48)]) else some (h + 1, [t h - 48])) else none)
  else if c = 63 then (if t h = 43 then some (h + 1, [1]) else if t h = 45 then some (h + 1, [0]) else none)
  else if t h = c then some (h + 1, []) else none
/-- a form, at h: where it ends, and its numbers if it is there -/
def rdF (t : Nat → Nat) : List Nat → Nat → List Nat → Nat × Option (List Nat)
  | [], h, a => (h, some a)
  | c :: cs, h, a => match rd1 t c h with
    | none => (h, none)
    | some y => rdF t cs y.1 (a ++ y.2)
def fmN (j : Nat) : List Nat := ([[111, 119, 110, 32, 35, 32, 37], [107, 101, 116, 116, 108, 101, 32, 35, 32, 37, 32, 37], [115, 101, 116, 32, 35, 32, 35], [111, 102, 102, 32, 35], [104, 101, 97, 116, 32, 35, 32, 35], [102, 105, 108, 108, 32, 35, 32, 37], [108, 105, 100, 32, 35, 63], [97, 112, 112, 101, 97, 108, 32, 35, 32, 35], [109, 105, 110, 117, 116, 101, 32, 35]] : List (List Nat)).getD j []
def isN (c : Nat) : Bool := decide (c = 35) || decide (c = 37) || decide (c = 63)
def nmC : List Nat → Nat
  | [] => 0
  | c :: cs => nmC cs + (if isN c = true then 1 else 0)
theorem rdF_app {t : Nat → Nat} {l2 : List Nat} : ∀ (l1 : List Nat) (h : Nat) (a : List Nat), rdF t (l1 ++ l2) h a = match rdF t l1 h a with
    | (h2, none) => (h2, none)
    | (h2, some b) => rdF t l2 h2 b := by
  intro l1
  induction l1 with
  | nil => intro h a; rfl
  | cons c cs ih =>
    intro h a
    show (match rd1 t c h with | none => (h, none) | some y => rdF t (cs ++ l2) y.1 (a ++ y.2)) = _
    show _ = match (match rd1 t c h with | none => (h, none) | some y => rdF t cs y.1 (a ++ y.2)) with | (h2, none) => (h2, none) | (h2, some b) => rdF t l2 h2 b
    cases rd1 t c h with
    | none => rfl
    | some y => exact ih y.1 (a ++ y.2)
def TxW (t : Nat → Nat) (L : Nat) : Prop := L ≤ 60 ∧ ∀ i, (i < L → 32 ≤ t i ∧ t i < 127) ∧ (L ≤ i → t i = 0)
def TxC (t : Nat → Nat) (L : Nat) (I : kgM) : Prop := I 171 4 = nI L ∧ ∀ i, i < L → I 172 i = nI (t i)
def TxM (t : Nat → Nat) (L : Nat) (I : kgM) : Prop := I 177 7 = nI L ∧ ∀ i, i < L → I 181 i = nI (t i)
theorem dg_lt {t : Nat → Nat} {L h : Nat} (w : TxW t L) (d : dg (t h) = true) : h < L ∧ 48 ≤ t h ∧ t h ≤ 57 := by
  have := of_decide_eq_true d
  refine ⟨?_, this⟩
  by_cases q : h < L
  · exact q
  · have := (w.2 h).2 (by omega); omega
theorem ne_lt {t : Nat → Nat} {L h c : Nat} (w : TxW t L) (hc : c ≠ 0) (e : t h = c) : h < L := by
  by_cases q : h < L
  · exact q
  · have := (w.2 h).2 (by omega); omega
theorem rd1_pos {t : Nat → Nat} {L c h h2 : Nat} {ns : List Nat} (w : TxW t L) (hc : c ≠ 0) (e : rd1 t c h = some (h2, ns)) : h < h2 ∧ h2 ≤ L ∧ ns.length = (if isN c = true then 1 else 0) ∧ ∀ n, n ∈ ns → n ≤ 99 := by
  unfold rd1 at e
  by_cases c1 : c = 35
  · rw [if_pos c1] at e
    by_cases d : dg (t h) = true
    · rw [if_pos d] at e; cases e
      have := dg_lt w d
      subst c1
      exact ⟨by omega, by omega, rfl, fun n hn => by rw [List.mem_singleton] at hn; omega⟩
    · rw [if_neg d] at e; cases e
  · rw [if_neg c1] at e
    by_cases c2 : c = 37
    · rw [if_pos c2] at e
      by_cases d : dg (t h) = true
      · rw [if_pos d] at e
        have := dg_lt w d
        subst c2
        by_cases d2 : dg (t (h + 1)) = true
        · rw [if_pos d2] at e; cases e
          have := dg_lt w d2
          exact ⟨by omega, by omega, rfl, fun n hn => by rw [List.mem_singleton] at hn; omega⟩
        · rw [if_neg d2] at e; cases e
          exact ⟨by omega, by omega, rfl, fun n hn => by rw [List.mem_singleton] at hn; omega⟩
      · rw [if_neg d] at e; cases e
    · rw [if_neg c2] at e
      by_cases c3 : c = 63
      · rw [if_pos c3] at e
        subst c3
        by_cases d : t h = 43
        · rw [if_pos d] at e; cases e
          have := ne_lt w (by decide) d
          exact ⟨by omega, by omega, rfl, fun n hn => by rw [List.mem_singleton] at hn; omega⟩
        · rw [if_neg d] at e
          by_cases d2 : t h = 45
          · rw [if_pos d2] at e; cases e
            have := ne_lt w (by decide) d2
            exact ⟨by omega, by omega, rfl, fun n hn => by rw [List.mem_singleton] at hn; omega⟩
          · rw [if_neg d2] at e; cases e
      · rw [if_neg c3] at e
        by_cases d : t h = c
        · rw [if_pos d] at e; cases e
          have := ne_lt w hc d
          exact ⟨by omega, by omega, by rw [if_neg (by unfold isN; simp [c1, c2, c3])]; rfl, fun n hn => by cases hn⟩
        · rw [if_neg d] at e; cases e
theorem rdF_pos {t : Nat → Nat} {L : Nat} (w : TxW t L) : ∀ (l : List Nat) (h : Nat) (a : List Nat), (∀ c, c ∈ l → c ≠ 0) → h ≤ L → h ≤ (rdF t l h a).1 ∧ (rdF t l h a).1 ≤ L ∧ ∀ b, (rdF t l h a).2 = some b → h + l.length ≤ (rdF t l h a).1 ∧ b.length = a.length + nmC l ∧ ((∀ n, n ∈ a → n ≤ 99) → ∀ n, n ∈ b → n ≤ 99) := by
  intro l
  induction l with
  | nil =>
    intro h a _ hh
    exact ⟨Nat.le_refl _, hh, fun b e => by cases e; exact ⟨Nat.le_refl _, rfl, fun z => z⟩⟩
  | cons c cs ih =>
    intro h a hc hh
    have e : rdF t (c :: cs) h a = match rd1 t c h with | none => (h, none) | some y => rdF t cs y.1 (a ++ y.2) := rfl
    cases q : rd1 t c h with
    | none =>
      rw [q] at e
      rw [show rdF t (c :: cs) h a = (h, none) from e]
      exact ⟨Nat.le_refl _, hh, fun b e => by cases e⟩
    | some y =>
      rw [q] at e
      rw [show rdF t (c :: cs) h a = rdF t cs y.1 (a ++ y.2) from e]
      have p := rd1_pos w (hc c (List.mem_cons_self ..)) (h2 := y.1) (ns := y.2) q
      have r := ih y.1 (a ++ y.2) (fun c hm => hc c (List.mem_cons_of_mem _ hm)) p.2.1
      refine ⟨by have := r.1; omega, r.2.1, fun b e => ?_⟩
      have r2 := r.2.2 b e
      refine ⟨by have := r2.1; simp only [List.length_cons]; omega, ?_, fun z => r2.2.2 (fun n hn => ?_)⟩
      · rw [r2.2.1, List.length_append, p.2.2.1]
        show _ = a.length + (nmC cs + (if isN c = true then 1 else 0))
        omega
      · rcases List.mem_append.mp hn with h1 | h1
        · exact z n h1
        · exact p.2.2.2 n h1
section CLP
variable {t : Nat → Nat} {L h : Nat} {I : kgM}
theorem c_isAt (w : TxW t L) (x : TxC t L I) (hh : I 171 3 = nI h) (hl : h < 2147483648) {c : Nat} (hc : c ≠ 0) (hc2 : c < 127) : f_X1_isAtPlace (nI c) I = some (b2i (decide (t h = c)), I) := by
  have h60 := w.1
  unfold f_X1_isAtPlace
  rw [hh, if_neg (nI_pos hl), x.1]
  by_cases q : h < L
  · rw [if_neg (nI_ge q (by omega)), ck_inb (by omega) hl, nI_clamp hl, x.2 h q]
    have tb := (w.2 h).1 q
    by_cases d : t h = c
    · rw [if_pos (by rw [d]), decide_eq_true d]; rfl
    · rw [if_neg (fun z => d ((nI_eq (by omega) (by omega)).mp z)), decide_eq_false d]; rfl
  · rw [if_pos ((nI_leI (by omega) hl).mpr (by omega)), decide_eq_false (fun z => q (ne_lt w hc z))]; rfl
theorem c_digit (w : TxW t L) (x : TxC t L I) (hh : I 171 3 = nI h) (hl : h < 2147483648) : f_X1_digitAtPlace I = some (if dg (t h) = true then nI (t h - 48) else -1, I) := by
  have h60 := w.1
  unfold f_X1_digitAtPlace
  rw [hh, if_neg (nI_pos hl), x.1]
  by_cases q : h < L
  · rw [if_pos (nI_lt q (by omega)), ck_inb (by omega) hl, nI_clamp hl, x.2 h q, bnd_s]
    have tb := (w.2 h).1 q
    by_cases d1 : t h < 48
    · rw [if_pos (show nI (t h) < (48 : Int32) from nI_lt (b := 48) d1 (by omega)), if_neg (show ¬ dg (t h) = true from fun z => by have := of_decide_eq_true z; omega)]
    · rw [if_neg (show ¬ nI (t h) < (48 : Int32) from fun z => d1 ((nI_ltI (b := 48) (by omega) (by omega)).mp z))]
      by_cases d2 : 57 < t h
      · rw [if_pos (show (57 : Int32) < nI (t h) from nI_lt (a := 57) d2 (by omega)), if_neg (show ¬ dg (t h) = true from fun z => by have := of_decide_eq_true z; omega)]
      · rw [if_neg (show ¬ (57 : Int32) < nI (t h) from fun z => d2 ((nI_ltI (a := 57) (by omega) (by omega)).mp z)), if_pos (show dg (t h) = true from decide_eq_true ⟨by omega, by omega⟩), show nI (t h) - (48 : Int32) = nI (t h - 48) from nI_sub (b := 48) (by omega)]
  · rw [if_neg (fun z => q ((nI_ltI hl (by omega)).mp z)), if_neg (show ¬ dg (t h) = true from fun z => q (dg_lt w z).1)]
theorem c_sign (w : TxW t L) (x : TxC t L I) (hh : I 171 3 = nI h) (hl : h < 2147483648) : f_X1_signAtPlace I = some (if t h = 43 then 1 else if t h = 45 then 0 else -1, I) := by
  unfold f_X1_signAtPlace
  rw [show f_X1_isAtPlace (43 : Int32) I = some (b2i (decide (t h = 43)), I) from c_isAt w x hh hl (c := 43) (by omega) (by omega), bndC_s]
  by_cases d : t h = 43
  · rw [decide_eq_true d, if_neg (by decide), if_pos d]
  · rw [decide_eq_false d, if_pos (show b2i false = 0 from rfl), if_neg d, show f_X1_isAtPlace (45 : Int32) I = some (b2i (decide (t h = 45)), I) from c_isAt w x hh hl (c := 45) (by omega) (by omega), bndC_s]
    by_cases d2 : t h = 45
    · rw [decide_eq_true d2, if_neg (by decide), if_pos d2]
    · rw [decide_eq_false d2, if_pos (show b2i false = 0 from rfl), if_neg d2]
/-- the place alone has moved -/
def plC (I : kgM) (h : Nat) (J : kgM) : Prop := (∀ c, c ≠ 171 → J c = I c) ∧ (∀ x, x ≠ 3 → J 171 x = I 171 x) ∧ J 171 3 = nI h
theorem plC_w (I : kgM) (h : Nat) : plC I h (kgW I 171 3 (nI h)) := ⟨fun c hc => kgW_n _ _ _ hc, fun x hx => by rw [kgW_r, if_neg (fun z => hx z.2)], by rw [kgW_r, if_pos ⟨rfl, rfl⟩]⟩
theorem plC.tx {J : kgM} {h2 : Nat} (p : plC I h2 J) (x : TxC t L I) : TxC t L J := ⟨by rw [p.2.1 4 (by omega)]; exact x.1, fun i hi => by rw [p.1 172 (by omega)]; exact x.2 i hi⟩
theorem c_number (w : TxW t L) (x : TxC t L I) (hh : I 171 3 = nI h) (hl : h ≤ 60) {c : Nat} (hc : isN c = true) : ∃ (J : kgM) (v : Int32), f_X1_readNumber (nI c) I = some (v, J) ∧ (match rd1 t c h with
    | none => v = -1 ∧ J = I
    | some y => ∃ n, y.2 = [n] ∧ v = nI n ∧ plC I y.1 J) := by
  have fin : ∀ n, n ≤ 9 → c ≠ 37 → ∃ J, (if (0 : Int32) ≤ nI n then bnd (kgW I 171 3 ((I 171 3) + (1 : Int32))) (fun I1 => bndC (f_X1_digitAtPlace I1) (fun x1 I2 => (if nI c = (37 : Int32) then (if x1 < 0 then some (nI n, I2) else bnd (kgW I2 171 3 ((I2 171 3) + (1 : Int32))) (fun I3 => some ((nI n * (10 : Int32)) + x1, I3))) else some (nI n, I2)))) else some ((-1 : Int32), I)) = some (nI n, J) ∧ plC I (h + 1) J := by
    intro n hn h37
    have hp := plC_w I (h + 1)
    refine ⟨kgW I 171 3 (nI (h + 1)), ?_, hp⟩
    have hc127 : c < 127 := by unfold isN at hc; simp at hc; omega
    rw [if_pos (nI_ge0 (by omega)), hh, nI_1, bnd_s, c_digit w (hp.tx x) hp.2.2 (by omega), bndC_s, if_neg (show ¬ nI c = (37 : Int32) from fun z => h37 ((nI_eq (b := 37) (by omega) (by omega)).mp z))]
  unfold f_X1_readNumber
  rw [letJ_s]
  unfold isN at hc
  simp only [Bool.or_eq_true, decide_eq_true_eq] at hc
  rcases hc with (rfl | rfl) | rfl
  · rw [if_neg (by decide), c_digit w x hh (by omega), bndC_s]
    have e : rd1 t 35 h = (if dg (t h) = true then some (h + 1, [t h - 48]) else none) := rfl
    rw [e]
    by_cases d : dg (t h) = true
    · have := dg_lt w d
      rw [if_pos d, if_pos d]
      obtain ⟨J, h1, h2⟩ := fin (t h - 48) (by omega) (by omega)
      exact ⟨J, nI (t h - 48), h1, t h - 48, rfl, rfl, h2⟩
    · rw [if_neg d, if_neg d]
      exact ⟨I, -1, by dsimp only; rw [if_neg (by decide)], rfl, rfl⟩
  · rw [if_neg (by decide), c_digit w x hh (by omega), bndC_s]
    have e : rd1 t 37 h = (if dg (t h) = true then (if dg (t (h + 1)) = true then some (h + 2, [10 * (t h - 48) + (t (h + 1) - 48)]) else some (h + 1, [t h - 48])) else none) := rfl
    rw [e]
    by_cases d : dg (t h) = true
    · have g := dg_lt w d
      rw [if_pos d, if_pos d]
      have hp := plC_w I (h + 1)
      dsimp only
      rw [if_pos (nI_ge0 (k := t h - 48) (by omega)), hh, nI_1, bnd_s, c_digit w (hp.tx x) hp.2.2 (by omega), bndC_s, if_pos (show nI 37 = (37 : Int32) from rfl)]
      by_cases d2 : dg (t (h + 1)) = true
      · have g2 := dg_lt w d2
        have hp2 := plC_w (kgW I 171 3 (nI (h + 1))) (h + 2)
        rw [if_pos d2, if_pos d2, if_neg (nI_pos (by omega)), hp.2.2, nI_1, bnd_s, show (10 : Int32) = nI 10 from rfl, nI_mul, nI_add]
        refine ⟨_, _, rfl, _, rfl, by rw [Nat.mul_comm], fun c hc => by rw [hp2.1 c hc, hp.1 c hc], fun x hx => by rw [hp2.2.1 x hx, hp.2.1 x hx], hp2.2.2⟩
      · rw [if_neg d2, if_neg d2, if_pos (by decide)]
        exact ⟨_, _, rfl, _, rfl, rfl, hp⟩
    · rw [if_neg d, if_neg d]
      exact ⟨I, -1, by dsimp only; rw [if_neg (by decide)], rfl, rfl⟩
  · rw [if_pos (by decide), c_sign w x hh (by omega), bndC_s]
    have e : rd1 t 63 h = (if t h = 43 then some (h + 1, [1]) else if t h = 45 then some (h + 1, [0]) else none) := rfl
    rw [e]
    by_cases d : t h = 43
    · rw [if_pos d, if_pos d]
      obtain ⟨J, h1, h2⟩ := fin 1 (by omega) (by omega)
      exact ⟨J, nI 1, h1, 1, rfl, rfl, h2⟩
    · rw [if_neg d, if_neg d]
      by_cases d2 : t h = 45
      · rw [if_pos d2, if_pos d2]
        obtain ⟨J, h1, h2⟩ := fin 0 (by omega) (by omega)
        exact ⟨J, nI 0, h1, 0, rfl, rfl, h2⟩
      · rw [if_neg d2, if_neg d2]
        exact ⟨I, -1, by dsimp only; rw [if_neg (by decide)], rfl, rfl⟩
end CLP
