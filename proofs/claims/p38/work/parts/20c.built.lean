/-! WHAT THE LAW DOES WITH THE GUILD -/
def hasP (s : kgS) : Prop := ∃ p, 1 ≤ p ∧ p < 13 ∧ s.1 1 p ≠ 0
theorem hasP.tr {s s' : kgS} (h : hasP s) (t : kgTr s s') : hasP s' := by
  obtain ⟨p, a, b, c⟩ := h
  exact ⟨p, a, b, by rw [t.2.1 p c]; exact c⟩
theorem m12 {a : Nat} (h : a < 100000) : (1 : Int32) + (nI a - nI a / (12 : Int32) * (12 : Int32)) = nI (1 + a % 12) := by
  rw [show nI a - nI a / (12 : Int32) * (12 : Int32) = nI (a % 12) from pk_rem (d := 12) (by omega) (by omega) (by omega)]
  exact nI_add 1 _
theorem brings_in {q : Nat} {f v : Nat} (hf : f < 12) (hv : v ≤ 20) {s : kgS} {I : kgM} (hI : InvC (bnI q) s I) : ∀ d k qq, k + d = 12 → d < qq →
    ∃ s' x J, f_L_brings_L2 (nI f) (nI v) (fun I4 => some ((-1011 : Int32), I4)) qq (nI k) I = some (x, J) ∧ InvC (bnI (q + 1)) s' J ∧ kgTr s s' ∧ ((∃ j, k ≤ j ∧ j < 12 ∧ s.1 1 (1 + (f + j) % 12) ≠ 0) → 0 < kgN s') := by
  intro d
  induction d with
  | zero =>
    intro k qq h1 h2
    obtain ⟨r, rfl⟩ : ∃ r, qq = r + 1 := ⟨qq - 1, by omega⟩
    have hk : k = 12 := by omega
    subst hk
    refine ⟨s, -1011, I, ?_, hI.mono (by unfold bnI; omega), tr_rf, fun ⟨j, a, b, _⟩ => by omega⟩
    rw [f_L_brings_L2, if_pos (show (12 : Int32) ≤ nI 12 from Int32.le_refl _)]
  | succ d ih =>
    intro k qq h1 h2
    obtain ⟨r, rfl⟩ : ∃ r, qq = r + 1 := ⟨qq - 1, by omega⟩
    have hG := hI.2.1
    have w := hI.2.2.1
    have hp1 : 1 ≤ 1 + (f + k) % 12 := by omega
    have hp2 : 1 + (f + k) % 12 < 13 := by omega
    have bo := w.2.1 _ hp1 (by omega)
    rw [f_L_brings_L2, if_neg (show ¬ (12 : Int32) ≤ nI k from nI_ge (b := 12) (by omega) (by omega)), nI_add, m12 (by omega), bnd_s, r_owner hG w hp1 hp2, bndC_s]
    by_cases z : s.1 1 (1 + (f + k) % 12) = 0
    · rw [show owI s (1 + (f + k) % 12) = -1015 from if_pos z, if_pos (by decide), nI_1, bnd_s]
      obtain ⟨s', x, J, g1, g2, g3, g4⟩ := ih (k + 1) r (by omega) (by omega)
      refine ⟨s', x, J, g1, g2, g3, fun ⟨j, a, b, c⟩ => g4 ⟨j, ?_, b, c⟩⟩
      by_cases e : j = k
      · rw [e] at c; exact absurd z c
      · omega
    · obtain ⟨m, em⟩ : ∃ m, s.1 1 (1 + (f + k) % 12) = m + 1 := ⟨s.1 1 (1 + (f + k) % 12) - 1, by omega⟩
      rw [show owI s (1 + (f + k) % 12) = nI m from (if_neg z).trans (by rw [em, Nat.add_sub_cancel]), if_neg (nI_pos (by omega)), r_owner hG w hp1 hp2, bndC_s, show owI s (1 + (f + k) % 12) = nI m from (if_neg z).trans (by rw [em, Nat.add_sub_cancel])]
      obtain ⟨s', x, J, g1, g2, g3, g4⟩ := kettle_more hI (m := m) (v := v) (by omega) hp1 hp2 hv em
      exact ⟨s', x, J, by rw [g1, bndC_s], g2, g3, fun _ => g4⟩
theorem brings_v {q : Nat} {f v : Nat} (hf : f < 12) (hv : v ≤ 20) {s : kgS} {I : kgM} (hI : InvC (bnI q) s I) : ∃ s' x J, f_L_brings (nI f) (nI v) I = some (x, J) ∧ InvC (bnI (q + 1)) s' J ∧ kgTr s s' ∧ (hasP s → 0 < kgN s') := by
  obtain ⟨s', x, J, g1, g2, g3, g4⟩ := brings_in hf hv hI 12 0 200 (by omega) (by omega)
  refine ⟨s', x, J, g1, g2, g3, fun ⟨p, a, b, c⟩ => g4 ⟨(p + 11 - f) % 12, by omega, by omega, ?_⟩⟩
  rw [show 1 + (f + (p + 11 - f) % 12) % 12 = p by omega]
  exact c
theorem cK.run {q : Nat} {F : kgM → Option (Int32 × kgM)} (h : cK q F) {s : kgS} {I : kgM} (hI : InvC (bnI q) s I) : ∃ s' J, bndC (F I) (fun _ I2 => some ((0 : Int32), I2)) = some (0, J) ∧ InvC (bnI (q + 1)) s' J ∧ kgTr s s' := by
  obtain ⟨s', x, J, g1, g2, g3⟩ := h s I hI
  exact ⟨s', J, by rw [g1, bndC_s], g2, g3⟩
def AV (q : Nat) (s : kgS) (r : Option (Int32 × kgM)) : Prop := ∃ s' J, r = some (0, J) ∧ InvC (bnI (q + 1)) s' J ∧ kgTr s s'
theorem ite_p {ρ : Type} {P : ρ → Prop} {c : Prop} [Decidable c] {a b : ρ} (h1 : P a) (h2 : P b) : P (if c then a else b) := by
  by_cases h : c
  · rw [if_pos h]; exact h1
  · rw [if_neg h]; exact h2
theorem acts_v {N : Nat} (hN : N ≤ 260) (sc : Nat → Int32) {q : Nat} (hq : q < 500) {k : Nat} (hk : k < 900) {s : kgS} {I : kgM} (hI : InvC (bnI q) s I) (h0 : 0 < kgN s) : ∃ s' J, f_L_acts N sc (nI k) I = some (0, J) ∧ InvC (bnI (q + 1)) s' J ∧ kgTr s s' := by
  have hG := hI.2.1
  have w := hI.2.2.1
  have hn := w.1
  obtain ⟨a, ha, e2⟩ := some_v hN sc (k := k + 1) (n := kgN s) (by omega) h0 (by omega) I
  obtain ⟨b, hb, e3⟩ := some_v hN sc (k := k + 2) (n := 6) (by omega) (by omega) (by omega) I
  obtain ⟨v, hv, e4⟩ := some_v hN sc (k := k + 3) (n := 40) (by omega) (by omega) (by omega) I
  obtain ⟨j, hj, e5⟩ := some_v hN sc (k := k) (n := 14) (by omega) (by omega) (by omega) I
  unfold f_L_acts
  rw [r_a0 hG, bndC_s, show nI k + (1 : Int32) = nI (k + 1) from nI_add k 1, e2, bndC_s, show nI k + (2 : Int32) = nI (k + 2) from nI_add k 2, show f_L_some N sc (nI (k + 2)) (6 : Int32) I = some (nI b, I) from e3, bndC_s, show nI k + (3 : Int32) = nI (k + 3) from nI_add k 3, show f_L_some N sc (nI (k + 3)) (40 : Int32) I = some (nI v, I) from e4, bndC_s, show f_L_some N sc (nI k) (14 : Int32) I = some (nI j, I) from e5, bndC_s, nI_toInt (by omega)]
  show AV q s _
  refine ite_p (P := AV q s) ?_ ?_
  · refine ite_p (P := AV q s) ⟨s, I, rfl, hI.mono (by unfold bnI; omega), tr_rf⟩ ?_
    rw [show nI v - nI v / (12 : Int32) * (12 : Int32) = nI (v % 12) from pk_rem (d := 12) (by omega) (by omega) (by omega), show nI v - nI v / (21 : Int32) * (21 : Int32) = nI (v % 21) from pk_rem (d := 21) (by omega) (by omega) (by omega)]
    obtain ⟨s', x, J, g1, g2, g3, -⟩ := brings_v (f := v % 12) (v := v % 21) (by omega) (by omega) hI
    exact ⟨s', J, by rw [g1, bndC_s], g2, g3⟩
  refine ite_p (P := AV q s) ((k_own _ _).run hI) ?_
  refine ite_p (P := AV q s) ((k_set _ _).run hI) ?_
  refine ite_p (P := AV q s) ((k_set _ _).run hI) ?_
  refine ite_p (P := AV q s) ((k_set _ _).run hI) ?_
  refine ite_p (P := AV q s) ((k_off _).run hI) ?_
  refine ite_p (P := AV q s) ((k_heat _ _).run hI) ?_
  refine ite_p (P := AV q s) ((k_fill _ _).run hI) ?_
  refine ite_p (P := AV q s) ((k_lid _ _).run hI) ?_
  refine ite_p (P := AV q s) ((k_appeal _ _).run hI) ?_
  refine ite_p (P := AV q s) ((k_appeal _ _).run hI) ?_
  exact (k_minute (by omega) _).run hI
section BLD
variable {N : Nat} {Q : Option (Int32 × kgM) → Prop} {K : kgM → Option (Int32 × kgM)}
theorem bl_12 (hN : N ≤ 260) (sc : Nat → Int32) (a3 : Int32) : ∀ d k qq q s I, k + d = 9 → d < qq → InvC (bnI q) s I → (∀ s' J, InvC (bnI (q + d)) s' J → kgTr s s' → Q (K J)) → Q (f_L_build_L12 N sc a3 K qq (nI k) I) := by
  intro d
  induction d with
  | zero =>
    intro k qq q s I h1 h2 hI hQ
    obtain ⟨r, rfl⟩ : ∃ r, qq = r + 1 := ⟨qq - 1, by omega⟩
    have hk : k = 9 := by omega
    subst hk
    rw [f_L_build_L12, if_pos (show (9 : Int32) ≤ nI 9 from Int32.le_refl _)]
    exact hQ s I hI tr_rf
  | succ d ih =>
    intro k qq q s I h1 h2 hI hQ
    obtain ⟨r, rfl⟩ : ∃ r, qq = r + 1 := ⟨qq - 1, by omega⟩
    obtain ⟨j, hj, e3⟩ := some_v hN sc (k := 1 + k) (n := 4) (by omega) (by omega) (by omega) I
    obtain ⟨j2, hj2, e4⟩ := some_v hN sc (k := 11) (n := 12) (by omega) (by omega) (by omega) I
    rw [f_L_build_L12, if_neg (show ¬ (9 : Int32) ≤ nI k from nI_ge (b := 9) (by omega) (by omega)), show (1 : Int32) + nI k = nI (1 + k) from nI_add 1 k, show f_L_some N sc (nI (1 + k)) (4 : Int32) I = some (nI j, I) from e3, bndC_s, show f_L_some N sc (11 : Int32) (12 : Int32) I = some (nI j2, I) from e4, bndC_s]
    obtain ⟨s', x, J, g1, g2, g3⟩ := k_own (q := q) (nI j) ((1 : Int32) + ((nI j2 + ((5 : Int32) * nI k)) - (nI j2 + ((5 : Int32) * nI k)) / (12 : Int32) * (12 : Int32))) s I hI
    rw [show f_X4_own _ _ I = some (x, J) from g1, bndC_s, nI_1, bnd_s]
    exact ih (k + 1) r (q + 1) s' J (by omega) (by omega) g2 (fun s2 J2 a b => hQ s2 J2 (by rw [show q + (d + 1) = q + 1 + d by omega]; exact a) (g3.trans b))
theorem bl_12a (hN : N ≤ 260) (sc : Nat → Int32) (a3 : Int32) {q : Nat} {s : kgS} {I : kgM} (hI : InvC (bnI q) s I) (h4 : ∀ m, m < 4 → own s m < 4) (hQ : ∀ s' J, InvC (bnI (q + 9)) s' J → hasP s' → Q (K J)) : Q (f_L_build_L12 N sc a3 K 200 0 I) := by
  obtain ⟨j, hj, e3⟩ := some_v hN sc (k := 1 + 0) (n := 4) (by omega) (by omega) (by omega) I
  obtain ⟨j2, hj2, e4⟩ := some_v hN sc (k := 11) (n := 12) (by omega) (by omega) (by omega) I
  rw [f_L_build_L12, if_neg (by decide), show (1 : Int32) + 0 = nI (1 + 0) from rfl, show f_L_some N sc (nI (1 + 0)) (4 : Int32) I = some (nI j, I) from e3, bndC_s, show f_L_some N sc (11 : Int32) (12 : Int32) I = some (nI j2, I) from e4, bndC_s]
  rw [show (5 : Int32) * 0 = nI 0 from rfl, nI_add, m12 (by omega)]
  obtain ⟨s', x, J, g1, g2, g3, g4⟩ := own_more hI (m := j) (p := 1 + (j2 + 0) % 12) (by omega) (by omega) (by omega) h4
  rw [g1, bndC_s, show (0 : Int32) + 1 = nI 1 from rfl, bnd_s]
  exact bl_12 hN sc a3 8 1 199 (q + 1) s' J (by omega) (by omega) g2 (fun s2 J2 a b => hQ s2 J2 a (hasP.tr ⟨_, by omega, by omega, g4⟩ b))
theorem bl_60 (hN : N ≤ 260) (sc : Nat → Int32) {n : Nat} (hn : n < 10) : ∀ d k qq q s I, k + d = n → d < qq → InvC (bnI q) s I → hasP s → (∀ s' J, InvC (bnI (q + d)) s' J → kgTr s s' → (0 < d → 0 < kgN s') → Q (K J)) → Q (f_L_build_L60 N sc (nI n) K qq (nI k) I) := by
  intro d
  induction d with
  | zero =>
    intro k qq q s I h1 h2 hI hP hQ
    obtain ⟨r, rfl⟩ : ∃ r, qq = r + 1 := ⟨qq - 1, by omega⟩
    have hk : k = n := by omega
    subst hk
    rw [f_L_build_L60, if_pos (Int32.le_refl _)]
    exact hQ s I hI tr_rf (fun h => absurd h (Nat.not_lt_zero _))
  | succ d ih =>
    intro k qq q s I h1 h2 hI hP hQ
    obtain ⟨r, rfl⟩ : ∃ r, qq = r + 1 := ⟨qq - 1, by omega⟩
    obtain ⟨j, hj, e3⟩ := some_v hN sc (k := 13 + k) (n := 12) (by omega) (by omega) (by omega) I
    obtain ⟨j2, hj2, e4⟩ := some_v hN sc (k := 20 + k) (n := 21) (by omega) (by omega) (by omega) I
    rw [f_L_build_L60, if_neg (nI_ge (by omega) (by omega)), show (13 : Int32) + nI k = nI (13 + k) from nI_add 13 k, show f_L_some N sc (nI (13 + k)) (12 : Int32) I = some (nI j, I) from e3, bndC_s, show (20 : Int32) + nI k = nI (20 + k) from nI_add 20 k, show f_L_some N sc (nI (20 + k)) (21 : Int32) I = some (nI j2, I) from e4, bndC_s]
    obtain ⟨s', x, J, g1, g2, g3, g4⟩ := brings_v (f := j) (v := j2) hj (by omega) hI
    rw [g1, bndC_s, nI_1, bnd_s]
    exact ih (k + 1) r (q + 1) s' J (by omega) (by omega) g2 (hP.tr g3) (fun s2 J2 a b _ => hQ s2 J2 (by rw [show q + (d + 1) = q + 1 + d by omega]; exact a) (g3.trans b) (fun _ => Nat.lt_of_lt_of_le (g4 hP) b.2.2))
theorem bl_102 (hN : N ≤ 260) (sc : Nat → Int32) (a3 : Int32) : ∀ d k qq q s I, k + d = 6 → d < qq → InvC (bnI q) s I → (∀ s' J, InvC (bnI (q + d)) s' J → kgTr s s' → Q (K J)) → Q (f_L_build_L102 N sc a3 K qq (nI k) I) := by
  intro d
  induction d with
  | zero =>
    intro k qq q s I h1 h2 hI hQ
    obtain ⟨r, rfl⟩ : ∃ r, qq = r + 1 := ⟨qq - 1, by omega⟩
    have hk : k = 6 := by omega
    subst hk
    rw [f_L_build_L102, if_pos (show (6 : Int32) ≤ nI 6 from Int32.le_refl _)]
    exact hQ s I hI tr_rf
  | succ d ih =>
    intro k qq q s I h1 h2 hI hQ
    obtain ⟨r, rfl⟩ : ∃ r, qq = r + 1 := ⟨qq - 1, by omega⟩
    obtain ⟨j, hj, e3⟩ := some_v hN sc (k := 28 + k) (n := 6) (by omega) (by omega) (by omega) I
    rw [f_L_build_L102, if_neg (show ¬ (6 : Int32) ≤ nI k from nI_ge (b := 6) (by omega) (by omega)), show (28 : Int32) + nI k = nI (28 + k) from nI_add 28 k, show f_L_some N sc (nI (28 + k)) (6 : Int32) I = some (nI j, I) from e3, bndC_s]
    obtain ⟨s', x, J, g1, g2, g3⟩ := k_heat (q := q) (nI k) (nI j) s I hI
    rw [show f_X4_heat _ _ I = some (x, J) from g1, bndC_s, nI_1, bnd_s]
    exact ih (k + 1) r (q + 1) s' J (by omega) (by omega) g2 (fun s2 J2 a b => hQ s2 J2 (by rw [show q + (d + 1) = q + 1 + d by omega]; exact a) (g3.trans b))
theorem bl_136 (hN : N ≤ 260) (sc : Nat → Int32) {n : Nat} (hn : n < 10) : ∀ d k qq q s I, k + d = n → d < qq → InvC (bnI q) s I → (∀ s' J, InvC (bnI (q + d)) s' J → kgTr s s' → Q (K J)) → Q (f_L_build_L136 N sc (nI n) K qq (nI k) I) := by
  intro d
  induction d with
  | zero =>
    intro k qq q s I h1 h2 hI hQ
    obtain ⟨r, rfl⟩ : ∃ r, qq = r + 1 := ⟨qq - 1, by omega⟩
    have hk : k = n := by omega
    subst hk
    rw [f_L_build_L136, if_pos (Int32.le_refl _)]
    exact hQ s I hI tr_rf
  | succ d ih =>
    intro k qq q s I h1 h2 hI hQ
    obtain ⟨r, rfl⟩ : ∃ r, qq = r + 1 := ⟨qq - 1, by omega⟩
    obtain ⟨j, hj, e3⟩ := some_v hN sc (k := 35 + k) (n := 6) (by omega) (by omega) (by omega) I
    rw [f_L_build_L136, if_neg (nI_ge (by omega) (by omega)), show (35 : Int32) + nI k = nI (35 + k) from nI_add 35 k, show f_L_some N sc (nI (35 + k)) (6 : Int32) I = some (nI j, I) from e3, bndC_s]
    obtain ⟨s', x, J, g1, g2, g3⟩ := k_set (q := q) (nI k) (nI j) s I hI
    rw [show f_X4_set _ _ I = some (x, J) from g1, bndC_s, nI_1, bnd_s]
    exact ih (k + 1) r (q + 1) s' J (by omega) (by omega) g2 (fun s2 J2 a b => hQ s2 J2 (by rw [show q + (d + 1) = q + 1 + d by omega]; exact a) (g3.trans b))
theorem bl_169 (hN : N ≤ 260) (sc : Nat → Int32) : ∀ d k qq q s I, k + d = 10 → d < qq → q < 100 + k → InvC (bnI q) s I → 0 < kgN s → (∀ s' J, InvC (bnI (q + d)) s' J → kgTr s s' → Q (K J)) → Q (f_L_build_L169 N sc K qq (nI k) I) := by
  intro d
  induction d with
  | zero =>
    intro k qq q s I h1 h2 hq hI h0 hQ
    obtain ⟨r, rfl⟩ : ∃ r, qq = r + 1 := ⟨qq - 1, by omega⟩
    have hk : k = 10 := by omega
    subst hk
    rw [f_L_build_L169, if_pos (show (10 : Int32) ≤ nI 10 from Int32.le_refl _)]
    exact hQ s I hI tr_rf
  | succ d ih =>
    intro k qq q s I h1 h2 hq hI h0 hQ
    obtain ⟨r, rfl⟩ : ∃ r, qq = r + 1 := ⟨qq - 1, by omega⟩
    obtain ⟨s', J, g1, g2, g3⟩ := acts_v hN sc (q := q) (by omega) (k := 43 + 4 * k) (by omega) hI h0
    rw [f_L_build_L169, if_neg (show ¬ (10 : Int32) ≤ nI k from nI_ge (b := 10) (by omega) (by omega)), show (4 : Int32) * nI k = nI (4 * k) from nI_mul 4 k, show (43 : Int32) + nI (4 * k) = nI (43 + 4 * k) from nI_add 43 _, g1, bndC_s, nI_1, bnd_s]
    exact ih (k + 1) r (q + 1) s' J (by omega) (by omega) (by omega) g2 (Nat.lt_of_lt_of_le h0 g3.2.2) (fun s2 J2 a b => hQ s2 J2 (by rw [show q + (d + 1) = q + 1 + d by omega]; exact a) (g3.trans b))
end BLD
def BV (r : Option (Int32 × kgM)) : Prop := ∃ s' J, r = some (0, J) ∧ InvC (bnI 40) s' J ∧ 0 < kgN s'
theorem build_v {N : Nat} (hN : N ≤ 260) (sc : Nat → Int32) {s : kgS} {I : kgM} (hI : InvC (bnI 0) s I) (h4 : ∀ m, m < 4 → own s m < 4) : ∃ s' J, f_L_build N sc I = some (0, J) ∧ InvC (bnI 40) s' J ∧ 0 < kgN s' := by
  obtain ⟨j, hj, e3⟩ := some_v hN sc (k := 0) (n := 4) (by omega) (by omega) (by omega) I
  show BV _
  unfold f_L_build
  rw [show f_L_some N sc (0 : Int32) (4 : Int32) I = some (nI j, I) from e3, bndC_s, show (3 : Int32) + nI j = nI (3 + j) from nI_add 3 j, bnd_s]
  refine bl_12a (Q := BV) hN sc _ hI h4 (fun s1 I1 a1 b1 => ?_)
  refine bl_60 (Q := BV) hN sc (n := 3 + j) (by omega) (3 + j) 0 200 9 s1 I1 (by omega) (by omega) a1 b1 (fun s2 I2 a2 b2 c2 => ?_)
  have d2 := c2 (by omega)
  refine bl_102 (Q := BV) hN sc _ 6 0 200 _ s2 I2 (by omega) (by omega) a2 (fun s3 I3 a3 b3 => ?_)
  refine bl_136 (Q := BV) hN sc (n := 3 + j) (by omega) (3 + j) 0 200 _ s3 I3 (by omega) (by omega) a3 (fun s4 I4 a4 b4 => ?_)
  have d4 : 0 < kgN s4 := Nat.lt_of_lt_of_le d2 (Nat.le_trans b3.2.2 b4.2.2)
  refine bl_169 (Q := BV) hN sc 10 0 200 _ s4 I4 (by omega) (by omega) (by omega) a4 d4 (fun s5 I5 a5 b5 => ?_)
  exact ⟨s5, I5, rfl, a5.mono (by unfold bnI; omega), Nat.lt_of_lt_of_le d4 b5.2.2⟩
