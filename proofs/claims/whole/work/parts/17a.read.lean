theorem ok_read {F G : kgM → Option (Int32 × kgM)} {q : Nat} (h : ∀ I s, RepG I 1 s → RepR (kgRow I 0) s → kgWF s → kgPt (bnI q) s → Inv q I → ∃ x, F I = some (x, I) ∧ G I = some (x, I)) : kgSame (Inv q) (Inv (q + 1)) F G := by
  intro I hI
  obtain ⟨⟨s, hG, hR, w, hp⟩, -⟩ := id hI
  obtain ⟨x, h1, h2⟩ := h I s hG hR w hp hI
  exact ⟨x, I, I, h1, h2, hI.mono⟩
theorem to_nI {x : Int32} {j : Nat} (h : x.toInt = (j : Int)) (hj : j < 2147483648) : x = nI j := Int32.toInt_inj.mp (h.trans (nI_toInt hj).symm)
theorem ge0_nI {k : Nat} (h : k < 2147483648) : (0 ≤ nI k) = True := eq_true (nI_pos' h)
theorem m1_ge : ((0 : Int32) ≤ -1) = False := eq_false (by decide)
theorem oN_nI {I : kgM} {k : Nat} (h : k < 2147483648) : f_X4_orNothing (nI k) I = some (nI k, I) := by
  unfold f_X4_orNothing
  rw [if_neg (of_eq_false (nI_m1 h))]
theorem oN_m1 {I : kgM} : f_X4_orNothing (-1) I = some (-1015, I) := by
  unfold f_X4_orNothing
  rw [if_pos rfl]
theorem b2i_sel {I : kgM} (b : Bool) : (if b2i b = 0 then some ((0 : Int32), I) else some ((1 : Int32), I)) = some (b2i b, I) := by cases b <;> rfl
section READ
variable {q : Nat}
theorem rd_owner (a : Int32) : kgSame (Inv q) (Inv (q + 1)) (fun I => f_X4_owner a I) (fun I => f_X5_owner a I) := by
  refine ok_read (fun I s hG hR w hp _ => ?_)
  by_cases q1 : rgI 1 12 a = true
  · obtain ⟨p, rfl, hp1, hp2⟩ := rg_nI (a := 1) (b := 12) q1
    have bo := w.2.1 p hp1 (by omega)
    have ec := hG.own (p := p) hp1 (by omega)
    have em := m_ownerOf hR (p := p) hp1 (by omega)
    by_cases z : s.1 1 p = 0
    · rw [z, show nI 0 - 1 = (-1 : Int32) from rfl] at ec em
      refine ⟨-1015, ?_, ?_⟩
      · show f_X4_owner _ _ = _
        unfold f_X4_owner
        rw [c_isPitch, bndC_s, if_neg (b2i_n0 q1), ck_inb (by omega) (by omega), nI_clamp (by omega), ec, oN_m1, bndC_s]
      · show f_X5_owner _ _ = _
        unfold f_X5_owner
        rw [m_isPitch, bndC_s, if_neg (b2i_n0 q1), em, bndC_s, if_neg (of_eq_false m1_ge)]
    · obtain ⟨o, ho⟩ : ∃ o, s.1 1 p = o + 1 := ⟨s.1 1 p - 1, by omega⟩
      rw [ho, nI_pred] at ec em
      refine ⟨nI o, ?_, ?_⟩
      · show f_X4_owner _ _ = _
        unfold f_X4_owner
        rw [c_isPitch, bndC_s, if_neg (b2i_n0 q1), ck_inb (by omega) (by omega), nI_clamp (by omega), ec, oN_nI (by omega), bndC_s]
      · show f_X5_owner _ _ = _
        unfold f_X5_owner
        rw [m_isPitch, bndC_s, if_neg (b2i_n0 q1), em, bndC_s, if_pos (nI_pos' (by omega)), em, bndC_s]
  · refine ⟨-1012, ?_, ?_⟩
    · show f_X4_owner _ _ = _
      unfold f_X4_owner
      rw [c_isPitch, bndC_s, if_pos (b2i_z q1)]
    · show f_X5_owner _ _ = _
      unfold f_X5_owner
      rw [m_isPitch, bndC_s, if_pos (b2i_z q1)]
theorem rd_stoveOf (a c : Int32) : kgSame (Inv q) (Inv (q + 1)) (fun I => f_X4_stoveOf a c I) (fun I => f_X5_stoveOf a c I) := by
  refine ok_read (fun I s hG hR w hp _ => ?_)
  have hn := w.1
  by_cases q1 : rgI 0 5 a = true
  · obtain ⟨st, rfl, -, hst⟩ := rg_nI (a := 0) (b := 5) q1
    by_cases z : c = 0
    · have c1 := c_kettleOn hG w (st := st) (by omega)
      have m1 := m_kettleOn hR w (st := st) (by omega)
      cases e1 : fnd (fun k => decide (s.1 10 k = st + 1)) (kgN s) 0 with
      | some j =>
        have hj := fnd_some e1
        rw [e1] at c1 m1
        refine ⟨nI j, ?_, ?_⟩
        · show f_X4_stoveOf _ _ _ = _
          unfold f_X4_stoveOf
          rw [c_isStove, bndC_s, if_neg (b2i_n0 q1), if_pos z, c1, bndC_s]
          show bndC (f_X4_orNothing (nI j) I) _ = _
          rw [oN_nI (by omega), bndC_s]
        · show f_X5_stoveOf _ _ _ = _
          unfold f_X5_stoveOf
          rw [m_isStove, bndC_s, if_neg (b2i_n0 q1), if_pos z, m1, bndC_s, m1]
          show (if 0 ≤ nI j then bndC (some (nI j, I)) _ else _) = _
          rw [if_pos (nI_pos' (by omega)), bndC_s]
      | none =>
        rw [e1] at c1 m1
        refine ⟨-1015, ?_, ?_⟩
        · show f_X4_stoveOf _ _ _ = _
          unfold f_X4_stoveOf
          rw [c_isStove, bndC_s, if_neg (b2i_n0 q1), if_pos z, c1, bndC_s]
          show bndC (f_X4_orNothing (-1) I) _ = _
          rw [oN_m1, bndC_s]
        · show f_X5_stoveOf _ _ _ = _
          unfold f_X5_stoveOf
          rw [m_isStove, bndC_s, if_neg (b2i_n0 q1), if_pos z, m1, bndC_s]
          show (if 0 ≤ (-1 : Int32) then _ else _) = _
          rw [if_neg (of_eq_false m1_ge)]
    · have em : I 178 (29 + st) = nI (s.1 5 st) := hR.at0 (j := 5) (Or.inr (Or.inl ⟨rfl, by omega⟩))
      refine ⟨nI (s.1 5 st), ?_, ?_⟩
      · show f_X4_stoveOf _ _ _ = _
        unfold f_X4_stoveOf
        rw [c_isStove, bndC_s, if_neg (b2i_n0 q1), if_neg z, ck_inb (by omega) (by omega), nI_clamp (by omega), hG.hea (by omega)]
      · show f_X5_stoveOf _ _ _ = _
        unfold f_X5_stoveOf
        rw [m_isStove, bndC_s, if_neg (b2i_n0 q1), if_neg z, show (29 : Int32) + nI st = nI (29 + st) from nI_add 29 st, ck_inb (by omega) (by omega), nI_clamp (by omega), em]
  · refine ⟨-1011, ?_, ?_⟩
    · show f_X4_stoveOf _ _ _ = _
      unfold f_X4_stoveOf
      rw [c_isStove, bndC_s, if_pos (b2i_z q1)]
    · show f_X5_stoveOf _ _ _ = _
      unfold f_X5_stoveOf
      rw [m_isStove, bndC_s, if_pos (b2i_z q1)]
theorem rd_whistling : kgSame (Inv q) (Inv (q + 1)) (fun I => f_X4_whistling I) (fun I => f_X5_whistling I) := by
  refine ok_read (fun I s hG hR w hp _ => ⟨nI (wK s), ?_, m_whistling hR w⟩)
  show f_X4_whistling _ = _
  unfold f_X4_whistling
  rw [c_whistlers hG w, bndC_s]
/-! when a kettle boils -/
def bmI (h t : Nat) : Int32 := if h = 0 then -1015 else nI ((100 - 5 * t + 5 * h - 1) / (5 * h))
def bV (a2 : Int32) : Nat → Int32 → Int32 → Option Int32
  | 0, _, _ => none
  | q + 1, x, y => if (100 : Int32) < y then some (-1015) else if a2 ≤ 0 then bV a2 q (if x + 5 * a2 < 100 then x + 5 * a2 else 100) (y + 1) else if x = 100 then some y else bV a2 q (if x + 5 * a2 < 100 then x + 5 * a2 else 100) (y + 1)
theorem b_V (a2 : Int32) (q : Nat) : ∀ (x y : Int32) (I : kgM), f_X4_boilsIn_L34 a2 (fun I4 => some ((-1015 : Int32), I4)) q x y I = blO (bV a2 q x y) I := by
  induction q with
  | zero => intro x y I; rfl
  | succ q ih =>
    intro x y I
    have mn : ∀ z : Int32, f_J9_min_7cf53 100 z I = some ((if z < 100 then z else 100), I) := fun z => by
      unfold f_J9_min_7cf53
      by_cases c : z < 100
      · rw [if_pos c, if_pos c]
      · rw [if_neg c, if_neg c]
    rw [f_X4_boilsIn_L34, bV, letJ_s, mn, bndC_s, bnd_s, ih]
    by_cases c1 : (100 : Int32) < y
    · rw [if_pos c1, if_pos c1]; rfl
    · rw [if_neg c1, if_neg c1]
      by_cases c2 : a2 ≤ 0
      · rw [if_pos c2, if_pos c2]
      · rw [if_neg c2, if_neg c2]
        by_cases c3 : x = 100
        · rw [if_pos c3, if_pos c3]; rfl
        · rw [if_neg c3, if_neg c3]
theorem bV_all : ∀ h, h < 6 → ∀ t, t < 17 → bV (nI h) 200 (nI (5 * (t + 4))) 0 = some (bmI h (t + 4)) := by decide +kernel
theorem bA_all : ∀ h, h < 5 → ∀ t, t < 17 → (((100 : Int32) - nI (5 * (t + 4))) + (5 : Int32) * nI (h + 1) - 1) / ((5 : Int32) * nI (h + 1)) = bmI (h + 1) (t + 4) := by decide +kernel
theorem b5_all : ∀ h, h < 5 → (0 : Int32) < (5 : Int32) * nI (h + 1) ∧ ¬ (5 : Int32) * nI (h + 1) = 0 := by decide +kernel
theorem bm_all : ∀ h, h < 5 → ∀ t, t < 17 → ¬ bmI (h + 1) (t + 4) < 0 ∧ ¬ bmI (h + 1) (t + 4) = -1015 := by decide +kernel
section BOIL
variable {I : kgM} {s : kgS}
theorem c_boilsIn (hG : RepG I 1 s) (w : kgWF s) {k : Nat} (hk : k < kgN s) : f_X4_boilsIn (nI k) I = some (bmI (hU s k) (s.1 9 k), I) := by
  have hn := w.1
  have b := w.2.2.2.1 k hk
  have hh := hU_le w hk
  have q1 : rgI 0 ((kgN s : Int) - 1) (nI k) = true := decide_eq_true (by rw [nI_toInt (by omega)]; omega)
  have := bV_all (hU s k) (by omega) (s.1 9 k - 4) (by omega)
  rw [show s.1 9 k - 4 + 4 = s.1 9 k by omega] at this
  unfold f_X4_boilsIn
  rw [c_isKettle hG w, bndC_s, if_neg (b2i_n0 q1), c_heat hG w hk, bndC_s, ck_inb (by omega) (by omega), nI_clamp (by omega), hG.tmp hk, bnd_s, b_V, this]; rfl
theorem c_boilsInAgain (hG : RepG I 1 s) (w : kgWF s) {k : Nat} (hk : k < kgN s) : f_X4_boilsInAgain (nI k) I = some (bmI (hU s k) (s.1 9 k), I) := by
  have hn := w.1
  have b := w.2.2.2.1 k hk
  have hh := hU_le w hk
  have q1 : rgI 0 ((kgN s : Int) - 1) (nI k) = true := decide_eq_true (by rw [nI_toInt (by omega)]; omega)
  unfold f_X4_boilsInAgain
  rw [c_isKettle hG w, bndC_s, if_neg (b2i_n0 q1), c_heat hG w hk, bndC_s, bnd_s]
  by_cases z : hU s k = 0
  · rw [z, if_neg (by decide)]; rfl
  · obtain ⟨h, eh⟩ : ∃ h, hU s k = h + 1 := ⟨hU s k - 1, by omega⟩
    have a1 := bA_all h (by omega) (s.1 9 k - 4) (by omega)
    have a2 := b5_all h (by omega)
    rw [show s.1 9 k - 4 + 4 = s.1 9 k by omega] at a1
    rw [eh, if_pos a2.1, ck_inb (by omega) (by omega), nI_clamp (by omega), hG.tmp hk, bnd_s, ck_t (decide_eq_true a2.2), a1]
theorem m_minutesTo (hR : RepR (kgRow I 0) s) (w : kgWF s) {k : Nat} (hk : k < kgN s) : f_X5_minutesTo (nI k) I = some (bmI (hU s k) (s.1 9 k), I) := by
  have hn := w.1
  have b := w.2.2.2.1 k hk
  have hh := hU_le w hk
  unfold f_X5_minutesTo
  rw [m_heat hR w hk, bndC_s, bnd_s]
  by_cases z : hU s k = 0
  · rw [z, if_pos (by decide)]; rfl
  · obtain ⟨h, eh⟩ : ∃ h, hU s k = h + 1 := ⟨hU s k - 1, by omega⟩
    have a1 := bA_all h (by omega) (s.1 9 k - 4) (by omega)
    have a2 := b5_all h (by omega)
    rw [show s.1 9 k - 4 + 4 = s.1 9 k by omega] at a1
    rw [eh, if_neg a2.2, m_wrm hR hn hk, bndC_s, ck_t (decide_eq_true a2.2), a1]
end BOIL
theorem rd_boilsIn (a : Int32) : kgSame (Inv q) (Inv (q + 1)) (fun I => f_X4_boilsIn a I) (fun I => f_X5_boilsIn a I) := by
  refine ok_read (fun I s hG hR w hp _ => ?_)
  by_cases q1 : rgI 0 ((kgN s : Int) - 1) a = true
  · obtain ⟨k, rfl, hk⟩ := rg_k q1
    refine ⟨_, c_boilsIn hG w hk, ?_⟩
    show f_X5_boilsIn _ _ = _
    unfold f_X5_boilsIn
    rw [m_isKettle hR w, bndC_s, if_neg (b2i_n0 q1), m_minutesTo hR w hk, bndC_s]
  · refine ⟨-1011, ?_, ?_⟩
    · show f_X4_boilsIn _ _ = _
      unfold f_X4_boilsIn
      rw [c_isKettle hG w, bndC_s, if_pos (b2i_z q1)]
    · show f_X5_boilsIn _ _ = _
      unfold f_X5_boilsIn
      rw [m_isKettle hR w, bndC_s, if_pos (b2i_z q1)]
theorem rd_boilsInAgain (a : Int32) : kgSame (Inv q) (Inv (q + 1)) (fun I => f_X4_boilsInAgain a I) (fun I => f_X5_boilsInAgain a I) := by
  refine ok_read (fun I s hG hR w hp _ => ?_)
  by_cases q1 : rgI 0 ((kgN s : Int) - 1) a = true
  · obtain ⟨k, rfl, hk⟩ := rg_k q1
    refine ⟨_, c_boilsInAgain hG w hk, ?_⟩
    show f_X5_boilsInAgain _ _ = _
    unfold f_X5_boilsInAgain f_X5_boilsIn
    rw [m_isKettle hR w, bndC_s, if_neg (b2i_n0 q1), m_minutesTo hR w hk, bndC_s, bndC_s]
  · refine ⟨-1011, ?_, ?_⟩
    · show f_X4_boilsInAgain _ _ = _
      unfold f_X4_boilsInAgain
      rw [c_isKettle hG w, bndC_s, if_pos (b2i_z q1)]
    · show f_X5_boilsInAgain _ _ = _
      unfold f_X5_boilsInAgain f_X5_boilsIn
      rw [m_isKettle hR w, bndC_s, if_pos (b2i_z q1), bndC_s]
theorem rd_dryIn (a : Int32) : kgSame (Inv q) (Inv (q + 1)) (fun I => f_X4_dryIn a I) (fun I => f_X5_dryIn a I) := by
  refine ok_read (fun I s hG hR w hp _ => ?_)
  have hn := w.1
  by_cases q1 : rgI 0 ((kgN s : Int) - 1) a = true
  · obtain ⟨k, rfl, hk⟩ := rg_k q1
    have b := w.2.2.2.1 k hk
    have hh := hU_le w hk
    by_cases z : hU s k = 0
    · have eb : bmI (hU s k) (s.1 9 k) = -1015 := if_pos z
      refine ⟨-1015, ?_, ?_⟩
      · show f_X4_dryIn _ _ = _
        unfold f_X4_dryIn
        rw [c_boilsIn hG w hk, bndC_s, eb, if_pos (by decide)]
      · show f_X5_dryIn _ _ = _
        unfold f_X5_dryIn
        rw [m_isKettle hR w, bndC_s, if_neg (b2i_n0 q1), m_wat hR hn hk, bndC_s, m_minutesTo hR w hk, bndC_s, eb, if_pos rfl]
    · obtain ⟨h, eh⟩ : ∃ h, hU s k = h + 1 := ⟨hU s k - 1, by omega⟩
      have a1 := bm_all h (by omega) (s.1 9 k - 4) (by omega)
      rw [show s.1 9 k - 4 + 4 = s.1 9 k by omega, ← eh] at a1
      refine ⟨bmI (hU s k) (s.1 9 k) + (if s.1 8 k = 0 then 1 else nI (s.1 8 k)), ?_, ?_⟩
      · show f_X4_dryIn _ _ = _
        unfold f_X4_dryIn f_J9_max_7cf53
        rw [c_boilsIn hG w hk, bndC_s, if_neg a1.1, c_isKettle hG w, bndC_s, if_neg (b2i_n0 q1), ck_inb (by omega) (by omega), nI_clamp (by omega), hG.wat hk]
        by_cases c : s.1 8 k = 0
        · rw [if_pos c, c, if_neg (by decide), bndC_s]
        · rw [if_neg c]
          by_cases c2 : s.1 8 k = 1
          · rw [c2, if_neg (by decide), bndC_s]; rfl
          · rw [if_pos (show (1 : Int32) < nI (s.1 8 k) from nI_lt (a := 1) (by omega) (by omega)), bndC_s]
      · show f_X5_dryIn _ _ = _
        unfold f_X5_dryIn
        rw [m_isKettle hR w, bndC_s, if_neg (b2i_n0 q1), m_wat hR hn hk, bndC_s, m_minutesTo hR w hk, bndC_s, if_neg a1.2, m_minutesTo hR w hk, bndC_s]
        by_cases c : s.1 8 k = 0
        · rw [if_pos c, if_pos (by rw [c]; rfl)]
        · rw [if_neg c, if_neg (nI_ne0 (by omega) (by omega))]
  · refine ⟨-1011, ?_, ?_⟩
    · show f_X4_dryIn _ _ = _
      unfold f_X4_dryIn f_X4_boilsIn
      rw [c_isKettle hG w, bndC_s, if_pos (b2i_z q1), bndC_s, if_pos (by decide)]
    · show f_X5_dryIn _ _ = _
      unfold f_X5_dryIn
      rw [m_isKettle hR w, bndC_s, if_pos (b2i_z q1)]
theorem rd_kettleOf (a c : Int32) : kgSame (Inv q) (Inv (q + 1)) (fun I => f_X4_kettleOf a c I) (fun I => f_X5_kettleOf a c I) := by
  refine ok_read (fun I s hG hR w hp _ => ?_)
  have hn := w.1
  by_cases q1 : rgI 0 ((kgN s : Int) - 1) a = true
  · obtain ⟨k, rfl, hk⟩ := rg_k q1
    have b := w.2.2.2.1 k hk
    have pc : ∀ A : Option (Int32 × kgM), bndC (f_X4_isKettle (nI k) I) (fun x1 I1 => if x1 = 0 then some ((-1011 : Int32), I1) else A) = A := fun A => by rw [c_isKettle hG w, bndC_s, if_neg (b2i_n0 q1)]
    by_cases h0 : c.toInt = 0
    · have hc : c = 0 := to_nI (j := 0) h0 (by omega)
      subst hc
      exact ⟨nI (s.1 6 k), by show f_X4_kettleOf _ _ _ = _; unfold f_X4_kettleOf; rw [c_isKettle hG w, bndC_s, if_neg (b2i_n0 q1), if_pos h0, ck_inb (by omega) (by omega), nI_clamp (by omega), hG.mem hk], by show f_X5_kettleOf _ _ _ = _; unfold f_X5_kettleOf; rw [m_isKettle hR w, bndC_s, if_neg (b2i_n0 q1), if_pos h0, m_of hR hn hk, bndC_s]⟩
    by_cases h1 : c.toInt = 1
    · have hc : c = 1 := to_nI (j := 1) h1 (by omega)
      subst hc
      exact ⟨nI (s.1 7 k), by show f_X4_kettleOf _ _ _ = _; unfold f_X4_kettleOf; rw [c_isKettle hG w, bndC_s, if_neg (b2i_n0 q1), if_neg h0, if_pos h1, ck_inb (by omega) (by omega), nI_clamp (by omega), hG.pit hk], by show f_X5_kettleOf _ _ _ = _; unfold f_X5_kettleOf; rw [m_isKettle hR w, bndC_s, if_neg (b2i_n0 q1), if_neg h0, if_pos h1, m_pit hR hn hk, bndC_s]⟩
    by_cases h2 : c.toInt = 2
    · have hc : c = 2 := to_nI (j := 2) h2 (by omega)
      subst hc
      exact ⟨nI (s.1 8 k), by show f_X4_kettleOf _ _ _ = _; unfold f_X4_kettleOf; rw [c_isKettle hG w, bndC_s, if_neg (b2i_n0 q1), if_neg h0, if_neg h1, if_pos h2, ck_inb (by omega) (by omega), nI_clamp (by omega), hG.wat hk], by show f_X5_kettleOf _ _ _ = _; unfold f_X5_kettleOf; rw [m_isKettle hR w, bndC_s, if_neg (b2i_n0 q1), if_neg h0, if_neg h1, if_pos h2, m_wat hR hn hk, bndC_s]⟩
    by_cases h3 : c.toInt = 3
    · have hc : c = 3 := to_nI (j := 3) h3 (by omega)
      subst hc
      exact ⟨nI (5 * s.1 9 k), by show f_X4_kettleOf _ _ _ = _; unfold f_X4_kettleOf; rw [c_isKettle hG w, bndC_s, if_neg (b2i_n0 q1), if_neg h0, if_neg h1, if_neg h2, if_pos h3, ck_inb (by omega) (by omega), nI_clamp (by omega), hG.tmp hk], by show f_X5_kettleOf _ _ _ = _; unfold f_X5_kettleOf; rw [m_isKettle hR w, bndC_s, if_neg (b2i_n0 q1), if_neg h0, if_neg h1, if_neg h2, if_pos h3, m_wrm hR hn hk, bndC_s]⟩
    by_cases h4 : c.toInt = 4
    · have hc : c = 4 := to_nI (j := 4) h4 (by omega)
      subst hc
      exact ⟨nI (s.1 12 k), by show f_X4_kettleOf _ _ _ = _; unfold f_X4_kettleOf; rw [c_isKettle hG w, bndC_s, if_neg (b2i_n0 q1), if_neg h0, if_neg h1, if_neg h2, if_neg h3, if_pos h4, ck_inb (by omega) (by omega), nI_clamp (by omega), hG.lid hk], by show f_X5_kettleOf _ _ _ = _; unfold f_X5_kettleOf; rw [m_isKettle hR w, bndC_s, if_neg (b2i_n0 q1), if_neg h0, if_neg h1, if_neg h2, if_neg h3, if_pos h4, m_lid hR hn hk, bndC_s]⟩
    by_cases h5 : c.toInt = 5
    · by_cases z : s.1 10 k = 0
      · have es := hG.stv hk
        rw [z, show nI 0 - 1 = (-1 : Int32) from rfl] at es
        exact ⟨-1015, by show f_X4_kettleOf _ _ _ = _; unfold f_X4_kettleOf; rw [c_isKettle hG w, bndC_s, if_neg (b2i_n0 q1), if_neg h0, if_neg h1, if_neg h2, if_neg h3, if_neg h4, if_pos h5, ck_inb (by omega) (by omega), nI_clamp (by omega), es, oN_m1, bndC_s], by show f_X5_kettleOf _ _ _ = _; unfold f_X5_kettleOf; rw [m_isKettle hR w, bndC_s, if_neg (b2i_n0 q1), if_neg h0, if_neg h1, if_neg h2, if_neg h3, if_neg h4, if_pos h5, m_isOn hR w hk, bndC_s, if_pos (b2i_z (by simp [z]))]⟩
      · obtain ⟨o, ho⟩ : ∃ o, s.1 10 k = o + 1 := ⟨s.1 10 k - 1, by omega⟩
        have es := hG.stv hk
        rw [ho, nI_pred] at es
        have em := m_stv hR hn hk
        rw [ho] at em
        exact ⟨nI o, by show f_X4_kettleOf _ _ _ = _; unfold f_X4_kettleOf; rw [c_isKettle hG w, bndC_s, if_neg (b2i_n0 q1), if_neg h0, if_neg h1, if_neg h2, if_neg h3, if_neg h4, if_pos h5, ck_inb (by omega) (by omega), nI_clamp (by omega), es, oN_nI (by omega), bndC_s], by show f_X5_kettleOf _ _ _ = _; unfold f_X5_kettleOf; rw [m_isKettle hR w, bndC_s, if_neg (b2i_n0 q1), if_neg h0, if_neg h1, if_neg h2, if_neg h3, if_neg h4, if_pos h5, m_isOn hR w hk, bndC_s, if_neg (b2i_n0 (decide_eq_true z)), em, bndC_s, nI_pred]⟩
    by_cases h6 : c.toInt = 6
    · exact ⟨b2i (bo s k), by show f_X4_kettleOf _ _ _ = _; unfold f_X4_kettleOf; rw [c_isKettle hG w, bndC_s, if_neg (b2i_n0 q1), if_neg h0, if_neg h1, if_neg h2, if_neg h3, if_neg h4, if_neg h5, if_pos h6, c_boils hG w hk, bndC_s, b2i_sel], by show f_X5_kettleOf _ _ _ = _; unfold f_X5_kettleOf; rw [m_isKettle hR w, bndC_s, if_neg (b2i_n0 q1), if_neg h0, if_neg h1, if_neg h2, if_neg h3, if_neg h4, if_neg h5, if_pos h6, m_boils hR w hk, bndC_s, b2i_sel]⟩
    by_cases h7 : c.toInt = 7
    · exact ⟨b2i (wh s k), by show f_X4_kettleOf _ _ _ = _; unfold f_X4_kettleOf; rw [c_isKettle hG w, bndC_s, if_neg (b2i_n0 q1), if_neg h0, if_neg h1, if_neg h2, if_neg h3, if_neg h4, if_neg h5, if_neg h6, if_pos h7, c_whistles hG w hk, bndC_s, b2i_sel], by show f_X5_kettleOf _ _ _ = _; unfold f_X5_kettleOf; rw [m_isKettle hR w, bndC_s, if_neg (b2i_n0 q1), if_neg h0, if_neg h1, if_neg h2, if_neg h3, if_neg h4, if_neg h5, if_neg h6, if_pos h7, m_whistles hR w hk, bndC_s, b2i_sel]⟩
    by_cases h8 : c.toInt = 8
    · exact ⟨nI (s.1 11 k), by show f_X4_kettleOf _ _ _ = _; unfold f_X4_kettleOf; rw [c_isKettle hG w, bndC_s, if_neg (b2i_n0 q1), if_neg h0, if_neg h1, if_neg h2, if_neg h3, if_neg h4, if_neg h5, if_neg h6, if_neg h7, if_pos h8, ck_inb (by omega) (by omega), nI_clamp (by omega), hG.ban hk], by show f_X5_kettleOf _ _ _ = _; unfold f_X5_kettleOf; rw [m_isKettle hR w, bndC_s, if_neg (b2i_n0 q1), if_neg h0, if_neg h1, if_neg h2, if_neg h3, if_neg h4, if_neg h5, if_neg h6, if_neg h7, if_pos h8, m_ban hR hn hk, bndC_s]⟩
    by_cases h9 : c.toInt = 9
    · exact ⟨nI (pop (s.1 14 k)), by show f_X4_kettleOf _ _ _ = _; unfold f_X4_kettleOf; rw [c_isKettle hG w, bndC_s, if_neg (b2i_n0 q1), if_neg h0, if_neg h1, if_neg h2, if_neg h3, if_neg h4, if_neg h5, if_neg h6, if_neg h7, if_neg h8, if_pos h9, ck_inb (by omega) (by omega), nI_clamp (by omega), hG.apl hk, c_bits (by omega), bndC_s], by show f_X5_kettleOf _ _ _ = _; unfold f_X5_kettleOf; rw [m_isKettle hR w, bndC_s, if_neg (b2i_n0 q1), if_neg h0, if_neg h1, if_neg h2, if_neg h3, if_neg h4, if_neg h5, if_neg h6, if_neg h7, if_neg h8, if_pos h9, m_apl hR hn hk, bndC_s, m_bits (by omega), bndC_s]⟩
    exact ⟨-1012, by show f_X4_kettleOf _ _ _ = _; unfold f_X4_kettleOf; rw [c_isKettle hG w, bndC_s, if_neg (b2i_n0 q1), if_neg h0, if_neg h1, if_neg h2, if_neg h3, if_neg h4, if_neg h5, if_neg h6, if_neg h7, if_neg h8, if_neg h9], by show f_X5_kettleOf _ _ _ = _; unfold f_X5_kettleOf; rw [m_isKettle hR w, bndC_s, if_neg (b2i_n0 q1), if_neg h0, if_neg h1, if_neg h2, if_neg h3, if_neg h4, if_neg h5, if_neg h6, if_neg h7, if_neg h8, if_neg h9]⟩
  · refine ⟨-1011, ?_, ?_⟩
    · show f_X4_kettleOf _ _ _ = _
      unfold f_X4_kettleOf
      rw [c_isKettle hG w, bndC_s, if_pos (b2i_z q1)]
    · show f_X5_kettleOf _ _ _ = _
      unfold f_X5_kettleOf
      rw [m_isKettle hR w, bndC_s, if_pos (b2i_z q1)]
end READ
