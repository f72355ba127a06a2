/-! TELL STOVES, CHARACTER -/
def stL (s : kgS) (i : Nat) : List Nat := dgs (s.1 5 i) ++ onf (fnd (fun k => decide (s.1 10 k = i + 1)) (kgN s) 0) (fun k => [40] ++ dgs k ++ [41]) []
def stA (s : kgS) : Nat → List Nat
  | 0 => []
  | i + 1 => stA s i ++ stL s i
section STV
variable {s : kgS}
theorem stL_len (w : kgWF s) {i : Nat} (hi : i < 6) : (stL s i).length ≤ 4 ∧ goodL (stL s i) := by
  have hn := w.1
  have b := w.2.2.1 i hi
  have d1 := dgs_1 (v := s.1 5 i) (by omega)
  unfold stL
  cases r : fnd (fun k => decide (s.1 10 k = i + 1)) (kgN s) 0 with
  | none =>
    refine ⟨?_, (dgs_good (by omega)).app goodL.nil⟩
    show (dgs (s.1 5 i) ++ []).length ≤ 4
    rw [List.length_append, d1]; exact Nat.le_of_ble_eq_true rfl
  | some k =>
    have hk := (fnd_some r).2.1
    have d2 := dgs_1 (v := k) (by omega)
    refine ⟨?_, (dgs_good (by omega)).app (((goodL.one (by omega) (by omega)).app (dgs_good (by omega))).app (goodL.one (by omega) (by omega)))⟩
    show (dgs (s.1 5 i) ++ ([40] ++ dgs k ++ [41])).length ≤ 4
    simp only [List.length_append, List.length_cons, List.length_nil]
    omega
theorem stA_len (w : kgWF s) : ∀ i, i ≤ 6 → (stA s i).length ≤ 4 * i ∧ goodL (stA s i) := by
  intro i
  induction i with
  | zero => intro _; exact ⟨Nat.le_refl _, goodL.nil⟩
  | succ i ih =>
    intro h
    have a := ih (by omega)
    have b := stL_len w (i := i) (by omega)
    refine ⟨?_, a.2.app b.2⟩
    show (stA s i ++ stL s i).length ≤ 4 * (i + 1)
    rw [List.length_append]; omega
theorem c_stoveL (w : kgWF s) (K : kgM → Option (Int32 × kgM)) : ∀ d i (I : kgM), i + d = 6 → ∀ q, d < q → RepG I 1 s → LnC (stA s i) I → ∃ J, f_X4_tellStoves_L10 K q (nI i) I = K J ∧ LnC (stA s 6) J ∧ lfC I J := by
  have hn := w.1
  intro d
  induction d with
  | zero =>
    intro i I hi q hq hG h
    obtain ⟨q, rfl⟩ : ∃ r, q = r + 1 := ⟨q - 1, by omega⟩
    have : i = 6 := by omega
    subst this
    exact ⟨I, by rw [f_X4_tellStoves_L10, if_pos (show (6 : Int32) ≤ nI 6 from Int32.le_refl _)], h, lfC.rf⟩
  | succ d ih =>
    intro i I hi q hq hG h
    obtain ⟨q, rfl⟩ : ∃ r, q = r + 1 := ⟨q - 1, by omega⟩
    have i6 : i < 6 := by omega
    have b := w.2.2.1 i i6
    have d1 := dgs_1 (v := s.1 5 i) (by omega)
    have sl := (stA_len w i (by omega)).1
    obtain ⟨I2, a2, l2, f2⟩ := c_addI (v := s.1 5 i) h (by omega) (by omega)
    have G2 := f2.G hG
    have e : stA s (i + 1) = stA s i ++ stL s i := rfl
    rw [f_X4_tellStoves_L10, if_neg (show ¬ (6 : Int32) ≤ nI i from nI_ge (b := 6) i6 (by omega)), ck_inb (by omega) (by omega), nI_clamp (by omega), hG.hea i6, a2, bndC_s, c_kettleOn G2 w i6, bndC_s]
    unfold stL at e
    cases r : fnd (fun k => decide (s.1 10 k = i + 1)) (kgN s) 0 with
    | none =>
      rw [r] at e
      rw [show onf none nI (-1 : Int32) = -1 from rfl, if_pos rfl, nI_1, bnd_s]
      obtain ⟨J, j1, j2, j3⟩ := ih (i + 1) I2 (by omega) q (by omega) G2 (by rw [e]; exact (List.append_nil (dgs (s.1 5 i))).symm ▸ l2)
      exact ⟨J, j1, j2, f2.trans j3⟩
    | some k =>
      rw [r] at e
      have hk := (fnd_some r).2.1
      have d2 := dgs_1 (v := k) (by omega)
      obtain ⟨I3, a3, l3, f3⟩ := c_addC (ch := 40) l2 (by simp only [List.length_append]; omega) (by omega)
      have a3 : f_addC (40 : Int32) I2 = some (0, I3) := a3
      obtain ⟨I4, a4, l4, f4⟩ := c_addI (v := k) l3 (by omega) (by simp only [List.length_append, List.length_cons, List.length_nil]; omega)
      obtain ⟨I5, a5, l5, f5⟩ := c_addC (ch := 41) l4 (by simp only [List.length_append, List.length_cons, List.length_nil]; omega) (by omega)
      have a5 : f_addC (41 : Int32) I4 = some (0, I5) := a5
      have fA := ((f2.trans f3).trans f4).trans f5
      rw [show onf (some k) nI (-1 : Int32) = nI k from rfl, if_neg (of_eq_false (nI_m1 (k := k) (by omega))), a3, bndC_s, a4, bndC_s, a5, bndC_s, nI_1, bnd_s]
      obtain ⟨J, j1, j2, j3⟩ := ih (i + 1) I5 (by omega) q (by omega) (fA.G hG) (by
        rw [e]
        show LnC (stA s i ++ (dgs (s.1 5 i) ++ ([40] ++ dgs k ++ [41]))) I5
        rw [← List.append_assoc, ← List.append_assoc, ← List.append_assoc]; exact l5)
      exact ⟨J, j1, j2, fA.trans j3⟩
theorem m_stoveL (w : kgWF s) (K : kgM → Option (Int32 × kgM)) : ∀ d i (I : kgM), i + d = 6 → ∀ q, d < q → RepR (kgRow I 0) s → LnM (stA s i) I → ∃ J, f_X5_tellStoves_L7 K q (nI i) I = K J ∧ LnM (stA s 6) J ∧ lfM I J := by
  have hn := w.1
  intro d
  induction d with
  | zero =>
    intro i I hi q hq hR h
    obtain ⟨q, rfl⟩ : ∃ r, q = r + 1 := ⟨q - 1, by omega⟩
    have : i = 6 := by omega
    subst this
    exact ⟨I, by rw [f_X5_tellStoves_L7, if_pos (show (6 : Int32) ≤ nI 6 from Int32.le_refl _)], h, lfM.rf⟩
  | succ d ih =>
    intro i I hi q hq hR h
    obtain ⟨q, rfl⟩ : ∃ r, q = r + 1 := ⟨q - 1, by omega⟩
    have i6 : i < 6 := by omega
    have b := w.2.2.1 i i6
    have d1 := dgs_1 (v := s.1 5 i) (by omega)
    have sl := (stA_len w i (by omega)).1
    obtain ⟨I2, a2, l2, f2⟩ := m_num (v := s.1 5 i) h (by omega) (by omega)
    have R2 := f2.R hn hR
    have e : stA s (i + 1) = stA s i ++ stL s i := rfl
    have hh : I 178 (29 + i) = nI (s.1 5 i) := hR.at0 (j := 5) (p := i) (Or.inr (Or.inl ⟨rfl, i6⟩))
    have h29 : (29 : Int32) + nI i = nI (29 + i) := nI_add 29 i
    rw [f_X5_tellStoves_L7, if_neg (show ¬ (6 : Int32) ≤ nI i from nI_ge (b := 6) i6 (by omega)), h29, ck_inb (by omega) (by omega), nI_clamp (by omega), hh, a2, bndC_s, m_kettleOn R2 w i6, bndC_s]
    unfold stL at e
    cases r : fnd (fun k => decide (s.1 10 k = i + 1)) (kgN s) 0 with
    | none =>
      rw [r] at e
      rw [show onf none nI (-1 : Int32) = -1 from rfl, if_neg (by decide), nI_1, bnd_s]
      obtain ⟨J, j1, j2, j3⟩ := ih (i + 1) I2 (by omega) q (by omega) R2 (by rw [e]; exact (List.append_nil (dgs (s.1 5 i))).symm ▸ l2)
      exact ⟨J, j1, j2, f2.trans j3⟩
    | some k =>
      rw [r] at e
      have hk := (fnd_some r).2.1
      have d2 := dgs_1 (v := k) (by omega)
      obtain ⟨I3, a3, l3, f3⟩ := m_writes (ch := 40) l2 (by simp only [List.length_append]; omega) (by omega)
      have a3 : f_X5_writes (40 : Int32) I2 = some (0, I3) := a3
      have R3 := f3.R hn R2
      obtain ⟨I4, a4, l4, f4⟩ := m_num (v := k) l3 (by omega) (by simp only [List.length_append, List.length_cons, List.length_nil]; omega)
      obtain ⟨I5, a5, l5, f5⟩ := m_writes (ch := 41) l4 (by simp only [List.length_append, List.length_cons, List.length_nil]; omega) (by omega)
      have a5 : f_X5_writes (41 : Int32) I4 = some (0, I5) := a5
      have fA := ((f2.trans f3).trans f4).trans f5
      have ek : f_X5_kettleOn (nI i) I3 = some (nI k, I3) := by
        rw [m_kettleOn R3 w i6, r]; rfl
      rw [show onf (some k) nI (-1 : Int32) = nI k from rfl, if_pos (nI_ge0 (by omega)), a3, bndC_s, ek, bndC_s, a4, bndC_s, a5, bndC_s, nI_1, bnd_s]
      obtain ⟨J, j1, j2, j3⟩ := ih (i + 1) I5 (by omega) q (by omega) (fA.R hn hR) (by
        rw [e]
        show LnM (stA s i ++ (dgs (s.1 5 i) ++ ([40] ++ dgs k ++ [41]))) I5
        rw [← List.append_assoc, ← List.append_assoc, ← List.append_assoc]; exact l5)
      exact ⟨J, j1, j2, fA.trans j3⟩
end STV
theorem rd_tellStoves {q : Nat} : kgSame (Inv q) (Inv (q + 1)) (fun I => f_X4_tellStoves I) (fun I => f_X5_tellStoves I) := by
  intro I hI
  have hI1 := hI.mono
  obtain ⟨hP1, hQ1, hH1, hS1, hT1, -⟩ := hI1
  obtain ⟨⟨s, hG, hR, w, hp⟩, -, -, -, -, hL⟩ := hI
  obtain ⟨n, n1, n2, n3, n4, n5⟩ := hL
  have hn := w.1
  have sl := stA_len w 6 (Nat.le_refl _)
  obtain ⟨I1, a1, l1, f1⟩ := c_setL n4 n2 n1
  obtain ⟨J, j1, j2, j3⟩ := c_stoveL w (fun I7 => bndC (f_J5_length_8abf5 I7) (fun x9 I8 => some (x9, I8))) 6 0 I1 (by omega) 200 (by omega) (f1.G hG) l1
  have j3 := f1.trans j3
  have RJ : RepR (kgRow J 0) s := row_of hn hR (fun x _ => by rw [j3 178 (by decide) (by decide)])
  have m2 : LnM [] (kgW J 177 13 0) := ⟨by rw [kgW_r, if_pos ⟨rfl, rfl⟩]; rfl, fun i hi => absurd hi (Nat.not_lt_zero _)⟩
  have g2 : lfM J (kgW J 177 13 0) := ⟨fun c a _ => kgW_n _ _ _ a, fun j hj => by rw [kgW_r, if_neg (fun z => hj z.2)]⟩
  obtain ⟨M, k1, k2, k3⟩ := m_stoveL w (fun I8 => some (I8 177 13, I8)) 6 0 (kgW J 177 13 0) (by omega) 200 (by omega) (g2.R hn RJ) m2
  have k3 := g2.trans k3
  have lC : LnC (stA s 6) M := ⟨by rw [k3.1 175 (by decide) (by decide)]; exact j2.1, by rw [k3.1 175 (by decide) (by decide)]; exact j2.2.1, fun i hi => by rw [k3.1 176 (by decide) (by decide)]; exact j2.2.2 i hi⟩
  have mI : ∀ c, c ≠ 175 → c ≠ 176 → c ≠ 177 → c ≠ 183 → M c = I c := fun c h1 h2 h3 h4 => by rw [k3.1 c h3 h4, j3 c h1 h2]
  have m7 : ∀ j, j ≠ 13 → M 177 j = I 177 j := fun j hj => by rw [k3.2 j hj, j3 177 (by decide) (by decide)]
  obtain ⟨c1, c2, c3, c4⟩ := core_kept hP1 hQ1 hH1 hS1 (J := M) (fun c hc => mI c (by omega) (by omega) (by omega) (by omega)) (fun c g1 g2 => mI c (by omega) (by omega) (by omega) (by omega)) (fun j hj => m7 j (by omega))
  refine ⟨nI (stA s 6).length, J, M, ?_, ?_, c1, c2, c3, c4, hT1.kept (by rw [mI 171 (by omega) (by omega) (by omega) (by omega)]) (mI 172 (by omega) (by omega) (by omega) (by omega)) (m7 7 (by omega)) (mI 181 (by omega) (by omega) (by omega) (by omega)), line_inv lC k2 sl.2 (by omega)⟩
  · show f_X4_tellStoves I = _
    unfold f_X4_tellStoves
    rw [a1, bndC_s]
    refine j1.trans ?_
    unfold f_J5_length_8abf5
    rw [bndC_s, j2.2.1]
  · show f_X5_tellStoves J = _
    unfold f_X5_tellStoves
    rw [bnd_s]
    refine k1.trans ?_
    rw [k2.1]
theorem chr_v : ∀ ch, ch < 127 → ((nI ch &&& (255 : Int32)).toUInt32 % 65536).toInt32 = nI ch ∧ isc (nI ch) = true := by decide +kernel
theorem rd_character {q : Nat} (a : Int32) : kgSame (Inv q) (Inv (q + 1)) (fun I => f_X4_character a I) (fun I => f_X5_character a I) := by
  refine ok_read (fun I s hG hR w hp hInv => ?_)
  obtain ⟨n, n1, n2, n3, n4, n5⟩ := hInv.2.2.2.2.2
  have e2 : (nI n - 1).toInt = (n : Int) - 1 := pk_sub_toInt (a := n) (b := 1) (by omega) (by omega)
  have e0 : (0 : Int32).toInt = 0 := rfl
  have en : (nI n).toInt = (n : Int) := nI_toInt (by omega)
  by_cases c : 0 ≤ a.toInt ∧ a.toInt < (n : Int)
  · obtain ⟨i, rfl, hi⟩ : ∃ i, a = nI i ∧ i < n := ⟨a.toInt.toNat, to_nI (by omega) (by omega), by omega⟩
    obtain ⟨ch, h1, h2, h3, h4⟩ := n5 i hi
    have cv := chr_v ch h2
    refine ⟨nI ch, ?_, ?_⟩
    · show f_X4_character _ _ = _
      unfold f_X4_character f_J5_length_8abf5 f_chr
      rw [if_neg (nI_pos (by omega)), bndC_s, n2, if_neg (nI_ge hi (by omega)), ck_inb (by omega) (by omega), ck_t (decide_eq_true (nI_lt hi (by omega))), ck_t (decide_eq_true n4), nI_clamp (by omega), h3, ck_t (decide_eq_true (Or.inr (nI_ne0 (by omega) (by omega)))), cv.1, ck_t cv.2, bndC_s, ck_t cv.2, bndC_s]
    · show f_X5_character _ _ = _
      unfold f_X5_character
      rw [n3, m_in, bndC_s, e2, e0, show rgI 0 ((n : Int) - 1) (nI i) = true from decide_eq_true (by rw [nI_toInt (by omega)]; omega), if_neg (show ¬ b2i true = 0 by decide), ck_inb (by omega) (by omega), nI_clamp (by omega), h4]
  · refine ⟨-1011, ?_, ?_⟩
    · show f_X4_character _ _ = _
      unfold f_X4_character f_J5_length_8abf5
      by_cases c0 : a < 0
      · rw [if_pos c0]
      · rw [if_neg c0, bndC_s, n2, if_pos (show nI n ≤ a by rw [lt_t, e0] at c0; rw [le_t, en]; omega)]
    · show f_X5_character _ _ = _
      unfold f_X5_character
      rw [n3, m_in, bndC_s, e2, e0, show rgI 0 ((n : Int) - 1) a = false from decide_eq_false (by omega), if_pos (show b2i false = 0 from rfl)]
