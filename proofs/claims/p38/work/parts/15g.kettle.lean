/-! one more kettle -/
def kgAdd (s : kgS) (m p v : Nat) : kgS := (fun a b => if a = 0 ∧ b = 0 then kgN s + 1 else if b = kgN s ∧ 6 ≤ a ∧ a < 15 then [m, p, v, 4, 0, 0, 1, 0, 0].getD (a - 6) 0 else s.1 a b, fun i => if i = 13 then s.2 13 + nI v else s.2 i)
theorem kgAdd_n {s : kgS} {m p v : Nat} : kgN (kgAdd s m p v) = kgN s + 1 := rfl
theorem kgAdd_old {s : kgS} {m p v a b : Nat} (h : a ≠ 0) (h2 : b ≠ kgN s ∨ a < 6) : (kgAdd s m p v).1 a b = s.1 a b := by
  show (if a = 0 ∧ b = 0 then kgN s + 1 else if b = kgN s ∧ 6 ≤ a ∧ a < 15 then _ else s.1 a b) = _
  rw [if_neg (by omega), if_neg (by omega)]
theorem kgAdd_new {s : kgS} {m p v a : Nat} (h : 6 ≤ a) (h2 : a < 15) : (kgAdd s m p v).1 a (kgN s) = [m, p, v, 4, 0, 0, 1, 0, 0].getD (a - 6) 0 := by
  show (if a = 0 ∧ _ = 0 then kgN s + 1 else if kgN s = kgN s ∧ 6 ≤ a ∧ a < 15 then _ else _) = _
  rw [if_neg (by omega), if_pos ⟨rfl, h, h2⟩]
theorem wf_add {s : kgS} (w : kgWF s) {m p v : Nat} (hn : kgN s < 10) (hm : m < 4) (hp : 1 ≤ p ∧ p < 13) (hv : v ≤ 20) : kgWF (kgAdd s m p v) := by
  refine ⟨by rw [kgAdd_n]; omega, fun q a b => by rw [kgAdd_old (by decide) (Or.inr (by decide))]; exact w.2.1 q a b, fun i hi => by rw [kgAdd_old (by decide) (Or.inr (by decide))]; exact w.2.2.1 i hi, fun k hk => ?_, fun j k a b => ?_, fun m2 hm2 => ?_, ?_⟩
  · rw [kgAdd_n] at hk
    by_cases e : k = kgN s
    · subst e
      simp only [kgAdd_new (s := s) (m := m) (p := p) (v := v) (show 6 ≤ 6 by omega) (by omega), kgAdd_new (s := s) (m := m) (p := p) (v := v) (show 6 ≤ 7 by omega) (by omega), kgAdd_new (s := s) (m := m) (p := p) (v := v) (show 6 ≤ 8 by omega) (by omega), kgAdd_new (s := s) (m := m) (p := p) (v := v) (show 6 ≤ 9 by omega) (by omega), kgAdd_new (s := s) (m := m) (p := p) (v := v) (show 6 ≤ 10 by omega) (by omega), kgAdd_new (s := s) (m := m) (p := p) (v := v) (show 6 ≤ 11 by omega) (by omega), kgAdd_new (s := s) (m := m) (p := p) (v := v) (show 6 ≤ 12 by omega) (by omega), kgAdd_new (s := s) (m := m) (p := p) (v := v) (show 6 ≤ 13 by omega) (by omega), kgAdd_new (s := s) (m := m) (p := p) (v := v) (show 6 ≤ 14 by omega) (by omega)]
      exact ⟨hm, hp.1, hp.2, hv, Nat.le_of_ble_eq_true rfl, Nat.le_of_ble_eq_true rfl, Nat.le_of_ble_eq_true rfl, Nat.le_of_ble_eq_true rfl, Nat.le_of_ble_eq_true rfl, Nat.le_of_ble_eq_true rfl, Or.inl rfl⟩
    · have h : ∀ a, a ≠ 0 → (kgAdd s m p v).1 a k = s.1 a k := fun a ha => kgAdd_old ha (Or.inl e)
      simp only [h 6 (by decide), h 7 (by decide), h 8 (by decide), h 9 (by decide), h 10 (by decide), h 11 (by decide), h 12 (by decide), h 13 (by decide), h 14 (by decide)]
      exact w.2.2.2.1 k (by omega)
  · rw [kgAdd_n] at b
    have hj : ∀ a, a ≠ 0 → (kgAdd s m p v).1 a j = s.1 a j := fun a ha => kgAdd_old ha (Or.inl (by omega))
    rw [hj 10 (by decide), hj 7 (by decide)]
    by_cases e : k = kgN s
    · subst e
      intro _ h2
      rw [kgAdd_new (by omega) (by omega)] at h2
      exact absurd rfl h2
    · have hk : ∀ a, a ≠ 0 → (kgAdd s m p v).1 a k = s.1 a k := fun a ha => kgAdd_old ha (Or.inl e)
      rw [hk 10 (by decide), hk 7 (by decide)]
      exact w.2.2.2.2.1 j k a (by omega)
  · have : own (kgAdd s m p v) m2 = own s m2 := cnt_congr (fun k _ => by rw [kgAdd_old (by decide) (Or.inr (by decide))])
    rw [this]; exact w.2.2.2.2.2.1 m2 hm2
  · show s.2 13 + nI v = nI (smN (kgN s) ((kgAdd s m p v).1 8) + (kgAdd s m p v).1 8 (kgN s)) + s.2 14
    rw [kgAdd_new (by omega) (by omega), smN_congr (g := s.1 8) (fun k hk => kgAdd_old (by decide) (Or.inl (by omega))), w.2.2.2.2.2.2, ← nI_add]
    show _ = nI (smN (kgN s) (s.1 8)) + nI v + s.2 14
    ac_rfl
theorem dm_cases {n j p : Nat} (h : kgDm n j p) : (j = 1 ∧ 1 ≤ p ∧ p < 13) ∨ (j = 5 ∧ p < 6) ∨ (p < n ∧ (j = 6 ∨ j = 7 ∨ j = 8 ∨ j = 9 ∨ j = 10 ∨ j = 11 ∨ j = 12 ∨ j = 13 ∨ j = 14)) := by
  unfold kgDm at h; omega
theorem add_G {IC : kgM} {s : kgS} (hG : RepG IC 1 s) (m p v : Nat) {JC : kgM} (e : ∀ a b, JC a b = if a = 1 ∧ b = 16 then s.2 13 + nI v else if a = 1 ∧ b = 14 then nI (kgN s + 1) else if 7 ≤ a ∧ a < 16 ∧ b = kgN s then [nI m, nI p, nI v, 20, -1, 0, 1, 0, 0].getD (a - 7) 0 else IC a b) : RepG JC 1 (kgAdd s m p v) := by
  refine ⟨fun j q hd => ?_, ?_, fun a ha => ?_, ?_, ?_, ?_⟩
  · rw [kgAdd_n] at hd
    rw [e, if_neg (by unfold kgDm at hd; omega), if_neg (by unfold kgDm at hd; omega)]
    rcases dm_cases hd with ⟨rfl, h1, h2⟩ | ⟨rfl, h1⟩ | ⟨h1, h2⟩
    · rw [if_neg (by omega), kgAdd_old (by decide) (Or.inr (by decide))]; exact hG.1 1 q (Or.inl ⟨rfl, h1, h2⟩)
    · rw [if_neg (by omega), kgAdd_old (by decide) (Or.inr (by decide))]; exact hG.1 5 q (Or.inr (Or.inl ⟨rfl, h1⟩))
    · by_cases eq : q = kgN s
      · subst eq
        rw [if_pos (by omega), kgAdd_new (by omega) (by omega)]
        rcases h2 with rfl | rfl | rfl | rfl | rfl | rfl | rfl | rfl | rfl <;> rfl
      · rw [if_neg (by omega), kgAdd_old (by omega) (Or.inl eq)]
        exact hG.1 j q (Or.inr (Or.inr (by omega)))
  · rw [e, if_neg (by omega), if_pos ⟨rfl, rfl⟩]; rfl
  · rw [e, e, e, if_neg (by omega), if_neg (by omega), if_neg (by omega), if_neg (by omega), if_neg (by omega), if_neg (by omega), if_neg (by omega), if_neg (by omega), if_neg (by omega)]
    have b2 : ∀ i, i ≠ 13 → (kgAdd s m p v).2 i = s.2 i := fun i hi => if_neg hi
    rw [b2 _ (by omega), b2 _ (by omega), b2 _ (by omega)]
    exact hG.2.2.1 a ha
  · rw [e, if_neg (by omega), if_neg (by omega), if_neg (by omega)]; exact hG.2.2.2.1
  · rw [e, if_pos ⟨rfl, rfl⟩]; rfl
  · rw [e, if_neg (by omega), if_neg (by omega), if_neg (by omega)]; exact hG.2.2.2.2.2
theorem add_R {R R' : Nat → Int32} {s : kgS} (hR : RepR R s) (hn : kgN s < 10) (m p v : Nat) (e : ∀ x, R' x = if x = 2 then s.2 13 + nI v else if x = 1 then nI (kgN s + 1) else if 35 + 9 * kgN s ≤ x ∧ x < 44 + 9 * kgN s then [nI m, nI p, nI v, 20, 1, 0, 0, 0, 0].getD (x - (35 + 9 * kgN s)) 0 else R x) : RepR R' (kgAdd s m p v) := by
  have low : ∀ x, x < 35 → x ≠ 1 → x ≠ 2 → R' x = R x := fun x h1 h2 h3 => by rw [e, if_neg h3, if_neg h2, if_neg (by omega)]
  have b2 : ∀ i, i ≠ 13 → (kgAdd s m p v).2 i = s.2 i := fun i hi => if_neg hi
  refine ⟨fun j q hd => ?_, ?_, fun a ha => ?_, ?_, ?_, ?_, ?_⟩
  · rw [kgAdd_n] at hd
    rcases dm_cases hd with ⟨rfl, h1, h2⟩ | ⟨rfl, h1⟩ | ⟨h1, h2⟩
    · rw [show kgLo 1 q = 16 + q from rfl, low _ (show 16 + q < 35 by omega) (show 16 + q ≠ 1 by omega) (show 16 + q ≠ 2 by omega), kgAdd_old (by decide) (Or.inr (by decide))]; exact hR.1 1 q (Or.inl ⟨rfl, h1, h2⟩)
    · rw [show kgLo 5 q = 29 + q from rfl, low _ (show 29 + q < 35 by omega) (show 29 + q ≠ 1 by omega) (show 29 + q ≠ 2 by omega), kgAdd_old (by decide) (Or.inr (by decide))]; exact hR.1 5 q (Or.inr (Or.inl ⟨rfl, h1⟩))
    · have hl : ∃ o, o < 9 ∧ kgLo j q = 35 + 9 * q + o := by
        rcases h2 with rfl | rfl | rfl | rfl | rfl | rfl | rfl | rfl | rfl
        · exact ⟨0, by omega, rfl⟩
        · exact ⟨1, by omega, rfl⟩
        · exact ⟨2, by omega, rfl⟩
        · exact ⟨3, by omega, rfl⟩
        · exact ⟨5, by omega, rfl⟩
        · exact ⟨6, by omega, rfl⟩
        · exact ⟨4, by omega, rfl⟩
        · exact ⟨7, by omega, rfl⟩
        · exact ⟨8, by omega, rfl⟩
      obtain ⟨o, ho, el⟩ := hl
      by_cases eq : q = kgN s
      · subst eq
        rw [kgAdd_new (by omega) (by omega), e, if_neg (by omega), if_neg (by omega), if_pos (by omega)]
        rcases h2 with rfl | rfl | rfl | rfl | rfl | rfl | rfl | rfl | rfl
        · rw [show kgLo 6 (kgN s) - (35 + 9 * kgN s) = 0 from by show 35 + 9 * kgN s + 0 - _ = _; omega]; rfl
        · rw [show kgLo 7 (kgN s) - (35 + 9 * kgN s) = 1 from by show 35 + 9 * kgN s + 1 - _ = _; omega]; rfl
        · rw [show kgLo 8 (kgN s) - (35 + 9 * kgN s) = 2 from by show 35 + 9 * kgN s + 2 - _ = _; omega]; rfl
        · rw [show kgLo 9 (kgN s) - (35 + 9 * kgN s) = 3 from by show 35 + 9 * kgN s + 3 - _ = _; omega]; rfl
        · rw [show kgLo 10 (kgN s) - (35 + 9 * kgN s) = 5 from by show 35 + 9 * kgN s + 5 - _ = _; omega]; rfl
        · rw [show kgLo 11 (kgN s) - (35 + 9 * kgN s) = 6 from by show 35 + 9 * kgN s + 6 - _ = _; omega]; rfl
        · rw [show kgLo 12 (kgN s) - (35 + 9 * kgN s) = 4 from by show 35 + 9 * kgN s + 4 - _ = _; omega]; rfl
        · rw [show kgLo 13 (kgN s) - (35 + 9 * kgN s) = 7 from by show 35 + 9 * kgN s + 7 - _ = _; omega]; rfl
        · rw [show kgLo 14 (kgN s) - (35 + 9 * kgN s) = 8 from by show 35 + 9 * kgN s + 8 - _ = _; omega]; rfl
      · rw [kgAdd_old (by omega) (Or.inl eq), e, if_neg (by omega), if_neg (by omega), if_neg (by omega)]
        exact hR.1 j q (Or.inr (Or.inr (by omega)))
  · rw [e, if_neg (by decide), if_pos rfl]; rfl
  · rw [low _ (by omega) (by omega) (by omega), low _ (by omega) (by omega) (by omega), low _ (by omega) (by omega) (by omega), b2 _ (by omega), b2 _ (by omega), b2 _ (by omega)]
    exact hR.2.2.1 a ha
  · rw [low _ (by decide) (by decide) (by decide), b2 _ (by decide)]; exact hR.2.2.2.1
  · rw [e, if_pos rfl]; rfl
  · rw [low _ (by decide) (by decide) (by decide), b2 _ (by decide)]; exact hR.2.2.2.2.2.1
  · rw [low _ (by decide) (by decide) (by decide), b2 _ (by decide), b2 _ (by decide), b2 _ (by decide), b2 _ (by decide)]; exact hR.2.2.2.2.2.2
/-- nine times nothing -/
def zr (I : kgM) (n : Nat) : Nat → kgM
  | 0 => I
  | i + 1 => kgW (zr I n i) 178 (35 + 9 * n + i) 0
theorem zr_at (I : kgM) (n i a b : Nat) : zr I n i a b = if a = 178 ∧ 35 + 9 * n ≤ b ∧ b < 35 + 9 * n + i then 0 else I a b := by
  induction i with
  | zero => rw [if_neg (by omega)]; rfl
  | succ i ih =>
    show kgW (zr I n i) 178 (35 + 9 * n + i) 0 a b = _
    rw [kgW_r, ih]
    by_cases q : a = 178 ∧ b = 35 + 9 * n + i
    · rw [if_pos q, if_pos (by omega)]
    · rw [if_neg q]
      by_cases q2 : a = 178 ∧ 35 + 9 * n ≤ b ∧ b < 35 + 9 * n + i
      · rw [if_pos q2, if_pos (by omega)]
      · rw [if_neg q2, if_neg (by omega)]
theorem m_zero {I : kgM} {a1 a2 a3 : Int32} {n : Nat} (hn : n < 10) (K : kgM → Option (Int32 × kgM)) : f_X5_brings_L106 a1 a2 a3 (nI n) K 200 0 I = K (zr I n 9) := by
  refine lp (T := fun q k => f_X5_brings_L106 a1 a2 a3 (nI n) K q (nI k) (zr I n k)) (R := K (zr I n 9)) (n := 9) (k0 := 0) (fun q k _ hk => ?_) (fun q => ?_) 200 0 (by omega) (by omega) (by omega)
  · have mp := m_puts (I := zr I n k) (k := n) (a := k) (v := 0) hn hk
    show f_X5_brings_L106 a1 a2 a3 (nI n) K (q + 1) (nI k) (zr I n k) = _
    rw [f_X5_brings_L106, if_neg (show ¬ (9 : Int32) ≤ nI k from nI_ge (b := 9) hk (by omega)), mp, bndC_s, bnd_s, nI_1]
    rfl
  · show f_X5_brings_L106 a1 a2 a3 (nI n) K (q + 1) (nI 9) (zr I n 9) = _
    rw [f_X5_brings_L106, if_pos (show (9 : Int32) ≤ nI 9 from Int32.le_refl _)]
theorem tr_add {s : kgS} {m p v : Nat} (z : s.1 1 p = m + 1) : kgTr s (kgAdd s m p v) := by
  have e1 : ∀ q, (kgAdd s m p v).1 1 q = s.1 1 q := fun q => kgAdd_old (by decide) (Or.inr (by decide))
  refine ⟨fun h k hk => ?_, fun q _ => e1 q, by rw [kgAdd_n]; omega⟩
  rw [kgAdd_n] at hk
  unfold x2k
  by_cases e : k = kgN s
  · subst e
    rw [kgAdd_new (by decide) (by decide), kgAdd_new (by decide) (by decide), kgAdd_new (by decide) (by decide), kgAdd_new (by decide) (by decide), kgAdd_new (by decide) (by decide), kgAdd_new (by decide) (by decide), e1]
    exact ⟨⟨Nat.zero_le _, Or.inl rfl⟩, Or.inl rfl, z⟩
  · have hx := h k (by omega)
    unfold x2k at hx
    rw [kgAdd_old (by decide) (Or.inl e), kgAdd_old (by decide) (Or.inl e), kgAdd_old (by decide) (Or.inl e), kgAdd_old (by decide) (Or.inl e), kgAdd_old (by decide) (Or.inl e), kgAdd_old (by decide) (Or.inl e), e1]
    exact hx
section OPS
variable {B : Int} {s : kgS} {IC IM : kgM}
theorem c_add {I : kgM} {s : kgS} (hG : RepG I 1 s) (hn : kgN s < 10) (m p v : Nat) : ∃ J, f_X3_addKettle (nI m) (nI p) (nI v) I = some (nI (kgN s), J) ∧ ∀ a b, J a b = if a = 1 ∧ b = 16 then s.2 13 + nI v else if a = 1 ∧ b = 14 then nI (kgN s + 1) else if 7 ≤ a ∧ a < 16 ∧ b = kgN s then [nI m, nI p, nI v, 20, -1, 0, 1, 0, 0].getD (a - 7) 0 else I a b := by
  unfold f_X3_addKettle
  rw [bnd_s, hG.2.1]
  simp (disch := omega) only [ck_inb, nI_clamp, bnd_s]
  refine ⟨_, rfl, fun a b => ?_⟩
  have e14 : I 1 14 = nI (kgN s) := hG.2.1
  have e16 : I 1 16 = s.2 13 := hG.2.2.2.2.1
  simp only [kgW_r]
  by_cases h1 : a = 1 ∧ b = 16
  · rw [if_pos h1, if_pos h1]
    simp [e16]
  · rw [if_neg h1, if_neg h1]
    by_cases h2 : a = 1 ∧ b = 14
    · rw [if_pos h2, if_pos h2]
      simp [e14, nI_1]
    · rw [if_neg h2, if_neg h2]
      by_cases h3 : 7 ≤ a ∧ a < 16 ∧ b = kgN s
      · rw [if_pos h3]
        obtain ⟨h4, h5, rfl⟩ := h3
        have : a = 7 ∨ a = 8 ∨ a = 9 ∨ a = 10 ∨ a = 11 ∨ a = 12 ∨ a = 13 ∨ a = 14 ∨ a = 15 := by omega
        rcases this with rfl | rfl | rfl | rfl | rfl | rfl | rfl | rfl | rfl <;> simp
      · rw [if_neg h3, if_neg (by omega), if_neg (by omega), if_neg (by omega), if_neg (by omega), if_neg (by omega), if_neg (by omega), if_neg (by omega), if_neg (by omega), if_neg (by omega)]
theorem ok_kettle (a b d : Int32) : OpOK B B (fun I => f_X4_bringKettle a b d I) (fun I => f_X5_brings a b d I) := by
  intro s IC IM hG hR w hp hq
  have hn := w.1
  have t00 : (0 : Int32) = 0 := rfl
  have t10 : ¬ (1 : Int32) = 0 := by decide
  by_cases q1 : rgI 0 3 a = true
  · obtain ⟨m, rfl, -, hm⟩ := rg_nI (a := 0) (b := 3) q1
    by_cases q2 : rgI 1 12 b = true
    · obtain ⟨p, rfl, hp1, hp2⟩ := rg_nI (a := 1) (b := 12) q2
      have h1 := b2i_n0 q1
      have h2 := b2i_n0 q2
      have hin : f_X5_in d 0 20 IM = some (b2i (rgI 0 20 d), IM) := m_in d 0 20
      by_cases q3 : rgI 0 20 d = true
      · obtain ⟨v, rfl, -, hv⟩ := rg_nI (a := 0) (b := 20) q3
        have h3 := b2i_n0 q3
        have bo := w.2.1 p hp1 (by omega)
        have ec := hG.own (p := p) hp1 (by omega)
        have em := m_ownerOf hR (p := p) hp1 (by omega)
        have en : IM 178 1 = nI (kgN s) := hR.n
        have i1c : inb (1 : Int32) 1375 = true := rfl
        have c1c : (1 : Int32).toNatClampNeg = 1 := rfl
        have v20 : nI v ≤ (20 : Int32) := nI_le (b := 20) (by omega) (by omega)
        by_cases z : s.1 1 p = m + 1
        · have ec2 : IC 2 p = nI m := by rw [ec, z, nI_pred]
          have em2 : f_X5_ownerOf (nI p) IM = some (nI m, IM) := by rw [em, z, nI_pred]
          by_cases z4 : kgN s < 10
          · obtain ⟨JC, hC, eC⟩ := c_add hG z4 m p v
            have w' := wf_add w z4 (m := m) (p := p) (v := v) (by omega) (by omega) hv
            generalize hM1 : zr (kgW IM 178 1 (nI (kgN s + 1))) (kgN s) 9 = M1
            have m1at : ∀ a b, M1 a b = if a = 178 ∧ 35 + 9 * kgN s ≤ b ∧ b < 44 + 9 * kgN s then 0 else if a = 178 ∧ b = 1 then nI (kgN s + 1) else IM a b := fun a b => by
              rw [← hM1, zr_at, kgW_r]
              by_cases q : a = 178 ∧ 35 + 9 * kgN s ≤ b ∧ b < 35 + 9 * kgN s + 9
              · rw [if_pos q, if_pos (by omega)]
              · rw [if_neg q, if_neg (show ¬ (a = 178 ∧ 35 + 9 * kgN s ≤ b ∧ b < 44 + 9 * kgN s) from by omega)]
            have mp : ∀ (J : kgM) (x : Nat) (y : Int32), x < 9 → f_X5_puts (nI (kgN s)) (nI x) y J = some (0, kgW J 178 (35 + 9 * kgN s + x) y) := fun J x y hx => m_puts z4 hx
            have e2 : IM 178 2 = s.2 13 := (RepR.low (I := IM) 2).symm.trans hR.2.2.2.2.1
            refine op_done hq (x := nI (kgN s)) (JC := JC) (JM := kgW (kgW (kgW (kgW (kgW (kgW M1 178 (35 + 9 * kgN s + 0) (nI m)) 178 (35 + 9 * kgN s + 1) (nI p)) 178 (35 + 9 * kgN s + 2) (nI v)) 178 (35 + 9 * kgN s + 3) 20) 178 (35 + 9 * kgN s + 4) 1) 178 2 (s.2 13 + nI v)) ?_ ?_ (add_G hG m p v eC) (add_R hR z4 m p v (fun x => ?_)) w' (fun m2 h => by rw [show (kgAdd s m p v).2 m2 = s.2 m2 from if_neg (by omega)]; exact hp m2 h) (nI_ge0 (by omega)) (fun k hk => ?_) (fun k hk => ?_) (fun j hj => ?_) (tr_add z)
            · show f_X4_bringKettle _ _ _ _ = _
              unfold f_X4_bringKettle
              rw [c_isMember, bndC_s, if_neg h1, c_isPitch, bndC_s, if_neg h2, if_neg (nI_pos (by omega)), if_pos v20, ck_inb (by omega) (by omega), nI_clamp (by omega), ec2, if_pos rfl, hG.2.1, if_pos (show nI (kgN s) < (10 : Int32) from nI_lt (b := 10) z4 (by omega)), hC, bndC_s]
            · show f_X5_brings _ _ _ _ = _
              unfold f_X5_brings
              rw [m_isMember, bndC_s, if_neg h1, m_isPitch, bndC_s, if_neg h2, hin, bndC_s, if_neg h3, ck_t i1c, c1c, en, bnd_s, em2, bndC_s, letJ_s]
              dsimp only
              rw [if_pos rfl, em2, bndC_s, m_refuse0, bndC_s, if_pos t00, letJ_s]
              dsimp only
              rw [if_neg (show ¬ nI (kgN s) = (10 : Int32) from fun h => by have := (nI_eq (b := 10) (by omega) (by omega)).mp h; omega), m_refuse0, bndC_s, if_pos t00, ck_t i1c, ck_t i1c, bnd_s, en, nI_1, m_zero z4, hM1, show f_X5_puts (nI (kgN s)) 0 (nI m) M1 = some (0, kgW M1 178 (35 + 9 * kgN s + 0) (nI m)) from mp _ 0 _ (by omega), bndC_s, show f_X5_puts (nI (kgN s)) 1 (nI p) _ = some (0, _) from mp _ 1 _ (by omega), bndC_s, show f_X5_puts (nI (kgN s)) 2 (nI v) _ = some (0, _) from mp _ 2 _ (by omega), bndC_s, show f_X5_puts (nI (kgN s)) 3 20 _ = some (0, _) from mp _ 3 _ (by omega), bndC_s, show f_X5_puts (nI (kgN s)) 4 1 _ = some (0, _) from mp _ 4 _ (by omega), bndC_s, ck_t (show inb (2 : Int32) 1375 = true from rfl), ck_t (show inb (2 : Int32) 1375 = true from rfl), bnd_s, show (2 : Int32).toNatClampNeg = 2 from rfl]
              simp only [kgW_r]
              rw [if_neg (by omega), if_neg (by omega), if_neg (by omega), if_neg (by omega), if_neg (by omega), m1at, if_neg (by omega), if_neg (by omega), e2]
            · rw [row_w, row_w, row_w, row_w, row_w, row_w, RepR.low, m1at, RepR.low]
              by_cases x2 : x = 2
              · rw [if_pos x2, if_pos x2]
              · rw [if_neg x2, if_neg x2]
                by_cases x1 : x = 1
                · rw [if_pos x1, if_neg (by omega), if_neg (by omega), if_neg (by omega), if_neg (by omega), if_neg (by omega), if_neg (by omega), if_pos ⟨rfl, x1⟩]
                · rw [if_neg x1]
                  by_cases xr : 35 + 9 * kgN s ≤ x ∧ x < 44 + 9 * kgN s
                  · rw [if_pos xr]
                    obtain ⟨o, rfl⟩ : ∃ o, x = 35 + 9 * kgN s + o := ⟨x - (35 + 9 * kgN s), by omega⟩
                    rw [show 35 + 9 * kgN s + o - (35 + 9 * kgN s) = o by omega]
                    have : o = 0 ∨ o = 1 ∨ o = 2 ∨ o = 3 ∨ o = 4 ∨ o = 5 ∨ o = 6 ∨ o = 7 ∨ o = 8 := by omega
                    have g : 178 = 178 ∧ 35 + 9 * kgN s ≤ 35 + 9 * kgN s + o ∧ 35 + 9 * kgN s + o < 44 + 9 * kgN s := ⟨rfl, xr⟩
                    rw [if_pos g]
                    rcases this with rfl | rfl | rfl | rfl | rfl | rfl | rfl | rfl | rfl <;> simp
                  · rw [if_neg xr, if_neg (by omega), if_neg (by omega), if_neg (by omega), if_neg (by omega), if_neg (by omega), if_neg (by omega), if_neg (by omega)]
            · funext b; rw [eC, if_neg (by omega), if_neg (by omega), if_neg (by omega)]
            · rw [kgW_n _ _ _ hk, kgW_n _ _ _ hk, kgW_n _ _ _ hk, kgW_n _ _ _ hk, kgW_n _ _ _ hk, kgW_n _ _ _ hk]
              funext b; rw [m1at, if_neg (by omega), if_neg (by omega)]
            · simp only [kgW_r]
              rw [if_neg (by omega), if_neg (by omega), if_neg (by omega), if_neg (by omega), if_neg (by omega), if_neg (by omega), m1at, if_neg (by omega), if_neg (by omega)]
          · have z5 : kgN s = 10 := by omega
            obtain ⟨JC, g1, g2, g3⟩ := c_refuse (I := IC) 1 (nI 10)
            obtain ⟨JM, k1, k2, k3⟩ := m_refuse (I := IM) 1 10
            refine op_ref hG hR w hp (l := [(1, 10)]) (show 1 ≤ 2 by omega) (JC := JC) (JM := JM) ?_ ?_ g2 g3 k2 k3
            · show f_X4_bringKettle _ _ _ _ = _
              unfold f_X4_bringKettle
              rw [c_isMember, bndC_s, if_neg h1, c_isPitch, bndC_s, if_neg h2, if_neg (nI_pos (by omega)), if_pos v20, ck_inb (by omega) (by omega), nI_clamp (by omega), ec2, if_pos rfl, hG.2.1, z5, if_neg (show ¬ nI 10 < (10 : Int32) from nI_nlt (b := 10) (Nat.le_refl _) (by omega)), g1, bndC_s]
            · show f_X5_brings _ _ _ _ = _
              unfold f_X5_brings
              rw [m_isMember, bndC_s, if_neg h1, m_isPitch, bndC_s, if_neg h2, hin, bndC_s, if_neg h3, ck_t i1c, c1c, en, bnd_s, em2, bndC_s, letJ_s]
              dsimp only
              rw [if_pos rfl, em2, bndC_s, m_refuse0, bndC_s, if_pos t00, letJ_s]
              dsimp only
              rw [z5, if_pos (show nI 10 = (10 : Int32) from rfl), k1, bndC_s, if_neg t10]
        · have ez : (nI (s.1 1 p) - 1 = nI m) = False := by rw [oc_eq (by omega) (by omega)]; exact eq_false z
          obtain ⟨JC, g1, g2, g3⟩ := c_refuse (I := IC) 3 (nI (s.1 1 p) - 1)
          obtain ⟨JM, k1, k2, k3⟩ := m_refuse (I := IM) 3 (nI (s.1 1 p) - 1)
          refine op_ref hG hR w hp (l := [(3, nI (s.1 1 p) - 1)]) (show 1 ≤ 2 by omega) (JC := JC) (JM := JM) ?_ ?_ g2 g3 k2 k3
          · show f_X4_bringKettle _ _ _ _ = _
            unfold f_X4_bringKettle
            rw [c_isMember, bndC_s, if_neg h1, c_isPitch, bndC_s, if_neg h2, if_neg (nI_pos (by omega)), if_pos v20, ck_inb (by omega) (by omega), nI_clamp (by omega), ec, if_neg (of_eq_false ez), ck_inb (by omega) (by omega), g1, bndC_s]
          · show f_X5_brings _ _ _ _ = _
            unfold f_X5_brings
            rw [m_isMember, bndC_s, if_neg h1, m_isPitch, bndC_s, if_neg h2, hin, bndC_s, if_neg h3, ck_t i1c, c1c, en, bnd_s, em, bndC_s, letJ_s]
            dsimp only
            rw [if_neg (of_eq_false ez), em, bndC_s, k1, bndC_s, if_neg t10]
      · refine op_code hG hR w hp hq (x := -1012) (Or.inr rfl) ?_ ?_
        · have key : ∀ A : Option (Int32 × kgM), (if d < 0 then some ((-1012 : Int32), IC) else if d ≤ (20 : Int32) then A else some ((-1012 : Int32), IC)) = some ((-1012 : Int32), IC) := fun A => by
            have q3 : ¬ (0 ≤ d.toInt ∧ d.toInt ≤ 20) := of_decide_eq_false (by simpa [rgI] using q3)
            simp only [lt_t, le_t, show (0 : Int32).toInt = 0 from rfl, show (20 : Int32).toInt = 20 from rfl]
            by_cases q4 : d.toInt < 0
            · rw [if_pos q4]
            · rw [if_neg q4, if_neg (by omega)]
          show f_X4_bringKettle _ _ _ _ = _
          unfold f_X4_bringKettle
          rw [c_isMember, bndC_s, if_neg h1, c_isPitch, bndC_s, if_neg h2, key]
        · show f_X5_brings _ _ _ _ = _
          unfold f_X5_brings
          rw [m_isMember, bndC_s, if_neg h1, m_isPitch, bndC_s, if_neg h2, hin, bndC_s, if_pos (b2i_z q3)]
    · refine op_code hG hR w hp hq (x := -1012) (Or.inr rfl) ?_ ?_
      · show f_X4_bringKettle _ _ _ _ = _
        unfold f_X4_bringKettle
        rw [c_isMember, bndC_s, if_neg (b2i_n0 q1), c_isPitch, bndC_s, if_pos (b2i_z q2)]
      · show f_X5_brings _ _ _ _ = _
        unfold f_X5_brings
        rw [m_isMember, bndC_s, if_neg (b2i_n0 q1), m_isPitch, bndC_s, if_pos (b2i_z q2)]
  · refine op_code hG hR w hp hq (x := -1011) (Or.inl rfl) ?_ ?_
    · show f_X4_bringKettle _ _ _ _ = _
      unfold f_X4_bringKettle
      rw [c_isMember, bndC_s, if_pos (b2i_z q1)]
    · show f_X5_brings _ _ _ _ = _
      unfold f_X5_brings
      rw [m_isMember, bndC_s, if_pos (b2i_z q1)]
end OPS
