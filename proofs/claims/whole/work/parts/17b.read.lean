theorem fp_mean : ∀ a, a < 21 → ∀ c, c < 10 → ∀ b, b < 10 → kn64 (FP.ddiv (FP.i2d (nI (10 * a + c))) (FP.i2d (nI (b + 1)))) = true ∧ Op.cmpValue (FP.dcmp (FP.ddiv (FP.i2d (nI (10 * a + c))) (FP.i2d (nI (b + 1)))) (FP.ddiv (FP.i2d (nI (10 * a + c))) (FP.i2d (nI (b + 1))))) .l = 0 := by decide +kernel
theorem fp_share : ∀ a, a < 14 → ∀ b, b < 10 → kn32 (FP.fdiv (FP.i2f (nI a)) (FP.i2f (nI (b + 1)))) = true ∧ (FP.f2d (FP.fdiv (FP.i2f (nI a)) (FP.i2f (nI (b + 1))))) &&& 0x7fffffffffffffff ≤ 0x7ff0000000000000 ∧ Op.cmpValue (FP.dcmp (FP.f2d (FP.fdiv (FP.i2f (nI a)) (FP.i2f (nI (b + 1))))) (FP.f2d (FP.fdiv (FP.i2f (nI a)) (FP.i2f (nI (b + 1)))))) .l = 0 := by decide +kernel
theorem fp_c0 : Op.cmpValue (FP.dcmp FP.dconst0 FP.dconst0) .l = 0 ∧ (FP.f2d FP.fconst0) &&& 0x7fffffffffffffff ≤ 0x7ff0000000000000 ∧ Op.cmpValue (FP.dcmp (FP.f2d FP.fconst0) (FP.f2d FP.fconst0)) .l = 0 := by decide +kernel
section READ
variable {q : Nat}
theorem rd_mean : kgSameD (Inv q) (Inv (q + 1)) (fun I => f_X4_meanWater I) (fun I => f_X5_meanWater I) := by
  intro I hI
  obtain ⟨⟨s, hG, hR, w, hp⟩, -⟩ := id hI
  have hn := w.1
  by_cases z : kgN s = 0
  · refine ⟨FP.dconst0, I, I, ?_, ?_, hI.mono, fp_c0.1⟩
    · show f_X4_meanWater I = _
      unfold f_X4_meanWater
      rw [hG.2.1, if_pos (by rw [z]; rfl)]
    · show f_X5_meanWater I = _
      unfold f_X5_meanWater
      rw [ck_one, cl_one, hR.n, if_pos (by rw [z]; rfl)]
  · have hs := smN_le (n := kgN s) (f := s.1 8) (b := 20) (fun k hk => (w.2.2.2.1 k hk).2.2.2.1)
    obtain ⟨n, en⟩ : ∃ n, kgN s = n + 1 := ⟨kgN s - 1, by omega⟩
    have f := fp_mean (smN (kgN s) (s.1 8) / 10) (by omega) (smN (kgN s) (s.1 8) % 10) (Nat.mod_lt _ (by decide)) n (by omega)
    rw [show 10 * (smN (kgN s) (s.1 8) / 10) + smN (kgN s) (s.1 8) % 10 = smN (kgN s) (s.1 8) by omega, ← en] at f
    refine ⟨_, I, I, ?_, ?_, hI.mono, f.2⟩
    · show f_X4_meanWater I = _
      unfold f_X4_meanWater
      rw [hG.2.1, if_neg (nI_ne0 (by omega) (by omega)), c_sumWater hG w, bndC_s, hG.2.1, ck_t f.1]
    · show f_X5_meanWater I = _
      unfold f_X5_meanWater
      rw [ck_one, cl_one, hR.n, if_neg (nI_ne0 (by omega) (by omega)), m_sumWater hR w, bndC_s, ck_one, hR.n, ck_t f.1]
theorem rd_share : kgSameF (Inv q) (Inv (q + 1)) (fun I => f_X4_whistleShare I) (fun I => f_X5_whistleShare I) := by
  intro I hI
  obtain ⟨⟨s, hG, hR, w, hp⟩, -⟩ := id hI
  have hn := w.1
  have hc := cnt_le (kgN s) (fun k => decide (s.1 10 k ≠ 0))
  by_cases z : cnt (kgN s) (fun k => decide (s.1 10 k ≠ 0)) = 0
  · refine ⟨FP.fconst0, I, I, ?_, ?_, hI.mono, fp_c0.2.1, fp_c0.2.2⟩
    · show f_X4_whistleShare I = _
      unfold f_X4_whistleShare
      rw [c_onStoves hG w, bndC_s, if_pos (by rw [z]; rfl)]
    · show f_X5_whistleShare I = _
      unfold f_X5_whistleShare
      rw [m_onStoves hR w, bndC_s, if_pos (by rw [z]; rfl)]
  · obtain ⟨n, en⟩ : ∃ n, cnt (kgN s) (fun k => decide (s.1 10 k ≠ 0)) = n + 1 := ⟨cnt (kgN s) (fun k => decide (s.1 10 k ≠ 0)) - 1, by omega⟩
    have hl := wK_lt w
    have hpop : pop (wK s) ≤ 13 := cnt_le 13 _
    have f := fp_share (pop (wK s)) (by omega) n (by omega)
    refine ⟨_, I, I, ?_, ?_, hI.mono, f.2.1, f.2.2⟩
    · show f_X4_whistleShare I = _
      unfold f_X4_whistleShare
      rw [c_onStoves hG w, bndC_s, if_neg (nI_ne0 (by omega) (by omega)), c_whistlers hG w, bndC_s, c_bits (by omega), bndC_s, en, ck_t f.1]
    · show f_X5_whistleShare I = _
      unfold f_X5_whistleShare
      rw [m_onStoves hR w, bndC_s, if_neg (nI_ne0 (by omega) (by omega)), m_whistling hR w, bndC_s, m_bits (by omega), bndC_s, m_onStoves hR w, bndC_s, en, ck_t f.1]
theorem rd_memberOf (a c : Int32) : kgSame (Inv q) (Inv (q + 1)) (fun I => f_X4_memberOf a c I) (fun I => f_X5_memberOf a c I) := by
  refine ok_read (fun I s hG hR w hp _ => ?_)
  by_cases q1 : rgI 0 3 a = true
  · obtain ⟨m, rfl, -, hm⟩ := rg_nI (a := 0) (b := 3) q1
    have hm4 : m < 4 := by omega
    have e3 : I 3 m = s.2 m := (hG.2.2.1 m hm4).1
    have e4 : I 4 m = s.2 (4 + m) := (hG.2.2.1 m hm4).2.1
    have e5 : I 5 m = s.2 (8 + m) := (hG.2.2.1 m hm4).2.2
    have mm := m_m hR hm4
    by_cases h0 : c.toInt = 0
    · exact ⟨s.2 m, by show f_X4_memberOf _ _ _ = _; unfold f_X4_memberOf; rw [c_isMember, bndC_s, if_neg (b2i_n0 q1), if_pos h0, ck_inb (by omega) (by omega), nI_clamp (by omega), e3], by show f_X5_memberOf _ _ _ = _; unfold f_X5_memberOf; rw [m_isMember, bndC_s, if_neg (b2i_n0 q1), if_pos h0, mm.1, bndC_s]⟩
    by_cases h1 : c.toInt = 1
    · exact ⟨nI (own s m), by show f_X4_memberOf _ _ _ = _; unfold f_X4_memberOf; rw [c_isMember, bndC_s, if_neg (b2i_n0 q1), if_neg h0, if_pos h1, c_pitchesOf hG w hm4, bndC_s], by show f_X5_memberOf _ _ _ = _; unfold f_X5_memberOf; rw [m_isMember, bndC_s, if_neg (b2i_n0 q1), if_neg h0, if_pos h1, m_pitchesOf hR w hm4, bndC_s]⟩
    by_cases h2 : c.toInt = 2
    · exact ⟨_, by show f_X4_memberOf _ _ _ = _; unfold f_X4_memberOf; rw [c_isMember, bndC_s, if_neg (b2i_n0 q1), if_neg h0, if_neg h1, if_pos h2, c_kettlesOf hG w hm4, bndC_s], by show f_X5_memberOf _ _ _ = _; unfold f_X5_memberOf; rw [m_isMember, bndC_s, if_neg (b2i_n0 q1), if_neg h0, if_neg h1, if_pos h2, m_kettlesOf0 hR w hm4, bndC_s]⟩
    by_cases h3 : c.toInt = 3
    · exact ⟨_, by show f_X4_memberOf _ _ _ = _; unfold f_X4_memberOf; rw [c_isMember, bndC_s, if_neg (b2i_n0 q1), if_neg h0, if_neg h1, if_neg h2, if_pos h3, c_whistlersOf hG w hm4, bndC_s], by show f_X5_memberOf _ _ _ = _; unfold f_X5_memberOf; rw [m_isMember, bndC_s, if_neg (b2i_n0 q1), if_neg h0, if_neg h1, if_neg h2, if_pos h3, m_kettlesOf1 hR w hm4, bndC_s]⟩
    by_cases h4 : c.toInt = 4
    · exact ⟨s.2 (4 + m), by show f_X4_memberOf _ _ _ = _; unfold f_X4_memberOf; rw [c_isMember, bndC_s, if_neg (b2i_n0 q1), if_neg h0, if_neg h1, if_neg h2, if_neg h3, if_pos h4, ck_inb (by omega) (by omega), nI_clamp (by omega), e4], by show f_X5_memberOf _ _ _ = _; unfold f_X5_memberOf; rw [m_isMember, bndC_s, if_neg (b2i_n0 q1), if_neg h0, if_neg h1, if_neg h2, if_neg h3, if_pos h4, mm.2.1, bndC_s]⟩
    by_cases h5 : c.toInt = 5
    · exact ⟨s.2 (8 + m), by show f_X4_memberOf _ _ _ = _; unfold f_X4_memberOf; rw [c_isMember, bndC_s, if_neg (b2i_n0 q1), if_neg h0, if_neg h1, if_neg h2, if_neg h3, if_neg h4, if_pos h5, ck_inb (by omega) (by omega), nI_clamp (by omega), e5], by show f_X5_memberOf _ _ _ = _; unfold f_X5_memberOf; rw [m_isMember, bndC_s, if_neg (b2i_n0 q1), if_neg h0, if_neg h1, if_neg h2, if_neg h3, if_neg h4, if_pos h5, mm.2.2, bndC_s]⟩
    exact ⟨-1012, by show f_X4_memberOf _ _ _ = _; unfold f_X4_memberOf; rw [c_isMember, bndC_s, if_neg (b2i_n0 q1), if_neg h0, if_neg h1, if_neg h2, if_neg h3, if_neg h4, if_neg h5], by show f_X5_memberOf _ _ _ = _; unfold f_X5_memberOf; rw [m_isMember, bndC_s, if_neg (b2i_n0 q1), if_neg h0, if_neg h1, if_neg h2, if_neg h3, if_neg h4, if_neg h5]⟩
  · exact ⟨-1011, by show f_X4_memberOf _ _ _ = _; unfold f_X4_memberOf; rw [c_isMember, bndC_s, if_pos (b2i_z q1)], by show f_X5_memberOf _ _ _ = _; unfold f_X5_memberOf; rw [m_isMember, bndC_s, if_pos (b2i_z q1)]⟩
theorem c_sumOf4 {I : kgM} {s : kgS} (hG : RepG I 1 s) : f_X4_sumOf_4 I = some (smI 4 (fun k => s.2 (4 + k)), I) := by
  unfold f_X4_sumOf_4
  rw [bnd_s]
  refine lp (T := fun q k => f_X4_sumOf_4_L10 (Int32.ofNat 4) (fun x5 I1 => some (x5, I1)) q (smI k (fun k => s.2 (4 + k))) (nI k) I) (R := some (smI 4 (fun k => s.2 (4 + k)), I)) (n := 4) (k0 := 0) (fun q k _ hk => ?_) (fun q => ?_) 200 0 (by omega) (by omega) (by omega)
  · have e : I 4 k = s.2 (4 + k) := (hG.2.2.1 k hk).2.1
    show f_X4_sumOf_4_L10 (Int32.ofNat 4) _ (q + 1) _ (nI k) I = _
    rw [f_X4_sumOf_4_L10, if_neg (show ¬ Int32.ofNat 4 ≤ nI k from nI_ge (b := 4) hk (by omega)), ck_inb (by omega) (by omega), nI_clamp (by omega), e, bnd_s, bnd_s, bnd_s, nI_1]
    rfl
  · show f_X4_sumOf_4_L10 (Int32.ofNat 4) _ (q + 1) _ (nI 4) I = _
    rw [f_X4_sumOf_4_L10, if_pos (show Int32.ofNat 4 ≤ nI 4 from Int32.le_refl _)]
theorem c_sumOf3 {I : kgM} {s : kgS} (hG : RepG I 1 s) : f_X4_sumOf_3 I = some (smI 4 s.2, I) := by
  unfold f_X4_sumOf_3
  rw [bnd_s]
  refine lp (T := fun q k => f_X4_sumOf_3_L10 (Int32.ofNat 4) (fun x5 I1 => some (x5, I1)) q (smI k s.2) (nI k) I) (R := some (smI 4 s.2, I)) (n := 4) (k0 := 0) (fun q k _ hk => ?_) (fun q => ?_) 200 0 (by omega) (by omega) (by omega)
  · have e : I 3 k = s.2 k := (hG.2.2.1 k hk).1
    show f_X4_sumOf_3_L10 (Int32.ofNat 4) _ (q + 1) _ (nI k) I = _
    rw [f_X4_sumOf_3_L10, if_neg (show ¬ Int32.ofNat 4 ≤ nI k from nI_ge (b := 4) hk (by omega)), ck_inb (by omega) (by omega), nI_clamp (by omega), e, bnd_s, bnd_s, bnd_s, nI_1]
    rfl
  · show f_X4_sumOf_3_L10 (Int32.ofNat 4) _ (q + 1) _ (nI 4) I = _
    rw [f_X4_sumOf_3_L10, if_pos (show Int32.ofNat 4 ≤ nI 4 from Int32.le_refl _)]
theorem rd_account (c : Int32) : kgSame (Inv q) (Inv (q + 1)) (fun I => f_X4_account c I) (fun I => f_X5_account c I) := by
  refine ok_read (fun I s hG hR w hp hI => ?_)
  obtain ⟨-, -, ⟨n, b, -, -, -, e4, e5, -⟩, -, ⟨L, -, t1, t2, -⟩, -⟩ := hI
  have e16 : I 1 16 = s.2 13 := hG.2.2.2.2.1
  have e17 : I 1 17 = s.2 14 := hG.2.2.2.2.2
  have m0 : I 178 0 = s.2 12 := (RepR.low (I := I) 0).symm.trans hR.2.2.2.1
  have m2 : I 178 2 = s.2 13 := (RepR.low (I := I) 2).symm.trans hR.2.2.2.2.1
  have m3 : I 178 3 = s.2 14 := (RepR.low (I := I) 3).symm.trans hR.2.2.2.2.2.1
  have m4 : I 178 4 = smI 4 (fun k => s.2 (4 + k)) := by
    refine ((RepR.low (I := I) 4).symm.trans hR.2.2.2.2.2.2).trans ?_
    show _ = 0 + s.2 (4 + 0) + s.2 (4 + 1) + s.2 (4 + 2) + s.2 (4 + 3)
    rw [Int32.zero_add]
  have r : ∀ j : Nat, ∀ x : Int32, c.toInt = (j : Int) → c = nI j := fun j _ h => Int32.toInt_inj.mp (by
    have := c.toInt_lt
    rw [h]; exact (nI_toInt (by omega)).symm)
  by_cases h0 : c.toInt = 0
  · exact ⟨nI (kgN s), by show f_X4_account _ _ = _; unfold f_X4_account; rw [if_pos h0, hG.2.1], by show f_X5_account _ _ = _; unfold f_X5_account; rw [if_pos h0, ck_one, cl_one, hR.n]⟩
  by_cases h1 : c.toInt = 1
  · exact ⟨_, by show f_X4_account _ _ = _; unfold f_X4_account; rw [if_neg h0, if_pos h1, c_onStoves hG w, bndC_s], by show f_X5_account _ _ = _; unfold f_X5_account; rw [if_neg h0, if_pos h1, m_onStoves hR w, bndC_s]⟩
  by_cases h2 : c.toInt = 2
  · exact ⟨_, by show f_X4_account _ _ = _; unfold f_X4_account; rw [if_neg h0, if_neg h1, if_pos h2, c_countBoiling hG w, bndC_s], by show f_X5_account _ _ = _; unfold f_X5_account; rw [if_neg h0, if_neg h1, if_pos h2, m_boiling hR w, bndC_s]⟩
  by_cases h3 : c.toInt = 3
  · exact ⟨_, by show f_X4_account _ _ = _; unfold f_X4_account; rw [if_neg h0, if_neg h1, if_neg h2, if_pos h3, c_lidsOn hG w, bndC_s], by show f_X5_account _ _ = _; unfold f_X5_account; rw [if_neg h0, if_neg h1, if_neg h2, if_pos h3, m_lidsOn hR w, bndC_s]⟩
  by_cases h4 : c.toInt = 4
  · exact ⟨_, by show f_X4_account _ _ = _; unfold f_X4_account; rw [if_neg h0, if_neg h1, if_neg h2, if_neg h3, if_pos h4, c_barred hG w, bndC_s], by show f_X5_account _ _ = _; unfold f_X5_account; rw [if_neg h0, if_neg h1, if_neg h2, if_neg h3, if_pos h4, m_barred hR w, bndC_s]⟩
  by_cases h5 : c.toInt = 5
  · exact ⟨s.2 12, by show f_X4_account _ _ = _; unfold f_X4_account; rw [if_neg h0, if_neg h1, if_neg h2, if_neg h3, if_neg h4, if_pos h5, hG.2.2.2.1], by show f_X5_account _ _ = _; unfold f_X5_account; rw [if_neg h0, if_neg h1, if_neg h2, if_neg h3, if_neg h4, if_pos h5, ck_t (show inb (0 : Int32) 1375 = true from rfl), show (0 : Int32).toNatClampNeg = 0 from rfl, m0]⟩
  by_cases h6 : c.toInt = 6
  · exact ⟨_, by show f_X4_account _ _ = _; unfold f_X4_account; rw [if_neg h0, if_neg h1, if_neg h2, if_neg h3, if_neg h4, if_neg h5, if_pos h6, c_sumWater hG w, bndC_s], by show f_X5_account _ _ = _; unfold f_X5_account; rw [if_neg h0, if_neg h1, if_neg h2, if_neg h3, if_neg h4, if_neg h5, if_pos h6, m_sumWater hR w, bndC_s]⟩
  by_cases h7 : c.toInt = 7
  · have hc := to_nI (j := 7) h7 (by omega)
    exact ⟨s.2 13, by show f_X4_account _ _ = _; unfold f_X4_account; rw [if_neg h0, if_neg h1, if_neg h2, if_neg h3, if_neg h4, if_neg h5, if_neg h6, if_pos h7, e16], by show f_X5_account _ _ = _; unfold f_X5_account; rw [if_neg h0, if_neg h1, if_neg h2, if_neg h3, if_neg h4, if_neg h5, if_neg h6, if_pos h7, show c - 5 = nI 2 from by rw [hc]; rfl, ck_inb (by omega) (by omega), nI_clamp (by omega), m2]⟩
  by_cases h8 : c.toInt = 8
  · have hc := to_nI (j := 8) h8 (by omega)
    exact ⟨s.2 14, by show f_X4_account _ _ = _; unfold f_X4_account; rw [if_neg h0, if_neg h1, if_neg h2, if_neg h3, if_neg h4, if_neg h5, if_neg h6, if_neg h7, if_pos h8, e17], by show f_X5_account _ _ = _; unfold f_X5_account; rw [if_neg h0, if_neg h1, if_neg h2, if_neg h3, if_neg h4, if_neg h5, if_neg h6, if_neg h7, if_pos h8, show c - 5 = nI 3 from by rw [hc]; rfl, ck_inb (by omega) (by omega), nI_clamp (by omega), m3]⟩
  by_cases h9 : c.toInt = 9
  · have hc := to_nI (j := 9) h9 (by omega)
    exact ⟨smI 4 (fun k => s.2 (4 + k)), by show f_X4_account _ _ = _; unfold f_X4_account; rw [if_neg h0, if_neg h1, if_neg h2, if_neg h3, if_neg h4, if_neg h5, if_neg h6, if_neg h7, if_neg h8, if_pos h9, c_sumOf4 hG, bndC_s], by show f_X5_account _ _ = _; unfold f_X5_account; rw [if_neg h0, if_neg h1, if_neg h2, if_neg h3, if_neg h4, if_neg h5, if_neg h6, if_neg h7, if_neg h8, if_pos h9, show c - 5 = nI 4 from by rw [hc]; rfl, ck_inb (by omega) (by omega), nI_clamp (by omega), m4]⟩
  by_cases h10 : c.toInt = 10
  · exact ⟨smI 4 s.2, by show f_X4_account _ _ = _; unfold f_X4_account; rw [if_neg h0, if_neg h1, if_neg h2, if_neg h3, if_neg h4, if_neg h5, if_neg h6, if_neg h7, if_neg h8, if_neg h9, if_pos h10, c_sumOf3 hG, bndC_s], by show f_X5_account _ _ = _; unfold f_X5_account; rw [if_neg h0, if_neg h1, if_neg h2, if_neg h3, if_neg h4, if_neg h5, if_neg h6, if_neg h7, if_neg h8, if_neg h9, if_pos h10, m_allPoints hR w, bndC_s]⟩
  by_cases h11 : c.toInt = 11
  · exact ⟨nI L, by show f_X4_account _ _ = _; unfold f_X4_account; rw [if_neg h0, if_neg h1, if_neg h2, if_neg h3, if_neg h4, if_neg h5, if_neg h6, if_neg h7, if_neg h8, if_neg h9, if_neg h10, if_pos h11, t1], by show f_X5_account _ _ = _; unfold f_X5_account; rw [if_neg h0, if_neg h1, if_neg h2, if_neg h3, if_neg h4, if_neg h5, if_neg h6, if_neg h7, if_neg h8, if_neg h9, if_neg h10, if_pos h11, t2]⟩
  by_cases h12 : c.toInt = 12
  · exact ⟨nI n, by show f_X4_account _ _ = _; unfold f_X4_account; rw [if_neg h0, if_neg h1, if_neg h2, if_neg h3, if_neg h4, if_neg h5, if_neg h6, if_neg h7, if_neg h8, if_neg h9, if_neg h10, if_neg h11, if_pos h12, e4], by show f_X5_account _ _ = _; unfold f_X5_account; rw [if_neg h0, if_neg h1, if_neg h2, if_neg h3, if_neg h4, if_neg h5, if_neg h6, if_neg h7, if_neg h8, if_neg h9, if_neg h10, if_neg h11, if_pos h12, e5]⟩
  exact ⟨-1012, by show f_X4_account _ _ = _; unfold f_X4_account; rw [if_neg h0, if_neg h1, if_neg h2, if_neg h3, if_neg h4, if_neg h5, if_neg h6, if_neg h7, if_neg h8, if_neg h9, if_neg h10, if_neg h11, if_neg h12], by show f_X5_account _ _ = _; unfold f_X5_account; rw [if_neg h0, if_neg h1, if_neg h2, if_neg h3, if_neg h4, if_neg h5, if_neg h6, if_neg h7, if_neg h8, if_neg h9, if_neg h10, if_neg h11, if_neg h12]⟩
theorem rd_reason (a c : Int32) : kgSame (Inv q) (Inv (q + 1)) (fun I => f_X4_reason a c I) (fun I => f_X5_reason a c I) := by
  refine ok_read (fun I s hG hR w hp hI => ?_)
  obtain ⟨-, ⟨d, hd, e1, e2, e3⟩, -⟩ := hI
  have hin : f_X5_in a 0 2 I = some (b2i (rgI 0 2 a), I) := m_in a 0 2
  by_cases q1 : rgI 0 2 a = true
  · obtain ⟨i, rfl, -, hi⟩ := rg_nI (a := 0) (b := 2) q1
    have l0 : ¬ nI i < 0 := nI_pos (by omega)
    have l3 : nI i < (3 : Int32) := nI_lt (b := 3) (by omega) (by omega)
    by_cases z : i < d
    · have e := e3 i z
      by_cases z2 : c = 0
      · exact ⟨I 169 i, by show f_X4_reason _ _ _ = _; unfold f_X4_reason; rw [if_neg l0, if_pos l3, e1, if_pos (nI_lt z (by omega)), if_pos z2, ck_inb (by omega) (by omega), nI_clamp (by omega)], by show f_X5_reason _ _ _ = _; unfold f_X5_reason; rw [hin, bndC_s, if_neg (b2i_n0 q1), e2, if_pos (nI_lt z (by omega)), if_pos z2, ck_inb (by omega) (by omega), nI_clamp (by omega), e.1]⟩
      · exact ⟨I 170 i, by show f_X4_reason _ _ _ = _; unfold f_X4_reason; rw [if_neg l0, if_pos l3, e1, if_pos (nI_lt z (by omega)), if_neg z2, ck_inb (by omega) (by omega), nI_clamp (by omega)], by show f_X5_reason _ _ _ = _; unfold f_X5_reason; rw [hin, bndC_s, if_neg (b2i_n0 q1), e2, if_pos (nI_lt z (by omega)), if_neg z2, ck_inb (by omega) (by omega), nI_clamp (by omega), e.2]⟩
    · exact ⟨-1015, by show f_X4_reason _ _ _ = _; unfold f_X4_reason; rw [if_neg l0, if_pos l3, e1, if_neg (nI_nlt (by omega) (by omega))], by show f_X5_reason _ _ _ = _; unfold f_X5_reason; rw [hin, bndC_s, if_neg (b2i_n0 q1), e2, if_neg (nI_nlt (by omega) (by omega))]⟩
  · refine ⟨-1012, ?_, ?_⟩
    · have q3 : ¬ (0 ≤ a.toInt ∧ a.toInt ≤ 2) := of_decide_eq_false (by simpa [rgI] using q1)
      show f_X4_reason _ _ _ = _
      unfold f_X4_reason
      simp only [lt_t a, show (0 : Int32).toInt = 0 from rfl, show (3 : Int32).toInt = 3 from rfl]
      by_cases q4 : a.toInt < 0
      · rw [if_pos q4]
      · rw [if_neg q4, if_neg (by omega)]
    · show f_X5_reason _ _ _ = _
      unfold f_X5_reason
      rw [hin, bndC_s, if_pos (b2i_z q1)]
end READ
