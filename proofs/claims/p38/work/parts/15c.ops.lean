section OPS
variable {B : Int} {s : kgS} {IC IM : kgM}
/-- the row's field a of kettle k is set -/
theorem m_puts {I : kgM} {k a : Nat} {v : Int32} (hk : k < 10) (ha : a < 9) : f_X5_puts (nI k) (nI a) v I = some (0, kgW I 178 (35 + 9 * k + a) v) := by
  have e := kt_ix (k := k) (a := a) hk ha
  unfold f_X5_puts
  rw [ck_t e.1, e.2, bnd_s]
theorem rep_row {I : kgM} {s : kgS} (hR : RepR (kgRow I 0) s) (hn : kgN s ≤ 10) {j k a v : Nat} (hk : k < kgN s) (hj : 6 ≤ j ∧ j < 15) (hl : kgLo j k = 35 + 9 * k + a) : RepR (kgRow (kgW I 178 (35 + 9 * k + a) (kgCm j v)) 0) (kgSet s j k v) :=
  hR.set hn (Or.inr (Or.inr ⟨hj.1, hj.2, hk⟩)) (fun x => by rw [row_w, hl])
theorem ok_fill (a b : Int32) : OpOK B B (fun I => f_X4_pourWater a b I) (fun I => f_X5_fills a b I) := by
  intro s IC IM hG hR w hp hq
  have hn := w.1
  by_cases q1 : rgI 0 ((kgN s : Int) - 1) a = true
  · obtain ⟨k, rfl, hk⟩ := rg_k q1
    have bo := w.2.2.2.1 k hk
    have hin : f_X5_in b 1 20 IM = some (b2i (rgI 1 20 b), IM) := m_in b 1 20
    have hin2 : f_X5_in b 1 (nI 20) IM = some (b2i (rgI 1 20 b), IM) := hin
    by_cases q2 : rgI 1 20 b = true
    · obtain ⟨v, rfl, hv1, hv2⟩ := rg_nI (a := 1) (b := 20) q2
      have e1 : (nI v < (1 : Int32)) = False := eq_false (by rw [show (1 : Int32) = nI 1 from rfl, nI_ltE (by omega) (by omega)]; omega)
      by_cases z : s.1 8 k + v ≤ 20
      · have w' := wf_wat w hk z (i := 13) (x := s.2 13 + nI v) (Or.inl ⟨rfl, by rw [← nI_add]; ac_rfl⟩)
        have hG' := (hG.set (j := 8) (p := k) (v := s.1 8 k + v) (Or.inr (by omega))).seb (i := 13) (k := 1) (p := 16) (s.2 13 + nI v) (Or.inr (Or.inr (Or.inr (by omega))))
        have hR' := (rep_row hR hn (j := 8) (a := 2) (v := s.1 8 k + v) hk (by omega) rfl).seb (by exact hn) (i := 13) (x := 2) (v := s.2 13 + nI v) (by unfold kgBt; omega) (fun x => row_w _ 2 _ x)
        have ec : kgW IC 9 k (nI (s.1 8 k + v)) 1 16 = s.2 13 := by rw [kgW_n _ _ _ (by decide)]; exact hG.2.2.2.2.1
        have em : kgW IM 178 (35 + 9 * k + 2) (nI (s.1 8 k + v)) 178 2 = s.2 13 := by
          rw [kgW_r, if_neg (by omega)]; exact (RepR.low (I := IM) 2).symm.trans hR.2.2.2.2.1
        refine op_done hq (x := nI (s.1 8 k + v)) (JC := kgW (kgW IC 9 k (nI (s.1 8 k + v))) 1 16 (s.2 13 + nI v)) (JM := kgW (kgW IM 178 (35 + 9 * k + 2) (nI (s.1 8 k + v))) 178 2 (s.2 13 + nI v)) ?_ ?_ hG' hR' w' (pt_seb hp (by omega)) (nI_ge0 (by omega)) (fun c hc => by rw [kgW_n _ _ _ (by omega), kgW_n _ _ _ (by omega)]) (fun c hc => by rw [kgW_n _ _ _ hc, kgW_n _ _ _ hc]) (fun j hj => by rw [kgW_r, if_neg (by omega), kgW_r, if_neg (by omega)]) (tr_free (s := s) (j := 8) (p := k) (v := s.1 8 k + v) (by decide))
        · show f_X4_pourWater _ _ _ = _
          unfold f_X4_pourWater
          simp (disch := omega) only [c_isKettle hG w, bndC_s, b2i_0, q1, Bool.true_eq_false, if_false, e1, l20, nI_leE, if_pos (show v ≤ 20 by omega), ck_inb, nI_clamp, hG.wat hk, nI_add, bnd_s, if_pos z, ec]
        · show f_X5_fills _ _ _ = _
          unfold f_X5_fills
          have mp := m_puts (I := IM) (k := k) (a := 2) (v := nI (s.1 8 k + v)) (by omega) (by omega)
          rw [show nI 2 = (2 : Int32) from rfl] at mp
          simp (disch := omega) only [m_isKettle hR w, bndC_s, b2i_0, q1, Bool.true_eq_false, if_false, hin2, q2, m_wat hR hn hk, bnd_s, nI_add, letJ_s, l20, nI_leE, if_pos z, m_refuse0, if_true, mp, ck_t (show inb (2 : Int32) 1375 = true from rfl), show (2 : Int32).toNatClampNeg = 2 from rfl, em]
      · obtain ⟨JC, g1, g2, g3⟩ := c_refuse (I := IC) 11 (nI (s.1 8 k + v))
        obtain ⟨JM, k1, k2, k3⟩ := m_refuse (I := IM) 11 (nI (s.1 8 k + v))
        refine op_ref hG hR w hp (l := [(11, nI (s.1 8 k + v))]) (show 1 ≤ 2 by omega) (JC := JC) (JM := JM) ?_ ?_ g2 g3 k2 k3
        · show f_X4_pourWater _ _ _ = _
          unfold f_X4_pourWater
          simp (disch := omega) only [c_isKettle hG w, bndC_s, b2i_0, q1, Bool.true_eq_false, if_false, e1, l20, nI_leE, if_pos (show v ≤ 20 by omega), ck_inb, nI_clamp, hG.wat hk, nI_add, bnd_s, if_neg z, g1]
        · show f_X5_fills _ _ _ = _
          unfold f_X5_fills
          simp (disch := omega) only [m_isKettle hR w, bndC_s, b2i_0, q1, Bool.true_eq_false, if_false, hin2, q2, m_wat hR hn hk, bnd_s, nI_add, letJ_s, l20, nI_leE, if_neg z, k1, if_neg (show ¬ (1 : Int32) = 0 by decide)]
    · refine op_code hG hR w hp hq (x := -1012) (Or.inr rfl) ?_ ?_
      · have key : ∀ A : Option (Int32 × kgM), (if b < (1 : Int32) then some ((-1012 : Int32), IC) else if b ≤ (20 : Int32) then A else some ((-1012 : Int32), IC)) = some ((-1012 : Int32), IC) := fun A => by
          have q3 : ¬ (1 ≤ b.toInt ∧ b.toInt ≤ 20) := of_decide_eq_false (by simpa [rgI] using q2)
          simp only [lt_t, le_t, show (1 : Int32).toInt = 1 from rfl, show (20 : Int32).toInt = 20 from rfl]
          by_cases q4 : b.toInt < 1
          · rw [if_pos q4]
          · rw [if_neg q4, if_neg (by omega)]
        show f_X4_pourWater _ _ _ = _
        unfold f_X4_pourWater
        simp only [c_isKettle hG w, bndC_s, b2i_0, q1, Bool.true_eq_false, if_false, key]
      · show f_X5_fills _ _ _ = _
        unfold f_X5_fills
        simp only [m_isKettle hR w, bndC_s, b2i_0, q1, Bool.true_eq_false, if_false, hin, q2, if_true]
  · refine op_code hG hR w hp hq (x := -1011) (Or.inl rfl) ?_ ?_
    · show f_X4_pourWater _ _ _ = _
      unfold f_X4_pourWater
      simp only [c_isKettle hG w, bndC_s, b2i_0, q1, if_true]
    · show f_X5_fills _ _ _ = _
      unfold f_X5_fills
      simp only [m_isKettle hR w, bndC_s, b2i_0, q1, if_true]
theorem ok_off (a : Int32) : OpOK B B (fun I => f_X4_takeOffStove a I) (fun I => f_X5_takesOff a I) := by
  intro s IC IM hG hR w hp hq
  have hn := w.1
  by_cases q1 : rgI 0 ((kgN s : Int) - 1) a = true
  · obtain ⟨k, rfl, hk⟩ := rg_k q1
    have bo := w.2.2.2.1 k hk
    have n10 := cnt_le (kgN s) (fun k => decide (s.1 10 k ≠ 0))
    by_cases z : s.1 10 k = 0
    · obtain ⟨JC, g1, g2, g3⟩ := c_refuse (I := IC) 10 (nI (cnt (kgN s) (fun k => decide (s.1 10 k ≠ 0))))
      obtain ⟨JM, k1, k2, k3⟩ := m_refuse (I := IM) 10 (nI (cnt (kgN s) (fun k => decide (s.1 10 k ≠ 0))))
      refine op_ref hG hR w hp (l := [(10, nI (cnt (kgN s) (fun k => decide (s.1 10 k ≠ 0))))]) (show 1 ≤ 2 by omega) (JC := JC) (JM := JM) ?_ ?_ g2 g3 k2 k3
      · show f_X4_takeOffStove _ _ = _
        unfold f_X4_takeOffStove
        simp (disch := omega) only [c_isKettle hG w, bndC_s, b2i_0, q1, Bool.true_eq_false, if_false, ck_inb, nI_clamp, hG.stv hk, bnd_s, oc_m1, if_pos z, c_onStoves hG w, g1]
      · show f_X5_takesOff _ _ = _
        unfold f_X5_takesOff
        simp (disch := omega) only [m_isKettle hR w, bndC_s, b2i_0, q1, Bool.true_eq_false, if_false, m_isOn hR w hk, letJ_s, m_onStoves hR w, k1, if_neg (show ¬ (1 : Int32) = 0 by decide)]
        rw [if_pos (by simp [z])]
    · obtain ⟨o, ho⟩ : ∃ o, s.1 10 k = o + 1 := ⟨s.1 10 k - 1, by omega⟩
      have w' := wf_stv w hk (v := 0) (by omega) (Or.inl rfl)
      have hG' := hG.set (j := 10) (p := k) (v := 0) (Or.inr (by omega))
      have hR' := rep_row hR hn (j := 10) (a := 5) (v := 0) hk (by omega) rfl
      refine op_done hq (x := nI o) (JC := kgW IC 11 k (-1)) (JM := kgW IM 178 (35 + 9 * k + 5) 0) ?_ ?_ hG' hR' w' hp (nI_ge0 (by omega)) (fun c hc => by rw [kgW_n _ _ _ (by omega)]) (fun c hc => by rw [kgW_n _ _ _ hc]) (fun j hj => by rw [kgW_r, if_neg (by omega)]) (tr_stv (Or.inl rfl))
      · show f_X4_takeOffStove _ _ = _
        unfold f_X4_takeOffStove
        simp (disch := omega) only [c_isKettle hG w, bndC_s, b2i_0, q1, Bool.true_eq_false, if_false, ck_inb, nI_clamp, hG.stv hk, bnd_s, oc_m1, if_neg z]
        simp only [ho, nI_pred]
      · show f_X5_takesOff _ _ = _
        unfold f_X5_takesOff
        have mp := m_puts (I := IM) (k := k) (a := 5) (v := 0) (by omega) (by omega)
        rw [show nI 5 = (5 : Int32) from rfl] at mp
        simp (disch := omega) only [m_isKettle hR w, bndC_s, b2i_0, q1, Bool.true_eq_false, if_false, m_isOn hR w hk, letJ_s, m_onStoves hR w, m_refuse0, if_true, m_stv hR hn hk, mp, bnd_s]
        rw [if_neg (by simp [z])]
        simp only [ho, nI_pred]
  · refine op_code hG hR w hp hq (x := -1011) (Or.inl rfl) ?_ ?_
    · show f_X4_takeOffStove _ _ = _
      unfold f_X4_takeOffStove
      simp only [c_isKettle hG w, bndC_s, b2i_0, q1, if_true]
    · show f_X5_takesOff _ _ = _
      unfold f_X5_takesOff
      simp only [m_isKettle hR w, bndC_s, b2i_0, q1, if_true]
theorem ok_heat (a b : Int32) : OpOK B B (fun I => f_X4_turnStove a b I) (fun I => f_X5_heats a b I) := by
  intro s IC IM hG hR w hp hq
  have hn := w.1
  by_cases q1 : rgI 0 5 a = true
  · obtain ⟨i, rfl, -, hi⟩ := rg_nI (a := 0) (b := 5) q1
    have bo := w.2.2.1 i (by omega)
    have hin : f_X5_in b 0 5 IM = some (b2i (rgI 0 5 b), IM) := m_in b 0 5
    by_cases q2 : rgI 0 5 b = true
    · obtain ⟨v, rfl, hv1, hv2⟩ := rg_nI (a := 0) (b := 5) q2
      have em : IM 178 (29 + i) = nI (s.1 5 i) := hR.at0 (j := 5) (Or.inr (Or.inl ⟨rfl, by omega⟩))
      have ec := hG.hea (i := i) (by omega)
      have e29 : (29 : Int32) + nI i = nI (29 + i) := nI_add 29 i
      by_cases z : s.1 5 i = v
      · obtain ⟨JC, g1, g2, g3⟩ := c_refuse (I := IC) 9 (nI v)
        obtain ⟨JM, k1, k2, k3⟩ := m_refuse (I := IM) 9 (nI v)
        refine op_ref hG hR w hp (l := [(9, nI v)]) (show 1 ≤ 2 by omega) (JC := JC) (JM := JM) ?_ ?_ g2 g3 k2 k3
        · show f_X4_turnStove _ _ _ = _
          unfold f_X4_turnStove
          simp (disch := omega) only [c_isStove, bndC_s, b2i_0, q1, Bool.true_eq_false, if_false, nI_lt0, l5, nI_leE, if_pos (show v ≤ 5 by omega), ck_inb, nI_clamp, ec, bnd_s, nI_eqE, if_pos z, g1]
        · show f_X5_heats _ _ _ = _
          unfold f_X5_heats
          simp (disch := omega) only [m_isStove, bndC_s, b2i_0, q1, Bool.true_eq_false, if_false, hin, q2, e29, ck_inb, nI_clamp, em, bnd_s, letJ_s, nI_eqE, if_pos z, k1, if_neg (show ¬ (1 : Int32) = 0 by decide)]
      · have w' := wf_free w (j := 5) (k := i) (v := v) (by unfold kgOv; omega)
        have hG' := hG.set (j := 5) (p := i) (v := v) (Or.inr (by omega))
        have hR' : RepR (kgRow (kgW IM 178 (29 + i) (nI v)) 0) (kgSet s 5 i v) := hR.set hn (Or.inr (Or.inl ⟨rfl, by omega⟩)) (fun x => row_w IM (29 + i) (nI v) x)
        refine op_done hq (x := nI (s.1 5 i)) (JC := kgW IC 6 i (nI v)) (JM := kgW IM 178 (29 + i) (nI v)) ?_ ?_ hG' hR' w' hp (nI_ge0 (by omega)) (fun c hc => by rw [kgW_n _ _ _ (by omega)]) (fun c hc => by rw [kgW_n _ _ _ hc]) (fun j hj => by rw [kgW_r, if_neg (by omega)]) (tr_free (j := 5) (by decide))
        · show f_X4_turnStove _ _ _ = _
          unfold f_X4_turnStove
          simp (disch := omega) only [c_isStove, bndC_s, b2i_0, q1, Bool.true_eq_false, if_false, nI_lt0, l5, nI_leE, if_pos (show v ≤ 5 by omega), ck_inb, nI_clamp, ec, bnd_s, nI_eqE, if_neg z]
        · show f_X5_heats _ _ _ = _
          unfold f_X5_heats
          simp (disch := omega) only [m_isStove, bndC_s, b2i_0, q1, Bool.true_eq_false, if_false, hin, q2, e29, ck_inb, nI_clamp, em, bnd_s, letJ_s, nI_eqE, if_neg z, m_refuse0, if_true]
    · refine op_code hG hR w hp hq (x := -1012) (Or.inr rfl) ?_ ?_
      · have key : ∀ A : Option (Int32 × kgM), (if b < 0 then some ((-1012 : Int32), IC) else if b ≤ (5 : Int32) then A else some ((-1012 : Int32), IC)) = some ((-1012 : Int32), IC) := fun A => by
          have q3 : ¬ (0 ≤ b.toInt ∧ b.toInt ≤ 5) := of_decide_eq_false (by simpa [rgI] using q2)
          simp only [lt_t, le_t, show (0 : Int32).toInt = 0 from rfl, show (5 : Int32).toInt = 5 from rfl]
          by_cases q4 : b.toInt < 0
          · rw [if_pos q4]
          · rw [if_neg q4, if_neg (by omega)]
        show f_X4_turnStove _ _ _ = _
        unfold f_X4_turnStove
        simp only [c_isStove, bndC_s, b2i_0, q1, Bool.true_eq_false, if_false, key]
      · show f_X5_heats _ _ _ = _
        unfold f_X5_heats
        simp only [m_isStove, bndC_s, b2i_0, q1, Bool.true_eq_false, if_false, hin, q2, if_true]
  · refine op_code hG hR w hp hq (x := -1011) (Or.inl rfl) ?_ ?_
    · show f_X4_turnStove _ _ _ = _
      unfold f_X4_turnStove
      simp only [c_isStove, bndC_s, b2i_0, q1, if_true]
    · show f_X5_heats _ _ _ = _
      unfold f_X5_heats
      simp only [m_isStove, bndC_s, b2i_0, q1, if_true]
end OPS
