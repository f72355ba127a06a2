theorem b2i_f : b2i false = 0 := rfl
theorem b2i_t : b2i true = 1 := rfl
theorem one_ne : ((1 : Int32) = 0) = False := eq_false (by decide)
theorem m1_lt : ((-1 : Int32) < 0) = True := eq_true (by decide)
theorem nI_m1 {k : Nat} (h : k < 2147483648) : (nI k = -1) = False := eq_false (fun z => by
  have := congrArg Int32.toInt z
  rw [nI_toInt h] at this
  have h2 : (-1 : Int32).toInt = -1 := by decide
  omega)
theorem m_refStove {I : kgM} (k a b : Int32) : ∃ J1 J, f_X5_refuses 1 a b I = some (1, J1) ∧ f_X5_causes 4 k J1 = some (0, J) ∧ RsM J [(4, k), (a, b)] ∧ frP I J := by
  obtain ⟨J1, h1, h2, h3⟩ := m_refuse (I := I) a b
  obtain ⟨J, g1, g2, g3⟩ := m_causes (I := J1) (l := [(a, b)]) 4 k (show 1 ≤ 2 by omega) h2
  exact ⟨J1, J, h1, g1, g2, h3.trans g3⟩
section OPS
variable {B : Int} {s : kgS} {IC IM : kgM}
theorem ok_set (a b : Int32) : OpOK B B (fun I => f_X4_putOnStove a b I) (fun I => f_X5_sets a b I) := by
  intro s IC IM hG hR w hp hq
  have hn := w.1
  by_cases q1 : rgI 0 ((kgN s : Int) - 1) a = true
  · obtain ⟨k, rfl, hk⟩ := rg_k q1
    have bo := w.2.2.2.1 k hk
    by_cases q2 : rgI 0 5 b = true
    · obtain ⟨st, rfl, -, hst⟩ := rg_nI (a := 0) (b := 5) q2
      have c1 := c_kettleOn hG w (st := st) (by omega)
      have m1 := m_kettleOn hR w (st := st) (by omega)
      have c2 := c_stoveWith hG w (pt := s.1 7 k) (by omega)
      have m2 := m_stoveWith hR w (pt := s.1 7 k) (by omega)
      have m3 := m_isOn hR w hk
      have hk1 : ¬ b2i (rgI 0 ((kgN s : Int) - 1) (nI k)) = 0 := by rw [q1]; decide
      have hs1 : ¬ b2i (rgI 0 5 (nI st)) = 0 := by rw [q2]; decide
      have t00 : (0 : Int32) = 0 := rfl
      have t10 : ¬ (1 : Int32) = 0 := by decide
      have tm1 : (-1 : Int32) < 0 := by decide
      by_cases z : s.1 10 k = 0
      · have d0 : decide (s.1 10 k ≠ 0) = false := decide_eq_false (fun h => h z)
        cases e1 : fnd (fun k => decide (s.1 10 k = st + 1)) (kgN s) 0 with
        | some j =>
          have hj := fnd_some e1
          rw [e1] at c1 m1
          obtain ⟨JC, g1, g2, g3⟩ := c_refuseStove (I := IC) (nI k) 6 (nI j)
          obtain ⟨J1, JM, k0, k1, k2, k3⟩ := m_refStove (I := IM) (nI k) 6 (nI j)
          refine op_ref hG hR w hp (l := [(4, nI k), (6, nI j)]) (show 2 ≤ 2 by omega) (JC := JC) (JM := JM) ?_ ?_ g2 g3 k2 k3
          · show f_X4_putOnStove _ _ _ = _
            unfold f_X4_putOnStove
            simp (disch := omega) only [c_isKettle hG w, c_isStove, bndC_s, b2i_0, q1, q2, Bool.true_eq_false, if_false, ck_inb, nI_clamp, hG.stv hk, oc_m1, if_pos z, c1, onf, nI_m1, g1]
          · show f_X5_sets _ _ _ = _
            unfold f_X5_sets
            rw [m_isKettle hR w, bndC_s, if_neg hk1, m_isStove, bndC_s, if_neg hs1, m1, bndC_s, m_pit hR hn hk, bndC_s, m2, bndC_s, m3, bndC_s, d0, m_stv hR hn hk, bndC_s, b2i_f, m_refuse0, bndC_s, if_pos t00, letJ_s]
            dsimp only
            rw [show onf (some j) nI (-1) = nI j from rfl, if_neg (nI_pos (show j < 2147483648 by omega)), k0, bndC_s, if_neg t10, k1, bndC_s]
        | none =>
          rw [e1] at c1 m1
          cases e2 : fnd (fun i => decide (s.1 10 i ≠ 0) && decide (s.1 7 i = s.1 7 k)) (kgN s) 0 with
          | some j =>
            rw [e2] at c2 m2
            have hj := fnd_some e2
            have hj2 := hj.2.2
            simp only [Bool.and_eq_true, decide_eq_true_eq] at hj2
            have bj := w.2.2.2.1 j (by omega)
            obtain ⟨o, ho⟩ : ∃ o, s.1 10 j = o + 1 := ⟨s.1 10 j - 1, by omega⟩
            simp only [onf, ho, nI_pred] at c2 m2
            obtain ⟨JC, g1, g2, g3⟩ := c_refuseStove (I := IC) (nI k) 7 (nI o)
            obtain ⟨J1, JM, k0, k1, k2, k3⟩ := m_refStove (I := IM) (nI k) 7 (nI o)
            refine op_ref hG hR w hp (l := [(4, nI k), (7, nI o)]) (show 2 ≤ 2 by omega) (JC := JC) (JM := JM) ?_ ?_ g2 g3 k2 k3
            · show f_X4_putOnStove _ _ _ = _
              unfold f_X4_putOnStove
              simp (disch := omega) only [c_isKettle hG w, c_isStove, bndC_s, b2i_0, q1, q2, Bool.true_eq_false, if_false, ck_inb, nI_clamp, hG.stv hk, oc_m1, if_pos z, c1, onf, if_true, hG.pit hk, c2, nI_m1, g1]
            · show f_X5_sets _ _ _ = _
              unfold f_X5_sets
              rw [m_isKettle hR w, bndC_s, if_neg hk1, m_isStove, bndC_s, if_neg hs1, m1, bndC_s, m_pit hR hn hk, bndC_s, m2, bndC_s, m3, bndC_s, d0, m_stv hR hn hk, bndC_s, b2i_f, m_refuse0, bndC_s, if_pos t00, letJ_s]
              dsimp only
              rw [show onf none nI (-1) = (-1 : Int32) from rfl, if_pos tm1, m_refuse0, bndC_s, if_pos t00, letJ_s]
              dsimp only
              rw [if_neg (nI_pos (show o < 2147483648 by omega)), k0, bndC_s, if_neg t10, k1, bndC_s]
          | none =>
            rw [e2] at c2 m2
            by_cases z3 : s.1 11 k = 0
            · have dist : ∀ i, i < kgN s → i ≠ k → s.1 10 i ≠ 0 → s.1 10 i ≠ st + 1 ∧ s.1 7 i ≠ s.1 7 k := fun i hi _ h0 => by
                have f1 := of_decide_eq_false (fnd_none e1 i (by omega) (by omega))
                have f2 := fnd_none e2 i (by omega) (by omega)
                simp only [Bool.and_eq_false_iff, decide_eq_false_iff_not] at f2
                exact ⟨f1, by omega⟩
              have w' := wf_stv w hk (v := st + 1) (by omega) (Or.inr dist)
              have hG' : RepG (kgW IC 11 k (nI st)) 1 (kgSet s 10 k (st + 1)) := by
                have := hG.set (j := 10) (p := k) (v := st + 1) (Or.inr (by omega))
                rw [show kgCo 10 (st + 1) = nI st from nI_pred st] at this
                exact this
              have hR' := rep_row hR hn (j := 10) (a := 5) (v := st + 1) hk (by omega) rfl
              have hR' : RepR (kgRow (kgW IM 178 (35 + 9 * k + 5) (nI (st + 1))) 0) (kgSet s 10 k (st + 1)) := hR'
              have mp := m_puts (I := IM) (k := k) (a := 5) (v := nI (st + 1)) (by omega) (by omega)
              rw [show nI 5 = (5 : Int32) from rfl] at mp
              refine op_done hq (x := nI (cnt (kgN (kgSet s 10 k (st + 1))) (fun i => decide ((kgSet s 10 k (st + 1)).1 10 i ≠ 0)))) (JC := kgW IC 11 k (nI st)) (JM := kgW IM 178 (35 + 9 * k + 5) (nI (st + 1))) ?_ ?_ hG' hR' w' hp (nI_ge0 (by have := cnt_le (kgN (kgSet s 10 k (st + 1))) (fun i => decide ((kgSet s 10 k (st + 1)).1 10 i ≠ 0)); have := w'.1; omega)) (fun c hc => by rw [kgW_n _ _ _ (by omega)]) (fun c hc => by rw [kgW_n _ _ _ hc]) (fun j hj => by rw [kgW_r, if_neg (by omega)]) (tr_stv (Or.inr z3))
              · show f_X4_putOnStove _ _ _ = _
                unfold f_X4_putOnStove
                simp (disch := omega) only [c_isKettle hG w, c_isStove, bndC_s, b2i_0, q1, q2, Bool.true_eq_false, if_false, ck_inb, nI_clamp, hG.stv hk, oc_m1, if_pos z, c1, onf, if_true, hG.pit hk, c2, hG.ban hk, nI_le0, if_pos z3, bnd_s, c_onStoves hG' w']
              · show f_X5_sets _ _ _ = _
                unfold f_X5_sets
                rw [m_isKettle hR w, bndC_s, if_neg hk1, m_isStove, bndC_s, if_neg hs1, m1, bndC_s, m_pit hR hn hk, bndC_s, m2, bndC_s, m3, bndC_s, d0, m_stv hR hn hk, bndC_s, b2i_f, m_refuse0, bndC_s, if_pos t00, letJ_s]
                dsimp only
                rw [show onf none nI (-1) = (-1 : Int32) from rfl, if_pos tm1, m_refuse0, bndC_s, if_pos t00, letJ_s]
                dsimp only
                rw [show onf none (fun k => nI (s.1 10 k) - 1) (-1) = (-1 : Int32) from rfl, if_pos tm1, m_refuse0, bndC_s, if_pos t00, m_ban hR hn hk, bndC_s, letJ_s]
                dsimp only
                rw [if_pos (show nI (s.1 11 k) ≤ 0 by rw [z3]; decide), m_ban hR hn hk, bndC_s, m_refuse0, bndC_s, if_pos t00, nI_1, mp, bndC_s, m_onStoves hR' w', bndC_s]
            · obtain ⟨JC, g1, g2, g3⟩ := c_refuseStove (I := IC) (nI k) 8 (nI (s.1 11 k))
              obtain ⟨J1, JM, k0, k1, k2, k3⟩ := m_refStove (I := IM) (nI k) 8 (nI (s.1 11 k))
              refine op_ref hG hR w hp (l := [(4, nI k), (8, nI (s.1 11 k))]) (show 2 ≤ 2 by omega) (JC := JC) (JM := JM) ?_ ?_ g2 g3 k2 k3
              · show f_X4_putOnStove _ _ _ = _
                unfold f_X4_putOnStove
                simp (disch := omega) only [c_isKettle hG w, c_isStove, bndC_s, b2i_0, q1, q2, Bool.true_eq_false, if_false, ck_inb, nI_clamp, hG.stv hk, oc_m1, if_pos z, c1, onf, if_true, hG.pit hk, c2, hG.ban hk, nI_le0, if_neg z3, g1]
              · show f_X5_sets _ _ _ = _
                unfold f_X5_sets
                rw [m_isKettle hR w, bndC_s, if_neg hk1, m_isStove, bndC_s, if_neg hs1, m1, bndC_s, m_pit hR hn hk, bndC_s, m2, bndC_s, m3, bndC_s, d0, m_stv hR hn hk, bndC_s, b2i_f, m_refuse0, bndC_s, if_pos t00, letJ_s]
                dsimp only
                rw [show onf none nI (-1) = (-1 : Int32) from rfl, if_pos tm1, m_refuse0, bndC_s, if_pos t00, letJ_s]
                dsimp only
                rw [show onf none (fun k => nI (s.1 10 k) - 1) (-1) = (-1 : Int32) from rfl, if_pos tm1, m_refuse0, bndC_s, if_pos t00, m_ban hR hn hk, bndC_s, letJ_s]
                dsimp only
                rw [if_neg (nI_nle (show 0 < s.1 11 k by omega) (by omega)), m_ban hR hn hk, bndC_s, k0, bndC_s, if_neg t10, k1, bndC_s]
      · have d0 : decide (s.1 10 k ≠ 0) = true := decide_eq_true z
        obtain ⟨o, ho⟩ : ∃ o, s.1 10 k = o + 1 := ⟨s.1 10 k - 1, by omega⟩
        obtain ⟨JC, g1, g2, g3⟩ := c_refuseStove (I := IC) (nI k) 5 (nI o)
        obtain ⟨J1, JM, k0, k1, k2, k3⟩ := m_refStove (I := IM) (nI k) 5 (nI o)
        have es := hG.stv hk
        rw [ho, nI_pred] at es
        have em := m_stv hR hn hk
        rw [ho] at em
        refine op_ref hG hR w hp (l := [(4, nI k), (5, nI o)]) (show 2 ≤ 2 by omega) (JC := JC) (JM := JM) ?_ ?_ g2 g3 k2 k3
        · show f_X4_putOnStove _ _ _ = _
          unfold f_X4_putOnStove
          simp (disch := omega) only [c_isKettle hG w, c_isStove, bndC_s, b2i_0, q1, q2, Bool.true_eq_false, if_false, ck_inb, nI_clamp, es, nI_m1, g1]
        · show f_X5_sets _ _ _ = _
          unfold f_X5_sets
          rw [m_isKettle hR w, bndC_s, if_neg hk1, m_isStove, bndC_s, if_neg hs1, m1, bndC_s, m_pit hR hn hk, bndC_s, m2, bndC_s, m3, bndC_s, d0, b2i_t, em, bndC_s, nI_pred, k0, bndC_s, if_neg t10, k1, bndC_s]
    · refine op_code hG hR w hp hq (x := -1011) (Or.inl rfl) ?_ ?_
      · show f_X4_putOnStove _ _ _ = _
        unfold f_X4_putOnStove
        simp only [c_isKettle hG w, c_isStove, bndC_s, b2i_0, q1, q2, Bool.true_eq_false, if_false, if_true]
      · show f_X5_sets _ _ _ = _
        unfold f_X5_sets
        simp only [m_isKettle hR w, m_isStove, bndC_s, b2i_0, q1, q2, Bool.true_eq_false, if_false, if_true]
  · refine op_code hG hR w hp hq (x := -1011) (Or.inl rfl) ?_ ?_
    · show f_X4_putOnStove _ _ _ = _
      unfold f_X4_putOnStove
      simp only [c_isKettle hG w, bndC_s, b2i_0, q1, if_true]
    · show f_X5_sets _ _ _ = _
      unfold f_X5_sets
      simp only [m_isKettle hR w, bndC_s, b2i_0, q1, if_true]
/-- on or off: -/
theorem ok_lid (a b : Int32) : OpOK B B (fun I => f_X4_moveLid a b I) (fun I => f_X5_putsLid a b I) := by
  intro s IC IM hG hR w hp hq
  have hn := w.1
  by_cases q1 : rgI 0 ((kgN s : Int) - 1) a = true
  · obtain ⟨k, rfl, hk⟩ := rg_k q1
    have bo := w.2.2.2.1 k hk
    have hin : f_X5_in b 0 1 IM = some (b2i (rgI 0 1 b), IM) := m_in b 0 1
    have e012 : IM 178 0 = s.2 12 := (RepR.low (I := IM) 0).symm.trans hR.2.2.2.1
    by_cases q2 : rgI 0 1 b = true
    · obtain ⟨v, rfl, -, hv⟩ := rg_nI (a := 0) (b := 1) q2
      have ev : ∀ A : Option (Int32 × kgM), (if nI v = 0 then A else if nI v = (1 : Int32) then A else some ((-1012 : Int32), IC)) = A := fun A => by
        have : v = 0 ∨ v = 1 := by omega
        rcases this with rfl | rfl
        · rw [if_pos (show nI 0 = (0 : Int32) from rfl)]
        · rw [if_neg (show ¬ nI 1 = (0 : Int32) by decide), if_pos (show nI 1 = (1 : Int32) from rfl)]
      have ev1 : (nI v = (1 : Int32)) = (v = 1) := nI_eqE (b := 1) (by omega) (by omega)
      have ev2 : ∀ A : Option (Int32 × kgM), (if nI v = 0 then A else if v = 1 then A else some ((-1012 : Int32), IC)) = A := fun A => by
        have := ev A
        simp only [ev1] at this
        exact this
      by_cases z : s.1 12 k = v
      · obtain ⟨JC, g1, g2, g3⟩ := c_refuse (I := IC) 9 (nI v)
        obtain ⟨JM, k1, k2, k3⟩ := m_refuse (I := IM) 9 (nI v)
        refine op_ref hG hR w hp (l := [(9, nI v)]) (show 1 ≤ 2 by omega) (JC := JC) (JM := JM) ?_ ?_ g2 g3 k2 k3
        · show f_X4_moveLid _ _ _ = _
          unfold f_X4_moveLid
          simp (disch := omega) only [c_isKettle hG w, bndC_s, b2i_0, q1, Bool.true_eq_false, if_false, letJ_s, ev1, ev2, ck_inb, nI_clamp, hG.lid hk, nI_eqE, if_pos z, g1]
        · show f_X5_putsLid _ _ _ = _
          unfold f_X5_putsLid
          simp (maxSteps := 3000000) (disch := omega) only [m_isKettle hR w, bndC_s, b2i_0, q1, Bool.true_eq_false, if_false, hin, q2, m_lid hR hn hk, letJ_s, nI_eqE, if_pos z, k1, one_ne]
      · by_cases z2 : v = 1 ∧ s.1 13 k = 1
        · have zb : (nI (s.1 13 k) = (1 : Int32)) = (s.1 13 k = 1) := nI_eqE (b := 1) (by omega) (by omega)
          obtain ⟨JC, g1, g2, g3⟩ := c_refuse (I := IC) 12 ((6 : Int32) - (s.2 12 - s.2 12 / (6 : Int32) * (6 : Int32)))
          obtain ⟨JM, k1, k2, k3⟩ := m_refuse (I := IM) 12 ((6 : Int32) - (s.2 12 - s.2 12 / (6 : Int32) * (6 : Int32)))
          refine op_ref hG hR w hp (l := [(12, (6 : Int32) - (s.2 12 - s.2 12 / (6 : Int32) * (6 : Int32)))]) (show 1 ≤ 2 by omega) (JC := JC) (JM := JM) ?_ ?_ g2 g3 k2 k3
          · show f_X4_moveLid _ _ _ = _
            unfold f_X4_moveLid
            simp (disch := omega) only [c_isKettle hG w, bndC_s, b2i_0, q1, Bool.true_eq_false, if_false, letJ_s, ck_inb, nI_clamp, hG.lid hk, ev1, ev2, if_neg z, hG.bar hk, zb, if_pos z2.1, if_pos z2.2, hG.2.2.2.1, g1, nI_eqE, ite_self]
          · show f_X5_putsLid _ _ _ = _
            unfold f_X5_putsLid
            simp (maxSteps := 3000000) (disch := omega) only [m_isKettle hR w, bndC_s, b2i_0, q1, Bool.true_eq_false, if_false, hin, q2, m_lid hR hn hk, letJ_s, ev1, if_neg z, m_refuse0, if_true, if_pos z2.1, m_bar hR hn hk, zb, if_pos z2.2, ck_t (show inb (0 : Int32) 1375 = true from rfl), show (0 : Int32).toNatClampNeg = 0 from rfl, e012, k1, one_ne, nI_eqE]
        · have w' := wf_free w (j := 12) (k := k) (v := v) (by unfold kgOv; omega)
          have hG' := hG.set (j := 12) (p := k) (v := v) (Or.inr (by omega))
          have hG' : RepG (kgW IC 13 k (nI v)) 1 (kgSet s 12 k v) := hG'
          have hR' := rep_row hR hn (j := 12) (a := 4) (v := v) hk (by omega) rfl
          have hR' : RepR (kgRow (kgW IM 178 (35 + 9 * k + 4) (nI v)) 0) (kgSet s 12 k v) := hR'
          have mp := m_puts (I := IM) (k := k) (a := 4) (v := nI v) (by omega) (by omega)
          rw [show nI 4 = (4 : Int32) from rfl] at mp
          have hle := smN_le (n := kgN (kgSet s 12 k v)) (f := (kgSet s 12 k v).1 12) (b := 1) (fun i hi => (w'.2.2.2.1 i hi).2.2.2.2.2.2.2.2.1)
          have hn' := w'.1
          have zb : (nI (s.1 13 k) = (1 : Int32)) = (s.1 13 k = 1) := nI_eqE (b := 1) (by omega) (by omega)
          refine op_done hq (x := nI (smN (kgN (kgSet s 12 k v)) ((kgSet s 12 k v).1 12))) (JC := kgW IC 13 k (nI v)) (JM := kgW IM 178 (35 + 9 * k + 4) (nI v)) ?_ ?_ hG' hR' w' hp (nI_ge0 (by omega)) (fun c hc => by rw [kgW_n _ _ _ (by omega)]) (fun c hc => by rw [kgW_n _ _ _ hc]) (fun j hj => by rw [kgW_r, if_neg (by omega)]) (tr_lid (by have := bo.2.2.2.2.2.2.2.2.2.1; omega))
          · show f_X4_moveLid _ _ _ = _
            unfold f_X4_moveLid
            simp (disch := omega) only [c_isKettle hG w, bndC_s, b2i_0, q1, Bool.true_eq_false, if_false, letJ_s, ck_inb, nI_clamp, hG.lid hk, ev1, ev2, if_neg z, hG.bar hk, zb, bnd_s, c_lidsOn hG' w', nI_eqE]
            by_cases z3 : v = 1
            · rw [if_pos z3, if_neg (fun h => z2 ⟨z3, h⟩)]
            · rw [if_neg z3]
          · show f_X5_putsLid _ _ _ = _
            unfold f_X5_putsLid
            simp (maxSteps := 3000000) (disch := omega) only [m_isKettle hR w, bndC_s, b2i_0, q1, Bool.true_eq_false, if_false, hin, q2, m_lid hR hn hk, letJ_s, ev1, if_neg z, m_refuse0, if_true, m_bar hR hn hk, zb, ck_t (show inb (0 : Int32) 1375 = true from rfl), show (0 : Int32).toNatClampNeg = 0 from rfl, mp, m_lidsOn hR' w', nI_eqE]
            by_cases z3 : v = 1
            · rw [if_pos z3, if_neg (fun h => z2 ⟨z3, h⟩)]
            · rw [if_neg z3]
    · refine op_code hG hR w hp hq (x := -1012) (Or.inr rfl) ?_ ?_
      · have q3 : ¬ (0 ≤ b.toInt ∧ b.toInt ≤ 1) := of_decide_eq_false (by simpa [rgI] using q2)
        have n0 : ¬ b = 0 := fun h => q3 (by rw [h]; decide)
        have n1 : ¬ b = 1 := fun h => q3 (by rw [h]; decide)
        show f_X4_moveLid _ _ _ = _
        unfold f_X4_moveLid
        simp only [c_isKettle hG w, bndC_s, b2i_0, q1, Bool.true_eq_false, if_false, letJ_s, if_neg n0, if_neg n1]
      · show f_X5_putsLid _ _ _ = _
        unfold f_X5_putsLid
        simp only [m_isKettle hR w, bndC_s, b2i_0, q1, Bool.true_eq_false, if_false, hin, q2, if_true]
  · refine op_code hG hR w hp hq (x := -1011) (Or.inl rfl) ?_ ?_
    · show f_X4_moveLid _ _ _ = _
      unfold f_X4_moveLid
      simp only [c_isKettle hG w, bndC_s, b2i_0, q1, if_true]
    · show f_X5_putsLid _ _ _ = _
      unfold f_X5_putsLid
      simp only [m_isKettle hR w, bndC_s, b2i_0, q1, if_true]
end OPS
