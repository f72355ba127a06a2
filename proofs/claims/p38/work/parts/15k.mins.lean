def fr8 (I J : kgM) : Prop := (∀ c, c ≠ 178 → J c = I c) ∧ ∀ j, 125 ≤ j → J 178 j = I 178 j
theorem fr8.rf {I : kgM} : fr8 I I := ⟨fun _ _ => rfl, fun _ _ => rfl⟩
theorem fr8.trans {I J K : kgM} (h1 : fr8 I J) (h2 : fr8 J K) : fr8 I K := ⟨fun c h => (h2.1 c h).trans (h1.1 c h), fun j h => (h2.2 j h).trans (h1.2 j h)⟩
theorem fr8.w {I : kgM} {a : Nat} {v : Int32} (h : a < 125) : fr8 I (kgW I 178 a v) := ⟨fun c hc => kgW_n _ _ _ hc, fun j hj => by rw [kgW_r, if_neg (by omega)]⟩
def frA (I J : kgM) : Prop := ∀ c, (c = 0 ∨ 16 ≤ c) → J c = I c
theorem frA.rf {I : kgM} : frA I I := fun _ _ => rfl
theorem frA.trans {I J K : kgM} (h1 : frA I J) (h2 : frA J K) : frA I K := fun c h => (h2 c h).trans (h1 c h)
def minS (s : kgS) : kgS := kgSeb (foB s (kgN s)) 12 ((foB s (kgN s)).2 12 + 1)
theorem minS_n {s : kgS} : kgN (minS s) = kgN s := (foB_n (s := s) (i := kgN s))
theorem wf_minS {s : kgS} (w : kgWF s) : kgWF (minS s) := wf_seb (wf_foB w (Nat.le_refl _)) (by decide)
section MINS
variable {I : kgM} {s : kgS}
theorem c_passMinute (hG : RepG I 1 s) (w : kgWF s) : ∃ J, f_X3_passMinute I = some (nI (cnt (kgN s) (dr s)), J) ∧ RepG J 1 (minS s) ∧ frA I J := by
  have hn := w.1
  unfold f_X3_passMinute
  have := lpE (T := fun q k (x : kgM) => f_X3_passMinute_L4 (fun x5 I2 => bnd (kgW I2 1 15 ((I2 1 15) + (1 : Int32))) (fun I3 => some (x5, I3))) q (nI (cnt k (dr s))) (nI k) x) (P := fun k x => RepG x 1 (foB s k) ∧ frA I x) (Q := fun r => r.1 = nI (cnt (kgN s) (dr s)) ∧ RepG r.2 1 (minS s) ∧ frA I r.2) (n := kgN s) (fun q k x hk hx => ?_) (fun q x hx => ?_) 200 0 I (by omega) (by omega) ⟨hG, frA.rf⟩
  · obtain ⟨r, h1, h2, h3, h4⟩ := this
    refine ⟨r.2, ?_, h3, h4⟩
    rw [← h2]; exact h1
  · have nb : kgN (foB s k) = kgN s := foB_n
    obtain ⟨J, h1, h2, h3⟩ := c_over hx.1 (wf_foB w (by omega)) (k := k) (by rw [nb]; exact hk)
    refine ⟨J, ⟨h2, hx.2.trans h3⟩, ?_⟩
    have cl := cnt_le k (dr s)
    show f_X3_passMinute_L4 _ (q + 1) _ _ x = _
    rw [f_X3_passMinute_L4, hx.1.2.1, nb, if_neg (nI_ge hk (by omega)), h1, bndC_s, dr_foB]
    cases hd : dr s k with
    | false => rw [b2i_f, if_pos rfl, bnd_s, nI_1, show cnt (k + 1) (dr s) = cnt k (dr s) from by show cnt k (dr s) + _ = _; rw [hd]; rfl]
    | true => rw [b2i_t, if_neg (show ¬ (1 : Int32) = 0 by decide), bnd_s, bnd_s, nI_1, nI_1, show cnt (k + 1) (dr s) = cnt k (dr s) + 1 from by show cnt k (dr s) + _ = _; rw [hd]; rfl]
  · have nb : kgN (foB s (kgN s)) = kgN s := foB_n
    show ∃ r, f_X3_passMinute_L4 _ (q + 1) _ _ x = _ ∧ _
    rw [f_X3_passMinute_L4, hx.1.2.1, nb, if_pos (Int32.le_refl _), bnd_s, hx.1.2.2.2.1]
    refine ⟨_, rfl, rfl, ?_, hx.2.trans (fun c hc => kgW_n _ _ _ (by omega))⟩
    exact hx.1.seb (i := 12) (k := 1) (p := 15) _ (Or.inr (Or.inr (Or.inr (by omega))))
theorem rep_rowS (hR : RepR (kgRow I 0) s) (hn : kgN s ≤ 10) {j k a v : Nat} {y : Int32} (hk : k < kgN s) (hj : 6 ≤ j ∧ j < 15) (hl : kgLo j k = 35 + 9 * k + a) (hy : kgCm j v = y) : RepR (kgRow (kgW I 178 (35 + 9 * k + a) y) 0) (kgSet s j k v) := by
  subst hy
  exact rep_row hR hn hk hj hl
theorem m_dryOut (hR : RepR (kgRow I 0) s) (w : kgWF s) {k : Nat} (hk : k < kgN s) : ∃ J, bndC (f_X5_puts (nI k) (5 : Int32) (0 : Int32) I) (fun x3 I3 => bndC (f_X5_puts (nI k) (6 : Int32) (7 : Int32) I3) (fun x4 I4 => bndC (f_X5_kt (nI k) (0 : Int32) I4) (fun x5 I5 => ck (inb (((5 : Int32) + ((3 : Int32) * x5)) + (0 : Int32)) 1375) (ck (inb (((5 : Int32) + ((3 : Int32) * x5)) + (0 : Int32)) 1375) (bnd (kgW I5 178 (((5 : Int32) + ((3 : Int32) * x5)) + (0 : Int32)).toNatClampNeg ((I5 178 (((5 : Int32) + ((3 : Int32) * x5)) + (0 : Int32)).toNatClampNeg) - (2 : Int32))) (fun I6 => bndC (f_X5_kt (nI k) (0 : Int32) I6) (fun x6 I7 => ck (inb (((5 : Int32) + ((3 : Int32) * x6)) + (1 : Int32)) 1375) (ck (inb (((5 : Int32) + ((3 : Int32) * x6)) + (1 : Int32)) 1375) (bnd (kgW I7 178 (((5 : Int32) + ((3 : Int32) * x6)) + (1 : Int32)).toNatClampNeg ((I7 178 (((5 : Int32) + ((3 : Int32) * x6)) + (1 : Int32)).toNatClampNeg) + (1 : Int32))) (fun I8 => ck (inb (4 : Int32) 1375) (ck (inb (4 : Int32) 1375) (bnd (kgW I8 178 (4 : Int32).toNatClampNeg ((I8 178 (4 : Int32).toNatClampNeg) + (1 : Int32))) (fun I9 => some ((1 : Int32), I9)))))))))))))) = some (1, J) ∧ RepR (kgRow J 0) (dryS s k 7) ∧ fr8 I J := by
  have hn := w.1
  have b := w.2.2.2.1 k hk
  have p5 := m_puts (I := I) (k := k) (a := 5) (v := 0) (by omega) (by omega)
  rw [show nI 5 = (5 : Int32) from rfl] at p5
  have p6 := m_puts (I := kgW I 178 (35 + 9 * k + 5) 0) (k := k) (a := 6) (v := 7) (by omega) (by omega)
  rw [show nI 6 = (6 : Int32) from rfl] at p6
  have R1 : RepR (kgRow (kgW I 178 (35 + 9 * k + 5) 0) 0) (kgSet s 10 k 0) := rep_rowS hR hn (j := 10) (a := 5) (v := 0) hk (by omega) rfl rfl
  have n1 : kgN (kgSet s 10 k 0) = kgN s := kgSet_ne (Or.inl (by decide))
  have R2 : RepR (kgRow (kgW (kgW I 178 (35 + 9 * k + 5) 0) 178 (35 + 9 * k + 6) 7) 0) (kgSet (kgSet s 10 k 0) 11 k 7) := rep_rowS R1 (by rw [n1]; exact hn) (j := 11) (a := 6) (v := 7) (by rw [n1]; exact hk) (by omega) rfl rfl
  generalize hI2 : kgW (kgW I 178 (35 + 9 * k + 5) 0) 178 (35 + 9 * k + 6) 7 = I2 at R2
  have F2 : fr8 I I2 := by rw [← hI2]; exact fr8.trans (fr8.w (by omega)) (fr8.w (by omega))
  have n2 : kgN (kgSet (kgSet s 10 k 0) 11 k 7) = kgN s := by rw [← n1]; exact kgSet_ne (Or.inl (by decide))
  generalize hm : s.1 6 k = m at b
  have m6 : (kgSet (kgSet s 10 k 0) 11 k 7).1 6 k = m := by rw [kgSet_ne (Or.inl (by decide)), kgSet_ne (Or.inl (by decide))]; exact hm
  have k0 := m_of R2 (by rw [n2]; exact hn) (k := k) (by rw [n2]; exact hk)
  rw [m6] at k0
  have ep : I2 178 (5 + 3 * m) = s.2 m := (RepR.low (I := I2) _).symm.trans (R2.2.2.1 m b.1).1
  have e50 : ((5 : Int32) + ((3 : Int32) * nI m)) + 0 = nI (5 + 3 * m) := by
    rw [show (3 : Int32) = nI 3 from rfl, nI_mul, show (5 : Int32) = nI 5 from rfl, nI_add, Int32.add_zero]
  have e51 : ((5 : Int32) + ((3 : Int32) * nI m)) + 1 = nI (6 + 3 * m) := by
    rw [show (3 : Int32) = nI 3 from rfl, nI_mul, show (5 : Int32) = nI 5 from rfl, nI_add, nI_1, show 5 + 3 * m + 1 = 6 + 3 * m by omega]
  have R3 : RepR (kgRow (kgW I2 178 (5 + 3 * m) (s.2 m - 2)) 0) (kgSeb (kgSet (kgSet s 10 k 0) 11 k 7) m (s.2 m - 2)) := R2.seb (by rw [n2]; exact hn) (i := m) (x := 5 + 3 * m) (Or.inl ⟨b.1, rfl⟩) (fun x => row_w I2 _ _ x)
  generalize hI3 : kgW I2 178 (5 + 3 * m) (s.2 m - 2) = I3 at R3
  have F3 : fr8 I I3 := by rw [← hI3]; exact F2.trans (fr8.w (by omega))
  have k1 := m_of R3 (by exact Nat.le_trans (Nat.le_of_eq n2) hn) (k := k) (by exact Nat.lt_of_lt_of_eq hk n2.symm)
  rw [show (kgSeb (kgSet (kgSet s 10 k 0) 11 k 7) m (s.2 m - 2)).1 6 k = m from m6] at k1
  have ed : I3 178 (6 + 3 * m) = s.2 (4 + m) := by
    have := (RepR.low (I := I3) _).symm.trans (R3.2.2.1 m b.1).2.1
    rw [this]; exact if_neg (by omega)
  have R4 : RepR (kgRow (kgW (kgW I3 178 (6 + 3 * m) (s.2 (4 + m) + 1)) 178 4 (I3 178 4 + 1)) 0) (kgSeb (kgSeb (kgSet (kgSet s 10 k 0) 11 k 7) m (s.2 m - 2)) (4 + m) ((kgSeb (kgSet (kgSet s 10 k 0) 11 k 7) m (s.2 m - 2)).2 (4 + m) + 1)) := R3.dry (by exact Nat.le_trans (Nat.le_of_eq n2) hn) b.1 (fun x => by
    rw [row_w, row_w]
    by_cases x4 : x = 4
    · rw [if_pos x4, if_neg (by omega), if_pos x4, RepR.low]
    · rw [if_neg x4]
      by_cases x6 : x = 6 + 3 * m
      · rw [if_pos x6, if_pos x6, RepR.low, ed]
      · rw [if_neg x6, if_neg x6, if_neg x4])
  rw [show (kgSeb (kgSet (kgSet s 10 k 0) 11 k 7) m (s.2 m - 2)).2 (4 + m) = s.2 (4 + m) from if_neg (by omega)] at R4
  have e4 : kgW I3 178 (6 + 3 * m) (s.2 (4 + m) + 1) 178 4 = I3 178 4 := by rw [kgW_r, if_neg (by omega)]
  have g4 : inb (4 : Int32) 1375 = true := rfl
  refine ⟨_, ?_, by unfold dryS; rw [hm]; exact R4, F3.trans ((fr8.w (by omega)).trans (fr8.w (by omega)))⟩
  rw [p5, bndC_s, p6, bndC_s, hI2, k0, bndC_s, e50, ck_inb (by omega) (by omega), ck_inb (by omega) (by omega), nI_clamp (by omega), ep, hI3, bnd_s, k1, bndC_s, e51, ck_inb (by omega) (by omega), ck_inb (by omega) (by omega), nI_clamp (by omega), ed, bnd_s, ck_t g4, ck_t g4, bnd_s, show (4 : Int32).toNatClampNeg = 4 from rfl, e4]
theorem m_boilsOn (hR : RepR (kgRow I 0) s) (w : kgWF s) {k : Nat} (hk : k < kgN s) : ∃ J, f_X5_boilsOn (nI k) I = some (b2i (decide (s.1 8 k ≤ 1)), J) ∧ RepR (kgRow J 0) (if s.1 8 k ≤ 1 then dryS (watS s k) k 7 else watS s k) ∧ fr8 I J := by
  have hn := w.1
  have b := w.2.2.2.1 k hk
  have nu : kgN (watS s k) = kgN s := watS_n
  have wu := wf_watS w hk
  have bu := wu.2.2.2.1 k (by rw [nu]; exact hk)
  unfold f_X5_boilsOn
  rw [m_wat hR hn hk, bndC_s, letJ_s]
  dsimp only
  have fin : ∀ I1 : kgM, RepR (kgRow I1 0) (watS s k) → fr8 I I1 → ∃ J, bndC (f_X5_kt (nI k) (2 : Int32) I1) (fun x2 I2 => (if x2 ≤ 0 then bndC (f_X5_puts (nI k) (5 : Int32) (0 : Int32) I2) (fun x3 I3 => bndC (f_X5_puts (nI k) (6 : Int32) (7 : Int32) I3) (fun x4 I4 => bndC (f_X5_kt (nI k) (0 : Int32) I4) (fun x5 I5 => ck (inb (((5 : Int32) + ((3 : Int32) * x5)) + (0 : Int32)) 1375) (ck (inb (((5 : Int32) + ((3 : Int32) * x5)) + (0 : Int32)) 1375) (bnd (kgW I5 178 (((5 : Int32) + ((3 : Int32) * x5)) + (0 : Int32)).toNatClampNeg ((I5 178 (((5 : Int32) + ((3 : Int32) * x5)) + (0 : Int32)).toNatClampNeg) - (2 : Int32))) (fun I6 => bndC (f_X5_kt (nI k) (0 : Int32) I6) (fun x6 I7 => ck (inb (((5 : Int32) + ((3 : Int32) * x6)) + (1 : Int32)) 1375) (ck (inb (((5 : Int32) + ((3 : Int32) * x6)) + (1 : Int32)) 1375) (bnd (kgW I7 178 (((5 : Int32) + ((3 : Int32) * x6)) + (1 : Int32)).toNatClampNeg ((I7 178 (((5 : Int32) + ((3 : Int32) * x6)) + (1 : Int32)).toNatClampNeg) + (1 : Int32))) (fun I8 => ck (inb (4 : Int32) 1375) (ck (inb (4 : Int32) 1375) (bnd (kgW I8 178 (4 : Int32).toNatClampNeg ((I8 178 (4 : Int32).toNatClampNeg) + (1 : Int32))) (fun I9 => some ((1 : Int32), I9)))))))))))))) else some ((0 : Int32), I2))) = some (b2i (decide (s.1 8 k ≤ 1)), J) ∧ RepR (kgRow J 0) (if s.1 8 k ≤ 1 then dryS (watS s k) k 7 else watS s k) ∧ fr8 I J := by
    intro I1 R1 F1
    rw [m_wat R1 (by rw [nu]; exact hn) (by rw [nu]; exact hk), bndC_s]
    by_cases q : s.1 8 k ≤ 1
    · have q0 : (watS s k).1 8 k = 0 := by
        unfold watS
        by_cases z : 0 < s.1 8 k
        · rw [if_pos z]
          show (kgSet s 8 k (s.1 8 k - 1)).1 8 k = 0
          rw [kgSet_eq]; omega
        · rw [if_neg z]; omega
      obtain ⟨J, h1, h2, h3⟩ := m_dryOut R1 wu (k := k) (by rw [nu]; exact hk)
      refine ⟨J, ?_, by rw [if_pos q]; exact h2, F1.trans h3⟩
      rw [q0, if_pos (show nI 0 ≤ (0 : Int32) by decide), h1, decide_eq_true q]; rfl
    · have q0 : 0 < (watS s k).1 8 k := by
        unfold watS
        rw [if_pos (by omega)]
        show 0 < (kgSet s 8 k (s.1 8 k - 1)).1 8 k
        rw [kgSet_eq]; omega
      refine ⟨I1, ?_, by rw [if_neg q]; exact R1, F1⟩
      rw [if_neg (nI_nle q0 (by omega)), decide_eq_false q]; rfl
  by_cases z : s.1 8 k = 0
  · have hw : watS s k = s := by unfold watS; rw [if_neg (by omega)]
    rw [if_pos (by rw [z]; decide)]
    exact fin I (by rw [hw]; exact hR) fr8.rf
  · have e1 : nI (s.1 8 k) - 1 = nI (s.1 8 k - 1) := by rw [show (1 : Int32) = nI 1 from rfl, nI_sub (by omega)]
    have hw : watS s k = kgSeb (kgSet s 8 k (s.1 8 k - 1)) 14 (s.2 14 + 1) := by unfold watS; rw [if_pos (by omega)]
    have p2 := m_puts (I := I) (k := k) (a := 2) (v := nI (s.1 8 k - 1)) (by omega) (by omega)
    rw [show nI 2 = (2 : Int32) from rfl] at p2
    have R1 : RepR (kgRow (kgW I 178 (35 + 9 * k + 2) (nI (s.1 8 k - 1))) 0) (kgSet s 8 k (s.1 8 k - 1)) := rep_rowS hR hn (j := 8) (a := 2) (v := s.1 8 k - 1) hk (by omega) rfl rfl
    have n1 : kgN (kgSet s 8 k (s.1 8 k - 1)) = kgN s := kgSet_ne (Or.inl (by decide))
    have e3 : kgW I 178 (35 + 9 * k + 2) (nI (s.1 8 k - 1)) 178 3 = s.2 14 := by
      rw [kgW_r, if_neg (by omega)]; exact (RepR.low (I := I) 3).symm.trans hR.2.2.2.2.2.1
    have R2 : RepR (kgRow (kgW (kgW I 178 (35 + 9 * k + 2) (nI (s.1 8 k - 1))) 178 3 (s.2 14 + 1)) 0) (watS s k) := by
      rw [hw]; exact R1.seb (by rw [n1]; exact hn) (i := 14) (x := 3) (by unfold kgBt; omega) (fun x => row_w _ 3 _ x)
    have g3 : inb (3 : Int32) 1375 = true := rfl
    rw [if_neg (nI_nle (show 0 < s.1 8 k by omega) (by omega)), m_wat hR hn hk, bndC_s, e1, p2, bndC_s, ck_t g3, ck_t g3, bnd_s, show (3 : Int32).toNatClampNeg = 3 from rfl, e3]
    exact fin _ R2 (fr8.trans (fr8.w (by omega)) (fr8.w (by omega)))
end MINS
