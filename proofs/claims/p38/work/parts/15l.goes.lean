section MGO
variable {I : kgM} {s : kgS}
theorem m_cool (hR : RepR (kgRow I 0) s) (w : kgWF s) {k : Nat} (hk : k < kgN s) (q : Nat) (a1 : Int32) (K : kgM → Option (Int32 × kgM)) : ∃ J, f_X5_goesBy_L46 a1 K (q + 1) (nI k) I = f_X5_goesBy_L46 a1 K q (nI (k + 1)) J ∧ RepR (kgRow J 0) (st2 s k) ∧ fr8 I J := by
  have hn := w.1
  have b := w.2.2.2.1 k hk
  have ht := tw_le w hk
  have hh := hU_le w hk
  have p3 := m_puts (I := I) (k := k) (a := 3) (v := nI (5 * tw s k)) (by omega) (by omega)
  rw [show nI 3 = (3 : Int32) from rfl] at p3
  have R1 : RepR (kgRow (kgW I 178 (35 + 9 * k + 3) (nI (5 * tw s k))) 0) (kgSet s 9 k (tw s k)) := rep_rowS hR hn (j := 9) (a := 3) (v := tw s k) hk (by omega) rfl rfl
  have n1 : kgN (kgSet s 9 k (tw s k)) = kgN s := kgSet_ne (Or.inl (by decide))
  generalize hI1 : kgW I 178 (35 + 9 * k + 3) (nI (5 * tw s k)) = I1 at R1
  have F1 : fr8 I I1 := by rw [← hI1]; exact fr8.w (by omega)
  have eb : (kgSet s 9 k (tw s k)).1 11 k = s.1 11 k := kgSet_ne (Or.inl (by decide))
  have k6 := m_ban R1 (by rw [n1]; exact hn) (k := k) (by rw [n1]; exact hk)
  rw [eb] at k6
  have p6 := m_puts (I := I1) (k := k) (a := 6) (v := nI (s.1 11 k - 1)) (by omega) (by omega)
  rw [show nI 6 = (6 : Int32) from rfl] at p6
  have R2 : RepR (kgRow (kgW I1 178 (35 + 9 * k + 6) (nI (s.1 11 k - 1))) 0) (st2 s k) := rep_rowS R1 (by rw [n1]; exact hn) (j := 11) (a := 6) (v := s.1 11 k - 1) (by rw [n1]; exact hk) (by omega) rfl rfl
  refine ⟨_, ?_, R2, F1.trans (fr8.w (by omega))⟩
  have tail : ∀ A : Option (Int32 × kgM), A = (bndC (f_X5_puts (nI k) (3 : Int32) (nI (5 * tw s k)) I) (fun x13 I6 => bndC (f_X5_kt (nI k) (6 : Int32) I6) (fun x14 I7 => (if x14 ≤ 0 then bndC (f_X5_puts (nI k) (6 : Int32) (0 : Int32) I7) (fun x15 I8 => bnd (nI k + (1 : Int32)) (fun x16 => f_X5_goesBy_L46 a1 K q x16 I8)) else bndC (f_X5_kt (nI k) (6 : Int32) I7) (fun x17 I9 => bndC (f_X5_puts (nI k) (6 : Int32) (x17 - (1 : Int32)) I9) (fun x18 I10 => bnd (nI k + (1 : Int32)) (fun x19 => f_X5_goesBy_L46 a1 K q x19 I10))))))) → A = f_X5_goesBy_L46 a1 K q (nI (k + 1)) (kgW I1 178 (35 + 9 * k + 6) (nI (s.1 11 k - 1))) := by
    intro A hA
    rw [hA, p3, bndC_s, hI1, k6, bndC_s]
    by_cases z : s.1 11 k = 0
    · rw [z] at p6 ⊢
      rw [if_pos (show nI 0 ≤ (0 : Int32) by decide), show f_X5_puts (nI k) 6 0 I1 = _ from p6, bndC_s, bnd_s, nI_1]
    · rw [if_neg (nI_nle (show 0 < s.1 11 k by omega) (by omega)), k6, bndC_s, show nI (s.1 11 k) - 1 = nI (s.1 11 k - 1) from nI_sub (b := 1) (by omega), p6, bndC_s, bnd_s, nI_1]
  have clamp : ∀ (x : Nat) (j : Int32 → Option (Int32 × kgM)), x ≤ 25 → (if nI (5 * x) ≤ (100 : Int32) then (if (20 : Int32) ≤ nI (5 * x) then j (nI (5 * x)) else j (20 : Int32)) else j (100 : Int32)) = j (nI (5 * (if x ≤ 4 then 4 else if 20 ≤ x then 20 else x))) := by
    intro x j hx
    have e1 : (nI (5 * x) ≤ (100 : Int32)) = (5 * x ≤ 100) := nI_leE (b := 100) (by omega) (by omega)
    have e2 : ((20 : Int32) ≤ nI (5 * x)) = (20 ≤ 5 * x) := nI_leE (a := 20) (by omega) (by omega)
    simp only [e1, e2]
    by_cases c1 : x ≤ 4
    · rw [if_pos c1, if_pos (by omega)]
      by_cases c2 : x = 4
      · subst c2; rfl
      · rw [if_neg (by omega)]; rfl
    · rw [if_neg c1]
      by_cases c2 : 20 ≤ x
      · rw [if_pos c2]
        by_cases c3 : x = 20
        · subst c3; rfl
        · rw [if_neg (by omega)]; rfl
      · rw [if_neg c2, if_pos (by omega), if_pos (by omega)]
  rw [f_X5_goesBy_L46, ck_one, cl_one, hR.n, if_neg (nI_ge hk (by omega)), m_wrm hR hn hk, bndC_s, m_isOn hR w hk, bndC_s, letJ_s]
  dsimp only
  refine tail _ ?_
  by_cases z : s.1 10 k = 0
  · rw [show decide (s.1 10 k ≠ 0) = false from decide_eq_false (fun h => h z), b2i_f, if_pos (show (0 : Int32) = 0 from rfl), bnd_s, letJ_s]
    dsimp only
    have e5 : nI (5 * s.1 9 k) + (-5 : Int32) = nI (5 * (s.1 9 k - 1)) := by
      rw [show (-5 : Int32) = -(nI 5) from rfl, ← Int32.sub_eq_add_neg, nI_sub (by omega)]; congr 1; omega
    have et : tw s k = if s.1 9 k - 1 ≤ 4 then 4 else if 20 ≤ s.1 9 k - 1 then 20 else s.1 9 k - 1 := by
      unfold tw
      rw [if_pos z]
      by_cases c : s.1 9 k ≤ 5
      · rw [if_pos c, if_pos (by omega)]
      · rw [if_neg c, if_neg (by omega), if_neg (by omega)]
    rw [e5, clamp (s.1 9 k - 1) (fun y => bndC (f_X5_puts (nI k) (3 : Int32) y I) _) (by omega), ← et]
  · rw [show decide (s.1 10 k ≠ 0) = true from decide_eq_true z, b2i_t, if_neg (show ¬ (1 : Int32) = 0 by decide), m_heat hR w hk, bndC_s, bnd_s, letJ_s]
    dsimp only
    have e5 : nI (5 * s.1 9 k) + (5 : Int32) * nI (hU s k) = nI (5 * (s.1 9 k + hU s k)) := by
      rw [show (5 : Int32) = nI 5 from rfl, nI_mul, nI_add]; congr 1; omega
    have et : tw s k = if s.1 9 k + hU s k ≤ 4 then 4 else if 20 ≤ s.1 9 k + hU s k then 20 else s.1 9 k + hU s k := by
      unfold tw
      rw [if_neg z]
      by_cases c : s.1 9 k + hU s k ≤ 4
      · rw [if_pos c, if_neg (by omega)]; omega
      · rw [if_neg c]
    rw [e5, clamp (s.1 9 k + hU s k) (fun y => bndC (f_X5_puts (nI k) (3 : Int32) y I) _) (by omega), ← et]
/-- the reference's minute, but for the harmony -/
theorem m_goes (hR : RepR (kgRow I 0) s) (w : kgWF s) : ∃ J, f_X5_goesBy I = (if ((minS s).2 12 - (minS s).2 12 / (6 : Int32) * (6 : Int32)) = 0 then bndC (f_X5_sounds J) (fun x21 I14 => some (nI (cnt (kgN s) (dr s)), I14)) else some (nI (cnt (kgN s) (dr s)), J)) ∧ RepR (kgRow J 0) (minS s) ∧ fr8 I J := by
  have hn := w.1
  have w1 := wf_fo1 w (Nat.le_refl (kgN s))
  have n1 : kgN (fo1 s (kgN s)) = kgN s := fo1_n
  have g0 : inb (0 : Int32) 1375 = true := rfl
  have c0 : (0 : Int32).toNatClampNeg = 0 := rfl
  unfold f_X5_goesBy
  -- the second loop, from any memory that stands for what the first leaves
  have second : ∀ (x9 : Int32) (I3 : kgM), RepR (kgRow I3 0) (fo1 s (kgN s)) → ∃ J, f_X5_goesBy_L46 x9 (fun I12 => ck (inb (0 : Int32) 1375) (ck (inb (0 : Int32) 1375) (bnd (kgW I12 178 (0 : Int32).toNatClampNeg ((I12 178 (0 : Int32).toNatClampNeg) + (1 : Int32))) (fun I13 => ck (inb (0 : Int32) 1375) ((if ((I13 178 (0 : Int32).toNatClampNeg) - (I13 178 (0 : Int32).toNatClampNeg) / (6 : Int32) * (6 : Int32)) = 0 then bndC (f_X5_sounds I13) (fun x21 I14 => some (x9, I14)) else some (x9, I13))))))) 200 (0 : Int32) I3 = (if ((minS s).2 12 - (minS s).2 12 / (6 : Int32) * (6 : Int32)) = 0 then bndC (f_X5_sounds J) (fun x21 I14 => some (x9, I14)) else some (x9, J)) ∧ RepR (kgRow J 0) (minS s) ∧ fr8 I3 J := by
    intro x9 I3 R3
    have gen : ∀ q k (x : kgM), k ≤ kgN s → kgN s < q + k → RepR (kgRow x 0) (fo2 (fo1 s (kgN s)) k) → fr8 I3 x → ∃ J, f_X5_goesBy_L46 x9 (fun I12 => ck (inb (0 : Int32) 1375) (ck (inb (0 : Int32) 1375) (bnd (kgW I12 178 (0 : Int32).toNatClampNeg ((I12 178 (0 : Int32).toNatClampNeg) + (1 : Int32))) (fun I13 => ck (inb (0 : Int32) 1375) ((if ((I13 178 (0 : Int32).toNatClampNeg) - (I13 178 (0 : Int32).toNatClampNeg) / (6 : Int32) * (6 : Int32)) = 0 then bndC (f_X5_sounds I13) (fun x21 I14 => some (x9, I14)) else some (x9, I13))))))) q (nI k) x = (if ((minS s).2 12 - (minS s).2 12 / (6 : Int32) * (6 : Int32)) = 0 then bndC (f_X5_sounds J) (fun x21 I14 => some (x9, I14)) else some (x9, J)) ∧ RepR (kgRow J 0) (minS s) ∧ fr8 I3 J := by
      intro q
      induction q with
      | zero => intro k x h1 h2; omega
      | succ q ih =>
        intro k x h1 h2 Rx Fx
        have nk : kgN (fo2 (fo1 s (kgN s)) k) = kgN s := by rw [fo2_n]; exact n1
        by_cases e : k = kgN s
        · subst e
          have em : fo2 (fo1 s (kgN s)) (kgN s) = foB s (kgN s) := fo_eq
          rw [em] at Rx
          have e12 : x 178 0 = (foB s (kgN s)).2 12 := (RepR.low (I := x) 0).symm.trans Rx.2.2.2.1
          have R9 : RepR (kgRow (kgW x 178 0 ((foB s (kgN s)).2 12 + 1)) 0) (minS s) := Rx.seb (by rw [foB_n]; exact hn) (i := 12) (x := 0) (by unfold kgBt; omega) (fun y => row_w x 0 _ y)
          refine ⟨_, ?_, R9, Fx.trans (fr8.w (by omega))⟩
          have nb : kgN (foB s (kgN s)) = kgN s := foB_n
          rw [f_X5_goesBy_L46, ck_one, cl_one, Rx.n, nb, if_pos (Int32.le_refl _), ck_t g0, ck_t g0, bnd_s, ck_t g0, c0, e12, show kgW x 178 0 ((foB s (kgN s)).2 12 + 1) 178 0 = (minS s).2 12 from by rw [kgW_r, if_pos ⟨rfl, rfl⟩]; rfl]
        · obtain ⟨J, h3, h4, h5⟩ := m_cool Rx (wf_fo2 w1 (by rw [n1]; omega)) (k := k) (by rw [nk]; omega) q x9 _
          rw [h3]
          exact ih (k + 1) J (by omega) (by omega) h4 (Fx.trans h5)
    exact gen 200 0 I3 (by omega) (by omega) R3 fr8.rf
  have gen1 : ∀ (Q : Option (Int32 × kgM) → Prop) (KK : Int32 → kgM → Option (Int32 × kgM)), (∀ I3, RepR (kgRow I3 0) (fo1 s (kgN s)) → fr8 I I3 → Q (KK (nI (cnt (kgN s) (dr s))) I3)) → ∀ q k (x : kgM), k ≤ kgN s → kgN s < q + k → RepR (kgRow x 0) (fo1 s k) → fr8 I x → Q (f_X5_goesBy_L4 KK q (nI (cnt k (dr s))) (nI k) x) := by
    intro Q KK hQ q
    induction q with
    | zero => intro k x h1 h2; omega
    | succ q ih =>
      intro k x h1 h2 Rx Fx
      have nk : kgN (fo1 s k) = kgN s := fo1_n
      by_cases e : k = kgN s
      · subst e
        rw [f_X5_goesBy_L4, ck_one, cl_one, Rx.n, nk, if_pos (Int32.le_refl _)]
        exact hQ x Rx Fx
      · have hk : k < kgN (fo1 s k) := by rw [nk]; omega
        have wk := wf_fo1 w h1
        rw [f_X5_goesBy_L4, ck_one, cl_one, Rx.n, nk, if_neg (nI_ge (show k < kgN s by omega) (by omega)), m_boils Rx wk hk, bndC_s]
        have hdr : dr s k = (bo (fo1 s k) k && decide ((fo1 s k).1 8 k ≤ 1)) := (dr_fo1 (s := s) (i := k)).symm
        cases hb : bo (fo1 s k) k with
        | false =>
          rw [hb, Bool.false_and] at hdr
          rw [b2i_f, if_pos (show (0 : Int32) = 0 from rfl), bnd_s, bnd_s, nI_1, Int32.add_zero, show cnt k (dr s) = cnt (k + 1) (dr s) from by show _ = cnt k (dr s) + _; rw [hdr]; rfl]
          refine ih (k + 1) x (by omega) (by omega) ?_ Fx
          show RepR _ (st1 (fo1 s k) k)
          rw [show st1 (fo1 s k) k = fo1 s k from by unfold st1; rw [if_neg (by rw [hb]; decide)]]
          exact Rx
        | true =>
          rw [hb, Bool.true_and] at hdr
          obtain ⟨J, h3, h4, h5⟩ := m_boilsOn Rx wk hk
          have h4 : RepR (kgRow J 0) (fo1 s (k + 1)) := by
            show RepR _ (st1 (fo1 s k) k)
            unfold st1
            rw [if_pos hb]; exact h4
          rw [b2i_t, if_neg (show ¬ (1 : Int32) = 0 by decide), h3, bndC_s, ← hdr]
          cases hd : dr s k with
          | false =>
            rw [b2i_f, if_pos (show (0 : Int32) = 0 from rfl), bnd_s, bnd_s, nI_1, Int32.add_zero, show cnt k (dr s) = cnt (k + 1) (dr s) from by show _ = cnt k (dr s) + _; rw [hd]; rfl]
            exact ih (k + 1) J (by omega) (by omega) h4 (Fx.trans h5)
          | true =>
            rw [b2i_t, if_neg (show ¬ (1 : Int32) = 0 by decide), bnd_s, bnd_s, nI_1, nI_1, show cnt k (dr s) + 1 = cnt (k + 1) (dr s) from by show _ = cnt k (dr s) + _; rw [hd]; rfl]
            exact ih (k + 1) J (by omega) (by omega) h4 (Fx.trans h5)
  refine gen1 (fun r => ∃ J, r = (if ((minS s).2 12 - (minS s).2 12 / (6 : Int32) * (6 : Int32)) = 0 then bndC (f_X5_sounds J) (fun x21 I14 => some (nI (cnt (kgN s) (dr s)), I14)) else some (nI (cnt (kgN s) (dr s)), J)) ∧ RepR (kgRow J 0) (minS s) ∧ fr8 I J) _ (fun I3 R3 F3 => ?_) 200 0 I (by omega) (by omega) hR fr8.rf
  obtain ⟨J, h1, h2, h3⟩ := second (nI (cnt (kgN s) (dr s))) I3 R3
  exact ⟨J, h1, h2, F3.trans h3⟩
end MGO
