theorem sd_comm {a b : Nat} : sd a b = sd b a := by
  unfold sd
  by_cases h : a ≤ b
  · by_cases h2 : b ≤ a
    · rw [if_pos h, if_pos h2, show b - a = a - b by omega]
    · rw [if_pos h, if_neg h2]
  · rw [if_neg h, if_pos (by omega)]
section HARM
variable {I : kgM} {s : kgS}
theorem m_pair (w : kgWF s) {k : Nat} (hk : k < kgN s) (KK : kgM → Option (Int32 × kgM)) (Q : Option (Int32 × kgM) → Prop) (hQ : ∀ x, RepR (kgRow x 0) (ptS s (accM s k k)) → fr8 I x → Q (KK x)) :
    ∀ q j (x : kgM), j ≤ k → k < q + j → RepR (kgRow x 0) (ptS s (accM s k j)) → fr8 I x → Q (f_X5_sounds_L14 (nI k) KK q (nI j) x) := by
  have hn := w.1
  have wp : ∀ P, kgWF (ptS s P) := fun P => wf_ptS w
  intro q
  induction q with
  | zero => intro j x h1 h2; omega
  | succ q ih =>
    intro j x h1 h2 R F
    by_cases e : j = k
    · subst e
      rw [f_X5_sounds_L14, if_pos (Int32.le_refl _)]
      exact hQ x R F
    · have hj : j < k := by omega
      have hjn : j < kgN s := by omega
      have bk := w.2.2.2.1 k hk
      have bj := w.2.2.2.1 j hjn
      have mk : f_X5_whistles (nI k) x = some (b2i (wh s k), x) := m_whistles R (wp _) hk
      have mj : f_X5_whistles (nI j) x = some (b2i (wh s j), x) := m_whistles R (wp _) hjn
      have pk : f_X5_kt (nI k) 1 x = some (nI (s.1 7 k), x) := m_pit R hn hk
      have pj : f_X5_kt (nI j) 1 x = some (nI (s.1 7 j), x) := m_pit R hn hjn
      have e5 : ∀ m, m < 4 → ((5 : Int32) + ((3 : Int32) * nI m)) + 0 = nI (5 + 3 * m) := fun m _ => by
        rw [show (3 : Int32) = nI 3 from rfl, nI_mul, show (5 : Int32) = nI 5 from rfl, nI_add, Int32.add_zero]
      -- what follows once the sound is known
      have step : ∀ A : Option (Int32 × kgM), A = (bndC (f_X5_kt (nI k) (0 : Int32) x) (fun x2 I2 => ck (inb (((5 : Int32) + ((3 : Int32) * x2)) + (0 : Int32)) 1375) (ck (inb (((5 : Int32) + ((3 : Int32) * x2)) + (0 : Int32)) 1375) (bnd (kgW I2 178 (((5 : Int32) + ((3 : Int32) * x2)) + (0 : Int32)).toNatClampNeg ((I2 178 (((5 : Int32) + ((3 : Int32) * x2)) + (0 : Int32)).toNatClampNeg) + vv s j k)) (fun I3 => bndC (f_X5_kt (nI j) (0 : Int32) I3) (fun x3 I4 => ck (inb (((5 : Int32) + ((3 : Int32) * x3)) + (0 : Int32)) 1375) (ck (inb (((5 : Int32) + ((3 : Int32) * x3)) + (0 : Int32)) 1375) (bnd (kgW I4 178 (((5 : Int32) + ((3 : Int32) * x3)) + (0 : Int32)).toNatClampNeg ((I4 178 (((5 : Int32) + ((3 : Int32) * x3)) + (0 : Int32)).toNatClampNeg) + vv s j k)) (fun I5 => bnd (nI j + (1 : Int32)) (fun x4 => f_X5_sounds_L14 (nI k) KK q x4 I5)))))))))) → Q A := by
        intro A hA
        rw [hA]
        have o1 : f_X5_kt (nI k) 0 x = some (nI (s.1 6 k), x) := m_of R hn hk
        have e1 : x 178 (5 + 3 * s.1 6 k) = accM s k j (s.1 6 k) := ((RepR.low (I := x) _).symm.trans (R.2.2.1 _ bk.1).1).trans (if_pos bk.1)
        have R1 : RepR (kgRow (kgW x 178 (5 + 3 * s.1 6 k) (accM s k j (s.1 6 k) + vv s j k)) 0) (kgSeb (ptS s (accM s k j)) (s.1 6 k) (accM s k j (s.1 6 k) + vv s j k)) := R.seb hn (i := s.1 6 k) (x := 5 + 3 * s.1 6 k) (Or.inl ⟨bk.1, rfl⟩) (fun y => row_w x _ _ y)
        generalize hx1 : kgW x 178 (5 + 3 * s.1 6 k) (accM s k j (s.1 6 k) + vv s j k) = x1 at R1
        have F1 : fr8 I x1 := by rw [← hx1]; exact F.trans (fr8.w (by omega))
        have o2 : f_X5_kt (nI j) 0 x1 = some (nI (s.1 6 j), x1) := m_of R1 hn hjn
        have e2 : x1 178 (5 + 3 * s.1 6 j) = (if s.1 6 j = s.1 6 k then accM s k j (s.1 6 k) + vv s j k else accM s k j (s.1 6 j)) := by
          rw [← hx1, kgW_r]
          by_cases z : s.1 6 j = s.1 6 k
          · rw [if_pos z, if_pos ⟨rfl, by rw [z]⟩]
          · rw [if_neg z, if_neg (by omega)]; exact ((RepR.low (I := x) _).symm.trans (R.2.2.1 _ bj.1).1).trans (if_pos bj.1)
        have R2 : RepR (kgRow (kgW x1 178 (5 + 3 * s.1 6 j) ((if s.1 6 j = s.1 6 k then accM s k j (s.1 6 k) + vv s j k else accM s k j (s.1 6 j)) + vv s j k)) 0) (kgSeb (kgSeb (ptS s (accM s k j)) (s.1 6 k) (accM s k j (s.1 6 k) + vv s j k)) (s.1 6 j) ((if s.1 6 j = s.1 6 k then accM s k j (s.1 6 k) + vv s j k else accM s k j (s.1 6 j)) + vv s j k)) := R1.seb hn (i := s.1 6 j) (x := 5 + 3 * s.1 6 j) (Or.inl ⟨bj.1, rfl⟩) (fun y => row_w x1 _ _ y)
        rw [ptS_two bk.1 bj.1, show ptS s (fun m => accM s k j m + ((if s.1 6 k = m then vv s j k else 0) + (if s.1 6 j = m then vv s j k else 0))) = ptS s (accM s k (j + 1)) from ptS_congr (fun m _ => by rw [accM_s hj]; ac_rfl)] at R2
        rw [o1, bndC_s, e5 _ bk.1, ck_inb (by omega) (by omega), ck_inb (by omega) (by omega), nI_clamp (by omega), e1, hx1, bnd_s, o2, bndC_s, e5 _ bj.1, ck_inb (by omega) (by omega), ck_inb (by omega) (by omega), nI_clamp (by omega), e2, bnd_s, bnd_s, nI_1]
        exact ih (j + 1) _ (by omega) (by omega) R2 (F1.trans (fr8.w (by omega)))
      rw [f_X5_sounds_L14, if_neg (nI_ge hj (by omega)), mk, bndC_s, letJ_s]
      dsimp only
      refine step _ ?_
      cases hw : wh s k with
      | false =>
        have ev : vv s j k = 0 := vv_0 (by rw [hw]; simp)
        rw [b2i_f, if_pos (show (0 : Int32) = 0 from rfl), ev]
      | true =>
        rw [b2i_t, if_neg (show ¬ (1 : Int32) = 0 by decide), mj, bndC_s]
        cases hw2 : wh s j with
        | false =>
          have ev : vv s j k = 0 := vv_0 (by rw [hw2]; simp)
          rw [b2i_f, if_pos (show (0 : Int32) = 0 from rfl), ev]
        | true =>
          have ev : vv s j k = sd (s.1 7 k) (s.1 7 j) := by unfold vv; rw [hw, hw2]; exact sd_comm
          rw [b2i_t, if_neg (show ¬ (1 : Int32) = 0 by decide), pk, bndC_s, pj, bndC_s, m_sound (by omega) (by omega) (by omega), bndC_s, ev]
theorem m_bars (w : kgWF s) : ∀ q i (x : kgM), i ≤ kgN s → kgN s < q + i → RepR (kgRow x 0) (zbS s i) → fr8 I x → ∃ J, f_X5_sounds_L111 (fun I13 => some ((0 : Int32), I13)) q (nI i) x = some (0, J) ∧ RepR (kgRow J 0) (zbS s (kgN s)) ∧ fr8 I J := by
  have hn := w.1
  intro q
  induction q with
  | zero => intro i x h1 h2; omega
  | succ q ih =>
    intro i x h1 h2 R F
    have nz : kgN (zbS s i) = kgN s := zbS_n
    have gn : x 178 1 = nI (kgN s) := by rw [R.n, nz]
    by_cases e : i = kgN s
    · subst e
      rw [f_X5_sounds_L111, ck_one, cl_one, gn, if_pos (Int32.le_refl _)]
      exact ⟨x, rfl, R, F⟩
    · have p7 := m_puts (I := x) (k := i) (a := 7) (v := 0) (by omega) (by omega)
      rw [show nI 7 = (7 : Int32) from rfl] at p7
      have R1 : RepR (kgRow (kgW x 178 (35 + 9 * i + 7) 0) 0) (kgSet (zbS s i) 13 i 0) := rep_rowS R (by rw [nz]; exact hn) (j := 13) (a := 7) (v := 0) (by rw [nz]; omega) (by omega) rfl rfl
      rw [zbS_s] at R1
      rw [f_X5_sounds_L111, ck_one, cl_one, gn, if_neg (nI_ge (show i < kgN s by omega) (by omega)), p7, bndC_s, bnd_s, nI_1]
      exact ih (i + 1) _ (by omega) (by omega) R1 (F.trans (fr8.w (by omega)))
theorem m_sounds (hR : RepR (kgRow I 0) s) (w : kgWF s) : ∃ J, f_X5_sounds I = some (0, J) ∧ RepR (kgRow J 0) (hrS s) ∧ fr8 I J := by
  have hn := w.1
  unfold f_X5_sounds
  have out : ∀ q k (x : kgM), k ≤ kgN s → kgN s < q + k → RepR (kgRow x 0) (ptS s (fun m => s.2 m + smI k (fun b => smI (kgN s) (fun a => pF s m a b)))) → fr8 I x → ∃ J, f_X5_sounds_L2 (fun I11 => f_X5_sounds_L111 (fun I13 => some ((0 : Int32), I13)) 200 (0 : Int32) I11) q (nI k) x = some (0, J) ∧ RepR (kgRow J 0) (hrS s) ∧ fr8 I J := by
    intro q
    induction q with
    | zero => intro k x h1 h2; omega
    | succ q ih =>
      intro k x h1 h2 R F
      have gn : x 178 1 = nI (kgN s) := R.n
      by_cases e : k = kgN s
      · subst e
        rw [f_X5_sounds_L2, ck_one, cl_one, gn, if_pos (Int32.le_refl _)]
        have R0 : RepR (kgRow x 0) (zbS (ptS s (fun m => s.2 m + smI (kgN s) (fun a => smI (kgN s) (fun b => pF s m a b)))) 0) := by
          rw [zbS_0, show ptS s (fun m => s.2 m + smI (kgN s) (fun a => smI (kgN s) (fun b => pF s m a b))) = ptS s (fun m => s.2 m + smI (kgN s) (fun b => smI (kgN s) (fun a => pF s m a b))) from ptS_congr (fun m _ => acc_eq)]
          exact R
        exact m_bars (I := I) (wf_ptS w) 200 0 x (Nat.zero_le _) (by show kgN s < 200 + 0; omega) R0 F
      · rw [f_X5_sounds_L2, ck_one, cl_one, gn, if_neg (nI_ge (show k < kgN s by omega) (by omega))]
        refine m_pair (I := I) w (k := k) (by omega) _ (fun r => ∃ J, r = some (0, J) ∧ RepR (kgRow J 0) (hrS s) ∧ fr8 I J) (fun y Ry Fy => ?_) 200 0 x (by omega) (by omega) ?_ F
        · rw [bnd_s, nI_1]
          rw [show ptS s (accM s k k) = ptS s (fun m => s.2 m + smI (k + 1) (fun b => smI (kgN s) (fun a => pF s m a b))) from ptS_congr (fun m _ => accM_n (by omega))] at Ry
          exact ih (k + 1) y (by omega) (by omega) Ry Fy
        · rw [show ptS s (accM s k 0) = ptS s (fun m => s.2 m + smI k (fun b => smI (kgN s) (fun a => pF s m a b))) from ptS_congr (fun m _ => accM_0)]
          exact R
  refine out 200 0 I (by omega) (by omega) ?_ fr8.rf
  rw [ptS_id (fun m _ => by show s.2 m + 0 = s.2 m; rw [Int32.add_zero])]
  exact hR
end HARM
