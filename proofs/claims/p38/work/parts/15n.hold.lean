section HAR
variable {I : kgM} {s : kgS}
theorem wh_pt {P : Nat → Int32} : wh (ptS s P) = wh s := rfl
theorem vv_0 {i j : Nat} (h : (wh s i && wh s j) = false) : vv s i j = 0 := by unfold vv; rw [h]; rfl
theorem accC_s {i j m : Nat} (h : i < j) : accC s i (j + 1) m = accC s i j m + ((if s.1 6 i = m then vv s i j else 0) + (if s.1 6 j = m then vv s i j else 0)) := by
  unfold accC
  show _ + _ + (smI j (fun b => pF s m i b) + pF s m i j) = _
  rw [← Int32.add_assoc, show pF s m i j = _ from if_pos h]
theorem accM_s {k j m : Nat} (h : j < k) : accM s k (j + 1) m = accM s k j m + ((if s.1 6 j = m then vv s j k else 0) + (if s.1 6 k = m then vv s j k else 0)) := by
  unfold accM
  show _ + _ + (smI j (fun a => pF s m a k) + pF s m j k) = _
  rw [← Int32.add_assoc, show pF s m j k = _ from if_pos h]
theorem c_pair (w : kgWF s) {i : Nat} (hi : i < kgN s) (KK : kgM → Option (Int32 × kgM)) (Q : Option (Int32 × kgM) → Prop) (hQ : ∀ x, RepG x 1 (ptS s (accC s i (kgN s))) → frA I x → Q (KK x)) :
    ∀ q j (x : kgM), i < j → j ≤ kgN s → kgN s < q + j → RepG x 1 (ptS s (accC s i j)) → frA I x → Q (f_X3_holdHarmony_L19 (nI (wK s)) (nI i) KK q (nI j) x) := by
  have hn := w.1
  have hl := wK_lt w
  intro q
  induction q with
  | zero => intro j x h0 h1 h2; omega
  | succ q ih =>
    intro j x h0 h1 h2 G F
    have gn : x 1 14 = nI (kgN s) := G.2.1
    by_cases e : j = kgN s
    · subst e
      rw [f_X3_holdHarmony_L19, gn, if_pos (Int32.le_refl _)]
      exact hQ x G F
    · have hj : j < kgN s := by omega
      have bi := w.2.2.2.1 i hi
      have bj := w.2.2.2.1 j hj
      have t1 : (wK s).testBit i = wh s i := orf_id hi
      have t2 : (wK s).testBit j = wh s j := orf_id hj
      have skip : (wh s i && wh s j) = false → ptS s (accC s i (j + 1)) = ptS s (accC s i j) := fun h => ptS_congr (fun m _ => by
        rw [accC_s h0, vv_0 h]
        simp)
      rw [f_X3_holdHarmony_L19, gn, if_neg (nI_ge hj (by omega)), c_isIn (by omega) (by omega), bndC_s, t1]
      cases hw : wh s i with
      | false =>
        rw [b2i_f, if_pos (show (0 : Int32) = 0 from rfl), bnd_s, nI_1]
        exact ih (j + 1) x (by omega) (by omega) (by omega) (by rw [skip (by rw [hw]; rfl)]; exact G) F
      | true =>
        rw [b2i_t, if_neg (show ¬ (1 : Int32) = 0 by decide), c_isIn (by omega) (by omega), bndC_s, t2]
        cases hw2 : wh s j with
        | false =>
          rw [b2i_f, if_pos (show (0 : Int32) = 0 from rfl), bnd_s, nI_1]
          exact ih (j + 1) x (by omega) (by omega) (by omega) (by rw [skip (by rw [hw, hw2]; rfl)]; exact G) F
        | true =>
          have gp1 : x 8 i = nI (s.1 7 i) := G.pit (k := i) hi
          have gp2 : x 8 j = nI (s.1 7 j) := G.pit (k := j) hj
          have gm1 : x 7 i = nI (s.1 6 i) := G.mem (k := i) hi
          have gm2 : x 7 j = nI (s.1 6 j) := G.mem (k := j) hj
          have ev : vv s i j = sd (s.1 7 i) (s.1 7 j) := by unfold vv; rw [hw, hw2]; rfl
          have e1 : x 3 (s.1 6 i) = accC s i j (s.1 6 i) := ((G.2.2.1 _ bi.1).1).trans (if_pos bi.1)
          have G1 := G.seb (i := s.1 6 i) (k := 3) (p := s.1 6 i) (accC s i j (s.1 6 i) + vv s i j) (Or.inl ⟨bi.1, rfl, rfl⟩)
          have e2 : kgW x 3 (s.1 6 i) (accC s i j (s.1 6 i) + vv s i j) 3 (s.1 6 j) = (if s.1 6 j = s.1 6 i then accC s i j (s.1 6 i) + vv s i j else accC s i j (s.1 6 j)) := by
            rw [kgW_r]
            by_cases q : s.1 6 j = s.1 6 i
            · rw [if_pos q, if_pos ⟨rfl, q⟩]
            · rw [if_neg q, if_neg (fun z => q z.2)]; exact ((G.2.2.1 _ bj.1).1).trans (if_pos bj.1)
          have G2 := G1.seb (i := s.1 6 j) (k := 3) (p := s.1 6 j) ((if s.1 6 j = s.1 6 i then accC s i j (s.1 6 i) + vv s i j else accC s i j (s.1 6 j)) + vv s i j) (Or.inl ⟨bj.1, rfl, rfl⟩)
          rw [ptS_two bi.1 bj.1, show ptS s (fun m => accC s i j m + ((if s.1 6 i = m then vv s i j else 0) + (if s.1 6 j = m then vv s i j else 0))) = ptS s (accC s i (j + 1)) from ptS_congr (fun m _ => (accC_s h0).symm)] at G2
          have u1 : kgW x 3 (s.1 6 i) (accC s i j (s.1 6 i) + vv s i j) 7 j = nI (s.1 6 j) := by rw [kgW_n _ _ _ (by decide)]; exact gm2
          rw [b2i_t, if_neg (show ¬ (1 : Int32) = 0 by decide), ck_inb (by omega) (by omega), ck_inb (by omega) (by omega), nI_clamp (by omega), nI_clamp (by omega), gp1, gp2, c_soundOf (by omega) (by omega) (by omega), bndC_s, ck_inb (by omega) (by omega), gm1, ck_inb (by omega) (by omega), ck_inb (by omega) (by omega), nI_clamp (by omega), e1, ← ev, bnd_s, ck_inb (by omega) (by omega), u1, ck_inb (by omega) (by omega), ck_inb (by omega) (by omega), nI_clamp (by omega), e2, bnd_s, bnd_s, nI_1]
          exact ih (j + 1) _ (by omega) (by omega) (by omega) G2 (F.trans (fun c hc => by rw [kgW_n _ _ _ (by omega), kgW_n _ _ _ (by omega)]))
/-- a row of zeros -/
def flz (I : kgM) : Nat → kgM
  | 0 => I
  | i + 1 => kgW (flz I i) 14 i 0
theorem flz_at (I : kgM) (i a b : Nat) : flz I i a b = if a = 14 ∧ b < i then 0 else I a b := by
  induction i with
  | zero => rw [if_neg (by omega)]; rfl
  | succ i ih =>
    show kgW (flz I i) 14 i 0 a b = _
    rw [kgW_r, ih]
    by_cases q : a = 14 ∧ b = i
    · rw [if_pos q, if_pos (by omega)]
    · rw [if_neg q]
      by_cases q2 : a = 14 ∧ b < i
      · rw [if_pos q2, if_pos (by omega)]
      · rw [if_neg q2, if_neg (by omega)]
theorem c_fill : f_J7_fill_53178_14 0 I = some (0, flz I 10) := by
  unfold f_J7_fill_53178_14
  rw [bnd_s]
  refine lp (T := fun q k => f_J7_fill_53178_14_L5 0 (Int32.ofNat 10) (fun I2 => some ((0 : Int32), I2)) q (nI k) (flz I k)) (R := some (0, flz I 10)) (n := 10) (k0 := 0) (fun q k _ hk => ?_) (fun q => ?_) 200 0 (by omega) (by omega) (by omega)
  · show f_J7_fill_53178_14_L5 0 (Int32.ofNat 10) _ (q + 1) (nI k) (flz I k) = _
    rw [f_J7_fill_53178_14_L5, if_neg (show ¬ Int32.ofNat 10 ≤ nI k from nI_ge (b := 10) hk (by omega)), ck_inb (by omega) (by omega), nI_clamp (by omega), bnd_s, bnd_s, nI_1]
    rfl
  · show f_J7_fill_53178_14_L5 0 (Int32.ofNat 10) _ (q + 1) (nI 10) (flz I 10) = _
    rw [f_J7_fill_53178_14_L5, if_pos (show Int32.ofNat 10 ≤ nI 10 from Int32.le_refl _)]
theorem flz_G (hG : RepG I 1 s) (w : kgWF s) : RepG (flz I 10) 1 (zbS s (kgN s)) := by
  have hn := w.1
  have nz : kgN (zbS s (kgN s)) = kgN s := zbS_n
  refine ⟨fun j p hd => ?_, ?_, fun m hm => ?_, ?_, ?_, ?_⟩
  · rw [nz] at hd
    show _ = kgCo j (if j = 13 ∧ p < kgN s then 0 else s.1 j p)
    rw [flz_at]
    by_cases q : j = 13
    · subst q
      have hp : p < kgN s := by unfold kgDm at hd; omega
      rw [if_pos ⟨rfl, by omega⟩, if_pos ⟨rfl, hp⟩]; rfl
    · rw [if_neg (by omega), if_neg (fun z => q z.1)]; exact hG.1 j p hd
  · rw [flz_at, if_neg (by omega), nz]; exact hG.2.1
  · rw [flz_at, flz_at, flz_at, if_neg (by omega), if_neg (by omega), if_neg (by omega)]; exact hG.2.2.1 m hm
  · rw [flz_at, if_neg (by omega)]; exact hG.2.2.2.1
  · rw [flz_at, if_neg (by omega)]; exact hG.2.2.2.2.1
  · rw [flz_at, if_neg (by omega)]; exact hG.2.2.2.2.2
theorem c_hold (hG : RepG I 1 s) (w : kgWF s) : ∃ J, f_X3_holdHarmony I = some (0, J) ∧ RepG J 1 (hrS s) ∧ frA I J := by
  have hn := w.1
  unfold f_X3_holdHarmony
  rw [c_whistlers hG w, bndC_s]
  have out : ∀ q i (x : kgM), i ≤ kgN s → kgN s < q + i → RepG x 1 (ptS s (fun m => s.2 m + smI i (fun a => smI (kgN s) (fun b => pF s m a b)))) → frA I x → ∃ J, f_X3_holdHarmony_L7 (nI (wK s)) (fun I8 => bndC (f_J7_fill_53178_14 (0 : Int32) I8) (fun x10 I9 => some ((0 : Int32), I9))) q (nI i) x = some (0, J) ∧ RepG J 1 (hrS s) ∧ frA I J := by
    intro q
    induction q with
    | zero => intro i x h1 h2; omega
    | succ q ih =>
      intro i x h1 h2 G F
      have gn : x 1 14 = nI (kgN s) := G.2.1
      by_cases e : i = kgN s
      · subst e
        rw [f_X3_holdHarmony_L7, gn, if_pos (Int32.le_refl _), c_fill, bndC_s]
        exact ⟨_, rfl, flz_G G (wf_ptS w), F.trans (fun c hc => by funext b; rw [flz_at, if_neg (by omega)])⟩
      · rw [f_X3_holdHarmony_L7, gn, if_neg (nI_ge (show i < kgN s by omega) (by omega)), bnd_s, nI_1]
        refine c_pair (I := I) w (i := i) (by omega) _ (fun r => ∃ J, r = some (0, J) ∧ RepG J 1 (hrS s) ∧ frA I J) (fun y Gy Fy => ?_) 200 (i + 1) x (by omega) (by omega) (by omega) ?_ F
        · rw [bnd_s]
          rw [show ptS s (accC s i (kgN s)) = ptS s (fun m => s.2 m + smI (i + 1) (fun a => smI (kgN s) (fun b => pF s m a b))) from ptS_congr (fun m _ => accC_n)] at Gy
          exact ih (i + 1) y (by omega) (by omega) Gy Fy
        · rw [show ptS s (accC s i (i + 1)) = ptS s (fun m => s.2 m + smI i (fun a => smI (kgN s) (fun b => pF s m a b))) from ptS_congr (fun m _ => accC_0)]
          exact G
  refine out 200 0 I (by omega) (by omega) ?_ frA.rf
  rw [ptS_id (fun m _ => by show s.2 m + 0 = s.2 m; rw [Int32.add_zero])]
  exact hG
end HAR
