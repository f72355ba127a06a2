/-! orders of members and kettles -/
def aM (s : kgS) (k j : Nat) : Bool := if (s.2 k).toInt < (s.2 j).toInt then true else if (s.2 j).toInt = (s.2 k).toInt then (if own s k < own s j then true else if own s j = own s k then decide (j < k) else false) else false
def aK (s : kgS) (k j : Nat) : Bool := if s.1 9 k < s.1 9 j then true else if s.1 9 j = s.1 9 k then (if s.1 8 j < s.1 8 k then true else if s.1 8 j = s.1 8 k then decide (j < k) else false) else false
theorem cmp_t {I : kgM} (x y : Int32) : f_J6_compare_7cf53 x y I = some ((if x.toInt < y.toInt then -1 else if x.toInt = y.toInt then 0 else 1), I) := by
  unfold f_J6_compare_7cf53
  by_cases h1 : x.toInt < y.toInt
  · rw [if_pos h1, if_neg (by rw [le_t]; omega)]
  · rw [if_neg h1, if_pos (by rw [le_t]; omega)]
    by_cases h2 : x.toInt = y.toInt
    · rw [if_pos h2, if_pos (Int32.toInt_inj.mp h2)]
    · rw [if_neg h2, if_neg (fun h => h2 (by rw [h]))]
section RANK
variable {I : kgM} {s : kgS}
theorem own_le (s : kgS) (m : Nat) : own s m ≤ 12 := cnt_le 12 _
theorem c_isAhead (hG : RepG I 1 s) (w : kgWF s) {j k : Nat} (hj : j < 4) (hk : k < 4) : f_X4_isMemberAhead (nI j) (nI k) I = some (b2i (aM s k j), I) := by
  have ej : I 3 j = s.2 j := (hG.2.2.1 j hj).1
  have ek : I 3 k = s.2 k := (hG.2.2.1 k hk).1
  have oj := own_le s j
  have ok := own_le s k
  unfold f_X4_isMemberAhead aM
  rw [ck_inb (by omega) (by omega), ck_inb (by omega) (by omega), nI_clamp (by omega), nI_clamp (by omega), ej, ek, cmp_t, bndC_s]
  by_cases h1 : (s.2 j).toInt < (s.2 k).toInt
  · rw [if_pos h1, if_neg (show ¬ (-1 : Int32) = 0 by decide), if_pos (show (-1 : Int32) ≤ 0 by decide), if_neg (show ¬ (s.2 k).toInt < (s.2 j).toInt by omega), if_neg (show ¬ (s.2 j).toInt = (s.2 k).toInt by omega)]; rfl
  · rw [if_neg h1]
    by_cases h2 : (s.2 j).toInt = (s.2 k).toInt
    · rw [if_pos h2, if_pos (show (0 : Int32) = 0 from rfl), if_neg (show ¬ (s.2 k).toInt < (s.2 j).toInt by omega), if_pos h2, c_pitchesOf hG w hj, bndC_s, c_pitchesOf hG w hk, bndC_s, cmp_t, bndC_s, nI_toInt (by omega), nI_toInt (by omega)]
      by_cases h3 : own s j < own s k
      · have h3' : (own s j : Int) < (own s k : Int) := by omega
        rw [if_pos h3', if_neg (show ¬ (-1 : Int32) = 0 by decide), if_pos (show (-1 : Int32) ≤ 0 by decide), if_neg (show ¬ own s k < own s j by omega), if_neg (show ¬ own s j = own s k by omega)]; rfl
      · have h3' : ¬ (own s j : Int) < (own s k : Int) := by omega
        rw [if_neg h3']
        by_cases h4 : own s j = own s k
        · have h4' : (own s j : Int) = (own s k : Int) := by omega
          rw [if_pos h4', if_pos (show (0 : Int32) = 0 from rfl), if_neg (show ¬ own s k < own s j by omega), if_pos h4]
          by_cases h5 : j < k
          · rw [if_neg (nI_ge h5 (by omega)), decide_eq_true h5]; rfl
          · rw [if_pos (nI_le (show k ≤ j by omega) (by omega)), decide_eq_false h5]; rfl
        · have h4' : ¬ (own s j : Int) = (own s k : Int) := by omega
          rw [if_neg h4', if_neg (show ¬ (1 : Int32) = 0 by decide), if_neg (show ¬ (1 : Int32) ≤ 0 by decide), if_pos (show own s k < own s j by omega)]; rfl
    · rw [if_neg h2, if_neg (show ¬ (1 : Int32) = 0 by decide), if_neg (show ¬ (1 : Int32) ≤ 0 by decide), if_pos (show (s.2 k).toInt < (s.2 j).toInt by omega)]; rfl
theorem c_aheadM (hG : RepG I 1 s) (w : kgWF s) {k : Nat} (hk : k < 4) : f_X4_countAheadOfMember (nI k) I = some (nI (cnt 4 (aM s k)), I) := by
  unfold f_X4_countAheadOfMember
  refine lp (T := fun q j => f_X4_countAheadOfMember_L4 (nI k) (fun x5 I2 => some (x5, I2)) q (nI (cnt j (aM s k))) (nI j) I) (R := some (nI (cnt 4 (aM s k)), I)) (n := 4) (k0 := 0) (fun q j _ hj => ?_) (fun q => ?_) 200 0 (by omega) (by omega) (by omega)
  · show f_X4_countAheadOfMember_L4 (nI k) _ (q + 1) _ (nI j) I = _
    rw [f_X4_countAheadOfMember_L4, if_neg (show ¬ (4 : Int32) ≤ nI j from nI_ge (b := 4) hj (by omega)), c_isAhead hG w hj hk, bndC_s]
    cases hd : aM s k j with
    | false => rw [b2i_f, if_pos rfl, bnd_s, nI_1, show cnt (j + 1) (aM s k) = cnt j (aM s k) from by show cnt j (aM s k) + _ = _; rw [hd]; rfl]
    | true => rw [b2i_t, if_neg (show ¬ (1 : Int32) = 0 by decide), bnd_s, bnd_s, nI_1, nI_1, show cnt (j + 1) (aM s k) = cnt j (aM s k) + 1 from by show cnt j (aM s k) + _ = _; rw [hd]; rfl]
  · show f_X4_countAheadOfMember_L4 (nI k) _ (q + 1) _ (nI 4) I = _
    rw [f_X4_countAheadOfMember_L4, if_pos (show (4 : Int32) ≤ nI 4 from Int32.le_refl _)]
theorem m_aheadM (hR : RepR (kgRow I 0) s) (w : kgWF s) {B : Int} (hB : B < 1000000000) (hp : kgPt B s) (a1 : Int32) {k : Nat} (hk : k < 4) (KK : Int32 → kgM → Option (Int32 × kgM)) : f_X5_ranked_L12 a1 (nI k) KK 200 0 0 I = KK (nI (cnt 4 (aM s k))) I := by
  refine lp (T := fun q j => f_X5_ranked_L12 a1 (nI k) KK q (nI (cnt j (aM s k))) (nI j) I) (R := KK (nI (cnt 4 (aM s k))) I) (n := 4) (k0 := 0) (fun q j _ hj => ?_) (fun q => ?_) 200 0 (by omega) (by omega) (by omega)
  · have pj := hp j hj
    have pk := hp k hk
    have oj := own_le s j
    have ok := own_le s k
    have es : (s.2 j - s.2 k).toInt = (s.2 j).toInt - (s.2 k).toInt := by
      rw [Int32.toInt_sub, Int.bmod_eq_of_le (by omega) (by omega)]
    have eo : (nI (own s j) - nI (own s k)).toInt = (own s j : Int) - own s k := pk_sub_toInt (by omega) (by omega)
    have z0 : (0 : Int32).toInt = 0 := rfl
    have inc : ∀ b, aM s k j = b → ∀ A : Option (Int32 × kgM), A = f_X5_ranked_L12 a1 (nI k) KK q (nI (cnt j (aM s k) + (if b = true then 1 else 0))) (nI (j + 1)) I → A = f_X5_ranked_L12 a1 (nI k) KK q (nI (cnt (j + 1) (aM s k))) (nI (j + 1)) I := fun b hb A hA => by
      rw [hA]; show _ = f_X5_ranked_L12 a1 (nI k) KK q (nI (cnt j (aM s k) + (if aM s k j = true then 1 else 0))) _ _; rw [hb]
    show f_X5_ranked_L12 a1 (nI k) KK (q + 1) _ (nI j) I = _
    rw [f_X5_ranked_L12, if_neg (show ¬ (4 : Int32) ≤ nI j from nI_ge (b := 4) hj (by omega)), (m_m hR hj).1, bndC_s, (m_m hR hk).1, bndC_s, bnd_s, m_pitchesOf hR w hj, bndC_s, m_pitchesOf hR w hk, bndC_s, bnd_s]
    by_cases h1 : (s.2 k).toInt < (s.2 j).toInt
    · refine inc true (by unfold aM; rw [if_pos h1]) _ ?_
      rw [if_pos (by rw [lt_t, es, z0]; omega), bnd_s, bnd_s, nI_1, nI_1]; rfl
    · rw [if_neg (by rw [lt_t, es, z0]; omega)]
      by_cases h2 : (s.2 j).toInt = (s.2 k).toInt
      · rw [if_pos (show s.2 j - s.2 k = 0 from Int32.toInt_inj.mp (by rw [es, z0]; omega))]
        by_cases h3 : own s k < own s j
        · refine inc true (by unfold aM; rw [if_neg h1, if_pos h2, if_pos h3]) _ ?_
          rw [if_pos (by rw [lt_t, eo, z0]; omega), bnd_s, bnd_s, nI_1, nI_1]; rfl
        · rw [if_neg (by rw [lt_t, eo, z0]; omega)]
          by_cases h4 : own s j = own s k
          · rw [if_pos (show nI (own s j) - nI (own s k) = 0 from Int32.toInt_inj.mp (by rw [eo, z0]; omega))]
            by_cases h5 : j < k
            · refine inc true (by unfold aM; rw [if_neg h1, if_pos h2, if_neg h3, if_pos h4, decide_eq_true h5]) _ ?_
              rw [if_neg (nI_ge h5 (by omega)), bnd_s, bnd_s, nI_1, nI_1]; rfl
            · refine inc false (by unfold aM; rw [if_neg h1, if_pos h2, if_neg h3, if_pos h4, decide_eq_false h5]) _ ?_
              rw [if_pos (nI_le (by omega) (by omega)), bnd_s, bnd_s, nI_1, Int32.add_zero]; rfl
          · refine inc false (by unfold aM; rw [if_neg h1, if_pos h2, if_neg h3, if_neg h4]) _ ?_
            rw [if_neg (show ¬ nI (own s j) - nI (own s k) = 0 from fun h => by have := congrArg Int32.toInt h; rw [eo, z0] at this; omega), bnd_s, bnd_s, nI_1, Int32.add_zero]; rfl
      · refine inc false (by unfold aM; rw [if_neg h1, if_neg h2]) _ ?_
        rw [if_neg (show ¬ s.2 j - s.2 k = 0 from fun h => by have := congrArg Int32.toInt h; rw [es, z0] at this; omega), bnd_s, bnd_s, nI_1, Int32.add_zero]; rfl
  · show f_X5_ranked_L12 a1 (nI k) KK (q + 1) _ (nI 4) I = _
    rw [f_X5_ranked_L12, if_pos (show (4 : Int32) ≤ nI 4 from Int32.le_refl _)]
theorem onf_some {I : kgM} (o : Option Nat) (v : Int32) : onf o (fun j => some (nI j, I)) (some (v, I)) = some (onf o nI v, I) := by cases o <;> rfl
theorem c_ranked (hG : RepG I 1 s) (w : kgWF s) (a : Int32) : f_X4_ranked a I = some (onf (fnd (fun k => decide (nI (cnt 4 (aM s k)) = a)) 4 0) nI (-1011), I) := by
  unfold f_X4_ranked
  rw [← onf_some]
  refine lf (T := fun q k => f_X4_ranked_L2 a (fun I2 => some ((-1011 : Int32), I2)) q (nI k) I) (p := fun k => decide (nI (cnt 4 (aM s k)) = a)) (n := 4) (fun q k hk hp => ?_) (fun q k hk hp => ?_) (fun q => ?_) 200 0 (by omega) (by omega)
  · have hp := of_decide_eq_false hp
    show f_X4_ranked_L2 a _ (q + 1) (nI k) I = _
    rw [f_X4_ranked_L2, if_neg (show ¬ (4 : Int32) ≤ nI k from nI_ge (b := 4) hk (by omega)), c_aheadM hG w hk, bndC_s, if_neg hp, bnd_s, nI_1]
  · have hp := of_decide_eq_true hp
    show f_X4_ranked_L2 a _ (q + 1) (nI k) I = _
    rw [f_X4_ranked_L2, if_neg (show ¬ (4 : Int32) ≤ nI k from nI_ge (b := 4) hk (by omega)), c_aheadM hG w hk, bndC_s, if_pos hp]
  · show f_X4_ranked_L2 a _ (q + 1) (nI 4) I = _
    rw [f_X4_ranked_L2, if_pos (show (4 : Int32) ≤ nI 4 from Int32.le_refl _)]
theorem m_ranked (hR : RepR (kgRow I 0) s) (w : kgWF s) {B : Int} (hB : B < 1000000000) (hpt : kgPt B s) (a : Int32) : f_X5_ranked a I = some (onf (fnd (fun k => decide (nI (cnt 4 (aM s k)) = a)) 4 0) nI (-1011), I) := by
  unfold f_X5_ranked
  rw [← onf_some]
  refine lf (T := fun q k => f_X5_ranked_L2 a (fun I6 => some ((-1011 : Int32), I6)) q (nI k) I) (p := fun k => decide (nI (cnt 4 (aM s k)) = a)) (n := 4) (fun q k hk hp => ?_) (fun q k hk hp => ?_) (fun q => ?_) 200 0 (by omega) (by omega)
  · have hp := of_decide_eq_false hp
    show f_X5_ranked_L2 a _ (q + 1) (nI k) I = _
    rw [f_X5_ranked_L2, if_neg (show ¬ (4 : Int32) ≤ nI k from nI_ge (b := 4) hk (by omega)), m_aheadM hR w hB hpt a hk, if_neg hp, bnd_s, nI_1]
  · have hp := of_decide_eq_true hp
    show f_X5_ranked_L2 a _ (q + 1) (nI k) I = _
    rw [f_X5_ranked_L2, if_neg (show ¬ (4 : Int32) ≤ nI k from nI_ge (b := 4) hk (by omega)), m_aheadM hR w hB hpt a hk, if_pos hp]
  · show f_X5_ranked_L2 a _ (q + 1) (nI 4) I = _
    rw [f_X5_ranked_L2, if_pos (show (4 : Int32) ≤ nI 4 from Int32.le_refl _)]
theorem c_isAheadK (hG : RepG I 1 s) (w : kgWF s) {j k : Nat} (hj : j < kgN s) (hk : k < kgN s) : f_X4_isKettleAhead (nI j) (nI k) I = some (b2i (aK s k j), I) := by
  have hn := w.1
  have bj := w.2.2.2.1 j hj
  have bk := w.2.2.2.1 k hk
  unfold f_X4_isKettleAhead aK
  rw [ck_inb (by omega) (by omega), ck_inb (by omega) (by omega), nI_clamp (by omega), nI_clamp (by omega), hG.tmp hj, hG.tmp hk, cmp_t, bndC_s, nI_toInt (by omega), nI_toInt (by omega)]
  by_cases h1 : s.1 9 j < s.1 9 k
  · have h1' : ((5 * s.1 9 j : Nat) : Int) < ((5 * s.1 9 k : Nat) : Int) := by omega
    rw [if_pos h1', if_neg (show ¬ (-1 : Int32) = 0 by decide), if_pos (show (-1 : Int32) ≤ 0 by decide), if_neg (show ¬ s.1 9 k < s.1 9 j by omega), if_neg (show ¬ s.1 9 j = s.1 9 k by omega)]; rfl
  · have h1' : ¬ ((5 * s.1 9 j : Nat) : Int) < ((5 * s.1 9 k : Nat) : Int) := by omega
    rw [if_neg h1']
    by_cases h2 : s.1 9 j = s.1 9 k
    · have h2' : ((5 * s.1 9 j : Nat) : Int) = ((5 * s.1 9 k : Nat) : Int) := by omega
      rw [if_pos h2', if_pos (show (0 : Int32) = 0 from rfl), if_neg (show ¬ s.1 9 k < s.1 9 j by omega), if_pos h2, ck_inb (by omega) (by omega), ck_inb (by omega) (by omega), hG.wat hj, hG.wat hk, cmp_t, bndC_s, nI_toInt (by omega), nI_toInt (by omega)]
      by_cases h3 : s.1 8 j < s.1 8 k
      · have h3' : (s.1 8 j : Int) < (s.1 8 k : Int) := by omega
        rw [if_pos h3', if_neg (show ¬ (-1 : Int32) = 0 by decide), if_neg (show ¬ (0 : Int32) ≤ -1 by decide), if_pos h3]; rfl
      · have h3' : ¬ (s.1 8 j : Int) < (s.1 8 k : Int) := by omega
        rw [if_neg h3', if_neg h3]
        by_cases h4 : s.1 8 j = s.1 8 k
        · have h4' : (s.1 8 j : Int) = (s.1 8 k : Int) := by omega
          rw [if_pos h4', if_pos (show (0 : Int32) = 0 from rfl), if_pos h4]
          by_cases h5 : j < k
          · rw [if_neg (nI_ge h5 (by omega)), decide_eq_true h5]; rfl
          · rw [if_pos (nI_le (show k ≤ j by omega) (by omega)), decide_eq_false h5]; rfl
        · have h4' : ¬ (s.1 8 j : Int) = (s.1 8 k : Int) := by omega
          rw [if_neg h4', if_neg (show ¬ (1 : Int32) = 0 by decide), if_pos (show (0 : Int32) ≤ 1 by decide), if_neg h4]; rfl
    · have h2' : ¬ ((5 * s.1 9 j : Nat) : Int) = ((5 * s.1 9 k : Nat) : Int) := by omega
      rw [if_neg h2', if_neg (show ¬ (1 : Int32) = 0 by decide), if_neg (show ¬ (1 : Int32) ≤ 0 by decide), if_pos (show s.1 9 k < s.1 9 j by omega)]; rfl
theorem c_aheadK (hG : RepG I 1 s) (w : kgWF s) {k : Nat} (hk : k < kgN s) : f_X4_countAheadOfKettle (nI k) I = some (nI (cnt (kgN s) (aK s k)), I) := by
  have hn := w.1
  unfold f_X4_countAheadOfKettle
  refine lp (T := fun q j => f_X4_countAheadOfKettle_L4 (nI k) (fun x5 I2 => some (x5, I2)) q (nI (cnt j (aK s k))) (nI j) I) (R := some (nI (cnt (kgN s) (aK s k)), I)) (n := kgN s) (k0 := 0) (fun q j _ hj => ?_) (fun q => ?_) 200 0 (by omega) (by omega) (by omega)
  · show f_X4_countAheadOfKettle_L4 (nI k) _ (q + 1) _ (nI j) I = _
    rw [f_X4_countAheadOfKettle_L4, hG.2.1, if_neg (nI_ge hj (by omega)), c_isAheadK hG w hj hk, bndC_s]
    cases hd : aK s k j with
    | false => rw [b2i_f, if_pos rfl, bnd_s, nI_1, show cnt (j + 1) (aK s k) = cnt j (aK s k) from by show cnt j (aK s k) + _ = _; rw [hd]; rfl]
    | true => rw [b2i_t, if_neg (show ¬ (1 : Int32) = 0 by decide), bnd_s, bnd_s, nI_1, nI_1, show cnt (j + 1) (aK s k) = cnt j (aK s k) + 1 from by show cnt j (aK s k) + _ = _; rw [hd]; rfl]
  · show f_X4_countAheadOfKettle_L4 (nI k) _ (q + 1) _ (nI (kgN s)) I = _
    rw [f_X4_countAheadOfKettle_L4, hG.2.1, if_pos (Int32.le_refl _)]
theorem m_aheadK (hR : RepR (kgRow I 0) s) (w : kgWF s) (a1 : Int32) {k : Nat} (hk : k < kgN s) (KK : Int32 → kgM → Option (Int32 × kgM)) : f_X5_hottest_L17 a1 (nI k) KK 200 0 0 I = KK (nI (cnt (kgN s) (aK s k))) I := by
  have hn := w.1
  refine lp (T := fun q j => f_X5_hottest_L17 a1 (nI k) KK q (nI (cnt j (aK s k))) (nI j) I) (R := KK (nI (cnt (kgN s) (aK s k))) I) (n := kgN s) (k0 := 0) (fun q j _ hj => ?_) (fun q => ?_) 200 0 (by omega) (by omega) (by omega)
  · have bj := w.2.2.2.1 j hj
    have bk := w.2.2.2.1 k hk
    have es : (nI (5 * s.1 9 j) - nI (5 * s.1 9 k)).toInt = ((5 * s.1 9 j : Nat) : Int) - ((5 * s.1 9 k : Nat) : Int) := pk_sub_toInt (by omega) (by omega)
    have eo : (nI (s.1 8 k) - nI (s.1 8 j)).toInt = (s.1 8 k : Int) - s.1 8 j := pk_sub_toInt (by omega) (by omega)
    have z0 : (0 : Int32).toInt = 0 := rfl
    have inc : ∀ b, aK s k j = b → ∀ A : Option (Int32 × kgM), A = f_X5_hottest_L17 a1 (nI k) KK q (nI (cnt j (aK s k) + (if b = true then 1 else 0))) (nI (j + 1)) I → A = f_X5_hottest_L17 a1 (nI k) KK q (nI (cnt (j + 1) (aK s k))) (nI (j + 1)) I := fun b hb A hA => by
      rw [hA]; show _ = f_X5_hottest_L17 a1 (nI k) KK q (nI (cnt j (aK s k) + (if aK s k j = true then 1 else 0))) _ _; rw [hb]
    show f_X5_hottest_L17 a1 (nI k) KK (q + 1) _ (nI j) I = _
    rw [f_X5_hottest_L17, ck_one, cl_one, hR.n, if_neg (nI_ge hj (by omega)), m_wrm hR hn hj, bndC_s, m_wrm hR hn hk, bndC_s, bnd_s, m_wat hR hn hk, bndC_s, m_wat hR hn hj, bndC_s, bnd_s]
    by_cases h1 : s.1 9 k < s.1 9 j
    · refine inc true (by unfold aK; rw [if_pos h1]) _ ?_
      rw [if_pos (by rw [lt_t, es, z0]; omega), bnd_s, bnd_s, nI_1, nI_1]; rfl
    · rw [if_neg (by rw [lt_t, es, z0]; omega)]
      by_cases h2 : s.1 9 j = s.1 9 k
      · rw [if_pos (show nI (5 * s.1 9 j) - nI (5 * s.1 9 k) = 0 from Int32.toInt_inj.mp (by rw [es, z0]; omega))]
        by_cases h3 : s.1 8 j < s.1 8 k
        · refine inc true (by unfold aK; rw [if_neg h1, if_pos h2, if_pos h3]) _ ?_
          rw [if_pos (by rw [lt_t, eo, z0]; omega), bnd_s, bnd_s, nI_1, nI_1]; rfl
        · rw [if_neg (by rw [lt_t, eo, z0]; omega)]
          by_cases h4 : s.1 8 j = s.1 8 k
          · rw [if_pos (show nI (s.1 8 k) - nI (s.1 8 j) = 0 from Int32.toInt_inj.mp (by rw [eo, z0]; omega))]
            by_cases h5 : j < k
            · refine inc true (by unfold aK; rw [if_neg h1, if_pos h2, if_neg h3, if_pos h4, decide_eq_true h5]) _ ?_
              rw [if_neg (nI_ge h5 (by omega)), bnd_s, bnd_s, nI_1, nI_1]; rfl
            · refine inc false (by unfold aK; rw [if_neg h1, if_pos h2, if_neg h3, if_pos h4, decide_eq_false h5]) _ ?_
              rw [if_pos (nI_le (by omega) (by omega)), bnd_s, bnd_s, nI_1, Int32.add_zero]; rfl
          · refine inc false (by unfold aK; rw [if_neg h1, if_pos h2, if_neg h3, if_neg h4]) _ ?_
            rw [if_neg (show ¬ nI (s.1 8 k) - nI (s.1 8 j) = 0 from fun h => by have := congrArg Int32.toInt h; rw [eo, z0] at this; omega), bnd_s, bnd_s, nI_1, Int32.add_zero]; rfl
      · refine inc false (by unfold aK; rw [if_neg h1, if_neg h2]) _ ?_
        rw [if_neg (show ¬ nI (5 * s.1 9 j) - nI (5 * s.1 9 k) = 0 from fun h => by have := congrArg Int32.toInt h; rw [es, z0] at this; omega), bnd_s, bnd_s, nI_1, Int32.add_zero]; rfl
  · show f_X5_hottest_L17 a1 (nI k) KK (q + 1) _ (nI (kgN s)) I = _
    rw [f_X5_hottest_L17, ck_one, cl_one, hR.n, if_pos (Int32.le_refl _)]
theorem c_hottest (hG : RepG I 1 s) (w : kgWF s) (a : Int32) : f_X4_hottest a I = some (onf (fnd (fun k => decide (nI (cnt (kgN s) (aK s k)) = a)) (kgN s) 0) nI (-1011), I) := by
  have hn := w.1
  unfold f_X4_hottest
  rw [← onf_some]
  refine lf (T := fun q k => f_X4_hottest_L2 a (fun I2 => some ((-1011 : Int32), I2)) q (nI k) I) (p := fun k => decide (nI (cnt (kgN s) (aK s k)) = a)) (n := kgN s) (fun q k hk hp => ?_) (fun q k hk hp => ?_) (fun q => ?_) 200 0 (by omega) (by omega)
  · have hp := of_decide_eq_false hp
    show f_X4_hottest_L2 a _ (q + 1) (nI k) I = _
    rw [f_X4_hottest_L2, hG.2.1, if_neg (nI_ge hk (by omega)), c_aheadK hG w hk, bndC_s, if_neg hp, bnd_s, nI_1]
  · have hp := of_decide_eq_true hp
    show f_X4_hottest_L2 a _ (q + 1) (nI k) I = _
    rw [f_X4_hottest_L2, hG.2.1, if_neg (nI_ge hk (by omega)), c_aheadK hG w hk, bndC_s, if_pos hp]
  · show f_X4_hottest_L2 a _ (q + 1) (nI (kgN s)) I = _
    rw [f_X4_hottest_L2, hG.2.1, if_pos (Int32.le_refl _)]
theorem m_hottest (hR : RepR (kgRow I 0) s) (w : kgWF s) (a : Int32) : f_X5_hottest a I = some (onf (fnd (fun k => decide (nI (cnt (kgN s) (aK s k)) = a)) (kgN s) 0) nI (-1011), I) := by
  have hn := w.1
  unfold f_X5_hottest
  rw [← onf_some]
  refine lf (T := fun q k => f_X5_hottest_L2 a (fun I6 => some ((-1011 : Int32), I6)) q (nI k) I) (p := fun k => decide (nI (cnt (kgN s) (aK s k)) = a)) (n := kgN s) (fun q k hk hp => ?_) (fun q k hk hp => ?_) (fun q => ?_) 200 0 (by omega) (by omega)
  · have hp := of_decide_eq_false hp
    show f_X5_hottest_L2 a _ (q + 1) (nI k) I = _
    rw [f_X5_hottest_L2, ck_one, cl_one, hR.n, if_neg (nI_ge hk (by omega)), m_aheadK hR w a hk, if_neg hp, bnd_s, nI_1]
  · have hp := of_decide_eq_true hp
    show f_X5_hottest_L2 a _ (q + 1) (nI k) I = _
    rw [f_X5_hottest_L2, ck_one, cl_one, hR.n, if_neg (nI_ge hk (by omega)), m_aheadK hR w a hk, if_pos hp]
  · show f_X5_hottest_L2 a _ (q + 1) (nI (kgN s)) I = _
    rw [f_X5_hottest_L2, ck_one, cl_one, hR.n, if_pos (Int32.le_refl _)]
end RANK
