theorem f_chk {p m : Int32} {I : kgM} (h0 : 0 ≤ p) (h : p < m) : f_J0_checkIndex_df160 p m I = some (0, I) := by
  unfold f_J0_checkIndex_df160 f_J3_checkIndex_8e157
  rw [if_neg (Int32.not_lt.mpr h0), if_pos h]
  rfl
set_option maxHeartbeats 4000000 in
set_option maxRecDepth 100000 in
theorem s_J5_chr (hs : kgH) (l : Launch) (p1 : Int32) (I : kgM) : Sdi hs l none yJ5_charAt_5068e (kg_ws yJ5_charAt_5068e cJ5_charAt_5068e 5 (some .char)) { frames := 6, cells := 0, slots := 0, locals := 200 } [.ref (kgO hs 175), .int p1] I (f_chr p1 I) := by
  refine sd_i (av := fun hs => [.ref (kgO hs 175), .int p1]) (by decide +kernel) (fun hs => Nat.le_of_ble_eq_true rfl) (fun X S hQ => ?_) hs l
  refine aw_sub (L2 := [(0, .ref (kgO (kgHs X) 175)), (1, .int p1)]) [0, 1] rfl ?_
  unfold f_chr
  refine aw_ck (fun h1 => ?_)
  refine aw_ck (fun h2 => ?_)
  refine aw_ck (fun h3 => ?_)
  refine aw_ck (fun h4 => ?_)
  have hlt : p1 < I 175 3 := of_decide_eq_true h2
  have hc : I 175 1 = 0 := of_decide_eq_true h3
  have hz4 := of_decide_eq_true h4
  obtain ⟨k, hk, rfl⟩ := kg_small (by decide) h1
  obtain ⟨g1, g2, g3, g4, g5, g6⟩ := chr_small k hk
  refine aw_open (fun av cap h34 hz => ?_)
  have hkc : k + 1 ≤ cap := by
    rcases h34 with rfl | rfl
    · rcases hz4 with h | h
      · exact g1 h
      · by_cases h16 : k < 16
        · omega
        · exact absurd (by rw [g2]; exact hz rfl k (by omega)) h
    · omega
  have hm : nI k < (if (Int32.ofNat cap >>> ((0 : Int32) &&& 31)) < I 175 3 then (Int32.ofNat cap >>> ((0 : Int32) &&& 31)) else I 175 3) := by
    split
    · rcases h34 with rfl | rfl
      · exact g3 (by omega)
      · exact g4
    · exact hlt
  refine aw_aload_n S 0 rfl dJ5_charAt_5068e_0 rfl ?_
  refine aw_getIs S 1 (by decide) (by decide) rfl tw_211 dJ5_charAt_5068e_1 ?_
  rw [hc]
  refine aw_istore_n (L2 := [(0, .ref (kgO (kgHs X) 175)), (1, .int (nI k)), (2, .int 0)]) S [1, 2, 0] dJ5_charAt_5068e_4 rfl (by decide) rfl ?_
  refine aw_aload_n S 0 rfl dJ5_charAt_5068e_5 rfl ?_
  refine aw_getB S tw_210 dJ5_charAt_5068e_6 ?_
  refine aw_astore_n (L2 := [(0, .ref (kgO (kgHs X) 175)), (1, .int (nI k)), (2, .int 0), (3, .ref av)]) S [1, 2, 3, 0] dJ5_charAt_5068e_9 rfl (by decide) rfl ?_
  refine aw_aload_n S 0 rfl dJ5_charAt_5068e_10 rfl ?_
  refine aw_getIs S 3 (by decide) (by decide) rfl tw_214 dJ5_charAt_5068e_11 ?_
  refine aw_aload_n S 3 rfl dJ5_charAt_5068e_14 rfl ?_
  refine aw_alenB S dJ5_charAt_5068e_15 ?_
  refine aw_iload_n S 2 rfl dJ5_charAt_5068e_16 rfl ?_
  refine aw_ishr S dJ5_charAt_5068e_17 ?_
  refine aw_to (f_min (I 175 3) (Int32.ofNat cap >>> ((0 : Int32) &&& 31)) I) ?_
  refine aw_cSi S [.int (I 175 3), .int (Int32.ofNat cap >>> ((0 : Int32) &&& 31))] vw_J9_min_7cf53 tw_791 (s_J9_min_7cf53 _ _ _ (I 175 3) (Int32.ofNat cap >>> ((0 : Int32) &&& 31)) I) ⟨by decide, by decide⟩ rfl rfl (Nat.le_of_ble_eq_true rfl) rfl rfl (by decide) (by decide) dJ5_charAt_5068e_18 (fun x J => aw_fr (fun hx1 hJ1 => ?_))
  subst hJ1
  rw [← hx1] at hm
  refine aw_istore (L2 := [(1, .int (nI k)), (2, .int 0), (3, .ref av), (4, .int x)]) S [2, 3, 4, 0] dJ5_charAt_5068e_21 (by decide) rfl ?_
  refine aw_iload_n S 0 rfl dJ5_charAt_5068e_23 rfl ?_
  refine aw_iload S 3 rfl dJ5_charAt_5068e_24 ?_
  refine aw_to (f_chk (I := J) g6 hm) ?_
  refine aw_cSv S [.int (nI k), .int x] vw_J0_checkIndex_df160 tw_792 (s_J0_checkIndex_df160 _ _ _ (nI k) x J) ⟨by decide, by decide⟩ rfl rfl (Nat.le_of_ble_eq_true rfl) rfl rfl (by decide) (by decide) dJ5_charAt_5068e_26 (fun x2 J2 => aw_fr (fun hx2 hJ2 => ?_))
  subst hJ2
  refine aw_iload_n S 1 rfl dJ5_charAt_5068e_29 rfl ?_
  refine aw_if_neF (y := 0) (tgt := 42) S dJ5_charAt_5068e_30 (by decide) (by decide) ?_
  refine aw_aload_n S 2 rfl dJ5_charAt_5068e_33 rfl ?_
  refine aw_iload_n S 0 rfl dJ5_charAt_5068e_34 rfl ?_
  have hck : ∀ q : Option (Int32 × kgM), ck (inb (nI k) (k + 1)) q = q := fun q => by rw [g5]; rfl
  rw [← hck (ck _ _)]
  refine aw_baldB S hkc dJ5_charAt_5068e_35 ?_
  refine aw_sipush (v := (255 : Int32)) S dJ5_charAt_5068e_36 (by decide) ?_
  refine aw_iand S dJ5_charAt_5068e_39 ?_
  refine aw_i2c S dJ5_charAt_5068e_40 ?_
  refine aw_close ?_
  exact aw_retc S hQ (by decide) (by decide) dJ5_charAt_5068e_41
set_option maxRecDepth 100000 in
theorem s_J4_chr (hs : kgH) (l : Launch) (p1 : Int32) (I : kgM) : Sdi hs l none yJ4_charAt_5068e (kg_ws yJ4_charAt_5068e cJ4_charAt_5068e 2 (some .char)) { frames := 7, cells := 0, slots := 0, locals := 230 } [.ref (kgO hs 175), .int p1] I (bndC (f_chr p1 I) (fun x J => ck (isc x) (some (x, J)))) := by
  refine sd_i (av := fun hs => [.ref (kgO hs 175), .int p1]) (by decide +kernel) (fun hs => Nat.le_of_ble_eq_true rfl) (fun X S hQ => ?_) hs l
  refine aw_sub (L2 := [(0, .ref (kgO (kgHs X) 175)), (1, .int p1)]) [0, 1] rfl ?_
  refine aw_aload_n S 0 rfl dJ4_charAt_5068e_0 rfl ?_
  refine aw_iload_n S 1 rfl dJ4_charAt_5068e_1 rfl ?_
  refine aw_cPi (ce2 := 0) (sl2 := 0) S [.int p1] uw_chr tw_223 (by decide) rfl tw_788 (s_J5_chr _ _ p1 I) ⟨by decide, by decide⟩ rfl rfl (Nat.le_of_ble_eq_true rfl) rfl rfl (by decide) (by decide) dJ4_charAt_5068e_2 (fun x J => ?_)
  exact aw_retc S hQ (by decide) (by decide) dJ4_charAt_5068e_5

