/-! what the line does: a sign put behind, a number put behind, its length, its signs -/
theorem uw_appC : kgUW yJ5_append_3fe6f cJ5_append_3fe6f 2 (some (.object "java/lang/AbstractStringBuilder")) 1 := ⟨tw_514, tw_29, tw_513, tw_925, by decide +kernel, by decide +kernel⟩
theorem uw_appI : kgUW yJ5_append_c97b9 cJ5_append_c97b9 4 (some (.object "java/lang/AbstractStringBuilder")) 1 := ⟨tw_466, tw_29, tw_465, tw_924, by decide +kernel, by decide +kernel⟩
theorem uw_setL : kgUW yJ5_setLength_d00df cJ5_setLength_d00df 2 none 1 := ⟨tw_410, tw_29, tw_409, tw_921, by decide +kernel, by decide +kernel⟩
theorem uw_len : kgUW yJ5_length_8abf5 cJ5_length_8abf5 1 (some .int) 0 := ⟨tw_559, tw_29, tw_558, tw_927, by decide +kernel, by decide +kernel⟩
theorem uw_chr : kgUW yJ5_charAt_5068e cJ5_charAt_5068e 5 (some .char) 1 := ⟨tw_790, tw_29, tw_789, tw_928, by decide +kernel, by decide +kernel⟩
theorem f_lat {I : kgM} (hc : I 175 1 = 0) : f_J5_isLatin1_aae02 I = some (1, I) := by
  unfold f_J5_isLatin1_aae02
  rw [if_pos hc]
/-- a sign put behind -/
def f_addC (p : Int32) (I : kgM) : Option (Int32 × kgM) :=
  ck (inb (I 175 3) 34) (ck (decide (I 175 1 = 0)) (ck (decide (p ≤ 255)) (
    some (0, kgW (kgW I 175 3 (I 175 3 + 1)) 176 (I 175 3).toNatClampNeg (vp_nar .byte p.toInt8.toInt32)))))
theorem kg_succ34 : ∀ k, k < 34 → nI k + 1 = nI (k + 1) ∧ inb (nI k + 1) 35 = true ∧ (nI k + 1).toInt = (k : Int) + 1 ∧ (nI k).toNatClampNeg = k ∧ inb (nI k) (k + 1) = true := by decide +kernel
set_option maxHeartbeats 4000000 in
set_option maxRecDepth 100000 in
theorem s_J5_addC (hs : kgH) (l : Launch) (p1 : Int32) (I : kgM) : Sdr hs l yJ5_append_3fe6f (kg_ws yJ5_append_3fe6f cJ5_append_3fe6f 2 (some (.object "java/lang/AbstractStringBuilder"))) { frames := 6, cells := 1, slots := 34, locals := 200 } [.ref (kgO hs 175), .int p1] I (f_addC p1 I) := by
  refine sd_r (av := fun hs => [.ref (kgO hs 175), .int p1]) (by decide +kernel) (fun hs => Nat.le_of_ble_eq_true rfl) (fun X S hQ => ?_) hs l
  refine aw_sub (L2 := [(0, .ref (kgO (kgHs X) 175)), (1, .int p1)]) [0, 1] rfl ?_
  unfold f_addC
  refine aw_ck (fun h1 => ?_)
  refine aw_ck (fun h2 => ?_)
  refine aw_ck (fun h3 => ?_)
  have hc : I 175 1 = 0 := of_decide_eq_true h2
  have hp : p1 ≤ 255 := of_decide_eq_true h3
  obtain ⟨k, hk, ek⟩ := kg_small (by decide) h1
  obtain ⟨g1, g2, g3, g4, g5⟩ := kg_succ34 k hk
  refine aw_aload_n S 0 rfl dJ5_append_3fe6f_0 rfl ?_
  refine aw_aload_n S 0 rfl dJ5_append_3fe6f_1 rfl ?_
  refine aw_getIs S 3 (by decide) (by decide) rfl tw_214 dJ5_append_3fe6f_2 ?_
  refine aw_iconst (v := (1 : Int32)) S dJ5_append_3fe6f_5 (by decide) ?_
  refine aw_iadd S dJ5_append_3fe6f_6 ?_
  refine aw_cUe (ce2 := 1) (sl2 := 34) S [.int (I 175 3 + 1)] uw_ens sel_ens tw_411 (s_J5_ens _ _ (I 175 3 + 1) I (by rw [ek]; exact g2) hc) ⟨by decide, by decide⟩ rfl rfl (Nat.le_of_ble_eq_true rfl) rfl rfl (by decide) (by decide) dJ5_append_3fe6f_7 (fun av cap hcap h34 => ?_)
  have hb : k + 1 ≤ cap := by rw [ek, g3] at hcap; omega
  refine aw_aload_n S 0 rfl dJ5_append_3fe6f_10 rfl ?_
  refine aw_to (f_lat hc) ?_
  refine aw_cUi (ce2 := 1) (sl2 := 34) S [] uw_lat sel_lat tw_442 (s_J5_isLatin1_aae02 _ _ _ I) ⟨by decide, by decide⟩ rfl rfl (Nat.le_of_ble_eq_true rfl) rfl rfl (by decide) (by decide) dJ5_append_3fe6f_11 (fun x J => aw_fr (fun hx1 hJ1 => ?_))
  subst hx1
  subst hJ1
  refine aw_if_eqF (y := 0) (tgt := 45) S dJ5_append_3fe6f_14 (by decide) (by decide) ?_
  refine aw_iload_n S 1 rfl dJ5_append_3fe6f_17 rfl ?_
  have hce : f_J1_canEncode_fc78d p1 J = some (1, J) := by
    unfold f_J1_canEncode_fc78d
    rw [if_neg (Int32.not_lt.mpr hp)]
  refine aw_to hce ?_
  refine aw_cSi (ce2 := 1) (sl2 := 34) S [.int p1] vw_J1_canEncode_fc78d tw_515 (s_J1_canEncode_fc78d _ _ _ p1 J) ⟨by decide, by decide⟩ rfl rfl (Nat.le_of_ble_eq_true rfl) rfl rfl (by decide) (by decide) dJ5_append_3fe6f_18 (fun x J2 => aw_fr (fun hx1 hJ1 => ?_))
  subst hx1
  subst hJ1
  refine aw_if_eqF (y := 0) (tgt := 45) S dJ5_append_3fe6f_21 (by decide) (by decide) ?_
  refine aw_aload_n S 0 rfl dJ5_append_3fe6f_24 rfl ?_
  refine aw_getB S tw_210 dJ5_append_3fe6f_25 ?_
  refine aw_aload_n S 0 rfl dJ5_append_3fe6f_28 rfl ?_
  refine aw_dup S dJ5_append_3fe6f_29 rfl ?_
  refine aw_getIs S 3 (by decide) (by decide) rfl tw_214 dJ5_append_3fe6f_30 ?_
  refine aw_dup_x1 S dJ5_append_3fe6f_33 rfl rfl ?_
  refine aw_iconst (v := (1 : Int32)) S dJ5_append_3fe6f_34 (by decide) ?_
  refine aw_iadd S dJ5_append_3fe6f_35 ?_
  refine aw_putIs S 3 (by decide) (by decide) rfl rfl rfl tw_214 dJ5_append_3fe6f_36 ?_
  refine aw_iload_n S 1 rfl dJ5_append_3fe6f_39 rfl ?_
  refine aw_i2b S dJ5_append_3fe6f_40 ?_
  have hck : ck (inb (J2 175 3) (k + 1)) (some ((0 : Int32), kgW (kgW J2 175 3 (J2 175 3 + 1)) 176 (J2 175 3).toNatClampNeg (vp_nar .byte p1.toInt8.toInt32))) = some ((0 : Int32), kgW (kgW J2 175 3 (J2 175 3 + 1)) 176 (J2 175 3).toNatClampNeg (vp_nar .byte p1.toInt8.toInt32)) := by
    rw [ek, g5]
    rfl
  rw [← hck]
  refine aw_bastB S hb dJ5_append_3fe6f_41 ?_
  refine aw_goto (tgt := 75) S dJ5_append_3fe6f_42 (by decide) ?_
  refine aw_aload_n S 0 rfl dJ5_append_3fe6f_75 rfl ?_
  refine aw_close ?_
  exact aw_retr S hQ (by decide) (by decide) dJ5_append_3fe6f_76
/-- a number put behind -/
def f_addI (p : Int32) (I : kgM) : Option (Int32 × kgM) :=
  bndC (f_J6_stringSize_0f7a4 p I) (fun d I1 => ck (inb (I 175 3 + d) 35) (ck (decide (I1 175 1 = 0)) (
    bndC (f_J6_getChars_ba4f3 (I 175 3 + d).toNatClampNeg p (I 175 3 + d) I1) (fun _ I2 => bnd (kgW I2 175 3 (I 175 3 + d)) (fun I3 => some (0, I3))))))
set_option maxHeartbeats 4000000 in
set_option maxRecDepth 100000 in
theorem s_J5_addI (hs : kgH) (l : Launch) (p1 : Int32) (I : kgM) : Sdr hs l yJ5_append_c97b9 (kg_ws yJ5_append_c97b9 cJ5_append_c97b9 4 (some (.object "java/lang/AbstractStringBuilder"))) { frames := 6, cells := 1, slots := 34, locals := 200 } [.ref (kgO hs 175), .int p1] I (f_addI p1 I) := by
  refine sd_r (av := fun hs => [.ref (kgO hs 175), .int p1]) (by decide +kernel) (fun hs => Nat.le_of_ble_eq_true rfl) (fun X S hQ => ?_) hs l
  refine aw_sub (L2 := [(0, .ref (kgO (kgHs X) 175)), (1, .int p1)]) [0, 1] rfl ?_
  unfold f_addI
  refine aw_aload_n S 0 rfl dJ5_append_c97b9_0 rfl ?_
  refine aw_getIs S 3 (by decide) (by decide) rfl tw_214 dJ5_append_c97b9_1 ?_
  refine aw_istore_n (L2 := [(0, .ref (kgO (kgHs X) 175)), (1, .int p1), (2, .int (I 175 3))]) S [1, 2, 0] dJ5_append_c97b9_4 rfl (by decide) rfl ?_
  refine aw_iload_n S 2 rfl dJ5_append_c97b9_5 rfl ?_
  refine aw_iload_n S 1 rfl dJ5_append_c97b9_6 rfl ?_
  refine aw_cSi S [.int p1] vw_J6_stringSize_0f7a4 tw_467 (s_J6_stringSize_0f7a4 _ _ _ p1 I) ⟨by decide, by decide⟩ rfl rfl (Nat.le_of_ble_eq_true rfl) rfl rfl (by decide) (by decide) dJ5_append_c97b9_7 (fun x I1 => ?_)
  refine aw_ck (fun h1 => ?_)
  refine aw_ck (fun h2 => ?_)
  have hc : I1 175 1 = 0 := of_decide_eq_true h2
  obtain ⟨k, hk, ek⟩ := kg_small (by decide) h1
  obtain ⟨g1, g2, g3, g4⟩ := ens_small k hk
  have g5 : (nI k).toNatClampNeg = k := nI_clamp (by omega)
  refine aw_iadd S dJ5_append_c97b9_10 ?_
  refine aw_istore_n (L2 := [(0, .ref (kgO (kgHs X) 175)), (1, .int p1), (3, .int (I 175 3 + x))]) S [1, 2, 0] dJ5_append_c97b9_11 rfl (by decide) rfl ?_
  refine aw_aload_n S 0 rfl dJ5_append_c97b9_12 rfl ?_
  refine aw_iload_n S 2 rfl dJ5_append_c97b9_13 rfl ?_
  refine aw_cUe (ce2 := 1) (sl2 := 34) S [.int (I 175 3 + x)] uw_ens sel_ens tw_411 (s_J5_ens _ _ (I 175 3 + x) I1 h1 hc) ⟨by decide, by decide⟩ rfl rfl (Nat.le_of_ble_eq_true rfl) rfl rfl (by decide) (by decide) dJ5_append_c97b9_14 (fun av cap hcap h34 => ?_)
  have hb : (I 175 3 + x).toNatClampNeg ≤ cap := by rw [ek, g4] at hcap; rw [ek, g5]; omega
  refine aw_aload_n S 0 rfl dJ5_append_c97b9_17 rfl ?_
  refine aw_to (f_lat hc) ?_
  refine aw_cUi (ce2 := 1) (sl2 := 34) S [] uw_lat sel_lat tw_442 (s_J5_isLatin1_aae02 _ _ _ I1) ⟨by decide, by decide⟩ rfl rfl (Nat.le_of_ble_eq_true rfl) rfl rfl (by decide) (by decide) dJ5_append_c97b9_18 (fun x2 J => aw_fr (fun hx1 hJ1 => ?_))
  subst hx1
  subst hJ1
  refine aw_if_eqF (y := 0) (tgt := 37) S dJ5_append_c97b9_21 (by decide) (by decide) ?_
  refine aw_iload_n S 1 rfl dJ5_append_c97b9_24 rfl ?_
  refine aw_iload_n S 2 rfl dJ5_append_c97b9_25 rfl ?_
  refine aw_aload_n S 0 rfl dJ5_append_c97b9_26 rfl ?_
  refine aw_getB S tw_210 dJ5_append_c97b9_27 ?_
  refine aw_cSi (ce2 := 1) (sl2 := 34) S [.int p1, .int (I 175 3 + x), .ref av] vw_J6_getChars_ba4f3 tw_470 (s_J6_getChars_ba4f3 _ _ av cap (I 175 3 + x).toNatClampNeg hb p1 (I 175 3 + x) J) ⟨by decide, by decide⟩ rfl rfl (Nat.le_of_ble_eq_true rfl) rfl rfl (by decide) (by decide) dJ5_append_c97b9_30 (fun y I2 => ?_)
  refine aw_pop S dJ5_append_c97b9_33 rfl ?_
  refine aw_goto (tgt := 48) S dJ5_append_c97b9_34 (by decide) ?_
  refine aw_aload_n S 0 rfl dJ5_append_c97b9_48 rfl ?_
  refine aw_iload_n S 2 rfl dJ5_append_c97b9_49 rfl ?_
  refine aw_putIs S 3 (by decide) (by decide) rfl rfl rfl tw_214 dJ5_append_c97b9_50 ?_
  refine aw_aload_n S 0 rfl dJ5_append_c97b9_53 rfl ?_
  refine aw_close ?_
  refine aw_wr (fun I3 => ?_)
  exact aw_retr S hQ (by decide) (by decide) dJ5_append_c97b9_54
set_option maxRecDepth 100000 in
theorem s_J4_addC (hs : kgH) (l : Launch) (p1 : Int32) (I : kgM) : Sdr hs l yJ4_append_cf468 (kg_ws yJ4_append_cf468 cJ4_append_cf468 2 (some (.object "java/lang/StringBuilder"))) { frames := 7, cells := 1, slots := 34, locals := 230 } [.ref (kgO hs 175), .int p1] I (f_addC p1 I) := by
  refine sd_r (av := fun hs => [.ref (kgO hs 175), .int p1]) (by decide +kernel) (fun hs => Nat.le_of_ble_eq_true rfl) (fun X S hQ => ?_) hs l
  refine aw_sub (L2 := [(0, .ref (kgO (kgHs X) 175)), (1, .int p1)]) [0, 1] rfl ?_
  have e : f_addC p1 I = bndC (f_addC p1 I) (fun x J => some (x, J)) := by cases f_addC p1 I <;> rfl
  rw [e]
  refine aw_aload_n S 0 rfl dJ4_append_cf468_0 rfl ?_
  refine aw_iload_n S 1 rfl dJ4_append_cf468_1 rfl ?_
  refine aw_cPr (ce2 := 1) (sl2 := 34) S [.int p1] uw_appC tw_223 (by decide) rfl tw_512 (s_J5_addC _ _ p1 I) ⟨by decide, by decide⟩ rfl rfl (Nat.le_of_ble_eq_true rfl) rfl rfl (by decide) (by decide) dJ4_append_cf468_2 (fun x J => ?_)
  refine aw_pop S dJ4_append_cf468_5 rfl ?_
  refine aw_aload_n S 0 rfl dJ4_append_cf468_6 rfl ?_
  exact aw_retr S hQ (by decide) (by decide) dJ4_append_cf468_7
set_option maxRecDepth 100000 in
theorem s_J4_addI (hs : kgH) (l : Launch) (p1 : Int32) (I : kgM) : Sdr hs l yJ4_append_bf812 (kg_ws yJ4_append_bf812 cJ4_append_bf812 2 (some (.object "java/lang/StringBuilder"))) { frames := 7, cells := 1, slots := 34, locals := 230 } [.ref (kgO hs 175), .int p1] I (f_addI p1 I) := by
  refine sd_r (av := fun hs => [.ref (kgO hs 175), .int p1]) (by decide +kernel) (fun hs => Nat.le_of_ble_eq_true rfl) (fun X S hQ => ?_) hs l
  refine aw_sub (L2 := [(0, .ref (kgO (kgHs X) 175)), (1, .int p1)]) [0, 1] rfl ?_
  have e : f_addI p1 I = bndC (f_addI p1 I) (fun x J => some (x, J)) := by cases f_addI p1 I <;> rfl
  rw [e]
  refine aw_aload_n S 0 rfl dJ4_append_bf812_0 rfl ?_
  refine aw_iload_n S 1 rfl dJ4_append_bf812_1 rfl ?_
  refine aw_cPr (ce2 := 1) (sl2 := 34) S [.int p1] uw_appI tw_223 (by decide) rfl tw_464 (s_J5_addI _ _ p1 I) ⟨by decide, by decide⟩ rfl rfl (Nat.le_of_ble_eq_true rfl) rfl rfl (by decide) (by decide) dJ4_append_bf812_2 (fun x J => ?_)
  refine aw_pop S dJ4_append_bf812_5 rfl ?_
  refine aw_aload_n S 0 rfl dJ4_append_bf812_6 rfl ?_
  exact aw_retr S hQ (by decide) (by decide) dJ4_append_bf812_7
/-- the line made empty -/
def f_setL (I : kgM) : Option (Int32 × kgM) :=
  ck (decide (I 175 1 = 0)) (if I 175 3 < 0 then none else if 0 < I 175 3 then bnd (kgW I 175 2 1) (fun I1 => bnd (kgW I1 175 3 0) (fun I2 => some (0, I2))) else bnd (kgW I 175 3 0) (fun I2 => some (0, I2)))
set_option maxHeartbeats 4000000 in
set_option maxRecDepth 100000 in
theorem s_J5_setL (hs : kgH) (l : Launch) (I : kgM) : Sdv hs l none yJ5_setLength_d00df (kg_ws yJ5_setLength_d00df cJ5_setLength_d00df 2 none) { frames := 6, cells := 1, slots := 34, locals := 200 } [.ref (kgO hs 175), .int 0] I (f_setL I) := by
  refine sd_v (av := fun hs => [.ref (kgO hs 175), .int 0]) (by decide +kernel) (fun hs => Nat.le_of_ble_eq_true rfl) (fun X S hQ => ?_) hs l
  refine aw_sub (L2 := [(0, .ref (kgO (kgHs X) 175)), (1, .int 0)]) [0, 1] rfl ?_
  unfold f_setL
  refine aw_ck (fun h2 => ?_)
  have hc : I 175 1 = 0 := of_decide_eq_true h2
  refine aw_iload_n S 1 rfl dJ5_setLength_d00df_0 rfl ?_
  refine aw_if_geT (y := 0) (tgt := 13) S dJ5_setLength_d00df_1 (by decide) (by decide) ?_
  refine aw_aload_n S 0 rfl dJ5_setLength_d00df_13 rfl ?_
  refine aw_iload_n S 1 rfl dJ5_setLength_d00df_14 rfl ?_
  refine aw_cUe (ce2 := 1) (sl2 := 34) S [.int 0] uw_ens sel_ens tw_411 (s_J5_ens _ _ 0 I (by decide) hc) ⟨by decide, by decide⟩ rfl rfl (Nat.le_of_ble_eq_true rfl) rfl rfl (by decide) (by decide) dJ5_setLength_d00df_15 (fun av cap hcap h34 => ?_)
  refine aw_close ?_
  refine aw_aload_n S 0 rfl dJ5_setLength_d00df_18 rfl ?_
  refine aw_getIs S 3 (by decide) (by decide) rfl tw_214 dJ5_setLength_d00df_19 ?_
  refine aw_iload_n S 1 rfl dJ5_setLength_d00df_22 rfl ?_
  by_cases hlt : I 175 3 < 0
  · rw [if_pos hlt]
    exact aw_none
  · rw [if_neg hlt]
    refine aw_icmp_geT (tgt := 63) S dJ5_setLength_d00df_23 (by decide) (Int32.not_lt.mp hlt) ?_
    refine aw_aload_n S 0 rfl dJ5_setLength_d00df_63 rfl ?_
    refine aw_getIs S 3 (by decide) (by decide) rfl tw_214 dJ5_setLength_d00df_64 ?_
    refine aw_iload_n S 1 rfl dJ5_setLength_d00df_67 rfl ?_
    by_cases hgt : 0 < I 175 3
    · rw [if_pos hgt]
      refine aw_icmp_leF (tgt := 76) S dJ5_setLength_d00df_68 (by decide) (Int32.not_le.mpr hgt) ?_
      refine aw_aload_n S 0 rfl dJ5_setLength_d00df_71 rfl ?_
      refine aw_iconst (v := (1 : Int32)) S dJ5_setLength_d00df_72 (by decide) ?_
      refine aw_putIs S 2 (by decide) (by decide) rfl rfl rfl tw_212 dJ5_setLength_d00df_73 ?_
      refine aw_wr (fun I1 => ?_)
      refine aw_aload_n S 0 rfl dJ5_setLength_d00df_76 rfl ?_
      refine aw_iload_n S 1 rfl dJ5_setLength_d00df_77 rfl ?_
      refine aw_putIs S 3 (by decide) (by decide) rfl rfl rfl tw_214 dJ5_setLength_d00df_78 ?_
      refine aw_wr (fun I2 => ?_)
      exact aw_retv S hQ (by decide) (by decide) dJ5_setLength_d00df_81
    · rw [if_neg hgt]
      refine aw_icmp_leT (tgt := 76) S dJ5_setLength_d00df_68 (by decide) (Int32.not_lt.mp hgt) ?_
      refine aw_aload_n S 0 rfl dJ5_setLength_d00df_76 rfl ?_
      refine aw_iload_n S 1 rfl dJ5_setLength_d00df_77 rfl ?_
      refine aw_putIs S 3 (by decide) (by decide) rfl rfl rfl tw_214 dJ5_setLength_d00df_78 ?_
      refine aw_wr (fun I2 => ?_)
      exact aw_retv S hQ (by decide) (by decide) dJ5_setLength_d00df_81
set_option maxRecDepth 100000 in
theorem s_J4_setL (hs : kgH) (l : Launch) (I : kgM) : Sdv hs l none yJ4_setLength_d00df (kg_ws yJ4_setLength_d00df cJ4_setLength_d00df 2 none) { frames := 7, cells := 1, slots := 34, locals := 230 } [.ref (kgO hs 175), .int 0] I (f_setL I) := by
  refine sd_v (av := fun hs => [.ref (kgO hs 175), .int 0]) (by decide +kernel) (fun hs => Nat.le_of_ble_eq_true rfl) (fun X S hQ => ?_) hs l
  refine aw_sub (L2 := [(0, .ref (kgO (kgHs X) 175)), (1, .int 0)]) [0, 1] rfl ?_
  have e : f_setL I = bndC (f_setL I) (fun x J => some (x, J)) := by cases f_setL I <;> rfl
  rw [e]
  refine aw_aload_n S 0 rfl dJ4_setLength_d00df_0 rfl ?_
  refine aw_iload_n S 1 rfl dJ4_setLength_d00df_1 rfl ?_
  refine aw_cPv (ce2 := 1) (sl2 := 34) S [.int 0] uw_setL tw_223 (by decide) rfl tw_408 (s_J5_setL _ _ I) ⟨by decide, by decide⟩ rfl rfl (Nat.le_of_ble_eq_true rfl) rfl rfl (by decide) (by decide) dJ4_setLength_d00df_2 (fun x J => ?_)
  exact aw_retv S hQ (by decide) (by decide) dJ4_setLength_d00df_5
set_option maxRecDepth 100000 in
theorem s_J4_len (hs : kgH) (l : Launch) (w : Option (Nat × Nat)) (I : kgM) : Sdi hs l w yJ4_length_8abf5 (kg_ws yJ4_length_8abf5 cJ4_length_8abf5 1 (some .int)) { frames := 1, cells := 0, slots := 0, locals := 40 } [.ref (kgO hs 175)] I (f_J5_length_8abf5 I) := by
  refine sd_i (av := fun hs => [.ref (kgO hs 175)]) (by decide +kernel) (fun hs => Nat.le_of_ble_eq_true rfl) (fun X S hQ => ?_) hs l
  refine aw_sub (L2 := [(0, .ref (kgO (kgHs X) 175))]) [0] rfl ?_
  have e : f_J5_length_8abf5 I = bndC (f_J5_length_8abf5 I) (fun x J => some (x, J)) := by cases f_J5_length_8abf5 I <;> rfl
  rw [e]
  refine aw_aload_n S 0 rfl dJ4_length_8abf5_0 rfl ?_
  refine aw_cPi (ce2 := 0) (sl2 := 0) S [] uw_len tw_223 (by decide) rfl tw_557 (s_J5_length_8abf5 _ _ _ I) ⟨by decide, by decide⟩ rfl rfl (Nat.le_of_ble_eq_true rfl) rfl rfl (by decide) (by decide) dJ4_length_8abf5_1 (fun x J => ?_)
  exact aw_ret S hQ (vp_nar_int _) (by decide) (by decide) dJ4_length_8abf5_4
/-- a sign of the line -/
def f_chr (p : Int32) (I : kgM) : Option (Int32 × kgM) :=
  ck (inb p 34) (ck (decide (p < I 175 3)) (ck (decide (I 175 1 = 0)) (ck (decide (p < 16 ∨ I 176 p.toNatClampNeg ≠ 0)) (
    ck (isc ((I 176 p.toNatClampNeg &&& 255).toUInt32 % 65536).toInt32) (some (((I 176 p.toNatClampNeg &&& 255).toUInt32 % 65536).toInt32, I))))))
theorem chr_small : ∀ k, k < 34 → ((nI k < 16) → k < 16) ∧ (nI k).toNatClampNeg = k ∧ (k < 16 → nI k < Int32.ofNat 16 >>> ((0 : Int32) &&& 31)) ∧ nI k < Int32.ofNat 34 >>> ((0 : Int32) &&& 31) ∧ inb (nI k) (k + 1) = true ∧ 0 ≤ nI k := by decide +kernel
theorem f_min (a b : Int32) (I : kgM) : f_J9_min_7cf53 a b I = some (if b < a then b else a, I) := by
  unfold f_J9_min_7cf53
  by_cases h : b < a
  · simp [h]
  · simp [h]

