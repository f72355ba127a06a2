set_option maxHeartbeats 4000000 in
set_option maxRecDepth 100000 in
theorem s_X0_begin (hs : kgH) (l : Launch) (w : Option (Nat × Nat))  (I0 : kgM) : Sdv hs l w yX0_begin (kg_ws yX0_begin cX0_begin 2 none) { frames := 3, cells := 0, slots := 0, locals := 121 } [.ref (kgO hs 31), .ref (kgO hs 1)] I0 (f_X0_begin I0) := by
  refine sd_v (av := fun hs => [.ref (kgO hs 31), .ref (kgO hs 1)]) (by decide +kernel) (fun hs => Nat.le_of_ble_eq_true rfl) (fun X S hQ => ?_) hs l
  refine aw_sub (L2 := [(0, .ref (kgO (kgHs X) 31)), (1, .ref (kgO (kgHs X) 1))]) [0, 1] rfl ?_
  unfold f_X0_begin
  refine aw_aload_n S 0 rfl dX0_begin_0 rfl ?_
  refine aw_getR S 31 0 32 cl_X0 (by decide) (by decide) (by decide) (by decide) (by decide) rfl tw_140 dX0_begin_1 ?_
  refine aw_aload_n S 0 rfl dX0_begin_4 rfl ?_
  refine aw_getI S 31 1 cl_X0 (by decide) (by decide) (by decide) (by decide) rfl tw_141 dX0_begin_5 ?_
  refine aw_aald S dX0_begin_8 (fun hb8 => ?_)
  refine aw_aload_n S 1 rfl dX0_begin_9 rfl ?_
  refine aw_cVv S (33 + 15 * (I0 31 1).toNatClampNeg) [.ref (kgO (kgHs X) 1)] vw_X3_copyFrom cl_X3 (kgSt_h hb8).2.1 (kgSt_h hb8).1 tw_631 (s_X3_copyFrom _ _ _ (33 + 15 * (I0 31 1).toNatClampNeg) 1 I0 (kgSt_h hb8) kgSt_1) ⟨by decide, by decide⟩ rfl rfl (Nat.le_of_ble_eq_true rfl) rfl rfl (by decide) (by decide) dX0_begin_10 (fun x1 I1 => ?_)
  exact aw_retv S hQ (by decide) (by decide) dX0_begin_13
set_option maxHeartbeats 4000000 in
set_option maxRecDepth 100000 in
theorem s_X0_keepBegun (hs : kgH) (l : Launch) (w : Option (Nat × Nat))  (I0 : kgM) : Sdv hs l w yX0_keepBegun (kg_ws yX0_keepBegun cX0_keepBegun 1 none) { frames := 1, cells := 0, slots := 0, locals := 21 } [.ref (kgO hs 31)] I0 (f_X0_keepBegun I0) := by
  refine sd_v (av := fun hs => [.ref (kgO hs 31)]) (by decide +kernel) (fun hs => Nat.le_of_ble_eq_true rfl) (fun X S hQ => ?_) hs l
  refine aw_sub (L2 := [(0, .ref (kgO (kgHs X) 31))]) [0] rfl ?_
  unfold f_X0_keepBegun
  refine aw_aload_n S 0 rfl dX0_keepBegun_0 rfl ?_
  refine aw_aload_n S 0 rfl dX0_keepBegun_1 rfl ?_
  refine aw_getI S 31 1 cl_X0 (by decide) (by decide) (by decide) (by decide) rfl tw_141 dX0_keepBegun_2 ?_
  refine aw_iconst (v := (1 : Int32)) S dX0_keepBegun_5 (by decide) ?_
  refine aw_iadd S dX0_keepBegun_6 ?_
  refine aw_bipush (v := (9 : Int32)) S dX0_keepBegun_7 (by decide) ?_
  refine aw_iremK S dX0_keepBegun_9 (by decide) ?_
  refine aw_putI S 31 1 cl_X0 tyX0_ok nmX0 (by decide) (by decide) (by decide) (by decide) rfl (vp_nar_int _) rfl tw_141 dX0_keepBegun_10 ?_
  refine aw_wr (fun I1 => ?_)
  refine aw_aload_n S 0 rfl dX0_keepBegun_13 rfl ?_
  refine aw_bipush (v := (8 : Int32)) S dX0_keepBegun_14 (by decide) ?_
  refine aw_aload_n S 0 rfl dX0_keepBegun_16 rfl ?_
  refine aw_getI S 31 2 cl_X0 (by decide) (by decide) (by decide) (by decide) rfl tw_142 dX0_keepBegun_17 ?_
  refine aw_iconst (v := (1 : Int32)) S dX0_keepBegun_20 (by decide) ?_
  refine aw_iadd S dX0_keepBegun_21 ?_
  refine aw_cSi S [.int (8 : Int32), .int ((I1 31 2) + (1 : Int32))] vw_J9_min_7cf53 tw_661 (s_J9_min_7cf53 _ _ _ (8 : Int32) ((I1 31 2) + (1 : Int32)) I1) ⟨by decide, by decide⟩ rfl rfl (Nat.le_of_ble_eq_true rfl) rfl rfl (by decide) (by decide) dX0_keepBegun_22 (fun x1 I2 => ?_)
  refine aw_putI S 31 2 cl_X0 tyX0_ok nmX0 (by decide) (by decide) (by decide) (by decide) rfl (vp_nar_int _) rfl tw_142 dX0_keepBegun_25 ?_
  refine aw_wr (fun I3 => ?_)
  exact aw_retv S hQ (by decide) (by decide) dX0_keepBegun_28
set_option maxHeartbeats 4000000 in
set_option maxRecDepth 100000 in
theorem s_J3_checkIndex_8e157 (hs : kgH) (l : Launch) (w : Option (Nat × Nat)) (vq : Value) (hvq : vq = .null ∨ ∃ t, vq = .ref t) (p1 : Int32) (p2 : Int32) (I0 : kgM) : Sdi hs l w yJ3_checkIndex_8e157 (kg_ws yJ3_checkIndex_8e157 cJ3_checkIndex_8e157 3 (some .int)) { frames := 0, cells := 0, slots := 0, locals := 0 } [.int p1, .int p2, vq] I0 (f_J3_checkIndex_8e157 p1 p2 I0) := by
  rcases hvq with rfl | ⟨t, rfl⟩
  · refine sd_i (av := fun hs => [.int p1, .int p2, .null]) (by decide +kernel) (fun hs => Nat.le_of_ble_eq_true rfl) (fun X S hQ => ?_) hs l
    refine aw_sub (L2 := [(0, .int p1), (1, .int p2), (2, .null)]) [0, 1, 2] rfl ?_
    unfold f_J3_checkIndex_8e157
    refine aw_iload_n S 0 rfl dJ3_checkIndex_8e157_0 rfl ?_
    refine aw_if_lt (y := 0) (tgt := 9) S dJ3_checkIndex_8e157_1 (by decide) ?_ ?_
    · exact aw_none
    refine aw_iload_n S 0 rfl dJ3_checkIndex_8e157_4 rfl ?_
    refine aw_iload_n S 1 rfl dJ3_checkIndex_8e157_5 rfl ?_
    refine aw_icmp_lt (tgt := 16) S dJ3_checkIndex_8e157_6 (by decide) ?_ ?_
    · refine aw_iload_n S 0 rfl dJ3_checkIndex_8e157_16 rfl ?_
      exact aw_ret S hQ (vp_nar_int _) (by decide) (by decide) dJ3_checkIndex_8e157_17
    exact aw_none
  · refine sd_i (av := fun hs => [.int p1, .int p2, .ref t]) (by decide +kernel) (fun hs => Nat.le_of_ble_eq_true rfl) (fun X S hQ => ?_) hs l
    refine aw_sub (L2 := [(0, .int p1), (1, .int p2), (2, .ref t)]) [0, 1, 2] rfl ?_
    unfold f_J3_checkIndex_8e157
    refine aw_iload_n S 0 rfl dJ3_checkIndex_8e157_0 rfl ?_
    refine aw_if_lt (y := 0) (tgt := 9) S dJ3_checkIndex_8e157_1 (by decide) ?_ ?_
    · exact aw_none
    refine aw_iload_n S 0 rfl dJ3_checkIndex_8e157_4 rfl ?_
    refine aw_iload_n S 1 rfl dJ3_checkIndex_8e157_5 rfl ?_
    refine aw_icmp_lt (tgt := 16) S dJ3_checkIndex_8e157_6 (by decide) ?_ ?_
    · refine aw_iload_n S 0 rfl dJ3_checkIndex_8e157_16 rfl ?_
      exact aw_ret S hQ (vp_nar_int _) (by decide) (by decide) dJ3_checkIndex_8e157_17
    exact aw_none
set_option maxHeartbeats 4000000 in
set_option maxRecDepth 100000 in
theorem s_J0_checkIndex_df160 (hs : kgH) (l : Launch) (w : Option (Nat × Nat)) (p1 : Int32) (p2 : Int32) (I0 : kgM) : Sdv hs l w yJ0_checkIndex_df160 (kg_ws yJ0_checkIndex_df160 cJ0_checkIndex_df160 2 none) { frames := 1, cells := 0, slots := 0, locals := 22 } [.int p1, .int p2] I0 (f_J0_checkIndex_df160 p1 p2 I0) := by
  refine sd_v (av := fun hs => [.int p1, .int p2]) (by decide +kernel) (fun hs => Nat.le_of_ble_eq_true rfl) (fun X S hQ => ?_) hs l
  refine aw_sub (L2 := [(0, .int p1), (1, .int p2)]) [0, 1] rfl ?_
  unfold f_J0_checkIndex_df160
  refine aw_iload_n S 0 rfl dJ0_checkIndex_df160_0 rfl ?_
  refine aw_iload_n S 1 rfl dJ0_checkIndex_df160_1 rfl ?_
  refine aw_getSI S tw_489 dJ0_checkIndex_df160_2 (fun vq hvq => ?_)
  refine aw_cSi S [.int p1, .int p2, vq] vw_J3_checkIndex_8e157 tw_546 (s_J3_checkIndex_8e157 _ _ _ vq hvq p1 p2 I0) ⟨by decide, by decide⟩ rfl rfl (Nat.le_of_ble_eq_true rfl) rfl rfl (by decide) (by decide) dJ0_checkIndex_df160_5 (fun x1 I1 => ?_)
  refine aw_pop S dJ0_checkIndex_df160_8 rfl ?_
  exact aw_retv S hQ (by decide) (by decide) dJ0_checkIndex_df160_9
set_option maxHeartbeats 4000000 in
set_option maxRecDepth 100000 in
theorem s_X2_putAhead_L2 {X : kgCX (Int32 × kgM)} {w : Option (Nat × Nat)} (S : Cx X cX2_putAhead RX2 4 1 21 0 0) (hQ : Qxv X w) (a1 : Int32) (a2 : Int32) {K : kgM → Option (Int32 × kgM)} (hK : ∀  (J : kgM), AW X 4 0 0 w (K J) 40 [(0, .ref (kgO (kgHs X) 168)), (1, .int a1), (2, .int a2)] [] J) : ∀ (q : Nat) (x3h2 : Int32) (Ih2 : kgM), AW X 4 0 0 w (f_X2_putAhead_L2 a1 a2 K q x3h2 Ih2) 2 [(0, .ref (kgO (kgHs X) 168)), (1, .int a1), (2, .int a2), (3, .int x3h2)] [] Ih2 := by
  intro q
  induction q with
  | zero => intros; exact aw_none
  | succ q ih =>
    intro x3h2 Ih2
    rw [f_X2_putAhead_L2]
    refine aw_iload_n S 3 rfl dX2_putAhead_2 rfl ?_
    refine aw_if_le (y := 0) (tgt := 40) S dX2_putAhead_3 (by decide) ?_ ?_
    · refine aw_sub (L2 := [(0, .ref (kgO (kgHs X) 168)), (1, .int a1), (2, .int a2)]) [0, 1, 2] rfl ?_
      exact hK Ih2
    refine aw_aload_n S 0 rfl dX2_putAhead_6 rfl ?_
    refine aw_getR S 168 0 169 cl_X2 (by decide) (by decide) (by decide) (by decide) (by decide) rfl tw_157 dX2_putAhead_7 ?_
    refine aw_iload_n S 3 rfl dX2_putAhead_10 rfl ?_
    refine aw_aload_n S 0 rfl dX2_putAhead_11 rfl ?_
    refine aw_getR S 168 0 169 cl_X2 (by decide) (by decide) (by decide) (by decide) (by decide) rfl tw_157 dX2_putAhead_12 ?_
    refine aw_iload_n S 3 rfl dX2_putAhead_15 rfl ?_
    refine aw_iconst (v := (1 : Int32)) S dX2_putAhead_16 (by decide) ?_
    refine aw_isub S dX2_putAhead_17 ?_
    refine aw_iald S 169 3 (by decide) (by decide) dX2_putAhead_18 ?_
    refine aw_iast S 169 3 (by decide) (by decide) dX2_putAhead_19 ?_
    refine aw_wr (fun I1 => ?_)
    refine aw_aload_n S 0 rfl dX2_putAhead_20 rfl ?_
    refine aw_getR S 168 1 170 cl_X2 (by decide) (by decide) (by decide) (by decide) (by decide) rfl tw_158 dX2_putAhead_21 ?_
    refine aw_iload_n S 3 rfl dX2_putAhead_24 rfl ?_
    refine aw_aload_n S 0 rfl dX2_putAhead_25 rfl ?_
    refine aw_getR S 168 1 170 cl_X2 (by decide) (by decide) (by decide) (by decide) (by decide) rfl tw_158 dX2_putAhead_26 ?_
    refine aw_iload_n S 3 rfl dX2_putAhead_29 rfl ?_
    refine aw_iconst (v := (1 : Int32)) S dX2_putAhead_30 (by decide) ?_
    refine aw_isub S dX2_putAhead_31 ?_
    refine aw_iald S 170 3 (by decide) (by decide) dX2_putAhead_32 ?_
    refine aw_iast S 170 3 (by decide) (by decide) dX2_putAhead_33 ?_
    refine aw_wr (fun I2 => ?_)
    refine aw_iinc (v := x3h2 + (-1 : Int32)) (L2 := [(0, .ref (kgO (kgHs X) 168)), (1, .int a1), (2, .int a2), (3, .int (x3h2 + (-1 : Int32)))]) S [1, 2, 3, 0] 3 dX2_putAhead_34 rfl rfl (by decide) rfl ?_
    refine aw_let (Lf := fun x1 => [(0, .ref (kgO (kgHs X) 168)), (1, .int a1), (2, .int a2), (3, .int x1)]) (x3h2 + (-1 : Int32)) (fun x1 => ?_)
    refine aw_goto (tgt := 2) S dX2_putAhead_37 (by decide) ?_
    exact ih x1 I2
set_option maxHeartbeats 4000000 in
set_option maxRecDepth 100000 in
theorem s_X2_putAhead (hs : kgH) (l : Launch) (w : Option (Nat × Nat)) (p1 : Int32) (p2 : Int32) (I0 : kgM) : Sdv hs l w yX2_putAhead (kg_ws yX2_putAhead cX2_putAhead 4 none) { frames := 1, cells := 0, slots := 0, locals := 21 } [.ref (kgO hs 168), .int p1, .int p2] I0 (f_X2_putAhead p1 p2 I0) := by
  refine sd_v (av := fun hs => [.ref (kgO hs 168), .int p1, .int p2]) (by decide +kernel) (fun hs => Nat.le_of_ble_eq_true rfl) (fun X S hQ => ?_) hs l
  refine aw_sub (L2 := [(0, .ref (kgO (kgHs X) 168)), (1, .int p1), (2, .int p2)]) [0, 1, 2] rfl ?_
  unfold f_X2_putAhead
  refine aw_iconst (v := (2 : Int32)) S dX2_putAhead_0 (by decide) ?_
  refine aw_istore_n (L2 := [(0, .ref (kgO (kgHs X) 168)), (1, .int p1), (2, .int p2), (3, .int (2 : Int32))]) S [1, 2, 3, 0] dX2_putAhead_1 rfl (by decide) rfl ?_
  refine s_X2_putAhead_L2 S hQ p1 p2 (fun I3 => ?_) 200 (2 : Int32) I0
  refine aw_aload_n S 0 rfl dX2_putAhead_40 rfl ?_
  refine aw_getR S 168 0 169 cl_X2 (by decide) (by decide) (by decide) (by decide) (by decide) rfl tw_157 dX2_putAhead_41 ?_
  refine aw_iconst (v := (0 : Int32)) S dX2_putAhead_44 (by decide) ?_
  refine aw_iload_n S 1 rfl dX2_putAhead_45 rfl ?_
  refine aw_iast S 169 3 (by decide) (by decide) dX2_putAhead_46 ?_
  refine aw_wr (fun I4 => ?_)
  refine aw_aload_n S 0 rfl dX2_putAhead_47 rfl ?_
  refine aw_getR S 168 1 170 cl_X2 (by decide) (by decide) (by decide) (by decide) (by decide) rfl tw_158 dX2_putAhead_48 ?_
  refine aw_iconst (v := (0 : Int32)) S dX2_putAhead_51 (by decide) ?_
  refine aw_iload_n S 2 rfl dX2_putAhead_52 rfl ?_
  refine aw_iast S 170 3 (by decide) (by decide) dX2_putAhead_53 ?_
  refine aw_wr (fun I5 => ?_)
  refine aw_aload_n S 0 rfl dX2_putAhead_54 rfl ?_
  refine aw_iconst (v := (3 : Int32)) S dX2_putAhead_55 (by decide) ?_
  refine aw_aload_n S 0 rfl dX2_putAhead_56 rfl ?_
  refine aw_getI S 168 2 cl_X2 (by decide) (by decide) (by decide) (by decide) rfl tw_159 dX2_putAhead_57 ?_
  refine aw_iconst (v := (1 : Int32)) S dX2_putAhead_60 (by decide) ?_
  refine aw_iadd S dX2_putAhead_61 ?_
  refine aw_cSi S [.int (3 : Int32), .int ((I5 168 2) + (1 : Int32))] vw_J9_min_7cf53 tw_652 (s_J9_min_7cf53 _ _ _ (3 : Int32) ((I5 168 2) + (1 : Int32)) I5) ⟨by decide, by decide⟩ rfl rfl (Nat.le_of_ble_eq_true rfl) rfl rfl (by decide) (by decide) dX2_putAhead_62 (fun x2 I6 => ?_)
  refine aw_putI S 168 2 cl_X2 tyX2_ok nmX2 (by decide) (by decide) (by decide) (by decide) rfl (vp_nar_int _) rfl tw_159 dX2_putAhead_65 ?_
  refine aw_wr (fun I7 => ?_)
  exact aw_retv S hQ (by decide) (by decide) dX2_putAhead_68
set_option maxHeartbeats 4000000 in
set_option maxRecDepth 100000 in
theorem s_X3_addKettle (hs : kgH) (l : Launch) (w : Option (Nat × Nat)) (p1 : Int32) (p2 : Int32) (p3 : Int32) (I0 : kgM) : Sdi hs l w yX3_addKettle (kg_ws yX3_addKettle cX3_addKettle 5 (some .int)) { frames := 0, cells := 0, slots := 0, locals := 0 } [.ref (kgO hs 1), .int p1, .int p2, .int p3] I0 (f_X3_addKettle p1 p2 p3 I0) := by
  refine sd_i (av := fun hs => [.ref (kgO hs 1), .int p1, .int p2, .int p3]) (by decide +kernel) (fun hs => Nat.le_of_ble_eq_true rfl) (fun X S hQ => ?_) hs l
  refine aw_sub (L2 := [(0, .ref (kgO (kgHs X) 1)), (1, .int p1), (2, .int p2), (3, .int p3)]) [0, 1, 2, 3] rfl ?_
  unfold f_X3_addKettle
  refine aw_aload_n S 0 rfl dX3_addKettle_0 rfl ?_
  refine aw_getI S 1 14 cl_X3 (by decide) (by decide) (by decide) (by decide) rfl tw_85 dX3_addKettle_1 ?_
  refine aw_istore (L2 := [(0, .ref (kgO (kgHs X) 1)), (1, .int p1), (2, .int p2), (3, .int p3), (4, .int (I0 1 14))]) S [1, 2, 3, 4, 0] dX3_addKettle_4 (by decide) rfl ?_
  refine aw_let (Lf := fun x1 => [(0, .ref (kgO (kgHs X) 1)), (1, .int p1), (2, .int p2), (3, .int p3), (4, .int x1)]) (I0 1 14) (fun x1 => ?_)
  refine aw_aload_n S 0 rfl dX3_addKettle_6 rfl ?_
  refine aw_getR S 1 5 7 cl_X3 (by decide) (by decide) (by decide) (by decide) (by decide) rfl tw_67 dX3_addKettle_7 ?_
  refine aw_iload S 4 rfl dX3_addKettle_10 ?_
  refine aw_iload_n S 1 rfl dX3_addKettle_12 rfl ?_
  refine aw_iast S 7 10 (by decide) (by decide) dX3_addKettle_13 ?_
  refine aw_wr (fun I1 => ?_)
  refine aw_aload_n S 0 rfl dX3_addKettle_14 rfl ?_
  refine aw_getR S 1 6 8 cl_X3 (by decide) (by decide) (by decide) (by decide) (by decide) rfl tw_69 dX3_addKettle_15 ?_
  refine aw_iload S 4 rfl dX3_addKettle_18 ?_
  refine aw_iload_n S 2 rfl dX3_addKettle_20 rfl ?_
  refine aw_iast S 8 10 (by decide) (by decide) dX3_addKettle_21 ?_
  refine aw_wr (fun I2 => ?_)
  refine aw_aload_n S 0 rfl dX3_addKettle_22 rfl ?_
  refine aw_getR S 1 7 9 cl_X3 (by decide) (by decide) (by decide) (by decide) (by decide) rfl tw_71 dX3_addKettle_23 ?_
  refine aw_iload S 4 rfl dX3_addKettle_26 ?_
  refine aw_iload_n S 3 rfl dX3_addKettle_28 rfl ?_
  refine aw_iast S 9 10 (by decide) (by decide) dX3_addKettle_29 ?_
  refine aw_wr (fun I3 => ?_)
  refine aw_aload_n S 0 rfl dX3_addKettle_30 rfl ?_
  refine aw_getR S 1 8 10 cl_X3 (by decide) (by decide) (by decide) (by decide) (by decide) rfl tw_73 dX3_addKettle_31 ?_
  refine aw_iload S 4 rfl dX3_addKettle_34 ?_
  refine aw_bipush (v := (20 : Int32)) S dX3_addKettle_36 (by decide) ?_
  refine aw_iast S 10 10 (by decide) (by decide) dX3_addKettle_38 ?_
  refine aw_wr (fun I4 => ?_)
  refine aw_aload_n S 0 rfl dX3_addKettle_39 rfl ?_
  refine aw_getR S 1 9 11 cl_X3 (by decide) (by decide) (by decide) (by decide) (by decide) rfl tw_75 dX3_addKettle_40 ?_
  refine aw_iload S 4 rfl dX3_addKettle_43 ?_
  refine aw_iconst (v := (-1 : Int32)) S dX3_addKettle_45 (by decide) ?_
  refine aw_iast S 11 10 (by decide) (by decide) dX3_addKettle_46 ?_
  refine aw_wr (fun I5 => ?_)
  refine aw_aload_n S 0 rfl dX3_addKettle_47 rfl ?_
  refine aw_getR S 1 10 12 cl_X3 (by decide) (by decide) (by decide) (by decide) (by decide) rfl tw_77 dX3_addKettle_48 ?_
  refine aw_iload S 4 rfl dX3_addKettle_51 ?_
  refine aw_iconst (v := (0 : Int32)) S dX3_addKettle_53 (by decide) ?_
  refine aw_iast S 12 10 (by decide) (by decide) dX3_addKettle_54 ?_
  refine aw_wr (fun I6 => ?_)
  refine aw_aload_n S 0 rfl dX3_addKettle_55 rfl ?_
  refine aw_getR S 1 11 13 cl_X3 (by decide) (by decide) (by decide) (by decide) (by decide) rfl tw_79 dX3_addKettle_56 ?_
  refine aw_iload S 4 rfl dX3_addKettle_59 ?_
  refine aw_iconst (v := (1 : Int32)) S dX3_addKettle_61 (by decide) ?_
  refine aw_iast S 13 10 (by decide) (by decide) dX3_addKettle_62 ?_
  refine aw_wr (fun I7 => ?_)
  refine aw_aload_n S 0 rfl dX3_addKettle_63 rfl ?_
  refine aw_getR S 1 12 14 cl_X3 (by decide) (by decide) (by decide) (by decide) (by decide) rfl tw_81 dX3_addKettle_64 ?_
  refine aw_iload S 4 rfl dX3_addKettle_67 ?_
  refine aw_iconst (v := (0 : Int32)) S dX3_addKettle_69 (by decide) ?_
  refine aw_iast S 14 10 (by decide) (by decide) dX3_addKettle_70 ?_
  refine aw_wr (fun I8 => ?_)
  refine aw_aload_n S 0 rfl dX3_addKettle_71 rfl ?_
  refine aw_getR S 1 13 15 cl_X3 (by decide) (by decide) (by decide) (by decide) (by decide) rfl tw_83 dX3_addKettle_72 ?_
  refine aw_iload S 4 rfl dX3_addKettle_75 ?_
  refine aw_iconst (v := (0 : Int32)) S dX3_addKettle_77 (by decide) ?_
  refine aw_iast S 15 10 (by decide) (by decide) dX3_addKettle_78 ?_
  refine aw_wr (fun I9 => ?_)
  refine aw_aload_n S 0 rfl dX3_addKettle_79 rfl ?_
  refine aw_dup S dX3_addKettle_80 rfl ?_
  refine aw_getI S 1 14 cl_X3 (by decide) (by decide) (by decide) (by decide) rfl tw_85 dX3_addKettle_81 ?_
  refine aw_iconst (v := (1 : Int32)) S dX3_addKettle_84 (by decide) ?_
  refine aw_iadd S dX3_addKettle_85 ?_
  refine aw_putI S 1 14 cl_X3 tyX3_ok nmX3 (by decide) (by decide) (by decide) (by decide) rfl (vp_nar_int _) rfl tw_85 dX3_addKettle_86 ?_
  refine aw_wr (fun I10 => ?_)
  refine aw_aload_n S 0 rfl dX3_addKettle_89 rfl ?_
  refine aw_dup S dX3_addKettle_90 rfl ?_
  refine aw_getI S 1 16 cl_X3 (by decide) (by decide) (by decide) (by decide) rfl tw_89 dX3_addKettle_91 ?_
  refine aw_iload_n S 3 rfl dX3_addKettle_94 rfl ?_
  refine aw_iadd S dX3_addKettle_95 ?_
  refine aw_putI S 1 16 cl_X3 tyX3_ok nmX3 (by decide) (by decide) (by decide) (by decide) rfl (vp_nar_int _) rfl tw_89 dX3_addKettle_96 ?_
  refine aw_wr (fun I11 => ?_)
  refine aw_iload S 4 rfl dX3_addKettle_99 ?_
  exact aw_ret S hQ (vp_nar_int _) (by decide) (by decide) dX3_addKettle_101
set_option maxHeartbeats 4000000 in
set_option maxRecDepth 100000 in
theorem s_X3_barLid (hs : kgH) (l : Launch) (w : Option (Nat × Nat)) (p1 : Int32) (I0 : kgM) : Sdv hs l w yX3_barLid (kg_ws yX3_barLid cX3_barLid 2 none) { frames := 0, cells := 0, slots := 0, locals := 0 } [.ref (kgO hs 1), .int p1] I0 (f_X3_barLid p1 I0) := by
  refine sd_v (av := fun hs => [.ref (kgO hs 1), .int p1]) (by decide +kernel) (fun hs => Nat.le_of_ble_eq_true rfl) (fun X S hQ => ?_) hs l
  refine aw_sub (L2 := [(0, .ref (kgO (kgHs X) 1)), (1, .int p1)]) [0, 1] rfl ?_
  unfold f_X3_barLid
  refine aw_aload_n S 0 rfl dX3_barLid_0 rfl ?_
  refine aw_getR S 1 11 13 cl_X3 (by decide) (by decide) (by decide) (by decide) (by decide) rfl tw_79 dX3_barLid_1 ?_
  refine aw_iload_n S 1 rfl dX3_barLid_4 rfl ?_
  refine aw_iconst (v := (0 : Int32)) S dX3_barLid_5 (by decide) ?_
  refine aw_iast S 13 10 (by decide) (by decide) dX3_barLid_6 ?_
  refine aw_wr (fun I1 => ?_)
  refine aw_aload_n S 0 rfl dX3_barLid_7 rfl ?_
  refine aw_getR S 1 12 14 cl_X3 (by decide) (by decide) (by decide) (by decide) (by decide) rfl tw_81 dX3_barLid_8 ?_
  refine aw_iload_n S 1 rfl dX3_barLid_11 rfl ?_
  refine aw_iconst (v := (1 : Int32)) S dX3_barLid_12 (by decide) ?_
  refine aw_iast S 14 10 (by decide) (by decide) dX3_barLid_13 ?_
  refine aw_wr (fun I2 => ?_)
  refine aw_aload_n S 0 rfl dX3_barLid_14 rfl ?_
  refine aw_getR S 1 13 15 cl_X3 (by decide) (by decide) (by decide) (by decide) (by decide) rfl tw_83 dX3_barLid_15 ?_
  refine aw_iload_n S 1 rfl dX3_barLid_18 rfl ?_
  refine aw_iconst (v := (0 : Int32)) S dX3_barLid_19 (by decide) ?_
  refine aw_iast S 15 10 (by decide) (by decide) dX3_barLid_20 ?_
  refine aw_wr (fun I3 => ?_)
  exact aw_retv S hQ (by decide) (by decide) dX3_barLid_21
set_option maxHeartbeats 4000000 in
set_option maxRecDepth 100000 in
theorem s_X3_heatUnder (hs : kgH) (l : Launch) (w : Option (Nat × Nat)) (p1 : Int32) (I0 : kgM) : Sdi hs l w yX3_heatUnder (kg_ws yX3_heatUnder cX3_heatUnder 3 (some .int)) { frames := 0, cells := 0, slots := 0, locals := 0 } [.ref (kgO hs 1), .int p1] I0 (f_X3_heatUnder p1 I0) := by
  refine sd_i (av := fun hs => [.ref (kgO hs 1), .int p1]) (by decide +kernel) (fun hs => Nat.le_of_ble_eq_true rfl) (fun X S hQ => ?_) hs l
  refine aw_sub (L2 := [(0, .ref (kgO (kgHs X) 1)), (1, .int p1)]) [0, 1] rfl ?_
  unfold f_X3_heatUnder
  refine aw_aload_n S 0 rfl dX3_heatUnder_0 rfl ?_
  refine aw_getR S 1 9 11 cl_X3 (by decide) (by decide) (by decide) (by decide) (by decide) rfl tw_75 dX3_heatUnder_1 ?_
  refine aw_iload_n S 1 rfl dX3_heatUnder_4 rfl ?_
  refine aw_iald S 11 10 (by decide) (by decide) dX3_heatUnder_5 ?_
  refine aw_istore_n (L2 := [(0, .ref (kgO (kgHs X) 1)), (1, .int p1), (2, .int (I0 11 p1.toNatClampNeg))]) S [1, 2, 0] dX3_heatUnder_6 rfl (by decide) rfl ?_
  refine aw_let (Lf := fun x1 => [(0, .ref (kgO (kgHs X) 1)), (1, .int p1), (2, .int x1)]) (I0 11 p1.toNatClampNeg) (fun x1 => ?_)
  refine aw_iload_n S 2 rfl dX3_heatUnder_7 rfl ?_
  refine aw_if_lt (y := 0) (tgt := 26) S dX3_heatUnder_8 (by decide) ?_ ?_
  · refine aw_iconst (v := (0 : Int32)) S dX3_heatUnder_26 (by decide) ?_
    exact aw_ret S hQ (vp_nar_int _) (by decide) (by decide) dX3_heatUnder_27
  refine aw_iload_n S 2 rfl dX3_heatUnder_11 rfl ?_
  refine aw_bipush (v := (6 : Int32)) S dX3_heatUnder_12 (by decide) ?_
  refine aw_icmp_ge (tgt := 26) S dX3_heatUnder_14 (by decide) ?_ ?_
  · refine aw_iconst (v := (0 : Int32)) S dX3_heatUnder_26 (by decide) ?_
    exact aw_ret S hQ (vp_nar_int _) (by decide) (by decide) dX3_heatUnder_27
  refine aw_aload_n S 0 rfl dX3_heatUnder_17 rfl ?_
  refine aw_getR S 1 4 6 cl_X3 (by decide) (by decide) (by decide) (by decide) (by decide) rfl tw_65 dX3_heatUnder_18 ?_
  refine aw_iload_n S 2 rfl dX3_heatUnder_21 rfl ?_
  refine aw_iald S 6 6 (by decide) (by decide) dX3_heatUnder_22 ?_
  refine aw_goto (tgt := 27) S dX3_heatUnder_23 (by decide) ?_
  exact aw_ret S hQ (vp_nar_int _) (by decide) (by decide) dX3_heatUnder_27
set_option maxHeartbeats 4000000 in
set_option maxRecDepth 100000 in
theorem s_X3_boils (hs : kgH) (l : Launch) (w : Option (Nat × Nat)) (p1 : Int32) (I0 : kgM) : Sdi hs l w yX3_boils (kg_ws yX3_boils cX3_boils 2 (some .boolean)) { frames := 1, cells := 0, slots := 0, locals := 22 } [.ref (kgO hs 1), .int p1] I0 (f_X3_boils p1 I0) := by
  refine sd_i (av := fun hs => [.ref (kgO hs 1), .int p1]) (by decide +kernel) (fun hs => Nat.le_of_ble_eq_true rfl) (fun X S hQ => ?_) hs l
  refine aw_sub (L2 := [(0, .ref (kgO (kgHs X) 1)), (1, .int p1)]) [0, 1] rfl ?_
  unfold f_X3_boils
  refine aw_aload_n S 0 rfl dX3_boils_0 rfl ?_
  refine aw_iload_n S 1 rfl dX3_boils_1 rfl ?_
  refine aw_cVi S 1 [.int p1] vw_X3_heatUnder cl_X3 (by decide) (by decide) tw_268 (s_X3_heatUnder _ _ _ p1 I0) ⟨by decide, by decide⟩ rfl rfl (Nat.le_of_ble_eq_true rfl) rfl rfl (by decide) (by decide) dX3_boils_2 (fun x1 I1 => ?_)
  refine aw_if_le (y := 0) (tgt := 23) S dX3_boils_5 (by decide) ?_ ?_
  · refine aw_iconst (v := (0 : Int32)) S dX3_boils_23 (by decide) ?_
    exact aw_ret S hQ rfl (by decide) (by decide) dX3_boils_24
  refine aw_aload_n S 0 rfl dX3_boils_8 rfl ?_
  refine aw_getR S 1 8 10 cl_X3 (by decide) (by decide) (by decide) (by decide) (by decide) rfl tw_73 dX3_boils_9 ?_
  refine aw_iload_n S 1 rfl dX3_boils_12 rfl ?_
  refine aw_iald S 10 10 (by decide) (by decide) dX3_boils_13 ?_
  refine aw_bipush (v := (100 : Int32)) S dX3_boils_14 (by decide) ?_
  refine aw_icmp_ne (tgt := 23) S dX3_boils_16 (by decide) ?_ ?_
  · refine aw_iconst (v := (0 : Int32)) S dX3_boils_23 (by decide) ?_
    exact aw_ret S hQ rfl (by decide) (by decide) dX3_boils_24
  refine aw_iconst (v := (1 : Int32)) S dX3_boils_19 (by decide) ?_
  refine aw_goto (tgt := 24) S dX3_boils_20 (by decide) ?_
  exact aw_ret S hQ rfl (by decide) (by decide) dX3_boils_24
set_option maxHeartbeats 4000000 in
set_option maxRecDepth 100000 in
theorem s_X3_changeTemperature (hs : kgH) (l : Launch) (w : Option (Nat × Nat)) (p1 : Int32) (I0 : kgM) : Sdv hs l w yX3_changeTemperature (kg_ws yX3_changeTemperature cX3_changeTemperature 2 none) { frames := 1, cells := 0, slots := 0, locals := 22 } [.ref (kgO hs 1), .int p1] I0 (f_X3_changeTemperature p1 I0) := by
  refine sd_v (av := fun hs => [.ref (kgO hs 1), .int p1]) (by decide +kernel) (fun hs => Nat.le_of_ble_eq_true rfl) (fun X S hQ => ?_) hs l
  refine aw_sub (L2 := [(0, .ref (kgO (kgHs X) 1)), (1, .int p1)]) [0, 1] rfl ?_
  unfold f_X3_changeTemperature
  refine aw_aload_n S 0 rfl dX3_changeTemperature_0 rfl ?_
  refine aw_getR S 1 9 11 cl_X3 (by decide) (by decide) (by decide) (by decide) (by decide) rfl tw_75 dX3_changeTemperature_1 ?_
  refine aw_iload_n S 1 rfl dX3_changeTemperature_4 rfl ?_
  refine aw_iald S 11 10 (by decide) (by decide) dX3_changeTemperature_5 ?_
  refine aw_iconst (v := (-1 : Int32)) S dX3_changeTemperature_6 (by decide) ?_
  refine aw_icmp_ne (tgt := 32) S dX3_changeTemperature_7 (by decide) ?_ ?_
  · refine aw_aload_n S 0 rfl dX3_changeTemperature_32 rfl ?_
    refine aw_getR S 1 8 10 cl_X3 (by decide) (by decide) (by decide) (by decide) (by decide) rfl tw_73 dX3_changeTemperature_33 ?_
    refine aw_iload_n S 1 rfl dX3_changeTemperature_36 rfl ?_
    refine aw_bipush (v := (100 : Int32)) S dX3_changeTemperature_37 (by decide) ?_
    refine aw_aload_n S 0 rfl dX3_changeTemperature_39 rfl ?_
    refine aw_getR S 1 8 10 cl_X3 (by decide) (by decide) (by decide) (by decide) (by decide) rfl tw_73 dX3_changeTemperature_40 ?_
    refine aw_iload_n S 1 rfl dX3_changeTemperature_43 rfl ?_
    refine aw_iald S 10 10 (by decide) (by decide) dX3_changeTemperature_44 ?_
    refine aw_iconst (v := (5 : Int32)) S dX3_changeTemperature_45 (by decide) ?_
    refine aw_aload_n S 0 rfl dX3_changeTemperature_46 rfl ?_
    refine aw_iload_n S 1 rfl dX3_changeTemperature_47 rfl ?_
    refine aw_cVi S 1 [.int p1] vw_X3_heatUnder cl_X3 (by decide) (by decide) tw_268 (s_X3_heatUnder _ _ _ p1 I0) ⟨by decide, by decide⟩ rfl rfl (Nat.le_of_ble_eq_true rfl) rfl rfl (by decide) (by decide) dX3_changeTemperature_48 (fun x1 I1 => ?_)
    refine aw_imul S dX3_changeTemperature_51 ?_
    refine aw_iadd S dX3_changeTemperature_52 ?_
    refine aw_cSi S [.int (100 : Int32), .int ((I0 10 p1.toNatClampNeg) + ((5 : Int32) * x1))] vw_J9_min_7cf53 tw_638 (s_J9_min_7cf53 _ _ _ (100 : Int32) ((I0 10 p1.toNatClampNeg) + ((5 : Int32) * x1)) I1) ⟨by decide, by decide⟩ rfl rfl (Nat.le_of_ble_eq_true rfl) rfl rfl (by decide) (by decide) dX3_changeTemperature_53 (fun x2 I2 => ?_)
    refine aw_iast S 10 10 (by decide) (by decide) dX3_changeTemperature_56 ?_
    refine aw_wr (fun I3 => ?_)
    exact aw_retv S hQ (by decide) (by decide) dX3_changeTemperature_57
  refine aw_aload_n S 0 rfl dX3_changeTemperature_10 rfl ?_
  refine aw_getR S 1 8 10 cl_X3 (by decide) (by decide) (by decide) (by decide) (by decide) rfl tw_73 dX3_changeTemperature_11 ?_
  refine aw_iload_n S 1 rfl dX3_changeTemperature_14 rfl ?_
  refine aw_bipush (v := (20 : Int32)) S dX3_changeTemperature_15 (by decide) ?_
  refine aw_aload_n S 0 rfl dX3_changeTemperature_17 rfl ?_
  refine aw_getR S 1 8 10 cl_X3 (by decide) (by decide) (by decide) (by decide) (by decide) rfl tw_73 dX3_changeTemperature_18 ?_
  refine aw_iload_n S 1 rfl dX3_changeTemperature_21 rfl ?_
  refine aw_iald S 10 10 (by decide) (by decide) dX3_changeTemperature_22 ?_
  refine aw_iconst (v := (5 : Int32)) S dX3_changeTemperature_23 (by decide) ?_
  refine aw_isub S dX3_changeTemperature_24 ?_
  refine aw_cSi S [.int (20 : Int32), .int ((I0 10 p1.toNatClampNeg) - (5 : Int32))] vw_J9_max_7cf53 tw_764 (s_J9_max_7cf53 _ _ _ (20 : Int32) ((I0 10 p1.toNatClampNeg) - (5 : Int32)) I0) ⟨by decide, by decide⟩ rfl rfl (Nat.le_of_ble_eq_true rfl) rfl rfl (by decide) (by decide) dX3_changeTemperature_25 (fun x3 I4 => ?_)
  refine aw_iast S 10 10 (by decide) (by decide) dX3_changeTemperature_28 ?_
  refine aw_wr (fun I5 => ?_)
  refine aw_goto (tgt := 57) S dX3_changeTemperature_29 (by decide) ?_
  exact aw_retv S hQ (by decide) (by decide) dX3_changeTemperature_57
set_option maxHeartbeats 4000000 in
set_option maxRecDepth 100000 in
theorem s_X3_boilDry (hs : kgH) (l : Launch) (w : Option (Nat × Nat)) (p1 : Int32) (I0 : kgM) : Sdv hs l w yX3_boilDry (kg_ws yX3_boilDry cX3_boilDry 3 none) { frames := 0, cells := 0, slots := 0, locals := 0 } [.ref (kgO hs 1), .int p1] I0 (f_X3_boilDry p1 I0) := by
  refine sd_v (av := fun hs => [.ref (kgO hs 1), .int p1]) (by decide +kernel) (fun hs => Nat.le_of_ble_eq_true rfl) (fun X S hQ => ?_) hs l
  refine aw_sub (L2 := [(0, .ref (kgO (kgHs X) 1)), (1, .int p1)]) [0, 1] rfl ?_
  unfold f_X3_boilDry
  refine aw_aload_n S 0 rfl dX3_boilDry_0 rfl ?_
  refine aw_getR S 1 5 7 cl_X3 (by decide) (by decide) (by decide) (by decide) (by decide) rfl tw_67 dX3_boilDry_1 ?_
  refine aw_iload_n S 1 rfl dX3_boilDry_4 rfl ?_
  refine aw_iald S 7 10 (by decide) (by decide) dX3_boilDry_5 ?_
  refine aw_istore_n (L2 := [(0, .ref (kgO (kgHs X) 1)), (1, .int p1), (2, .int (I0 7 p1.toNatClampNeg))]) S [1, 2, 0] dX3_boilDry_6 rfl (by decide) rfl ?_
  refine aw_let (Lf := fun x1 => [(0, .ref (kgO (kgHs X) 1)), (1, .int p1), (2, .int x1)]) (I0 7 p1.toNatClampNeg) (fun x1 => ?_)
  refine aw_aload_n S 0 rfl dX3_boilDry_7 rfl ?_
  refine aw_getR S 1 9 11 cl_X3 (by decide) (by decide) (by decide) (by decide) (by decide) rfl tw_75 dX3_boilDry_8 ?_
  refine aw_iload_n S 1 rfl dX3_boilDry_11 rfl ?_
  refine aw_iconst (v := (-1 : Int32)) S dX3_boilDry_12 (by decide) ?_
  refine aw_iast S 11 10 (by decide) (by decide) dX3_boilDry_13 ?_
  refine aw_wr (fun I1 => ?_)
  refine aw_aload_n S 0 rfl dX3_boilDry_14 rfl ?_
  refine aw_getR S 1 10 12 cl_X3 (by decide) (by decide) (by decide) (by decide) (by decide) rfl tw_77 dX3_boilDry_15 ?_
  refine aw_iload_n S 1 rfl dX3_boilDry_18 rfl ?_
  refine aw_bipush (v := (6 : Int32)) S dX3_boilDry_19 (by decide) ?_
  refine aw_iast S 12 10 (by decide) (by decide) dX3_boilDry_21 ?_
  refine aw_wr (fun I2 => ?_)
  refine aw_aload_n S 0 rfl dX3_boilDry_22 rfl ?_
  refine aw_getR S 1 1 3 cl_X3 (by decide) (by decide) (by decide) (by decide) (by decide) rfl tw_59 dX3_boilDry_23 ?_
  refine aw_iload_n S 2 rfl dX3_boilDry_26 rfl ?_
  refine aw_dup2 S dX3_boilDry_27 rfl rfl ?_
  refine aw_iald S 3 4 (by decide) (by decide) dX3_boilDry_28 ?_
  refine aw_iconst (v := (2 : Int32)) S dX3_boilDry_29 (by decide) ?_
  refine aw_isub S dX3_boilDry_30 ?_
  refine aw_iast S 3 4 (by decide) (by decide) dX3_boilDry_31 ?_
  refine aw_wr (fun I3 => ?_)
  refine aw_aload_n S 0 rfl dX3_boilDry_32 rfl ?_
  refine aw_getR S 1 2 4 cl_X3 (by decide) (by decide) (by decide) (by decide) (by decide) rfl tw_61 dX3_boilDry_33 ?_
  refine aw_iload_n S 2 rfl dX3_boilDry_36 rfl ?_
  refine aw_dup2 S dX3_boilDry_37 rfl rfl ?_
  refine aw_iald S 4 4 (by decide) (by decide) dX3_boilDry_38 ?_
  refine aw_iconst (v := (1 : Int32)) S dX3_boilDry_39 (by decide) ?_
  refine aw_iadd S dX3_boilDry_40 ?_
  refine aw_iast S 4 4 (by decide) (by decide) dX3_boilDry_41 ?_
  refine aw_wr (fun I4 => ?_)
  exact aw_retv S hQ (by decide) (by decide) dX3_boilDry_42
set_option maxHeartbeats 4000000 in
set_option maxRecDepth 100000 in
theorem s_X3_passMinuteOver (hs : kgH) (l : Launch) (w : Option (Nat × Nat)) (p1 : Int32) (I0 : kgM) : Sdi hs l w yX3_passMinuteOver (kg_ws yX3_passMinuteOver cX3_passMinuteOver 4 (some .boolean)) { frames := 2, cells := 0, slots := 0, locals := 43 } [.ref (kgO hs 1), .int p1] I0 (f_X3_passMinuteOver p1 I0) := by
  refine sd_i (av := fun hs => [.ref (kgO hs 1), .int p1]) (by decide +kernel) (fun hs => Nat.le_of_ble_eq_true rfl) (fun X S hQ => ?_) hs l
  refine aw_sub (L2 := [(0, .ref (kgO (kgHs X) 1)), (1, .int p1)]) [0, 1] rfl ?_
  unfold f_X3_passMinuteOver
  refine aw_aload_n S 0 rfl dX3_passMinuteOver_0 rfl ?_
  refine aw_iload_n S 1 rfl dX3_passMinuteOver_1 rfl ?_
  refine aw_cVi S 1 [.int p1] vw_X3_boils cl_X3 (by decide) (by decide) tw_280 (s_X3_boils _ _ _ p1 I0) ⟨by decide, by decide⟩ rfl rfl (Nat.le_of_ble_eq_true rfl) rfl rfl (by decide) (by decide) dX3_passMinuteOver_2 (fun x1 I1 => ?_)
  refine aw_istore_n (L2 := [(0, .ref (kgO (kgHs X) 1)), (1, .int p1), (2, .int x1)]) S [1, 2, 0] dX3_passMinuteOver_5 rfl (by decide) rfl ?_
  refine aw_iload_n S 2 rfl dX3_passMinuteOver_6 rfl ?_
  refine aw_letJ (fun (j39 : kgM → Option (Int32 × kgM)) => ∀ (Ij39 : kgM), AW X 4 0 0 w (j39 Ij39) 39 [(0, .ref (kgO (kgHs X) 1)), (1, .int p1), (2, .int x1)] [] Ij39) ?_ (fun j39 hj39 => ?_)
  · intro Ij39
    refine aw_iload_n S 2 rfl dX3_passMinuteOver_39 rfl ?_
    refine aw_letJ (fun (j57 : Int32 → Option (Int32 × kgM)) => ∀ (y0j57 : Int32), AW X 4 0 0 w (j57 y0j57) 57 [(0, .ref (kgO (kgHs X) 1)), (1, .int p1)] [.int y0j57] Ij39) ?_ (fun j57 hj57 => ?_)
    · intro y0j57
      refine aw_istore_n (L2 := [(0, .ref (kgO (kgHs X) 1)), (1, .int p1), (3, .int y0j57)]) S [1, 2, 0] dX3_passMinuteOver_57 rfl (by decide) rfl ?_
      refine aw_iload_n S 2 rfl dX3_passMinuteOver_58 rfl ?_
      refine aw_if_eq (y := 0) (tgt := 70) S dX3_passMinuteOver_59 (by decide) ?_ ?_
      · refine aw_aload_n S 0 rfl dX3_passMinuteOver_70 rfl ?_
        refine aw_getR S 1 10 12 cl_X3 (by decide) (by decide) (by decide) (by decide) (by decide) rfl tw_77 dX3_passMinuteOver_71 ?_
        refine aw_iload_n S 1 rfl dX3_passMinuteOver_74 rfl ?_
        refine aw_iald S 12 10 (by decide) (by decide) dX3_passMinuteOver_75 ?_
        refine aw_if_le (y := 0) (tgt := 89) S dX3_passMinuteOver_76 (by decide) ?_ ?_
        · refine aw_aload_n S 0 rfl dX3_passMinuteOver_89 rfl ?_
          refine aw_iload_n S 1 rfl dX3_passMinuteOver_90 rfl ?_
          refine aw_cVv S 1 [.int p1] vw_X3_changeTemperature cl_X3 (by decide) (by decide) tw_760 (s_X3_changeTemperature _ _ _ p1 Ij39) ⟨by decide, by decide⟩ rfl rfl (Nat.le_of_ble_eq_true rfl) rfl rfl (by decide) (by decide) dX3_passMinuteOver_91 (fun x2 I2 => ?_)
          refine aw_iload_n S 2 rfl dX3_passMinuteOver_94 rfl ?_
          exact aw_retz S hQ (by decide) (by decide) dX3_passMinuteOver_95
        refine aw_aload_n S 0 rfl dX3_passMinuteOver_79 rfl ?_
        refine aw_getR S 1 10 12 cl_X3 (by decide) (by decide) (by decide) (by decide) (by decide) rfl tw_77 dX3_passMinuteOver_80 ?_
        refine aw_iload_n S 1 rfl dX3_passMinuteOver_83 rfl ?_
        refine aw_dup2 S dX3_passMinuteOver_84 rfl rfl ?_
        refine aw_iald S 12 10 (by decide) (by decide) dX3_passMinuteOver_85 ?_
        refine aw_iconst (v := (1 : Int32)) S dX3_passMinuteOver_86 (by decide) ?_
        refine aw_isub S dX3_passMinuteOver_87 ?_
        refine aw_iast S 12 10 (by decide) (by decide) dX3_passMinuteOver_88 ?_
        refine aw_wr (fun I3 => ?_)
        refine aw_aload_n S 0 rfl dX3_passMinuteOver_89 rfl ?_
        refine aw_iload_n S 1 rfl dX3_passMinuteOver_90 rfl ?_
        refine aw_cVv S 1 [.int p1] vw_X3_changeTemperature cl_X3 (by decide) (by decide) tw_760 (s_X3_changeTemperature _ _ _ p1 I3) ⟨by decide, by decide⟩ rfl rfl (Nat.le_of_ble_eq_true rfl) rfl rfl (by decide) (by decide) dX3_passMinuteOver_91 (fun x3 I4 => ?_)
        refine aw_iload_n S 2 rfl dX3_passMinuteOver_94 rfl ?_
        exact aw_retz S hQ (by decide) (by decide) dX3_passMinuteOver_95
      refine aw_aload_n S 0 rfl dX3_passMinuteOver_62 rfl ?_
      refine aw_iload_n S 1 rfl dX3_passMinuteOver_63 rfl ?_
      refine aw_cVv S 1 [.int p1] vw_X3_boilDry cl_X3 (by decide) (by decide) tw_756 (s_X3_boilDry _ _ _ p1 Ij39) ⟨by decide, by decide⟩ rfl rfl (Nat.le_of_ble_eq_true rfl) rfl rfl (by decide) (by decide) dX3_passMinuteOver_64 (fun x4 I5 => ?_)
      refine aw_goto (tgt := 89) S dX3_passMinuteOver_67 (by decide) ?_
      refine aw_aload_n S 0 rfl dX3_passMinuteOver_89 rfl ?_
      refine aw_iload_n S 1 rfl dX3_passMinuteOver_90 rfl ?_
      refine aw_cVv S 1 [.int p1] vw_X3_changeTemperature cl_X3 (by decide) (by decide) tw_760 (s_X3_changeTemperature _ _ _ p1 I5) ⟨by decide, by decide⟩ rfl rfl (Nat.le_of_ble_eq_true rfl) rfl rfl (by decide) (by decide) dX3_passMinuteOver_91 (fun x5 I6 => ?_)
      refine aw_iload_n S 2 rfl dX3_passMinuteOver_94 rfl ?_
      exact aw_retz S hQ (by decide) (by decide) dX3_passMinuteOver_95
    refine aw_if_eq (y := 0) (tgt := 56) S dX3_passMinuteOver_40 (by decide) ?_ ?_
    · refine aw_iconst (v := (0 : Int32)) S dX3_passMinuteOver_56 (by decide) ?_
      refine aw_sub (L2 := [(0, .ref (kgO (kgHs X) 1)), (1, .int p1)]) [0, 1] rfl ?_
      exact hj57 (0 : Int32)
    refine aw_aload_n S 0 rfl dX3_passMinuteOver_43 rfl ?_
    refine aw_getR S 1 7 9 cl_X3 (by decide) (by decide) (by decide) (by decide) (by decide) rfl tw_71 dX3_passMinuteOver_44 ?_
    refine aw_iload_n S 1 rfl dX3_passMinuteOver_47 rfl ?_
    refine aw_iald S 9 10 (by decide) (by decide) dX3_passMinuteOver_48 ?_
    refine aw_if_ne (y := 0) (tgt := 56) S dX3_passMinuteOver_49 (by decide) ?_ ?_
    · refine aw_iconst (v := (0 : Int32)) S dX3_passMinuteOver_56 (by decide) ?_
      refine aw_sub (L2 := [(0, .ref (kgO (kgHs X) 1)), (1, .int p1)]) [0, 1] rfl ?_
      exact hj57 (0 : Int32)
    refine aw_iconst (v := (1 : Int32)) S dX3_passMinuteOver_52 (by decide) ?_
    refine aw_goto (tgt := 57) S dX3_passMinuteOver_53 (by decide) ?_
    refine aw_sub (L2 := [(0, .ref (kgO (kgHs X) 1)), (1, .int p1)]) [0, 1] rfl ?_
    exact hj57 (1 : Int32)
  refine aw_if_eq (y := 0) (tgt := 39) S dX3_passMinuteOver_7 (by decide) ?_ ?_
  · exact hj39 I1
  refine aw_aload_n S 0 rfl dX3_passMinuteOver_10 rfl ?_
  refine aw_getR S 1 7 9 cl_X3 (by decide) (by decide) (by decide) (by decide) (by decide) rfl tw_71 dX3_passMinuteOver_11 ?_
  refine aw_iload_n S 1 rfl dX3_passMinuteOver_14 rfl ?_
  refine aw_iald S 9 10 (by decide) (by decide) dX3_passMinuteOver_15 ?_
  refine aw_if_le (y := 0) (tgt := 39) S dX3_passMinuteOver_16 (by decide) ?_ ?_
  · exact hj39 I1
  refine aw_aload_n S 0 rfl dX3_passMinuteOver_19 rfl ?_
  refine aw_getR S 1 7 9 cl_X3 (by decide) (by decide) (by decide) (by decide) (by decide) rfl tw_71 dX3_passMinuteOver_20 ?_
  refine aw_iload_n S 1 rfl dX3_passMinuteOver_23 rfl ?_
  refine aw_dup2 S dX3_passMinuteOver_24 rfl rfl ?_
  refine aw_iald S 9 10 (by decide) (by decide) dX3_passMinuteOver_25 ?_
  refine aw_iconst (v := (1 : Int32)) S dX3_passMinuteOver_26 (by decide) ?_
  refine aw_isub S dX3_passMinuteOver_27 ?_
  refine aw_iast S 9 10 (by decide) (by decide) dX3_passMinuteOver_28 ?_
  refine aw_wr (fun I7 => ?_)
  refine aw_aload_n S 0 rfl dX3_passMinuteOver_29 rfl ?_
  refine aw_dup S dX3_passMinuteOver_30 rfl ?_
  refine aw_getI S 1 17 cl_X3 (by decide) (by decide) (by decide) (by decide) rfl tw_91 dX3_passMinuteOver_31 ?_
  refine aw_iconst (v := (1 : Int32)) S dX3_passMinuteOver_34 (by decide) ?_
  refine aw_iadd S dX3_passMinuteOver_35 ?_
  refine aw_putI S 1 17 cl_X3 tyX3_ok nmX3 (by decide) (by decide) (by decide) (by decide) rfl (vp_nar_int _) rfl tw_91 dX3_passMinuteOver_36 ?_
  refine aw_wr (fun I8 => ?_)
  exact hj39 I8
set_option maxHeartbeats 4000000 in
set_option maxRecDepth 100000 in
theorem s_X3_passMinute_L4 {X : kgCX (Int32 × kgM)} {w : Option (Nat × Nat)} (S : Cx X cX3_passMinute RX3 3 3 66 0 0) (hQ : Qxi X w .int)  {K : Int32 → kgM → Option (Int32 × kgM)} (hK : ∀ (z1 : Int32) (J : kgM), AW X 3 0 0 w (K z1 J) 29 [(0, .ref (kgO (kgHs X) 1)), (1, .int z1)] [] J) : ∀ (q : Nat) (x1h4 : Int32) (x2h4 : Int32) (Ih4 : kgM), AW X 3 0 0 w (f_X3_passMinute_L4 K q x1h4 x2h4 Ih4) 4 [(0, .ref (kgO (kgHs X) 1)), (1, .int x1h4), (2, .int x2h4)] [] Ih4 := by
  intro q
  induction q with
  | zero => intros; exact aw_none
  | succ q ih =>
    intro x1h4 x2h4 Ih4
    rw [f_X3_passMinute_L4]
    refine aw_iload_n S 2 rfl dX3_passMinute_4 rfl ?_
    refine aw_aload_n S 0 rfl dX3_passMinute_5 rfl ?_
    refine aw_getI S 1 14 cl_X3 (by decide) (by decide) (by decide) (by decide) rfl tw_85 dX3_passMinute_6 ?_
    refine aw_icmp_ge (tgt := 29) S dX3_passMinute_9 (by decide) ?_ ?_
    · refine aw_sub (L2 := [(0, .ref (kgO (kgHs X) 1)), (1, .int x1h4)]) [0, 1] rfl ?_
      exact hK x1h4 Ih4
    refine aw_aload_n S 0 rfl dX3_passMinute_12 rfl ?_
    refine aw_iload_n S 2 rfl dX3_passMinute_13 rfl ?_
    refine aw_cVi S 1 [.int x2h4] vw_X3_passMinuteOver cl_X3 (by decide) (by decide) tw_752 (s_X3_passMinuteOver _ _ _ x2h4 Ih4) ⟨by decide, by decide⟩ rfl rfl (Nat.le_of_ble_eq_true rfl) rfl rfl (by decide) (by decide) dX3_passMinute_14 (fun x1 I1 => ?_)
    refine aw_if_eq (y := 0) (tgt := 23) S dX3_passMinute_17 (by decide) ?_ ?_
    · refine aw_iinc (v := x2h4 + (1 : Int32)) (L2 := [(0, .ref (kgO (kgHs X) 1)), (1, .int x1h4), (2, .int (x2h4 + (1 : Int32)))]) S [1, 2, 0] 2 dX3_passMinute_23 rfl rfl (by decide) rfl ?_
      refine aw_let (Lf := fun x2 => [(0, .ref (kgO (kgHs X) 1)), (1, .int x1h4), (2, .int x2)]) (x2h4 + (1 : Int32)) (fun x2 => ?_)
      refine aw_goto (tgt := 4) S dX3_passMinute_26 (by decide) ?_
      exact ih x1h4 x2 I1
    refine aw_iinc (v := x1h4 + (1 : Int32)) (L2 := [(0, .ref (kgO (kgHs X) 1)), (1, .int (x1h4 + (1 : Int32))), (2, .int x2h4)]) S [1, 0, 2] 1 dX3_passMinute_20 rfl rfl (by decide) rfl ?_
    refine aw_let (Lf := fun x3 => [(0, .ref (kgO (kgHs X) 1)), (1, .int x3), (2, .int x2h4)]) (x1h4 + (1 : Int32)) (fun x3 => ?_)
    refine aw_iinc (v := x2h4 + (1 : Int32)) (L2 := [(0, .ref (kgO (kgHs X) 1)), (1, .int x3), (2, .int (x2h4 + (1 : Int32)))]) S [1, 2, 0] 2 dX3_passMinute_23 rfl rfl (by decide) rfl ?_
    refine aw_let (Lf := fun x4 => [(0, .ref (kgO (kgHs X) 1)), (1, .int x3), (2, .int x4)]) (x2h4 + (1 : Int32)) (fun x4 => ?_)
    refine aw_goto (tgt := 4) S dX3_passMinute_26 (by decide) ?_
    exact ih x3 x4 I1
set_option maxHeartbeats 4000000 in
set_option maxRecDepth 100000 in
theorem s_X3_passMinute (hs : kgH) (l : Launch) (w : Option (Nat × Nat))  (I0 : kgM) : Sdi hs l w yX3_passMinute (kg_ws yX3_passMinute cX3_passMinute 3 (some .int)) { frames := 3, cells := 0, slots := 0, locals := 66 } [.ref (kgO hs 1)] I0 (f_X3_passMinute I0) := by
  refine sd_i (av := fun hs => [.ref (kgO hs 1)]) (by decide +kernel) (fun hs => Nat.le_of_ble_eq_true rfl) (fun X S hQ => ?_) hs l
  refine aw_sub (L2 := [(0, .ref (kgO (kgHs X) 1))]) [0] rfl ?_
  unfold f_X3_passMinute
  refine aw_iconst (v := (0 : Int32)) S dX3_passMinute_0 (by decide) ?_
  refine aw_istore_n (L2 := [(0, .ref (kgO (kgHs X) 1)), (1, .int (0 : Int32))]) S [1, 0] dX3_passMinute_1 rfl (by decide) rfl ?_
  refine aw_iconst (v := (0 : Int32)) S dX3_passMinute_2 (by decide) ?_
  refine aw_istore_n (L2 := [(0, .ref (kgO (kgHs X) 1)), (1, .int (0 : Int32)), (2, .int (0 : Int32))]) S [1, 2, 0] dX3_passMinute_3 rfl (by decide) rfl ?_
  refine s_X3_passMinute_L4 S hQ  (fun x5 I2 => ?_) 200 (0 : Int32) (0 : Int32) I0
  refine aw_aload_n S 0 rfl dX3_passMinute_29 rfl ?_
  refine aw_dup S dX3_passMinute_30 rfl ?_
  refine aw_getI S 1 15 cl_X3 (by decide) (by decide) (by decide) (by decide) rfl tw_87 dX3_passMinute_31 ?_
  refine aw_iconst (v := (1 : Int32)) S dX3_passMinute_34 (by decide) ?_
  refine aw_iadd S dX3_passMinute_35 ?_
  refine aw_putI S 1 15 cl_X3 tyX3_ok nmX3 (by decide) (by decide) (by decide) (by decide) rfl (vp_nar_int _) rfl tw_87 dX3_passMinute_36 ?_
  refine aw_wr (fun I3 => ?_)
  refine aw_iload_n S 1 rfl dX3_passMinute_39 rfl ?_
  exact aw_ret S hQ (vp_nar_int _) (by decide) (by decide) dX3_passMinute_40
set_option maxHeartbeats 4000000 in
set_option maxRecDepth 100000 in
theorem s_X3_whistlers_L4 {X : kgCX (Int32 × kgM)} {w : Option (Nat × Nat)} (S : Cx X cX3_whistlers RX3 3 2 43 0 0) (hQ : Qxi X w .int)  {K : Int32 → kgM → Option (Int32 × kgM)} (hK : ∀ (z1 : Int32) (J : kgM), AW X 3 0 0 w (K z1 J) 51 [(1, .int z1)] [] J) : ∀ (q : Nat) (x1h4 : Int32) (x2h4 : Int32) (Ih4 : kgM), AW X 3 0 0 w (f_X3_whistlers_L4 K q x1h4 x2h4 Ih4) 4 [(0, .ref (kgO (kgHs X) 1)), (1, .int x1h4), (2, .int x2h4)] [] Ih4 := by
  intro q
  induction q with
  | zero => intros; exact aw_none
  | succ q ih =>
    intro x1h4 x2h4 Ih4
    rw [f_X3_whistlers_L4]
    refine aw_iload_n S 2 rfl dX3_whistlers_4 rfl ?_
    refine aw_aload_n S 0 rfl dX3_whistlers_5 rfl ?_
    refine aw_getI S 1 14 cl_X3 (by decide) (by decide) (by decide) (by decide) rfl tw_85 dX3_whistlers_6 ?_
    refine aw_icmp_ge (tgt := 51) S dX3_whistlers_9 (by decide) ?_ ?_
    · refine aw_sub (L2 := [(1, .int x1h4)]) [1] rfl ?_
      exact hK x1h4 Ih4
    refine aw_aload_n S 0 rfl dX3_whistlers_12 rfl ?_
    refine aw_iload_n S 2 rfl dX3_whistlers_13 rfl ?_
    refine aw_cVi S 1 [.int x2h4] vw_X3_boils cl_X3 (by decide) (by decide) tw_280 (s_X3_boils _ _ _ x2h4 Ih4) ⟨by decide, by decide⟩ rfl rfl (Nat.le_of_ble_eq_true rfl) rfl rfl (by decide) (by decide) dX3_whistlers_14 (fun x1 I1 => ?_)
    refine aw_if_eq (y := 0) (tgt := 45) S dX3_whistlers_17 (by decide) ?_ ?_
    · refine aw_iinc (v := x2h4 + (1 : Int32)) (L2 := [(0, .ref (kgO (kgHs X) 1)), (1, .int x1h4), (2, .int (x2h4 + (1 : Int32)))]) S [1, 2, 0] 2 dX3_whistlers_45 rfl rfl (by decide) rfl ?_
      refine aw_let (Lf := fun x2 => [(0, .ref (kgO (kgHs X) 1)), (1, .int x1h4), (2, .int x2)]) (x2h4 + (1 : Int32)) (fun x2 => ?_)
      refine aw_goto (tgt := 4) S dX3_whistlers_48 (by decide) ?_
      exact ih x1h4 x2 I1
    refine aw_aload_n S 0 rfl dX3_whistlers_20 rfl ?_
    refine aw_getR S 1 7 9 cl_X3 (by decide) (by decide) (by decide) (by decide) (by decide) rfl tw_71 dX3_whistlers_21 ?_
    refine aw_iload_n S 2 rfl dX3_whistlers_24 rfl ?_
    refine aw_iald S 9 10 (by decide) (by decide) dX3_whistlers_25 ?_
    refine aw_if_le (y := 0) (tgt := 45) S dX3_whistlers_26 (by decide) ?_ ?_
    · refine aw_iinc (v := x2h4 + (1 : Int32)) (L2 := [(0, .ref (kgO (kgHs X) 1)), (1, .int x1h4), (2, .int (x2h4 + (1 : Int32)))]) S [1, 2, 0] 2 dX3_whistlers_45 rfl rfl (by decide) rfl ?_
      refine aw_let (Lf := fun x3 => [(0, .ref (kgO (kgHs X) 1)), (1, .int x1h4), (2, .int x3)]) (x2h4 + (1 : Int32)) (fun x3 => ?_)
      refine aw_goto (tgt := 4) S dX3_whistlers_48 (by decide) ?_
      exact ih x1h4 x3 I1
    refine aw_aload_n S 0 rfl dX3_whistlers_29 rfl ?_
    refine aw_getR S 1 11 13 cl_X3 (by decide) (by decide) (by decide) (by decide) (by decide) rfl tw_79 dX3_whistlers_30 ?_
    refine aw_iload_n S 2 rfl dX3_whistlers_33 rfl ?_
    refine aw_iald S 13 10 (by decide) (by decide) dX3_whistlers_34 ?_
    refine aw_iconst (v := (1 : Int32)) S dX3_whistlers_35 (by decide) ?_
    refine aw_icmp_ne (tgt := 45) S dX3_whistlers_36 (by decide) ?_ ?_
    · refine aw_iinc (v := x2h4 + (1 : Int32)) (L2 := [(0, .ref (kgO (kgHs X) 1)), (1, .int x1h4), (2, .int (x2h4 + (1 : Int32)))]) S [1, 2, 0] 2 dX3_whistlers_45 rfl rfl (by decide) rfl ?_
      refine aw_let (Lf := fun x4 => [(0, .ref (kgO (kgHs X) 1)), (1, .int x1h4), (2, .int x4)]) (x2h4 + (1 : Int32)) (fun x4 => ?_)
      refine aw_goto (tgt := 4) S dX3_whistlers_48 (by decide) ?_
      exact ih x1h4 x4 I1
    refine aw_iload_n S 1 rfl dX3_whistlers_39 rfl ?_
    refine aw_iconst (v := (1 : Int32)) S dX3_whistlers_40 (by decide) ?_
    refine aw_iload_n S 2 rfl dX3_whistlers_41 rfl ?_
    refine aw_ishl S dX3_whistlers_42 ?_
    refine aw_ior S dX3_whistlers_43 ?_
    refine aw_istore_n (L2 := [(0, .ref (kgO (kgHs X) 1)), (1, .int (x1h4 ||| ((1 : Int32) <<< (x2h4 &&& 31)))), (2, .int x2h4)]) S [1, 0, 2] dX3_whistlers_44 rfl (by decide) rfl ?_
    refine aw_let (Lf := fun x5 => [(0, .ref (kgO (kgHs X) 1)), (1, .int x5), (2, .int x2h4)]) (x1h4 ||| ((1 : Int32) <<< (x2h4 &&& 31))) (fun x5 => ?_)
    refine aw_iinc (v := x2h4 + (1 : Int32)) (L2 := [(0, .ref (kgO (kgHs X) 1)), (1, .int x5), (2, .int (x2h4 + (1 : Int32)))]) S [1, 2, 0] 2 dX3_whistlers_45 rfl rfl (by decide) rfl ?_
    refine aw_let (Lf := fun x6 => [(0, .ref (kgO (kgHs X) 1)), (1, .int x5), (2, .int x6)]) (x2h4 + (1 : Int32)) (fun x6 => ?_)
    refine aw_goto (tgt := 4) S dX3_whistlers_48 (by decide) ?_
    exact ih x5 x6 I1
set_option maxHeartbeats 4000000 in
set_option maxRecDepth 100000 in
theorem s_X3_whistlers (hs : kgH) (l : Launch) (w : Option (Nat × Nat))  (I0 : kgM) : Sdi hs l w yX3_whistlers (kg_ws yX3_whistlers cX3_whistlers 3 (some .int)) { frames := 2, cells := 0, slots := 0, locals := 43 } [.ref (kgO hs 1)] I0 (f_X3_whistlers I0) := by
  refine sd_i (av := fun hs => [.ref (kgO hs 1)]) (by decide +kernel) (fun hs => Nat.le_of_ble_eq_true rfl) (fun X S hQ => ?_) hs l
  refine aw_sub (L2 := [(0, .ref (kgO (kgHs X) 1))]) [0] rfl ?_
  unfold f_X3_whistlers
  refine aw_iconst (v := (0 : Int32)) S dX3_whistlers_0 (by decide) ?_
  refine aw_istore_n (L2 := [(0, .ref (kgO (kgHs X) 1)), (1, .int (0 : Int32))]) S [1, 0] dX3_whistlers_1 rfl (by decide) rfl ?_
  refine aw_iconst (v := (0 : Int32)) S dX3_whistlers_2 (by decide) ?_
  refine aw_istore_n (L2 := [(0, .ref (kgO (kgHs X) 1)), (1, .int (0 : Int32)), (2, .int (0 : Int32))]) S [1, 2, 0] dX3_whistlers_3 rfl (by decide) rfl ?_
  refine s_X3_whistlers_L4 S hQ  (fun x7 I2 => ?_) 200 (0 : Int32) (0 : Int32) I0
  refine aw_iload_n S 0 rfl dX3_whistlers_51 rfl ?_
  exact aw_ret S hQ (vp_nar_int _) (by decide) (by decide) dX3_whistlers_52
set_option maxHeartbeats 4000000 in
set_option maxRecDepth 100000 in
theorem s_X4_isIn (hs : kgH) (l : Launch) (w : Option (Nat × Nat)) (p1 : Int32) (p2 : Int32) (I0 : kgM) : Sdi hs l w yX4_isIn (kg_ws yX4_isIn cX4_isIn 2 (some .boolean)) { frames := 0, cells := 0, slots := 0, locals := 0 } [.int p1, .int p2] I0 (f_X4_isIn p1 p2 I0) := by
  refine sd_i (av := fun hs => [.int p1, .int p2]) (by decide +kernel) (fun hs => Nat.le_of_ble_eq_true rfl) (fun X S hQ => ?_) hs l
  refine aw_sub (L2 := [(0, .int p1), (1, .int p2)]) [0, 1] rfl ?_
  unfold f_X4_isIn
  refine aw_iload_n S 0 rfl dX4_isIn_0 rfl ?_
  refine aw_iload_n S 1 rfl dX4_isIn_1 rfl ?_
  refine aw_ishr S dX4_isIn_2 ?_
  refine aw_iconst (v := (1 : Int32)) S dX4_isIn_3 (by decide) ?_
  refine aw_iand S dX4_isIn_4 ?_
  refine aw_iconst (v := (1 : Int32)) S dX4_isIn_5 (by decide) ?_
  refine aw_icmp_ne (tgt := 13) S dX4_isIn_6 (by decide) ?_ ?_
  · refine aw_iconst (v := (0 : Int32)) S dX4_isIn_13 (by decide) ?_
    exact aw_ret S hQ rfl (by decide) (by decide) dX4_isIn_14
  refine aw_iconst (v := (1 : Int32)) S dX4_isIn_9 (by decide) ?_
  refine aw_goto (tgt := 14) S dX4_isIn_10 (by decide) ?_
  exact aw_ret S hQ rfl (by decide) (by decide) dX4_isIn_14
set_option maxHeartbeats 4000000 in
set_option maxRecDepth 100000 in
theorem s_J9_abs_0f7a4 (hs : kgH) (l : Launch) (w : Option (Nat × Nat)) (p1 : Int32) (I0 : kgM) : Sdi hs l w yJ9_abs_0f7a4 (kg_ws yJ9_abs_0f7a4 cJ9_abs_0f7a4 1 (some .int)) { frames := 0, cells := 0, slots := 0, locals := 0 } [.int p1] I0 (f_J9_abs_0f7a4 p1 I0) := by
  refine sd_i (av := fun hs => [.int p1]) (by decide +kernel) (fun hs => Nat.le_of_ble_eq_true rfl) (fun X S hQ => ?_) hs l
  refine aw_sub (L2 := [(0, .int p1)]) [0] rfl ?_
  unfold f_J9_abs_0f7a4
  refine aw_iload_n S 0 rfl dJ9_abs_0f7a4_0 rfl ?_
  refine aw_if_ge (y := 0) (tgt := 9) S dJ9_abs_0f7a4_1 (by decide) ?_ ?_
  · refine aw_iload_n S 0 rfl dJ9_abs_0f7a4_9 rfl ?_
    exact aw_ret S hQ (vp_nar_int _) (by decide) (by decide) dJ9_abs_0f7a4_10
  refine aw_iload_n S 0 rfl dJ9_abs_0f7a4_4 rfl ?_
  refine aw_ineg S dJ9_abs_0f7a4_5 ?_
  refine aw_goto (tgt := 10) S dJ9_abs_0f7a4_6 (by decide) ?_
  exact aw_ret S hQ (vp_nar_int _) (by decide) (by decide) dJ9_abs_0f7a4_10
set_option maxHeartbeats 4000000 in
set_option maxRecDepth 100000 in
theorem s_X4_soundOf (hs : kgH) (l : Launch) (w : Option (Nat × Nat)) (p1 : Int32) (p2 : Int32) (I0 : kgM) : Sdi hs l w yX4_soundOf (kg_ws yX4_soundOf cX4_soundOf 3 (some .int)) { frames := 1, cells := 0, slots := 0, locals := 20 } [.int p1, .int p2] I0 (f_X4_soundOf p1 p2 I0) := by
  refine sd_i (av := fun hs => [.int p1, .int p2]) (by decide +kernel) (fun hs => Nat.le_of_ble_eq_true rfl) (fun X S hQ => ?_) hs l
  refine aw_sub (L2 := [(0, .int p1), (1, .int p2)]) [0, 1] rfl ?_
  unfold f_X4_soundOf
  refine aw_iload_n S 0 rfl dX4_soundOf_0 rfl ?_
  refine aw_iload_n S 1 rfl dX4_soundOf_1 rfl ?_
  refine aw_isub S dX4_soundOf_2 ?_
  refine aw_cSi S [.int (p1 - p2)] vw_J9_abs_0f7a4 tw_314 (s_J9_abs_0f7a4 _ _ _ (p1 - p2) I0) ⟨by decide, by decide⟩ rfl rfl (Nat.le_of_ble_eq_true rfl) rfl rfl (by decide) (by decide) dX4_soundOf_3 (fun x1 I1 => ?_)
  refine aw_istore_n (L2 := [(0, .int p1), (1, .int p2), (2, .int x1)]) S [1, 2, 0] dX4_soundOf_6 rfl (by decide) rfl ?_
  refine aw_iload_n S 2 rfl dX4_soundOf_7 rfl ?_
  refine aw_if_lt (y := 0) (tgt := 27) S dX4_soundOf_8 (by decide) ?_ ?_
  · refine aw_iconst (v := (0 : Int32)) S dX4_soundOf_27 (by decide) ?_
    exact aw_ret S hQ (vp_nar_int _) (by decide) (by decide) dX4_soundOf_28
  refine aw_iload_n S 2 rfl dX4_soundOf_11 rfl ?_
  refine aw_getS S tw_317 dX4_soundOf_12 ?_
  refine aw_alenS S dX4_soundOf_15 ?_
  refine aw_icmp_ge (tgt := 27) S dX4_soundOf_16 (by decide) ?_ ?_
  · refine aw_iconst (v := (0 : Int32)) S dX4_soundOf_27 (by decide) ?_
    exact aw_ret S hQ (vp_nar_int _) (by decide) (by decide) dX4_soundOf_28
  refine aw_getS S tw_317 dX4_soundOf_19 ?_
  refine aw_iload_n S 2 rfl dX4_soundOf_22 rfl ?_
  refine aw_ialdS S dX4_soundOf_23 ?_
  refine aw_goto (tgt := 28) S dX4_soundOf_24 (by decide) ?_
  exact aw_ret S hQ (vp_nar_int _) (by decide) (by decide) dX4_soundOf_28
set_option maxHeartbeats 4000000 in
set_option maxRecDepth 100000 in
theorem s_J7_fill_53178_14_L5 {X : kgCX (Int32 × kgM)} {w : Option (Nat × Nat)} (S : Cx X cJ7_fill_53178 RJ7 4 0 0 0 0) (hQ : Qxv X w) (a1 : Int32) (a3 : Int32) {K : kgM → Option (Int32 × kgM)} (hK : ∀  (J : kgM), AW X 4 0 0 w (K J) 20 [] [] J) : ∀ (q : Nat) (x2h5 : Int32) (Ih5 : kgM), AW X 4 0 0 w (f_J7_fill_53178_14_L5 a1 a3 K q x2h5 Ih5) 5 [(0, .ref (kgO (kgHs X) 14)), (1, .int a1), (2, .int x2h5), (3, .int a3)] [] Ih5 := by
  intro q
  induction q with
  | zero => intros; exact aw_none
  | succ q ih =>
    intro x2h5 Ih5
    rw [f_J7_fill_53178_14_L5]
    refine aw_iload_n S 2 rfl dJ7_fill_53178_5 rfl ?_
    refine aw_iload_n S 3 rfl dJ7_fill_53178_6 rfl ?_
    refine aw_icmp_ge (tgt := 20) S dJ7_fill_53178_7 (by decide) ?_ ?_
    · refine aw_sub (L2 := []) [] rfl ?_
      exact hK Ih5
    refine aw_aload_n S 0 rfl dJ7_fill_53178_10 rfl ?_
    refine aw_iload_n S 2 rfl dJ7_fill_53178_11 rfl ?_
    refine aw_iload_n S 1 rfl dJ7_fill_53178_12 rfl ?_
    refine aw_iast S 14 10 (by decide) (by decide) dJ7_fill_53178_13 ?_
    refine aw_wr (fun I1 => ?_)
    refine aw_iinc (v := x2h5 + (1 : Int32)) (L2 := [(0, .ref (kgO (kgHs X) 14)), (1, .int a1), (2, .int (x2h5 + (1 : Int32))), (3, .int a3)]) S [1, 2, 0, 3] 2 dJ7_fill_53178_14 rfl rfl (by decide) rfl ?_
    refine aw_let (Lf := fun x2 => [(0, .ref (kgO (kgHs X) 14)), (1, .int a1), (2, .int x2), (3, .int a3)]) (x2h5 + (1 : Int32)) (fun x2 => ?_)
    refine aw_goto (tgt := 5) S dJ7_fill_53178_17 (by decide) ?_
    exact ih x2 I1
set_option maxHeartbeats 4000000 in
set_option maxRecDepth 100000 in
theorem s_J7_fill_53178_14 (hs : kgH) (l : Launch) (w : Option (Nat × Nat)) (p2 : Int32) (I0 : kgM) : Sdv hs l w yJ7_fill_53178 (kg_ws yJ7_fill_53178 cJ7_fill_53178 4 none) { frames := 0, cells := 0, slots := 0, locals := 0 } [.ref (kgO hs 14), .int p2] I0 (f_J7_fill_53178_14 p2 I0) := by
  refine sd_v (av := fun hs => [.ref (kgO hs 14), .int p2]) (by decide +kernel) (fun hs => Nat.le_of_ble_eq_true rfl) (fun X S hQ => ?_) hs l
  refine aw_sub (L2 := [(0, .ref (kgO (kgHs X) 14)), (1, .int p2)]) [0, 1] rfl ?_
  unfold f_J7_fill_53178_14
  refine aw_iconst (v := (0 : Int32)) S dJ7_fill_53178_0 (by decide) ?_
  refine aw_istore_n (L2 := [(0, .ref (kgO (kgHs X) 14)), (1, .int p2), (2, .int (0 : Int32))]) S [1, 2, 0] dJ7_fill_53178_1 rfl (by decide) rfl ?_
  refine aw_aload_n S 0 rfl dJ7_fill_53178_2 rfl ?_
  refine aw_alen S 14 10 0 (by decide) (by decide) (by decide) (by decide) (by decide) rfl dJ7_fill_53178_3 ?_
  refine aw_istore_n (L2 := [(0, .ref (kgO (kgHs X) 14)), (1, .int p2), (2, .int (0 : Int32)), (3, .int (Int32.ofNat 10))]) S [1, 2, 3, 0] dJ7_fill_53178_4 rfl (by decide) rfl ?_
  refine aw_let (Lf := fun x1 => [(0, .ref (kgO (kgHs X) 14)), (1, .int p2), (2, .int (0 : Int32)), (3, .int x1)]) (Int32.ofNat 10) (fun x1 => ?_)
  refine s_J7_fill_53178_14_L5 S hQ p2 x1 (fun I2 => ?_) 200 (0 : Int32) I0
  exact aw_retv S hQ (by decide) (by decide) dJ7_fill_53178_20
set_option maxHeartbeats 4000000 in
set_option maxRecDepth 100000 in
theorem s_X3_holdHarmony_L19 {X : kgCX (Int32 × kgM)} {w : Option (Nat × Nat)} (S : Cx X cX3_holdHarmony RX3 5 3 65 0 0) (hQ : Qxv X w) (a1 : Int32) (a2 : Int32) {K : kgM → Option (Int32 × kgM)} (hK : ∀  (J : kgM), AW X 5 0 0 w (K J) 98 [(0, .ref (kgO (kgHs X) 1)), (1, .int a1), (2, .int a2)] [] J) : ∀ (q : Nat) (x3h19 : Int32) (Ih19 : kgM), AW X 5 0 0 w (f_X3_holdHarmony_L19 a1 a2 K q x3h19 Ih19) 19 [(0, .ref (kgO (kgHs X) 1)), (1, .int a1), (2, .int a2), (3, .int x3h19)] [] Ih19 := by
  intro q
  induction q with
  | zero => intros; exact aw_none
  | succ q ih =>
    intro x3h19 Ih19
    rw [f_X3_holdHarmony_L19]
    refine aw_iload_n S 3 rfl dX3_holdHarmony_19 rfl ?_
    refine aw_aload_n S 0 rfl dX3_holdHarmony_20 rfl ?_
    refine aw_getI S 1 14 cl_X3 (by decide) (by decide) (by decide) (by decide) rfl tw_85 dX3_holdHarmony_21 ?_
    refine aw_icmp_ge (tgt := 98) S dX3_holdHarmony_24 (by decide) ?_ ?_
    · refine aw_sub (L2 := [(0, .ref (kgO (kgHs X) 1)), (1, .int a1), (2, .int a2)]) [0, 1, 2] rfl ?_
      exact hK Ih19
    refine aw_iload_n S 1 rfl dX3_holdHarmony_27 rfl ?_
    refine aw_iload_n S 2 rfl dX3_holdHarmony_28 rfl ?_
    refine aw_cNi (host := RX4) S [.int a1, .int a2] vw_X4_isIn (fun h => h.2.2.2.2.2.2.1) (s_X4_isIn _ _ _ a1 a2 Ih19) ⟨by decide, by decide⟩ rfl rfl (Nat.le_of_ble_eq_true rfl) rfl rfl (by decide) (by decide) dX3_holdHarmony_29 (fun x3 I2 => ?_)
    refine aw_if_eq (y := 0) (tgt := 92) S dX3_holdHarmony_32 (by decide) ?_ ?_
    · refine aw_iinc (v := x3h19 + (1 : Int32)) (L2 := [(0, .ref (kgO (kgHs X) 1)), (1, .int a1), (2, .int a2), (3, .int (x3h19 + (1 : Int32)))]) S [1, 2, 3, 0] 3 dX3_holdHarmony_92 rfl rfl (by decide) rfl ?_
      refine aw_let (Lf := fun x4 => [(0, .ref (kgO (kgHs X) 1)), (1, .int a1), (2, .int a2), (3, .int x4)]) (x3h19 + (1 : Int32)) (fun x4 => ?_)
      refine aw_goto (tgt := 19) S dX3_holdHarmony_95 (by decide) ?_
      exact ih x4 I2
    refine aw_iload_n S 1 rfl dX3_holdHarmony_35 rfl ?_
    refine aw_iload_n S 3 rfl dX3_holdHarmony_36 rfl ?_
    refine aw_cNi (host := RX4) S [.int a1, .int x3h19] vw_X4_isIn (fun h => h.2.2.2.2.2.2.1) (s_X4_isIn _ _ _ a1 x3h19 I2) ⟨by decide, by decide⟩ rfl rfl (Nat.le_of_ble_eq_true rfl) rfl rfl (by decide) (by decide) dX3_holdHarmony_37 (fun x5 I3 => ?_)
    refine aw_if_eq (y := 0) (tgt := 92) S dX3_holdHarmony_40 (by decide) ?_ ?_
    · refine aw_iinc (v := x3h19 + (1 : Int32)) (L2 := [(0, .ref (kgO (kgHs X) 1)), (1, .int a1), (2, .int a2), (3, .int (x3h19 + (1 : Int32)))]) S [1, 2, 3, 0] 3 dX3_holdHarmony_92 rfl rfl (by decide) rfl ?_
      refine aw_let (Lf := fun x6 => [(0, .ref (kgO (kgHs X) 1)), (1, .int a1), (2, .int a2), (3, .int x6)]) (x3h19 + (1 : Int32)) (fun x6 => ?_)
      refine aw_goto (tgt := 19) S dX3_holdHarmony_95 (by decide) ?_
      exact ih x6 I3
    refine aw_aload_n S 0 rfl dX3_holdHarmony_43 rfl ?_
    refine aw_getR S 1 6 8 cl_X3 (by decide) (by decide) (by decide) (by decide) (by decide) rfl tw_69 dX3_holdHarmony_44 ?_
    refine aw_iload_n S 2 rfl dX3_holdHarmony_47 rfl ?_
    refine aw_iald S 8 10 (by decide) (by decide) dX3_holdHarmony_48 ?_
    refine aw_aload_n S 0 rfl dX3_holdHarmony_49 rfl ?_
    refine aw_getR S 1 6 8 cl_X3 (by decide) (by decide) (by decide) (by decide) (by decide) rfl tw_69 dX3_holdHarmony_50 ?_
    refine aw_iload_n S 3 rfl dX3_holdHarmony_53 rfl ?_
    refine aw_iald S 8 10 (by decide) (by decide) dX3_holdHarmony_54 ?_
    refine aw_cNi (host := RX4) S [.int (I3 8 a2.toNatClampNeg), .int (I3 8 x3h19.toNatClampNeg)] vw_X4_soundOf (fun h => h.2.2.2.2.2.2.2.1) (s_X4_soundOf _ _ _ (I3 8 a2.toNatClampNeg) (I3 8 x3h19.toNatClampNeg) I3) ⟨by decide, by decide⟩ rfl rfl (Nat.le_of_ble_eq_true rfl) rfl rfl (by decide) (by decide) dX3_holdHarmony_55 (fun x7 I4 => ?_)
    refine aw_istore (L2 := [(0, .ref (kgO (kgHs X) 1)), (1, .int a1), (2, .int a2), (3, .int x3h19), (4, .int x7)]) S [1, 2, 3, 4, 0] dX3_holdHarmony_58 (by decide) rfl ?_
    refine aw_aload_n S 0 rfl dX3_holdHarmony_60 rfl ?_
    refine aw_getR S 1 1 3 cl_X3 (by decide) (by decide) (by decide) (by decide) (by decide) rfl tw_59 dX3_holdHarmony_61 ?_
    refine aw_aload_n S 0 rfl dX3_holdHarmony_64 rfl ?_
    refine aw_getR S 1 5 7 cl_X3 (by decide) (by decide) (by decide) (by decide) (by decide) rfl tw_67 dX3_holdHarmony_65 ?_
    refine aw_iload_n S 2 rfl dX3_holdHarmony_68 rfl ?_
    refine aw_iald S 7 10 (by decide) (by decide) dX3_holdHarmony_69 ?_
    refine aw_dup2 S dX3_holdHarmony_70 rfl rfl ?_
    refine aw_iald S 3 4 (by decide) (by decide) dX3_holdHarmony_71 ?_
    refine aw_iload S 4 rfl dX3_holdHarmony_72 ?_
    refine aw_iadd S dX3_holdHarmony_74 ?_
    refine aw_iast S 3 4 (by decide) (by decide) dX3_holdHarmony_75 ?_
    refine aw_wr (fun I5 => ?_)
    refine aw_aload_n S 0 rfl dX3_holdHarmony_76 rfl ?_
    refine aw_getR S 1 1 3 cl_X3 (by decide) (by decide) (by decide) (by decide) (by decide) rfl tw_59 dX3_holdHarmony_77 ?_
    refine aw_aload_n S 0 rfl dX3_holdHarmony_80 rfl ?_
    refine aw_getR S 1 5 7 cl_X3 (by decide) (by decide) (by decide) (by decide) (by decide) rfl tw_67 dX3_holdHarmony_81 ?_
    refine aw_iload_n S 3 rfl dX3_holdHarmony_84 rfl ?_
    refine aw_iald S 7 10 (by decide) (by decide) dX3_holdHarmony_85 ?_
    refine aw_dup2 S dX3_holdHarmony_86 rfl rfl ?_
    refine aw_iald S 3 4 (by decide) (by decide) dX3_holdHarmony_87 ?_
    refine aw_iload S 4 rfl dX3_holdHarmony_88 ?_
    refine aw_iadd S dX3_holdHarmony_90 ?_
    refine aw_iast S 3 4 (by decide) (by decide) dX3_holdHarmony_91 ?_
    refine aw_wr (fun I6 => ?_)
    refine aw_iinc (v := x3h19 + (1 : Int32)) (L2 := [(0, .ref (kgO (kgHs X) 1)), (1, .int a1), (2, .int a2), (3, .int (x3h19 + (1 : Int32))), (4, .int x7)]) S [1, 2, 3, 0, 4] 3 dX3_holdHarmony_92 rfl rfl (by decide) rfl ?_
    refine aw_let (Lf := fun x8 => [(0, .ref (kgO (kgHs X) 1)), (1, .int a1), (2, .int a2), (3, .int x8), (4, .int x7)]) (x3h19 + (1 : Int32)) (fun x8 => ?_)
    refine aw_goto (tgt := 19) S dX3_holdHarmony_95 (by decide) ?_
    refine aw_sub (L2 := [(0, .ref (kgO (kgHs X) 1)), (1, .int a1), (2, .int a2), (3, .int x8)]) [0, 1, 2, 3] rfl ?_
    exact ih x8 I6
set_option maxHeartbeats 4000000 in
set_option maxRecDepth 100000 in
theorem s_X3_holdHarmony_L7 {X : kgCX (Int32 × kgM)} {w : Option (Nat × Nat)} (S : Cx X cX3_holdHarmony RX3 5 3 65 0 0) (hQ : Qxv X w) (a1 : Int32) {K : kgM → Option (Int32 × kgM)} (hK : ∀  (J : kgM), AW X 5 0 0 w (K J) 104 [(0, .ref (kgO (kgHs X) 1))] [] J) : ∀ (q : Nat) (x2h7 : Int32) (Ih7 : kgM), AW X 5 0 0 w (f_X3_holdHarmony_L7 a1 K q x2h7 Ih7) 7 [(0, .ref (kgO (kgHs X) 1)), (1, .int a1), (2, .int x2h7)] [] Ih7 := by
  intro q
  induction q with
  | zero => intros; exact aw_none
  | succ q ih =>
    intro x2h7 Ih7
    rw [f_X3_holdHarmony_L7]
    refine aw_iload_n S 2 rfl dX3_holdHarmony_7 rfl ?_
    refine aw_aload_n S 0 rfl dX3_holdHarmony_8 rfl ?_
    refine aw_getI S 1 14 cl_X3 (by decide) (by decide) (by decide) (by decide) rfl tw_85 dX3_holdHarmony_9 ?_
    refine aw_icmp_ge (tgt := 104) S dX3_holdHarmony_12 (by decide) ?_ ?_
    · refine aw_sub (L2 := [(0, .ref (kgO (kgHs X) 1))]) [0] rfl ?_
      exact hK Ih7
    refine aw_iload_n S 2 rfl dX3_holdHarmony_15 rfl ?_
    refine aw_iconst (v := (1 : Int32)) S dX3_holdHarmony_16 (by decide) ?_
    refine aw_iadd S dX3_holdHarmony_17 ?_
    refine aw_istore_n (L2 := [(0, .ref (kgO (kgHs X) 1)), (1, .int a1), (2, .int x2h7), (3, .int (x2h7 + (1 : Int32)))]) S [1, 2, 3, 0] dX3_holdHarmony_18 rfl (by decide) rfl ?_
    refine aw_let (Lf := fun x2 => [(0, .ref (kgO (kgHs X) 1)), (1, .int a1), (2, .int x2h7), (3, .int x2)]) (x2h7 + (1 : Int32)) (fun x2 => ?_)
    refine s_X3_holdHarmony_L19 S hQ a1 x2h7 (fun I7 => ?_) 200 x2 Ih7
    refine aw_iinc (v := x2h7 + (1 : Int32)) (L2 := [(0, .ref (kgO (kgHs X) 1)), (1, .int a1), (2, .int (x2h7 + (1 : Int32)))]) S [1, 2, 0] 2 dX3_holdHarmony_98 rfl rfl (by decide) rfl ?_
    refine aw_let (Lf := fun x9 => [(0, .ref (kgO (kgHs X) 1)), (1, .int a1), (2, .int x9)]) (x2h7 + (1 : Int32)) (fun x9 => ?_)
    refine aw_goto (tgt := 7) S dX3_holdHarmony_101 (by decide) ?_
    exact ih x9 I7
set_option maxHeartbeats 4000000 in
set_option maxRecDepth 100000 in
theorem s_X3_holdHarmony (hs : kgH) (l : Launch) (w : Option (Nat × Nat))  (I0 : kgM) : Sdv hs l w yX3_holdHarmony (kg_ws yX3_holdHarmony cX3_holdHarmony 5 none) { frames := 3, cells := 0, slots := 0, locals := 65 } [.ref (kgO hs 1)] I0 (f_X3_holdHarmony I0) := by
  refine sd_v (av := fun hs => [.ref (kgO hs 1)]) (by decide +kernel) (fun hs => Nat.le_of_ble_eq_true rfl) (fun X S hQ => ?_) hs l
  refine aw_sub (L2 := [(0, .ref (kgO (kgHs X) 1))]) [0] rfl ?_
  unfold f_X3_holdHarmony
  refine aw_aload_n S 0 rfl dX3_holdHarmony_0 rfl ?_
  refine aw_cVi S 1 [] vw_X3_whistlers cl_X3 (by decide) (by decide) tw_276 (s_X3_whistlers _ _ _ I0) ⟨by decide, by decide⟩ rfl rfl (Nat.le_of_ble_eq_true rfl) rfl rfl (by decide) (by decide) dX3_holdHarmony_1 (fun x1 I1 => ?_)
  refine aw_istore_n (L2 := [(0, .ref (kgO (kgHs X) 1)), (1, .int x1)]) S [1, 0] dX3_holdHarmony_4 rfl (by decide) rfl ?_
  refine aw_iconst (v := (0 : Int32)) S dX3_holdHarmony_5 (by decide) ?_
  refine aw_istore_n (L2 := [(0, .ref (kgO (kgHs X) 1)), (1, .int x1), (2, .int (0 : Int32))]) S [1, 2, 0] dX3_holdHarmony_6 rfl (by decide) rfl ?_
  refine s_X3_holdHarmony_L7 S hQ x1 (fun I8 => ?_) 200 (0 : Int32) I1
  refine aw_aload_n S 0 rfl dX3_holdHarmony_104 rfl ?_
  refine aw_getR S 1 12 14 cl_X3 (by decide) (by decide) (by decide) (by decide) (by decide) rfl tw_81 dX3_holdHarmony_105 ?_
  refine aw_iconst (v := (0 : Int32)) S dX3_holdHarmony_108 (by decide) ?_
  refine aw_cSv S [.ref (kgO (kgHs X) 14), .int (0 : Int32)] vw_J7_fill_53178 tw_54 (s_J7_fill_53178_14 _ _ _ (0 : Int32) I8) ⟨by decide, by decide⟩ rfl rfl (Nat.le_of_ble_eq_true rfl) rfl rfl (by decide) (by decide) dX3_holdHarmony_109 (fun x10 I9 => ?_)
  exact aw_retv S hQ (by decide) (by decide) dX3_holdHarmony_112

