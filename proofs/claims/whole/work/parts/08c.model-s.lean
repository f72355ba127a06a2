set_option maxHeartbeats 4000000 in
set_option maxRecDepth 100000 in
theorem s_X5_sets (hs : kgH) (l : Launch) (w : Option (Nat × Nat)) (p1 : Int32) (p2 : Int32) (I0 : kgM) : Sdi hs l w yX5_sets (kg_ws yX5_sets cX5_sets 5 (some .int)) { frames := 3, cells := 0, slots := 0, locals := 65 } [.ref (kgO hs 177), .int p1, .int p2] I0 (f_X5_sets p1 p2 I0) := by
  refine sd_i (av := fun hs => [.ref (kgO hs 177), .int p1, .int p2]) (by decide +kernel) (fun hs => Nat.le_of_ble_eq_true rfl) (fun X S hQ => ?_) hs l
  refine aw_sub (L2 := [(0, .ref (kgO (kgHs X) 177)), (1, .int p1), (2, .int p2)]) [0, 1, 2] rfl ?_
  unfold f_X5_sets
  refine aw_aload_n S 0 rfl dX5_sets_0 rfl ?_
  refine aw_iload_n S 1 rfl dX5_sets_1 rfl ?_
  refine aw_cVi S 177 [.int p1] vw_X5_isKettle cl_X5 (by decide) (by decide) tw_1071 (s_X5_isKettle _ _ _ p1 I0) ⟨by decide, by decide⟩ rfl rfl (Nat.le_of_ble_eq_true rfl) rfl rfl (by decide) (by decide) dX5_sets_2 (fun x1 I1 => ?_)
  refine aw_if_eq (y := 0) (tgt := 15) S dX5_sets_5 (by decide) ?_ ?_
  · refine aw_sipush (v := (-1011 : Int32)) S dX5_sets_15 (by decide) ?_
    exact aw_ret S hQ (vp_nar_int _) (by decide) (by decide) dX5_sets_18
  refine aw_iload_n S 2 rfl dX5_sets_8 rfl ?_
  refine aw_cSi S [.int p2] vw_X5_isStove tw_1087 (s_X5_isStove _ _ _ p2 I1) ⟨by decide, by decide⟩ rfl rfl (Nat.le_of_ble_eq_true rfl) rfl rfl (by decide) (by decide) dX5_sets_9 (fun x2 I2 => ?_)
  refine aw_if_ne (y := 0) (tgt := 19) S dX5_sets_12 (by decide) ?_ ?_
  · refine aw_aload_n S 0 rfl dX5_sets_19 rfl ?_
    refine aw_iload_n S 2 rfl dX5_sets_20 rfl ?_
    refine aw_cVi S 177 [.int p2] vw_X5_kettleOn cl_X5 (by decide) (by decide) tw_1090 (s_X5_kettleOn _ _ _ p2 I2) ⟨by decide, by decide⟩ rfl rfl (Nat.le_of_ble_eq_true rfl) rfl rfl (by decide) (by decide) dX5_sets_21 (fun x3 I3 => ?_)
    refine aw_istore_n (L2 := [(0, .ref (kgO (kgHs X) 177)), (1, .int p1), (2, .int p2), (3, .int x3)]) S [1, 2, 3, 0] dX5_sets_24 rfl (by decide) rfl ?_
    refine aw_aload_n S 0 rfl dX5_sets_25 rfl ?_
    refine aw_aload_n S 0 rfl dX5_sets_26 rfl ?_
    refine aw_iload_n S 1 rfl dX5_sets_27 rfl ?_
    refine aw_iconst (v := (1 : Int32)) S dX5_sets_28 (by decide) ?_
    refine aw_cVi S 177 [.int p1, .int (1 : Int32)] vw_X5_kt cl_X5 (by decide) (by decide) tw_1075 (s_X5_kt _ _ _ p1 (1 : Int32) I3) ⟨by decide, by decide⟩ rfl rfl (Nat.le_of_ble_eq_true rfl) rfl rfl (by decide) (by decide) dX5_sets_29 (fun x4 I4 => ?_)
    refine aw_cVi S 177 [.int x4] vw_X5_stoveWith cl_X5 (by decide) (by decide) tw_1094 (s_X5_stoveWith _ _ _ x4 I4) ⟨by decide, by decide⟩ rfl rfl (Nat.le_of_ble_eq_true rfl) rfl rfl (by decide) (by decide) dX5_sets_32 (fun x5 I5 => ?_)
    refine aw_istore (L2 := [(0, .ref (kgO (kgHs X) 177)), (1, .int p1), (2, .int p2), (3, .int x3), (4, .int x5)]) S [1, 2, 3, 4, 0] dX5_sets_35 (by decide) rfl ?_
    refine aw_aload_n S 0 rfl dX5_sets_37 rfl ?_
    refine aw_aload_n S 0 rfl dX5_sets_38 rfl ?_
    refine aw_iload_n S 1 rfl dX5_sets_39 rfl ?_
    refine aw_cVi S 177 [.int p1] vw_X5_isOnStove cl_X5 (by decide) (by decide) tw_1098 (s_X5_isOnStove _ _ _ p1 I5) ⟨by decide, by decide⟩ rfl rfl (Nat.le_of_ble_eq_true rfl) rfl rfl (by decide) (by decide) dX5_sets_40 (fun x6 I6 => ?_)
    refine aw_iconst (v := (5 : Int32)) S dX5_sets_43 (by decide) ?_
    refine aw_aload_n S 0 rfl dX5_sets_44 rfl ?_
    refine aw_iload_n S 1 rfl dX5_sets_45 rfl ?_
    refine aw_iconst (v := (5 : Int32)) S dX5_sets_46 (by decide) ?_
    refine aw_cVi S 177 [.int p1, .int (5 : Int32)] vw_X5_kt cl_X5 (by decide) (by decide) tw_1075 (s_X5_kt _ _ _ p1 (5 : Int32) I6) ⟨by decide, by decide⟩ rfl rfl (Nat.le_of_ble_eq_true rfl) rfl rfl (by decide) (by decide) dX5_sets_47 (fun x7 I7 => ?_)
    refine aw_iconst (v := (1 : Int32)) S dX5_sets_50 (by decide) ?_
    refine aw_isub S dX5_sets_51 ?_
    refine aw_cVi S 177 [.int x6, .int (5 : Int32), .int (x7 - (1 : Int32))] vw_X5_refuses cl_X5 (by decide) (by decide) tw_1039 (s_X5_refuses _ _ _ x6 (5 : Int32) (x7 - (1 : Int32)) I7) ⟨by decide, by decide⟩ rfl rfl (Nat.le_of_ble_eq_true rfl) rfl rfl (by decide) (by decide) dX5_sets_52 (fun x8 I8 => ?_)
    refine aw_if_ne (y := 0) (tgt := 129) S dX5_sets_55 (by decide) ?_ ?_
    · refine aw_aload_n S 0 rfl dX5_sets_129 rfl ?_
      refine aw_iconst (v := (4 : Int32)) S dX5_sets_130 (by decide) ?_
      refine aw_iload_n S 1 rfl dX5_sets_131 rfl ?_
      refine aw_cVv S 177 [.int (4 : Int32), .int p1] vw_X5_causes cl_X5 (by decide) (by decide) tw_1102 (s_X5_causes _ _ _ (4 : Int32) p1 I8) ⟨by decide, by decide⟩ rfl rfl (Nat.le_of_ble_eq_true rfl) rfl rfl (by decide) (by decide) dX5_sets_132 (fun x9 I9 => ?_)
      refine aw_sipush (v := (-1014 : Int32)) S dX5_sets_135 (by decide) ?_
      exact aw_ret S hQ (vp_nar_int _) (by decide) (by decide) dX5_sets_138
    refine aw_aload_n S 0 rfl dX5_sets_58 rfl ?_
    refine aw_iload_n S 3 rfl dX5_sets_59 rfl ?_
    refine aw_letJ (fun (j68 : Int32 → Option (Int32 × kgM)) => ∀ (y0j68 : Int32), AW X 5 0 0 w (j68 y0j68) 68 [(0, .ref (kgO (kgHs X) 177)), (1, .int p1), (2, .int p2), (3, .int x3), (4, .int x5)] [.int y0j68, .ref (kgO (kgHs X) 177)] I8) ?_ (fun j68 hj68 => ?_)
    · intro y0j68
      refine aw_bipush (v := (6 : Int32)) S dX5_sets_68 (by decide) ?_
      refine aw_iload_n S 3 rfl dX5_sets_70 rfl ?_
      refine aw_cVi S 177 [.int y0j68, .int (6 : Int32), .int x3] vw_X5_refuses cl_X5 (by decide) (by decide) tw_1039 (s_X5_refuses _ _ _ y0j68 (6 : Int32) x3 I8) ⟨by decide, by decide⟩ rfl rfl (Nat.le_of_ble_eq_true rfl) rfl rfl (by decide) (by decide) dX5_sets_71 (fun x10 I10 => ?_)
      refine aw_if_ne (y := 0) (tgt := 129) S dX5_sets_74 (by decide) ?_ ?_
      · refine aw_aload_n S 0 rfl dX5_sets_129 rfl ?_
        refine aw_iconst (v := (4 : Int32)) S dX5_sets_130 (by decide) ?_
        refine aw_iload_n S 1 rfl dX5_sets_131 rfl ?_
        refine aw_cVv S 177 [.int (4 : Int32), .int p1] vw_X5_causes cl_X5 (by decide) (by decide) tw_1102 (s_X5_causes _ _ _ (4 : Int32) p1 I10) ⟨by decide, by decide⟩ rfl rfl (Nat.le_of_ble_eq_true rfl) rfl rfl (by decide) (by decide) dX5_sets_132 (fun x11 I11 => ?_)
        refine aw_sipush (v := (-1014 : Int32)) S dX5_sets_135 (by decide) ?_
        exact aw_ret S hQ (vp_nar_int _) (by decide) (by decide) dX5_sets_138
      refine aw_aload_n S 0 rfl dX5_sets_77 rfl ?_
      refine aw_iload S 4 rfl dX5_sets_78 ?_
      refine aw_letJ (fun (j88 : Int32 → Option (Int32 × kgM)) => ∀ (y0j88 : Int32), AW X 5 0 0 w (j88 y0j88) 88 [(0, .ref (kgO (kgHs X) 177)), (1, .int p1), (2, .int p2), (4, .int x5)] [.int y0j88, .ref (kgO (kgHs X) 177)] I10) ?_ (fun j88 hj88 => ?_)
      · intro y0j88
        refine aw_bipush (v := (7 : Int32)) S dX5_sets_88 (by decide) ?_
        refine aw_iload S 3 rfl dX5_sets_90 ?_
        refine aw_cVi S 177 [.int y0j88, .int (7 : Int32), .int x5] vw_X5_refuses cl_X5 (by decide) (by decide) tw_1039 (s_X5_refuses _ _ _ y0j88 (7 : Int32) x5 I10) ⟨by decide, by decide⟩ rfl rfl (Nat.le_of_ble_eq_true rfl) rfl rfl (by decide) (by decide) dX5_sets_92 (fun x12 I12 => ?_)
        refine aw_if_ne (y := 0) (tgt := 129) S dX5_sets_95 (by decide) ?_ ?_
        · refine aw_aload_n S 0 rfl dX5_sets_129 rfl ?_
          refine aw_iconst (v := (4 : Int32)) S dX5_sets_130 (by decide) ?_
          refine aw_iload_n S 1 rfl dX5_sets_131 rfl ?_
          refine aw_cVv S 177 [.int (4 : Int32), .int p1] vw_X5_causes cl_X5 (by decide) (by decide) tw_1102 (s_X5_causes _ _ _ (4 : Int32) p1 I12) ⟨by decide, by decide⟩ rfl rfl (Nat.le_of_ble_eq_true rfl) rfl rfl (by decide) (by decide) dX5_sets_132 (fun x13 I13 => ?_)
          refine aw_sipush (v := (-1014 : Int32)) S dX5_sets_135 (by decide) ?_
          exact aw_ret S hQ (vp_nar_int _) (by decide) (by decide) dX5_sets_138
        refine aw_aload_n S 0 rfl dX5_sets_98 rfl ?_
        refine aw_aload_n S 0 rfl dX5_sets_99 rfl ?_
        refine aw_iload_n S 1 rfl dX5_sets_100 rfl ?_
        refine aw_bipush (v := (6 : Int32)) S dX5_sets_101 (by decide) ?_
        refine aw_cVi S 177 [.int p1, .int (6 : Int32)] vw_X5_kt cl_X5 (by decide) (by decide) tw_1075 (s_X5_kt _ _ _ p1 (6 : Int32) I12) ⟨by decide, by decide⟩ rfl rfl (Nat.le_of_ble_eq_true rfl) rfl rfl (by decide) (by decide) dX5_sets_103 (fun x14 I14 => ?_)
        refine aw_letJ (fun (j114 : Int32 → Option (Int32 × kgM)) => ∀ (y0j114 : Int32), AW X 5 0 0 w (j114 y0j114) 114 [(0, .ref (kgO (kgHs X) 177)), (1, .int p1), (2, .int p2)] [.int y0j114, .ref (kgO (kgHs X) 177)] I14) ?_ (fun j114 hj114 => ?_)
        · intro y0j114
          refine aw_bipush (v := (8 : Int32)) S dX5_sets_114 (by decide) ?_
          refine aw_aload_n S 0 rfl dX5_sets_116 rfl ?_
          refine aw_iload_n S 1 rfl dX5_sets_117 rfl ?_
          refine aw_bipush (v := (6 : Int32)) S dX5_sets_118 (by decide) ?_
          refine aw_cVi S 177 [.int p1, .int (6 : Int32)] vw_X5_kt cl_X5 (by decide) (by decide) tw_1075 (s_X5_kt _ _ _ p1 (6 : Int32) I14) ⟨by decide, by decide⟩ rfl rfl (Nat.le_of_ble_eq_true rfl) rfl rfl (by decide) (by decide) dX5_sets_120 (fun x15 I15 => ?_)
          refine aw_cVi S 177 [.int y0j114, .int (8 : Int32), .int x15] vw_X5_refuses cl_X5 (by decide) (by decide) tw_1039 (s_X5_refuses _ _ _ y0j114 (8 : Int32) x15 I15) ⟨by decide, by decide⟩ rfl rfl (Nat.le_of_ble_eq_true rfl) rfl rfl (by decide) (by decide) dX5_sets_123 (fun x16 I16 => ?_)
          refine aw_if_eq (y := 0) (tgt := 139) S dX5_sets_126 (by decide) ?_ ?_
          · refine aw_aload_n S 0 rfl dX5_sets_139 rfl ?_
            refine aw_iload_n S 1 rfl dX5_sets_140 rfl ?_
            refine aw_iconst (v := (5 : Int32)) S dX5_sets_141 (by decide) ?_
            refine aw_iload_n S 2 rfl dX5_sets_142 rfl ?_
            refine aw_iconst (v := (1 : Int32)) S dX5_sets_143 (by decide) ?_
            refine aw_iadd S dX5_sets_144 ?_
            refine aw_cVv S 177 [.int p1, .int (5 : Int32), .int (p2 + (1 : Int32))] vw_X5_puts cl_X5 (by decide) (by decide) tw_1059 (s_X5_puts _ _ _ p1 (5 : Int32) (p2 + (1 : Int32)) I16) ⟨by decide, by decide⟩ rfl rfl (Nat.le_of_ble_eq_true rfl) rfl rfl (by decide) (by decide) dX5_sets_145 (fun x17 I17 => ?_)
            refine aw_aload_n S 0 rfl dX5_sets_148 rfl ?_
            refine aw_cVi S 177 [] vw_X5_onStoves cl_X5 (by decide) (by decide) tw_1106 (s_X5_onStoves _ _ _ I17) ⟨by decide, by decide⟩ rfl rfl (Nat.le_of_ble_eq_true rfl) rfl rfl (by decide) (by decide) dX5_sets_149 (fun x18 I18 => ?_)
            exact aw_ret S hQ (vp_nar_int _) (by decide) (by decide) dX5_sets_152
          refine aw_aload_n S 0 rfl dX5_sets_129 rfl ?_
          refine aw_iconst (v := (4 : Int32)) S dX5_sets_130 (by decide) ?_
          refine aw_iload_n S 1 rfl dX5_sets_131 rfl ?_
          refine aw_cVv S 177 [.int (4 : Int32), .int p1] vw_X5_causes cl_X5 (by decide) (by decide) tw_1102 (s_X5_causes _ _ _ (4 : Int32) p1 I16) ⟨by decide, by decide⟩ rfl rfl (Nat.le_of_ble_eq_true rfl) rfl rfl (by decide) (by decide) dX5_sets_132 (fun x19 I19 => ?_)
          refine aw_sipush (v := (-1014 : Int32)) S dX5_sets_135 (by decide) ?_
          exact aw_ret S hQ (vp_nar_int _) (by decide) (by decide) dX5_sets_138
        refine aw_if_le (y := 0) (tgt := 113) S dX5_sets_106 (by decide) ?_ ?_
        · refine aw_iconst (v := (0 : Int32)) S dX5_sets_113 (by decide) ?_
          refine aw_sub (L2 := [(0, .ref (kgO (kgHs X) 177)), (1, .int p1), (2, .int p2)]) [0, 1, 2] rfl ?_
          exact hj114 (0 : Int32)
        refine aw_iconst (v := (1 : Int32)) S dX5_sets_109 (by decide) ?_
        refine aw_goto (tgt := 114) S dX5_sets_110 (by decide) ?_
        refine aw_sub (L2 := [(0, .ref (kgO (kgHs X) 177)), (1, .int p1), (2, .int p2)]) [0, 1, 2] rfl ?_
        exact hj114 (1 : Int32)
      refine aw_if_lt (y := 0) (tgt := 87) S dX5_sets_80 (by decide) ?_ ?_
      · refine aw_iconst (v := (0 : Int32)) S dX5_sets_87 (by decide) ?_
        refine aw_sub (L2 := [(0, .ref (kgO (kgHs X) 177)), (1, .int p1), (2, .int p2), (4, .int x5)]) [0, 1, 2, 4] rfl ?_
        exact hj88 (0 : Int32)
      refine aw_iconst (v := (1 : Int32)) S dX5_sets_83 (by decide) ?_
      refine aw_goto (tgt := 88) S dX5_sets_84 (by decide) ?_
      refine aw_sub (L2 := [(0, .ref (kgO (kgHs X) 177)), (1, .int p1), (2, .int p2), (4, .int x5)]) [0, 1, 2, 4] rfl ?_
      exact hj88 (1 : Int32)
    refine aw_if_lt (y := 0) (tgt := 67) S dX5_sets_60 (by decide) ?_ ?_
    · refine aw_iconst (v := (0 : Int32)) S dX5_sets_67 (by decide) ?_
      exact hj68 (0 : Int32)
    refine aw_iconst (v := (1 : Int32)) S dX5_sets_63 (by decide) ?_
    refine aw_goto (tgt := 68) S dX5_sets_64 (by decide) ?_
    exact hj68 (1 : Int32)
  refine aw_sipush (v := (-1011 : Int32)) S dX5_sets_15 (by decide) ?_
  exact aw_ret S hQ (vp_nar_int _) (by decide) (by decide) dX5_sets_18
set_option maxHeartbeats 4000000 in
set_option maxRecDepth 100000 in
theorem s_X5_set (hs : kgH) (l : Launch) (w : Option (Nat × Nat)) (p1 : Int32) (p2 : Int32) (I0 : kgM) : Sdi hs l w yX5_set (kg_ws yX5_set cX5_set 3 (some .int)) { frames := 4, cells := 0, slots := 0, locals := 89 } [.ref (kgO hs 177), .int p1, .int p2] I0 (f_X5_set p1 p2 I0) := by
  refine sd_i (av := fun hs => [.ref (kgO hs 177), .int p1, .int p2]) (by decide +kernel) (fun hs => Nat.le_of_ble_eq_true rfl) (fun X S hQ => ?_) hs l
  refine aw_sub (L2 := [(0, .ref (kgO (kgHs X) 177)), (1, .int p1), (2, .int p2)]) [0, 1, 2] rfl ?_
  unfold f_X5_set
  refine aw_aload_n S 0 rfl dX5_set_0 rfl ?_
  refine aw_cVv S 177 [] vw_X5_begins cl_X5 (by decide) (by decide) tw_1017 (s_X5_begins _ _ _ I0) ⟨by decide, by decide⟩ rfl rfl (Nat.le_of_ble_eq_true rfl) rfl rfl (by decide) (by decide) dX5_set_1 (fun x1 I1 => ?_)
  refine aw_aload_n S 0 rfl dX5_set_4 rfl ?_
  refine aw_aload_n S 0 rfl dX5_set_5 rfl ?_
  refine aw_iload_n S 1 rfl dX5_set_6 rfl ?_
  refine aw_iload_n S 2 rfl dX5_set_7 rfl ?_
  refine aw_cVi S 177 [.int p1, .int p2] vw_X5_sets cl_X5 (by decide) (by decide) tw_1083 (s_X5_sets _ _ _ p1 p2 I1) ⟨by decide, by decide⟩ rfl rfl (Nat.le_of_ble_eq_true rfl) rfl rfl (by decide) (by decide) dX5_set_8 (fun x2 I2 => ?_)
  refine aw_cVi S 177 [.int x2] vw_X5_ends cl_X5 (by decide) (by decide) tw_1047 (s_X5_ends _ _ _ x2 I2) ⟨by decide, by decide⟩ rfl rfl (Nat.le_of_ble_eq_true rfl) rfl rfl (by decide) (by decide) dX5_set_11 (fun x3 I3 => ?_)
  exact aw_ret S hQ (vp_nar_int _) (by decide) (by decide) dX5_set_14
set_option maxHeartbeats 4000000 in
set_option maxRecDepth 100000 in
theorem s_X5_takesOff (hs : kgH) (l : Launch) (w : Option (Nat × Nat)) (p1 : Int32) (I0 : kgM) : Sdi hs l w yX5_takesOff (kg_ws yX5_takesOff cX5_takesOff 3 (some .int)) { frames := 3, cells := 0, slots := 0, locals := 65 } [.ref (kgO hs 177), .int p1] I0 (f_X5_takesOff p1 I0) := by
  refine sd_i (av := fun hs => [.ref (kgO hs 177), .int p1]) (by decide +kernel) (fun hs => Nat.le_of_ble_eq_true rfl) (fun X S hQ => ?_) hs l
  refine aw_sub (L2 := [(0, .ref (kgO (kgHs X) 177)), (1, .int p1)]) [0, 1] rfl ?_
  unfold f_X5_takesOff
  refine aw_aload_n S 0 rfl dX5_takesOff_0 rfl ?_
  refine aw_iload_n S 1 rfl dX5_takesOff_1 rfl ?_
  refine aw_cVi S 177 [.int p1] vw_X5_isKettle cl_X5 (by decide) (by decide) tw_1071 (s_X5_isKettle _ _ _ p1 I0) ⟨by decide, by decide⟩ rfl rfl (Nat.le_of_ble_eq_true rfl) rfl rfl (by decide) (by decide) dX5_takesOff_2 (fun x1 I1 => ?_)
  refine aw_if_ne (y := 0) (tgt := 12) S dX5_takesOff_5 (by decide) ?_ ?_
  · refine aw_aload_n S 0 rfl dX5_takesOff_12 rfl ?_
    refine aw_aload_n S 0 rfl dX5_takesOff_13 rfl ?_
    refine aw_iload_n S 1 rfl dX5_takesOff_14 rfl ?_
    refine aw_cVi S 177 [.int p1] vw_X5_isOnStove cl_X5 (by decide) (by decide) tw_1098 (s_X5_isOnStove _ _ _ p1 I1) ⟨by decide, by decide⟩ rfl rfl (Nat.le_of_ble_eq_true rfl) rfl rfl (by decide) (by decide) dX5_takesOff_15 (fun x2 I2 => ?_)
    refine aw_letJ (fun (j26 : Int32 → Option (Int32 × kgM)) => ∀ (y0j26 : Int32), AW X 3 0 0 w (j26 y0j26) 26 [(0, .ref (kgO (kgHs X) 177)), (1, .int p1)] [.int y0j26, .ref (kgO (kgHs X) 177)] I2) ?_ (fun j26 hj26 => ?_)
    · intro y0j26
      refine aw_bipush (v := (10 : Int32)) S dX5_takesOff_26 (by decide) ?_
      refine aw_aload_n S 0 rfl dX5_takesOff_28 rfl ?_
      refine aw_cVi S 177 [] vw_X5_onStoves cl_X5 (by decide) (by decide) tw_1106 (s_X5_onStoves _ _ _ I2) ⟨by decide, by decide⟩ rfl rfl (Nat.le_of_ble_eq_true rfl) rfl rfl (by decide) (by decide) dX5_takesOff_29 (fun x3 I3 => ?_)
      refine aw_cVi S 177 [.int y0j26, .int (10 : Int32), .int x3] vw_X5_refuses cl_X5 (by decide) (by decide) tw_1039 (s_X5_refuses _ _ _ y0j26 (10 : Int32) x3 I3) ⟨by decide, by decide⟩ rfl rfl (Nat.le_of_ble_eq_true rfl) rfl rfl (by decide) (by decide) dX5_takesOff_32 (fun x4 I4 => ?_)
      refine aw_if_eq (y := 0) (tgt := 42) S dX5_takesOff_35 (by decide) ?_ ?_
      · refine aw_aload_n S 0 rfl dX5_takesOff_42 rfl ?_
        refine aw_iload_n S 1 rfl dX5_takesOff_43 rfl ?_
        refine aw_iconst (v := (5 : Int32)) S dX5_takesOff_44 (by decide) ?_
        refine aw_cVi S 177 [.int p1, .int (5 : Int32)] vw_X5_kt cl_X5 (by decide) (by decide) tw_1075 (s_X5_kt _ _ _ p1 (5 : Int32) I4) ⟨by decide, by decide⟩ rfl rfl (Nat.le_of_ble_eq_true rfl) rfl rfl (by decide) (by decide) dX5_takesOff_45 (fun x5 I5 => ?_)
        refine aw_iconst (v := (1 : Int32)) S dX5_takesOff_48 (by decide) ?_
        refine aw_isub S dX5_takesOff_49 ?_
        refine aw_istore_n (L2 := [(0, .ref (kgO (kgHs X) 177)), (1, .int p1), (2, .int (x5 - (1 : Int32)))]) S [1, 2, 0] dX5_takesOff_50 rfl (by decide) rfl ?_
        refine aw_let (Lf := fun x6 => [(0, .ref (kgO (kgHs X) 177)), (1, .int p1), (2, .int x6)]) (x5 - (1 : Int32)) (fun x6 => ?_)
        refine aw_aload_n S 0 rfl dX5_takesOff_51 rfl ?_
        refine aw_iload_n S 1 rfl dX5_takesOff_52 rfl ?_
        refine aw_iconst (v := (5 : Int32)) S dX5_takesOff_53 (by decide) ?_
        refine aw_iconst (v := (0 : Int32)) S dX5_takesOff_54 (by decide) ?_
        refine aw_cVv S 177 [.int p1, .int (5 : Int32), .int (0 : Int32)] vw_X5_puts cl_X5 (by decide) (by decide) tw_1059 (s_X5_puts _ _ _ p1 (5 : Int32) (0 : Int32) I5) ⟨by decide, by decide⟩ rfl rfl (Nat.le_of_ble_eq_true rfl) rfl rfl (by decide) (by decide) dX5_takesOff_55 (fun x7 I6 => ?_)
        refine aw_iload_n S 2 rfl dX5_takesOff_58 rfl ?_
        exact aw_ret S hQ (vp_nar_int _) (by decide) (by decide) dX5_takesOff_59
      refine aw_sipush (v := (-1014 : Int32)) S dX5_takesOff_38 (by decide) ?_
      exact aw_ret S hQ (vp_nar_int _) (by decide) (by decide) dX5_takesOff_41
    refine aw_if_ne (y := 0) (tgt := 25) S dX5_takesOff_18 (by decide) ?_ ?_
    · refine aw_iconst (v := (0 : Int32)) S dX5_takesOff_25 (by decide) ?_
      exact hj26 (0 : Int32)
    refine aw_iconst (v := (1 : Int32)) S dX5_takesOff_21 (by decide) ?_
    refine aw_goto (tgt := 26) S dX5_takesOff_22 (by decide) ?_
    exact hj26 (1 : Int32)
  refine aw_sipush (v := (-1011 : Int32)) S dX5_takesOff_8 (by decide) ?_
  exact aw_ret S hQ (vp_nar_int _) (by decide) (by decide) dX5_takesOff_11
set_option maxHeartbeats 4000000 in
set_option maxRecDepth 100000 in
theorem s_X5_off (hs : kgH) (l : Launch) (w : Option (Nat × Nat)) (p1 : Int32) (I0 : kgM) : Sdi hs l w yX5_off (kg_ws yX5_off cX5_off 2 (some .int)) { frames := 4, cells := 0, slots := 0, locals := 87 } [.ref (kgO hs 177), .int p1] I0 (f_X5_off p1 I0) := by
  refine sd_i (av := fun hs => [.ref (kgO hs 177), .int p1]) (by decide +kernel) (fun hs => Nat.le_of_ble_eq_true rfl) (fun X S hQ => ?_) hs l
  refine aw_sub (L2 := [(0, .ref (kgO (kgHs X) 177)), (1, .int p1)]) [0, 1] rfl ?_
  unfold f_X5_off
  refine aw_aload_n S 0 rfl dX5_off_0 rfl ?_
  refine aw_cVv S 177 [] vw_X5_begins cl_X5 (by decide) (by decide) tw_1017 (s_X5_begins _ _ _ I0) ⟨by decide, by decide⟩ rfl rfl (Nat.le_of_ble_eq_true rfl) rfl rfl (by decide) (by decide) dX5_off_1 (fun x1 I1 => ?_)
  refine aw_aload_n S 0 rfl dX5_off_4 rfl ?_
  refine aw_aload_n S 0 rfl dX5_off_5 rfl ?_
  refine aw_iload_n S 1 rfl dX5_off_6 rfl ?_
  refine aw_cVi S 177 [.int p1] vw_X5_takesOff cl_X5 (by decide) (by decide) tw_1114 (s_X5_takesOff _ _ _ p1 I1) ⟨by decide, by decide⟩ rfl rfl (Nat.le_of_ble_eq_true rfl) rfl rfl (by decide) (by decide) dX5_off_7 (fun x2 I2 => ?_)
  refine aw_cVi S 177 [.int x2] vw_X5_ends cl_X5 (by decide) (by decide) tw_1047 (s_X5_ends _ _ _ x2 I2) ⟨by decide, by decide⟩ rfl rfl (Nat.le_of_ble_eq_true rfl) rfl rfl (by decide) (by decide) dX5_off_10 (fun x3 I3 => ?_)
  exact aw_ret S hQ (vp_nar_int _) (by decide) (by decide) dX5_off_13
set_option maxHeartbeats 4000000 in
set_option maxRecDepth 100000 in
theorem s_X5_heats (hs : kgH) (l : Launch) (w : Option (Nat × Nat)) (p1 : Int32) (p2 : Int32) (I0 : kgM) : Sdi hs l w yX5_heats (kg_ws yX5_heats cX5_heats 4 (some .int)) { frames := 2, cells := 0, slots := 0, locals := 42 } [.ref (kgO hs 177), .int p1, .int p2] I0 (f_X5_heats p1 p2 I0) := by
  refine sd_i (av := fun hs => [.ref (kgO hs 177), .int p1, .int p2]) (by decide +kernel) (fun hs => Nat.le_of_ble_eq_true rfl) (fun X S hQ => ?_) hs l
  refine aw_sub (L2 := [(0, .ref (kgO (kgHs X) 177)), (1, .int p1), (2, .int p2)]) [0, 1, 2] rfl ?_
  unfold f_X5_heats
  refine aw_iload_n S 1 rfl dX5_heats_0 rfl ?_
  refine aw_cSi S [.int p1] vw_X5_isStove tw_1087 (s_X5_isStove _ _ _ p1 I0) ⟨by decide, by decide⟩ rfl rfl (Nat.le_of_ble_eq_true rfl) rfl rfl (by decide) (by decide) dX5_heats_1 (fun x1 I1 => ?_)
  refine aw_if_ne (y := 0) (tgt := 11) S dX5_heats_4 (by decide) ?_ ?_
  · refine aw_iload_n S 2 rfl dX5_heats_11 rfl ?_
    refine aw_iconst (v := (0 : Int32)) S dX5_heats_12 (by decide) ?_
    refine aw_iconst (v := (5 : Int32)) S dX5_heats_13 (by decide) ?_
    refine aw_cSi S [.int p2, .int (0 : Int32), .int (5 : Int32)] vw_X5_in tw_1010 (s_X5_in _ _ _ p2 (0 : Int32) (5 : Int32) I1) ⟨by decide, by decide⟩ rfl rfl (Nat.le_of_ble_eq_true rfl) rfl rfl (by decide) (by decide) dX5_heats_14 (fun x2 I2 => ?_)
    refine aw_if_ne (y := 0) (tgt := 24) S dX5_heats_17 (by decide) ?_ ?_
    · refine aw_aload_n S 0 rfl dX5_heats_24 rfl ?_
      refine aw_getR S 177 0 178 cl_X5 (by decide) (by decide) (by decide) (by decide) (by decide) rfl tw_963 dX5_heats_25 ?_
      refine aw_bipush (v := (29 : Int32)) S dX5_heats_28 (by decide) ?_
      refine aw_iload_n S 1 rfl dX5_heats_30 rfl ?_
      refine aw_iadd S dX5_heats_31 ?_
      refine aw_iald S 178 1375 (by decide) (by decide) dX5_heats_32 ?_
      refine aw_istore_n (L2 := [(0, .ref (kgO (kgHs X) 177)), (1, .int p1), (2, .int p2), (3, .int (I2 178 ((29 : Int32) + p1).toNatClampNeg))]) S [1, 2, 3, 0] dX5_heats_33 rfl (by decide) rfl ?_
      refine aw_let (Lf := fun x3 => [(0, .ref (kgO (kgHs X) 177)), (1, .int p1), (2, .int p2), (3, .int x3)]) (I2 178 ((29 : Int32) + p1).toNatClampNeg) (fun x3 => ?_)
      refine aw_aload_n S 0 rfl dX5_heats_34 rfl ?_
      refine aw_iload_n S 3 rfl dX5_heats_35 rfl ?_
      refine aw_iload_n S 2 rfl dX5_heats_36 rfl ?_
      refine aw_letJ (fun (j45 : Int32 → Option (Int32 × kgM)) => ∀ (y0j45 : Int32), AW X 4 0 0 w (j45 y0j45) 45 [(0, .ref (kgO (kgHs X) 177)), (1, .int p1), (2, .int p2), (3, .int x3)] [.int y0j45, .ref (kgO (kgHs X) 177)] I2) ?_ (fun j45 hj45 => ?_)
      · intro y0j45
        refine aw_bipush (v := (9 : Int32)) S dX5_heats_45 (by decide) ?_
        refine aw_iload_n S 2 rfl dX5_heats_47 rfl ?_
        refine aw_cVi S 177 [.int y0j45, .int (9 : Int32), .int p2] vw_X5_refuses cl_X5 (by decide) (by decide) tw_1039 (s_X5_refuses _ _ _ y0j45 (9 : Int32) p2 I2) ⟨by decide, by decide⟩ rfl rfl (Nat.le_of_ble_eq_true rfl) rfl rfl (by decide) (by decide) dX5_heats_48 (fun x4 I3 => ?_)
        refine aw_if_eq (y := 0) (tgt := 58) S dX5_heats_51 (by decide) ?_ ?_
        · refine aw_aload_n S 0 rfl dX5_heats_58 rfl ?_
          refine aw_getR S 177 0 178 cl_X5 (by decide) (by decide) (by decide) (by decide) (by decide) rfl tw_963 dX5_heats_59 ?_
          refine aw_bipush (v := (29 : Int32)) S dX5_heats_62 (by decide) ?_
          refine aw_iload_n S 1 rfl dX5_heats_64 rfl ?_
          refine aw_iadd S dX5_heats_65 ?_
          refine aw_iload_n S 2 rfl dX5_heats_66 rfl ?_
          refine aw_iast S 178 1375 (by decide) (by decide) dX5_heats_67 ?_
          refine aw_wr (fun I4 => ?_)
          refine aw_iload_n S 3 rfl dX5_heats_68 rfl ?_
          exact aw_ret S hQ (vp_nar_int _) (by decide) (by decide) dX5_heats_69
        refine aw_sipush (v := (-1014 : Int32)) S dX5_heats_54 (by decide) ?_
        exact aw_ret S hQ (vp_nar_int _) (by decide) (by decide) dX5_heats_57
      refine aw_icmp_ne (tgt := 44) S dX5_heats_37 (by decide) ?_ ?_
      · refine aw_iconst (v := (0 : Int32)) S dX5_heats_44 (by decide) ?_
        exact hj45 (0 : Int32)
      refine aw_iconst (v := (1 : Int32)) S dX5_heats_40 (by decide) ?_
      refine aw_goto (tgt := 45) S dX5_heats_41 (by decide) ?_
      exact hj45 (1 : Int32)
    refine aw_sipush (v := (-1012 : Int32)) S dX5_heats_20 (by decide) ?_
    exact aw_ret S hQ (vp_nar_int _) (by decide) (by decide) dX5_heats_23
  refine aw_sipush (v := (-1011 : Int32)) S dX5_heats_7 (by decide) ?_
  exact aw_ret S hQ (vp_nar_int _) (by decide) (by decide) dX5_heats_10
set_option maxHeartbeats 4000000 in
set_option maxRecDepth 100000 in
theorem s_X5_heat (hs : kgH) (l : Launch) (w : Option (Nat × Nat)) (p1 : Int32) (p2 : Int32) (I0 : kgM) : Sdi hs l w yX5_heat (kg_ws yX5_heat cX5_heat 3 (some .int)) { frames := 3, cells := 0, slots := 0, locals := 65 } [.ref (kgO hs 177), .int p1, .int p2] I0 (f_X5_heat p1 p2 I0) := by
  refine sd_i (av := fun hs => [.ref (kgO hs 177), .int p1, .int p2]) (by decide +kernel) (fun hs => Nat.le_of_ble_eq_true rfl) (fun X S hQ => ?_) hs l
  refine aw_sub (L2 := [(0, .ref (kgO (kgHs X) 177)), (1, .int p1), (2, .int p2)]) [0, 1, 2] rfl ?_
  unfold f_X5_heat
  refine aw_aload_n S 0 rfl dX5_heat_0 rfl ?_
  refine aw_cVv S 177 [] vw_X5_begins cl_X5 (by decide) (by decide) tw_1017 (s_X5_begins _ _ _ I0) ⟨by decide, by decide⟩ rfl rfl (Nat.le_of_ble_eq_true rfl) rfl rfl (by decide) (by decide) dX5_heat_1 (fun x1 I1 => ?_)
  refine aw_aload_n S 0 rfl dX5_heat_4 rfl ?_
  refine aw_aload_n S 0 rfl dX5_heat_5 rfl ?_
  refine aw_iload_n S 1 rfl dX5_heat_6 rfl ?_
  refine aw_iload_n S 2 rfl dX5_heat_7 rfl ?_
  refine aw_cVi S 177 [.int p1, .int p2] vw_X5_heats cl_X5 (by decide) (by decide) tw_1122 (s_X5_heats _ _ _ p1 p2 I1) ⟨by decide, by decide⟩ rfl rfl (Nat.le_of_ble_eq_true rfl) rfl rfl (by decide) (by decide) dX5_heat_8 (fun x2 I2 => ?_)
  refine aw_cVi S 177 [.int x2] vw_X5_ends cl_X5 (by decide) (by decide) tw_1047 (s_X5_ends _ _ _ x2 I2) ⟨by decide, by decide⟩ rfl rfl (Nat.le_of_ble_eq_true rfl) rfl rfl (by decide) (by decide) dX5_heat_11 (fun x3 I3 => ?_)
  exact aw_ret S hQ (vp_nar_int _) (by decide) (by decide) dX5_heat_14
set_option maxHeartbeats 4000000 in
set_option maxRecDepth 100000 in
theorem s_X5_putsLid (hs : kgH) (l : Launch) (w : Option (Nat × Nat)) (p1 : Int32) (p2 : Int32) (I0 : kgM) : Sdi hs l w yX5_putsLid (kg_ws yX5_putsLid cX5_putsLid 3 (some .int)) { frames := 2, cells := 0, slots := 0, locals := 44 } [.ref (kgO hs 177), .int p1, .int p2] I0 (f_X5_putsLid p1 p2 I0) := by
  refine sd_i (av := fun hs => [.ref (kgO hs 177), .int p1, .int p2]) (by decide +kernel) (fun hs => Nat.le_of_ble_eq_true rfl) (fun X S hQ => ?_) hs l
  refine aw_sub (L2 := [(0, .ref (kgO (kgHs X) 177)), (1, .int p1), (2, .int p2)]) [0, 1, 2] rfl ?_
  unfold f_X5_putsLid
  refine aw_aload_n S 0 rfl dX5_putsLid_0 rfl ?_
  refine aw_iload_n S 1 rfl dX5_putsLid_1 rfl ?_
  refine aw_cVi S 177 [.int p1] vw_X5_isKettle cl_X5 (by decide) (by decide) tw_1071 (s_X5_isKettle _ _ _ p1 I0) ⟨by decide, by decide⟩ rfl rfl (Nat.le_of_ble_eq_true rfl) rfl rfl (by decide) (by decide) dX5_putsLid_2 (fun x1 I1 => ?_)
  refine aw_if_ne (y := 0) (tgt := 12) S dX5_putsLid_5 (by decide) ?_ ?_
  · refine aw_iload_n S 2 rfl dX5_putsLid_12 rfl ?_
    refine aw_iconst (v := (0 : Int32)) S dX5_putsLid_13 (by decide) ?_
    refine aw_iconst (v := (1 : Int32)) S dX5_putsLid_14 (by decide) ?_
    refine aw_cSi S [.int p2, .int (0 : Int32), .int (1 : Int32)] vw_X5_in tw_1010 (s_X5_in _ _ _ p2 (0 : Int32) (1 : Int32) I1) ⟨by decide, by decide⟩ rfl rfl (Nat.le_of_ble_eq_true rfl) rfl rfl (by decide) (by decide) dX5_putsLid_15 (fun x2 I2 => ?_)
    refine aw_if_ne (y := 0) (tgt := 25) S dX5_putsLid_18 (by decide) ?_ ?_
    · refine aw_aload_n S 0 rfl dX5_putsLid_25 rfl ?_
      refine aw_aload_n S 0 rfl dX5_putsLid_26 rfl ?_
      refine aw_iload_n S 1 rfl dX5_putsLid_27 rfl ?_
      refine aw_iconst (v := (4 : Int32)) S dX5_putsLid_28 (by decide) ?_
      refine aw_cVi S 177 [.int p1, .int (4 : Int32)] vw_X5_kt cl_X5 (by decide) (by decide) tw_1075 (s_X5_kt _ _ _ p1 (4 : Int32) I2) ⟨by decide, by decide⟩ rfl rfl (Nat.le_of_ble_eq_true rfl) rfl rfl (by decide) (by decide) dX5_putsLid_29 (fun x3 I3 => ?_)
      refine aw_iload_n S 2 rfl dX5_putsLid_32 rfl ?_
      refine aw_letJ (fun (j41 : Int32 → Option (Int32 × kgM)) => ∀ (y0j41 : Int32), AW X 3 0 0 w (j41 y0j41) 41 [(0, .ref (kgO (kgHs X) 177)), (1, .int p1), (2, .int p2)] [.int y0j41, .ref (kgO (kgHs X) 177)] I3) ?_ (fun j41 hj41 => ?_)
      · intro y0j41
        refine aw_bipush (v := (9 : Int32)) S dX5_putsLid_41 (by decide) ?_
        refine aw_iload_n S 2 rfl dX5_putsLid_43 rfl ?_
        refine aw_cVi S 177 [.int y0j41, .int (9 : Int32), .int p2] vw_X5_refuses cl_X5 (by decide) (by decide) tw_1039 (s_X5_refuses _ _ _ y0j41 (9 : Int32) p2 I3) ⟨by decide, by decide⟩ rfl rfl (Nat.le_of_ble_eq_true rfl) rfl rfl (by decide) (by decide) dX5_putsLid_44 (fun x4 I4 => ?_)
        refine aw_if_ne (y := 0) (tgt := 92) S dX5_putsLid_47 (by decide) ?_ ?_
        · refine aw_sipush (v := (-1014 : Int32)) S dX5_putsLid_92 (by decide) ?_
          exact aw_ret S hQ (vp_nar_int _) (by decide) (by decide) dX5_putsLid_95
        refine aw_aload_n S 0 rfl dX5_putsLid_50 rfl ?_
        refine aw_iload_n S 2 rfl dX5_putsLid_51 rfl ?_
        refine aw_iconst (v := (1 : Int32)) S dX5_putsLid_52 (by decide) ?_
        refine aw_letJ (fun (j72 : Int32 → kgM → Option (Int32 × kgM)) => ∀ (y0j72 : Int32) (Ij72 : kgM), AW X 3 0 0 w (j72 y0j72 Ij72) 72 [(0, .ref (kgO (kgHs X) 177)), (1, .int p1), (2, .int p2)] [.int y0j72, .ref (kgO (kgHs X) 177)] Ij72) ?_ (fun j72 hj72 => ?_)
        · intro y0j72 Ij72
          refine aw_bipush (v := (12 : Int32)) S dX5_putsLid_72 (by decide) ?_
          refine aw_bipush (v := (6 : Int32)) S dX5_putsLid_74 (by decide) ?_
          refine aw_aload_n S 0 rfl dX5_putsLid_76 rfl ?_
          refine aw_getR S 177 0 178 cl_X5 (by decide) (by decide) (by decide) (by decide) (by decide) rfl tw_963 dX5_putsLid_77 ?_
          refine aw_iconst (v := (0 : Int32)) S dX5_putsLid_80 (by decide) ?_
          refine aw_iald S 178 1375 (by decide) (by decide) dX5_putsLid_81 ?_
          refine aw_bipush (v := (6 : Int32)) S dX5_putsLid_82 (by decide) ?_
          refine aw_iremK S dX5_putsLid_84 (by decide) ?_
          refine aw_isub S dX5_putsLid_85 ?_
          refine aw_cVi S 177 [.int y0j72, .int (12 : Int32), .int ((6 : Int32) - ((Ij72 178 (0 : Int32).toNatClampNeg) - (Ij72 178 (0 : Int32).toNatClampNeg) / (6 : Int32) * (6 : Int32)))] vw_X5_refuses cl_X5 (by decide) (by decide) tw_1039 (s_X5_refuses _ _ _ y0j72 (12 : Int32) ((6 : Int32) - ((Ij72 178 (0 : Int32).toNatClampNeg) - (Ij72 178 (0 : Int32).toNatClampNeg) / (6 : Int32) * (6 : Int32))) Ij72) ⟨by decide, by decide⟩ rfl rfl (Nat.le_of_ble_eq_true rfl) rfl rfl (by decide) (by decide) dX5_putsLid_86 (fun x5 I5 => ?_)
          refine aw_if_eq (y := 0) (tgt := 96) S dX5_putsLid_89 (by decide) ?_ ?_
          · refine aw_aload_n S 0 rfl dX5_putsLid_96 rfl ?_
            refine aw_iload_n S 1 rfl dX5_putsLid_97 rfl ?_
            refine aw_iconst (v := (4 : Int32)) S dX5_putsLid_98 (by decide) ?_
            refine aw_iload_n S 2 rfl dX5_putsLid_99 rfl ?_
            refine aw_cVv S 177 [.int p1, .int (4 : Int32), .int p2] vw_X5_puts cl_X5 (by decide) (by decide) tw_1059 (s_X5_puts _ _ _ p1 (4 : Int32) p2 I5) ⟨by decide, by decide⟩ rfl rfl (Nat.le_of_ble_eq_true rfl) rfl rfl (by decide) (by decide) dX5_putsLid_100 (fun x6 I6 => ?_)
            refine aw_aload_n S 0 rfl dX5_putsLid_103 rfl ?_
            refine aw_cVi S 177 [] vw_X5_lidsOn cl_X5 (by decide) (by decide) tw_1134 (s_X5_lidsOn _ _ _ I6) ⟨by decide, by decide⟩ rfl rfl (Nat.le_of_ble_eq_true rfl) rfl rfl (by decide) (by decide) dX5_putsLid_104 (fun x7 I7 => ?_)
            exact aw_ret S hQ (vp_nar_int _) (by decide) (by decide) dX5_putsLid_107
          refine aw_sipush (v := (-1014 : Int32)) S dX5_putsLid_92 (by decide) ?_
          exact aw_ret S hQ (vp_nar_int _) (by decide) (by decide) dX5_putsLid_95
        refine aw_icmp_ne (tgt := 71) S dX5_putsLid_53 (by decide) ?_ ?_
        · refine aw_iconst (v := (0 : Int32)) S dX5_putsLid_71 (by decide) ?_
          exact hj72 (0 : Int32) I4
        refine aw_aload_n S 0 rfl dX5_putsLid_56 rfl ?_
        refine aw_iload_n S 1 rfl dX5_putsLid_57 rfl ?_
        refine aw_bipush (v := (7 : Int32)) S dX5_putsLid_58 (by decide) ?_
        refine aw_cVi S 177 [.int p1, .int (7 : Int32)] vw_X5_kt cl_X5 (by decide) (by decide) tw_1075 (s_X5_kt _ _ _ p1 (7 : Int32) I4) ⟨by decide, by decide⟩ rfl rfl (Nat.le_of_ble_eq_true rfl) rfl rfl (by decide) (by decide) dX5_putsLid_60 (fun x8 I8 => ?_)
        refine aw_iconst (v := (1 : Int32)) S dX5_putsLid_63 (by decide) ?_
        refine aw_icmp_ne (tgt := 71) S dX5_putsLid_64 (by decide) ?_ ?_
        · refine aw_iconst (v := (0 : Int32)) S dX5_putsLid_71 (by decide) ?_
          exact hj72 (0 : Int32) I8
        refine aw_iconst (v := (1 : Int32)) S dX5_putsLid_67 (by decide) ?_
        refine aw_goto (tgt := 72) S dX5_putsLid_68 (by decide) ?_
        exact hj72 (1 : Int32) I8
      refine aw_icmp_ne (tgt := 40) S dX5_putsLid_33 (by decide) ?_ ?_
      · refine aw_iconst (v := (0 : Int32)) S dX5_putsLid_40 (by decide) ?_
        exact hj41 (0 : Int32)
      refine aw_iconst (v := (1 : Int32)) S dX5_putsLid_36 (by decide) ?_
      refine aw_goto (tgt := 41) S dX5_putsLid_37 (by decide) ?_
      exact hj41 (1 : Int32)
    refine aw_sipush (v := (-1012 : Int32)) S dX5_putsLid_21 (by decide) ?_
    exact aw_ret S hQ (vp_nar_int _) (by decide) (by decide) dX5_putsLid_24
  refine aw_sipush (v := (-1011 : Int32)) S dX5_putsLid_8 (by decide) ?_
  exact aw_ret S hQ (vp_nar_int _) (by decide) (by decide) dX5_putsLid_11
set_option maxHeartbeats 4000000 in
set_option maxRecDepth 100000 in
theorem s_X5_lid (hs : kgH) (l : Launch) (w : Option (Nat × Nat)) (p1 : Int32) (p2 : Int32) (I0 : kgM) : Sdi hs l w yX5_lid (kg_ws yX5_lid cX5_lid 3 (some .int)) { frames := 3, cells := 0, slots := 0, locals := 66 } [.ref (kgO hs 177), .int p1, .int p2] I0 (f_X5_lid p1 p2 I0) := by
  refine sd_i (av := fun hs => [.ref (kgO hs 177), .int p1, .int p2]) (by decide +kernel) (fun hs => Nat.le_of_ble_eq_true rfl) (fun X S hQ => ?_) hs l
  refine aw_sub (L2 := [(0, .ref (kgO (kgHs X) 177)), (1, .int p1), (2, .int p2)]) [0, 1, 2] rfl ?_
  unfold f_X5_lid
  refine aw_aload_n S 0 rfl dX5_lid_0 rfl ?_
  refine aw_cVv S 177 [] vw_X5_begins cl_X5 (by decide) (by decide) tw_1017 (s_X5_begins _ _ _ I0) ⟨by decide, by decide⟩ rfl rfl (Nat.le_of_ble_eq_true rfl) rfl rfl (by decide) (by decide) dX5_lid_1 (fun x1 I1 => ?_)
  refine aw_aload_n S 0 rfl dX5_lid_4 rfl ?_
  refine aw_aload_n S 0 rfl dX5_lid_5 rfl ?_
  refine aw_iload_n S 1 rfl dX5_lid_6 rfl ?_
  refine aw_iload_n S 2 rfl dX5_lid_7 rfl ?_
  refine aw_cVi S 177 [.int p1, .int p2] vw_X5_putsLid cl_X5 (by decide) (by decide) tw_1130 (s_X5_putsLid _ _ _ p1 p2 I1) ⟨by decide, by decide⟩ rfl rfl (Nat.le_of_ble_eq_true rfl) rfl rfl (by decide) (by decide) dX5_lid_8 (fun x2 I2 => ?_)
  refine aw_cVi S 177 [.int x2] vw_X5_ends cl_X5 (by decide) (by decide) tw_1047 (s_X5_ends _ _ _ x2 I2) ⟨by decide, by decide⟩ rfl rfl (Nat.le_of_ble_eq_true rfl) rfl rfl (by decide) (by decide) dX5_lid_11 (fun x3 I3 => ?_)
  exact aw_ret S hQ (vp_nar_int _) (by decide) (by decide) dX5_lid_14
set_option maxHeartbeats 4000000 in
set_option maxRecDepth 100000 in
theorem s_X5_bits_L4 {X : kgCX (Int32 × kgM)} {w : Option (Nat × Nat)} (S : Cx X cX5_bits RX5 3 0 0 0 0) (hQ : Qxi X w .int)  {K : Int32 → kgM → Option (Int32 × kgM)} (hK : ∀ (z1 : Int32) (J : kgM), AW X 3 0 0 w (K z1 J) 20 [(1, .int z1)] [] J) : ∀ (q : Nat) (x1h4 : Int32) (x2h4 : Int32) (Ih4 : kgM), AW X 3 0 0 w (f_X5_bits_L4 K q x1h4 x2h4 Ih4) 4 [(1, .int x1h4), (2, .int x2h4)] [] Ih4 := by
  intro q
  induction q with
  | zero => intros; exact aw_none
  | succ q ih =>
    intro x1h4 x2h4 Ih4
    rw [f_X5_bits_L4]
    refine aw_iload_n S 1 rfl dX5_bits_4 rfl ?_
    refine aw_if_eq (y := 0) (tgt := 20) S dX5_bits_5 (by decide) ?_ ?_
    · refine aw_sub (L2 := [(1, .int x1h4)]) [0] rfl ?_
      exact hK x1h4 Ih4
    refine aw_iinc (v := x1h4 + (1 : Int32)) (L2 := [(1, .int (x1h4 + (1 : Int32))), (2, .int x2h4)]) S [0, 1] 0 dX5_bits_8 rfl rfl (by decide) rfl ?_
    refine aw_let (Lf := fun x1 => [(1, .int x1), (2, .int x2h4)]) (x1h4 + (1 : Int32)) (fun x1 => ?_)
    refine aw_iload_n S 1 rfl dX5_bits_11 rfl ?_
    refine aw_iload_n S 1 rfl dX5_bits_12 rfl ?_
    refine aw_iconst (v := (1 : Int32)) S dX5_bits_13 (by decide) ?_
    refine aw_isub S dX5_bits_14 ?_
    refine aw_iand S dX5_bits_15 ?_
    refine aw_istore_n (L2 := [(1, .int x1), (2, .int (x2h4 &&& (x2h4 - (1 : Int32))))]) S [1, 0] dX5_bits_16 rfl (by decide) rfl ?_
    refine aw_let (Lf := fun x2 => [(1, .int x1), (2, .int x2)]) (x2h4 &&& (x2h4 - (1 : Int32))) (fun x2 => ?_)
    refine aw_goto (tgt := 4) S dX5_bits_17 (by decide) ?_
    exact ih x1 x2 Ih4
set_option maxHeartbeats 4000000 in
set_option maxRecDepth 100000 in
theorem s_X5_bits (hs : kgH) (l : Launch) (w : Option (Nat × Nat)) (p1 : Int32) (I0 : kgM) : Sdi hs l w yX5_bits (kg_ws yX5_bits cX5_bits 3 (some .int)) { frames := 0, cells := 0, slots := 0, locals := 0 } [.int p1] I0 (f_X5_bits p1 I0) := by
  refine sd_i (av := fun hs => [.int p1]) (by decide +kernel) (fun hs => Nat.le_of_ble_eq_true rfl) (fun X S hQ => ?_) hs l
  refine aw_sub (L2 := [(0, .int p1)]) [0] rfl ?_
  unfold f_X5_bits
  refine aw_iconst (v := (0 : Int32)) S dX5_bits_0 (by decide) ?_
  refine aw_istore_n (L2 := [(0, .int p1), (1, .int (0 : Int32))]) S [1, 0] dX5_bits_1 rfl (by decide) rfl ?_
  refine aw_iload_n S 0 rfl dX5_bits_2 rfl ?_
  refine aw_istore_n (L2 := [(0, .int p1), (1, .int (0 : Int32)), (2, .int p1)]) S [1, 2, 0] dX5_bits_3 rfl (by decide) rfl ?_
  refine aw_sub (L2 := [(1, .int (0 : Int32)), (2, .int p1)]) [1, 2] rfl ?_
  refine s_X5_bits_L4 S hQ  (fun x3 I1 => ?_) 200 (0 : Int32) p1 I0
  refine aw_iload_n S 0 rfl dX5_bits_20 rfl ?_
  exact aw_ret S hQ (vp_nar_int _) (by decide) (by decide) dX5_bits_21
set_option maxHeartbeats 4000000 in
set_option maxRecDepth 100000 in
theorem s_X5_appeals (hs : kgH) (l : Launch) (w : Option (Nat × Nat)) (p1 : Int32) (p2 : Int32) (I0 : kgM) : Sdi hs l w yX5_appeals (kg_ws yX5_appeals cX5_appeals 4 (some .int)) { frames := 2, cells := 0, slots := 0, locals := 44 } [.ref (kgO hs 177), .int p1, .int p2] I0 (f_X5_appeals p1 p2 I0) := by
  refine sd_i (av := fun hs => [.ref (kgO hs 177), .int p1, .int p2]) (by decide +kernel) (fun hs => Nat.le_of_ble_eq_true rfl) (fun X S hQ => ?_) hs l
  refine aw_sub (L2 := [(0, .ref (kgO (kgHs X) 177)), (1, .int p1), (2, .int p2)]) [0, 1, 2] rfl ?_
  unfold f_X5_appeals
  refine aw_iload_n S 1 rfl dX5_appeals_0 rfl ?_
  refine aw_cSi S [.int p1] vw_X5_isMember tw_1029 (s_X5_isMember _ _ _ p1 I0) ⟨by decide, by decide⟩ rfl rfl (Nat.le_of_ble_eq_true rfl) rfl rfl (by decide) (by decide) dX5_appeals_1 (fun x1 I1 => ?_)
  refine aw_if_eq (y := 0) (tgt := 15) S dX5_appeals_4 (by decide) ?_ ?_
  · refine aw_sipush (v := (-1011 : Int32)) S dX5_appeals_15 (by decide) ?_
    exact aw_ret S hQ (vp_nar_int _) (by decide) (by decide) dX5_appeals_18
  refine aw_aload_n S 0 rfl dX5_appeals_7 rfl ?_
  refine aw_iload_n S 2 rfl dX5_appeals_8 rfl ?_
  refine aw_cVi S 177 [.int p2] vw_X5_isKettle cl_X5 (by decide) (by decide) tw_1071 (s_X5_isKettle _ _ _ p2 I1) ⟨by decide, by decide⟩ rfl rfl (Nat.le_of_ble_eq_true rfl) rfl rfl (by decide) (by decide) dX5_appeals_9 (fun x2 I2 => ?_)
  refine aw_if_ne (y := 0) (tgt := 19) S dX5_appeals_12 (by decide) ?_ ?_
  · refine aw_aload_n S 0 rfl dX5_appeals_19 rfl ?_
    refine aw_iload_n S 2 rfl dX5_appeals_20 rfl ?_
    refine aw_bipush (v := (8 : Int32)) S dX5_appeals_21 (by decide) ?_
    refine aw_cVi S 177 [.int p2, .int (8 : Int32)] vw_X5_kt cl_X5 (by decide) (by decide) tw_1075 (s_X5_kt _ _ _ p2 (8 : Int32) I2) ⟨by decide, by decide⟩ rfl rfl (Nat.le_of_ble_eq_true rfl) rfl rfl (by decide) (by decide) dX5_appeals_23 (fun x3 I3 => ?_)
    refine aw_istore_n (L2 := [(0, .ref (kgO (kgHs X) 177)), (1, .int p1), (2, .int p2), (3, .int x3)]) S [1, 2, 3, 0] dX5_appeals_26 rfl (by decide) rfl ?_
    refine aw_aload_n S 0 rfl dX5_appeals_27 rfl ?_
    refine aw_aload_n S 0 rfl dX5_appeals_28 rfl ?_
    refine aw_iload_n S 2 rfl dX5_appeals_29 rfl ?_
    refine aw_iconst (v := (0 : Int32)) S dX5_appeals_30 (by decide) ?_
    refine aw_cVi S 177 [.int p2, .int (0 : Int32)] vw_X5_kt cl_X5 (by decide) (by decide) tw_1075 (s_X5_kt _ _ _ p2 (0 : Int32) I3) ⟨by decide, by decide⟩ rfl rfl (Nat.le_of_ble_eq_true rfl) rfl rfl (by decide) (by decide) dX5_appeals_31 (fun x4 I4 => ?_)
    refine aw_iload_n S 1 rfl dX5_appeals_34 rfl ?_
    refine aw_letJ (fun (j43 : Int32 → Option (Int32 × kgM)) => ∀ (y0j43 : Int32), AW X 4 0 0 w (j43 y0j43) 43 [(0, .ref (kgO (kgHs X) 177)), (1, .int p1), (2, .int p2), (3, .int x3)] [.int y0j43, .ref (kgO (kgHs X) 177)] I4) ?_ (fun j43 hj43 => ?_)
    · intro y0j43
      refine aw_bipush (v := (13 : Int32)) S dX5_appeals_43 (by decide) ?_
      refine aw_iload_n S 1 rfl dX5_appeals_45 rfl ?_
      refine aw_cVi S 177 [.int y0j43, .int (13 : Int32), .int p1] vw_X5_refuses cl_X5 (by decide) (by decide) tw_1039 (s_X5_refuses _ _ _ y0j43 (13 : Int32) p1 I4) ⟨by decide, by decide⟩ rfl rfl (Nat.le_of_ble_eq_true rfl) rfl rfl (by decide) (by decide) dX5_appeals_46 (fun x5 I5 => ?_)
      refine aw_if_ne (y := 0) (tgt := 106) S dX5_appeals_49 (by decide) ?_ ?_
      · refine aw_sipush (v := (-1014 : Int32)) S dX5_appeals_106 (by decide) ?_
        exact aw_ret S hQ (vp_nar_int _) (by decide) (by decide) dX5_appeals_109
      refine aw_aload_n S 0 rfl dX5_appeals_52 rfl ?_
      refine aw_aload_n S 0 rfl dX5_appeals_53 rfl ?_
      refine aw_iload_n S 2 rfl dX5_appeals_54 rfl ?_
      refine aw_iconst (v := (4 : Int32)) S dX5_appeals_55 (by decide) ?_
      refine aw_cVi S 177 [.int p2, .int (4 : Int32)] vw_X5_kt cl_X5 (by decide) (by decide) tw_1075 (s_X5_kt _ _ _ p2 (4 : Int32) I5) ⟨by decide, by decide⟩ rfl rfl (Nat.le_of_ble_eq_true rfl) rfl rfl (by decide) (by decide) dX5_appeals_56 (fun x6 I6 => ?_)
      refine aw_letJ (fun (j67 : Int32 → Option (Int32 × kgM)) => ∀ (y0j67 : Int32), AW X 4 0 0 w (j67 y0j67) 67 [(0, .ref (kgO (kgHs X) 177)), (1, .int p1), (2, .int p2), (3, .int x3)] [.int y0j67, .ref (kgO (kgHs X) 177)] I6) ?_ (fun j67 hj67 => ?_)
      · intro y0j67
        refine aw_bipush (v := (15 : Int32)) S dX5_appeals_67 (by decide) ?_
        refine aw_aload_n S 0 rfl dX5_appeals_69 rfl ?_
        refine aw_cVi S 177 [] vw_X5_lidsOn cl_X5 (by decide) (by decide) tw_1134 (s_X5_lidsOn _ _ _ I6) ⟨by decide, by decide⟩ rfl rfl (Nat.le_of_ble_eq_true rfl) rfl rfl (by decide) (by decide) dX5_appeals_70 (fun x7 I7 => ?_)
        refine aw_cVi S 177 [.int y0j67, .int (15 : Int32), .int x7] vw_X5_refuses cl_X5 (by decide) (by decide) tw_1039 (s_X5_refuses _ _ _ y0j67 (15 : Int32) x7 I7) ⟨by decide, by decide⟩ rfl rfl (Nat.le_of_ble_eq_true rfl) rfl rfl (by decide) (by decide) dX5_appeals_73 (fun x8 I8 => ?_)
        refine aw_if_ne (y := 0) (tgt := 106) S dX5_appeals_76 (by decide) ?_ ?_
        · refine aw_sipush (v := (-1014 : Int32)) S dX5_appeals_106 (by decide) ?_
          exact aw_ret S hQ (vp_nar_int _) (by decide) (by decide) dX5_appeals_109
        refine aw_aload_n S 0 rfl dX5_appeals_79 rfl ?_
        refine aw_iload_n S 3 rfl dX5_appeals_80 rfl ?_
        refine aw_iload_n S 1 rfl dX5_appeals_81 rfl ?_
        refine aw_ishr S dX5_appeals_82 ?_
        refine aw_iconst (v := (1 : Int32)) S dX5_appeals_83 (by decide) ?_
        refine aw_iand S dX5_appeals_84 ?_
        refine aw_iconst (v := (1 : Int32)) S dX5_appeals_85 (by decide) ?_
        refine aw_letJ (fun (j94 : Int32 → Option (Int32 × kgM)) => ∀ (y0j94 : Int32), AW X 4 0 0 w (j94 y0j94) 94 [(0, .ref (kgO (kgHs X) 177)), (1, .int p1), (2, .int p2), (3, .int x3)] [.int y0j94, .ref (kgO (kgHs X) 177)] I8) ?_ (fun j94 hj94 => ?_)
        · intro y0j94
          refine aw_bipush (v := (14 : Int32)) S dX5_appeals_94 (by decide) ?_
          refine aw_iload_n S 3 rfl dX5_appeals_96 rfl ?_
          refine aw_cSi S [.int x3] vw_X5_bits tw_1146 (s_X5_bits _ _ _ x3 I8) ⟨by decide, by decide⟩ rfl rfl (Nat.le_of_ble_eq_true rfl) rfl rfl (by decide) (by decide) dX5_appeals_97 (fun x9 I9 => ?_)
          refine aw_cVi S 177 [.int y0j94, .int (14 : Int32), .int x9] vw_X5_refuses cl_X5 (by decide) (by decide) tw_1039 (s_X5_refuses _ _ _ y0j94 (14 : Int32) x9 I9) ⟨by decide, by decide⟩ rfl rfl (Nat.le_of_ble_eq_true rfl) rfl rfl (by decide) (by decide) dX5_appeals_100 (fun x10 I10 => ?_)
          refine aw_if_eq (y := 0) (tgt := 110) S dX5_appeals_103 (by decide) ?_ ?_
          · refine aw_aload_n S 0 rfl dX5_appeals_110 rfl ?_
            refine aw_getR S 177 0 178 cl_X5 (by decide) (by decide) (by decide) (by decide) (by decide) rfl tw_963 dX5_appeals_111 ?_
            refine aw_iconst (v := (5 : Int32)) S dX5_appeals_114 (by decide) ?_
            refine aw_iconst (v := (3 : Int32)) S dX5_appeals_115 (by decide) ?_
            refine aw_iload_n S 1 rfl dX5_appeals_116 rfl ?_
            refine aw_imul S dX5_appeals_117 ?_
            refine aw_iadd S dX5_appeals_118 ?_
            refine aw_iconst (v := (2 : Int32)) S dX5_appeals_119 (by decide) ?_
            refine aw_iadd S dX5_appeals_120 ?_
            refine aw_dup2 S dX5_appeals_121 rfl rfl ?_
            refine aw_iald S 178 1375 (by decide) (by decide) dX5_appeals_122 ?_
            refine aw_iconst (v := (1 : Int32)) S dX5_appeals_123 (by decide) ?_
            refine aw_iadd S dX5_appeals_124 ?_
            refine aw_iast S 178 1375 (by decide) (by decide) dX5_appeals_125 ?_
            refine aw_wr (fun I11 => ?_)
            refine aw_aload_n S 0 rfl dX5_appeals_126 rfl ?_
            refine aw_iload_n S 2 rfl dX5_appeals_127 rfl ?_
            refine aw_bipush (v := (8 : Int32)) S dX5_appeals_128 (by decide) ?_
            refine aw_iload_n S 3 rfl dX5_appeals_130 rfl ?_
            refine aw_iconst (v := (1 : Int32)) S dX5_appeals_131 (by decide) ?_
            refine aw_iload_n S 1 rfl dX5_appeals_132 rfl ?_
            refine aw_ishl S dX5_appeals_133 ?_
            refine aw_ior S dX5_appeals_134 ?_
            refine aw_cVv S 177 [.int p2, .int (8 : Int32), .int (x3 ||| ((1 : Int32) <<< (p1 &&& 31)))] vw_X5_puts cl_X5 (by decide) (by decide) tw_1059 (s_X5_puts _ _ _ p2 (8 : Int32) (x3 ||| ((1 : Int32) <<< (p1 &&& 31))) I11) ⟨by decide, by decide⟩ rfl rfl (Nat.le_of_ble_eq_true rfl) rfl rfl (by decide) (by decide) dX5_appeals_135 (fun x11 I12 => ?_)
            refine aw_iload_n S 3 rfl dX5_appeals_138 rfl ?_
            refine aw_iconst (v := (1 : Int32)) S dX5_appeals_139 (by decide) ?_
            refine aw_iload_n S 1 rfl dX5_appeals_140 rfl ?_
            refine aw_ishl S dX5_appeals_141 ?_
            refine aw_ior S dX5_appeals_142 ?_
            refine aw_cSi S [.int (x3 ||| ((1 : Int32) <<< (p1 &&& 31)))] vw_X5_bits tw_1146 (s_X5_bits _ _ _ (x3 ||| ((1 : Int32) <<< (p1 &&& 31))) I12) ⟨by decide, by decide⟩ rfl rfl (Nat.le_of_ble_eq_true rfl) rfl rfl (by decide) (by decide) dX5_appeals_143 (fun x12 I13 => ?_)
            refine aw_iconst (v := (2 : Int32)) S dX5_appeals_146 (by decide) ?_
            refine aw_icmp_ge (tgt := 152) S dX5_appeals_147 (by decide) ?_ ?_
            · refine aw_aload_n S 0 rfl dX5_appeals_152 rfl ?_
              refine aw_iload_n S 2 rfl dX5_appeals_153 rfl ?_
              refine aw_bipush (v := (8 : Int32)) S dX5_appeals_154 (by decide) ?_
              refine aw_iconst (v := (0 : Int32)) S dX5_appeals_156 (by decide) ?_
              refine aw_cVv S 177 [.int p2, .int (8 : Int32), .int (0 : Int32)] vw_X5_puts cl_X5 (by decide) (by decide) tw_1059 (s_X5_puts _ _ _ p2 (8 : Int32) (0 : Int32) I13) ⟨by decide, by decide⟩ rfl rfl (Nat.le_of_ble_eq_true rfl) rfl rfl (by decide) (by decide) dX5_appeals_157 (fun x13 I14 => ?_)
              refine aw_aload_n S 0 rfl dX5_appeals_160 rfl ?_
              refine aw_iload_n S 2 rfl dX5_appeals_161 rfl ?_
              refine aw_iconst (v := (4 : Int32)) S dX5_appeals_162 (by decide) ?_
              refine aw_iconst (v := (0 : Int32)) S dX5_appeals_163 (by decide) ?_
              refine aw_cVv S 177 [.int p2, .int (4 : Int32), .int (0 : Int32)] vw_X5_puts cl_X5 (by decide) (by decide) tw_1059 (s_X5_puts _ _ _ p2 (4 : Int32) (0 : Int32) I14) ⟨by decide, by decide⟩ rfl rfl (Nat.le_of_ble_eq_true rfl) rfl rfl (by decide) (by decide) dX5_appeals_164 (fun x14 I15 => ?_)
              refine aw_aload_n S 0 rfl dX5_appeals_167 rfl ?_
              refine aw_iload_n S 2 rfl dX5_appeals_168 rfl ?_
              refine aw_bipush (v := (7 : Int32)) S dX5_appeals_169 (by decide) ?_
              refine aw_iconst (v := (1 : Int32)) S dX5_appeals_171 (by decide) ?_
              refine aw_cVv S 177 [.int p2, .int (7 : Int32), .int (1 : Int32)] vw_X5_puts cl_X5 (by decide) (by decide) tw_1059 (s_X5_puts _ _ _ p2 (7 : Int32) (1 : Int32) I15) ⟨by decide, by decide⟩ rfl rfl (Nat.le_of_ble_eq_true rfl) rfl rfl (by decide) (by decide) dX5_appeals_172 (fun x15 I16 => ?_)
              refine aw_iconst (v := (1 : Int32)) S dX5_appeals_175 (by decide) ?_
              exact aw_ret S hQ (vp_nar_int _) (by decide) (by decide) dX5_appeals_176
            refine aw_iconst (v := (0 : Int32)) S dX5_appeals_150 (by decide) ?_
            exact aw_ret S hQ (vp_nar_int _) (by decide) (by decide) dX5_appeals_151
          refine aw_sipush (v := (-1014 : Int32)) S dX5_appeals_106 (by decide) ?_
          exact aw_ret S hQ (vp_nar_int _) (by decide) (by decide) dX5_appeals_109
        refine aw_icmp_ne (tgt := 93) S dX5_appeals_86 (by decide) ?_ ?_
        · refine aw_iconst (v := (0 : Int32)) S dX5_appeals_93 (by decide) ?_
          exact hj94 (0 : Int32)
        refine aw_iconst (v := (1 : Int32)) S dX5_appeals_89 (by decide) ?_
        refine aw_goto (tgt := 94) S dX5_appeals_90 (by decide) ?_
        exact hj94 (1 : Int32)
      refine aw_if_ne (y := 0) (tgt := 66) S dX5_appeals_59 (by decide) ?_ ?_
      · refine aw_iconst (v := (0 : Int32)) S dX5_appeals_66 (by decide) ?_
        exact hj67 (0 : Int32)
      refine aw_iconst (v := (1 : Int32)) S dX5_appeals_62 (by decide) ?_
      refine aw_goto (tgt := 67) S dX5_appeals_63 (by decide) ?_
      exact hj67 (1 : Int32)
    refine aw_icmp_ne (tgt := 42) S dX5_appeals_35 (by decide) ?_ ?_
    · refine aw_iconst (v := (0 : Int32)) S dX5_appeals_42 (by decide) ?_
      exact hj43 (0 : Int32)
    refine aw_iconst (v := (1 : Int32)) S dX5_appeals_38 (by decide) ?_
    refine aw_goto (tgt := 43) S dX5_appeals_39 (by decide) ?_
    exact hj43 (1 : Int32)
  refine aw_sipush (v := (-1011 : Int32)) S dX5_appeals_15 (by decide) ?_
  exact aw_ret S hQ (vp_nar_int _) (by decide) (by decide) dX5_appeals_18
set_option maxHeartbeats 4000000 in
set_option maxRecDepth 100000 in
theorem s_X5_appeal (hs : kgH) (l : Launch) (w : Option (Nat × Nat)) (p1 : Int32) (p2 : Int32) (I0 : kgM) : Sdi hs l w yX5_appeal (kg_ws yX5_appeal cX5_appeal 3 (some .int)) { frames := 3, cells := 0, slots := 0, locals := 67 } [.ref (kgO hs 177), .int p1, .int p2] I0 (f_X5_appeal p1 p2 I0) := by
  refine sd_i (av := fun hs => [.ref (kgO hs 177), .int p1, .int p2]) (by decide +kernel) (fun hs => Nat.le_of_ble_eq_true rfl) (fun X S hQ => ?_) hs l
  refine aw_sub (L2 := [(0, .ref (kgO (kgHs X) 177)), (1, .int p1), (2, .int p2)]) [0, 1, 2] rfl ?_
  unfold f_X5_appeal
  refine aw_aload_n S 0 rfl dX5_appeal_0 rfl ?_
  refine aw_cVv S 177 [] vw_X5_begins cl_X5 (by decide) (by decide) tw_1017 (s_X5_begins _ _ _ I0) ⟨by decide, by decide⟩ rfl rfl (Nat.le_of_ble_eq_true rfl) rfl rfl (by decide) (by decide) dX5_appeal_1 (fun x1 I1 => ?_)
  refine aw_aload_n S 0 rfl dX5_appeal_4 rfl ?_
  refine aw_aload_n S 0 rfl dX5_appeal_5 rfl ?_
  refine aw_iload_n S 1 rfl dX5_appeal_6 rfl ?_
  refine aw_iload_n S 2 rfl dX5_appeal_7 rfl ?_
  refine aw_cVi S 177 [.int p1, .int p2] vw_X5_appeals cl_X5 (by decide) (by decide) tw_1142 (s_X5_appeals _ _ _ p1 p2 I1) ⟨by decide, by decide⟩ rfl rfl (Nat.le_of_ble_eq_true rfl) rfl rfl (by decide) (by decide) dX5_appeal_8 (fun x2 I2 => ?_)
  refine aw_cVi S 177 [.int x2] vw_X5_ends cl_X5 (by decide) (by decide) tw_1047 (s_X5_ends _ _ _ x2 I2) ⟨by decide, by decide⟩ rfl rfl (Nat.le_of_ble_eq_true rfl) rfl rfl (by decide) (by decide) dX5_appeal_11 (fun x3 I3 => ?_)
  exact aw_ret S hQ (vp_nar_int _) (by decide) (by decide) dX5_appeal_14
set_option maxHeartbeats 4000000 in
set_option maxRecDepth 100000 in
theorem s_X5_sound (hs : kgH) (l : Launch) (w : Option (Nat × Nat)) (p1 : Int32) (p2 : Int32) (I0 : kgM) : Sdi hs l w yX5_sound (kg_ws yX5_sound cX5_sound 3 (some .int)) { frames := 1, cells := 0, slots := 0, locals := 22 } [.int p1, .int p2] I0 (f_X5_sound p1 p2 I0) := by
  refine sd_i (av := fun hs => [.int p1, .int p2]) (by decide +kernel) (fun hs => Nat.le_of_ble_eq_true rfl) (fun X S hQ => ?_) hs l
  refine aw_sub (L2 := [(0, .int p1), (1, .int p2)]) [0, 1] rfl ?_
  unfold f_X5_sound
  refine aw_iload_n S 0 rfl dX5_sound_0 rfl ?_
  refine aw_iload_n S 1 rfl dX5_sound_1 rfl ?_
  refine aw_letJ (fun (j14 : Int32 → Option (Int32 × kgM)) => ∀ (y0j14 : Int32), AW X 3 0 0 w (j14 y0j14) 14 [] [.int y0j14] I0) ?_ (fun j14 hj14 => ?_)
  · intro y0j14
    refine aw_istore_n (L2 := [(2, .int y0j14)]) S [0] dX5_sound_14 rfl (by decide) rfl ?_
    refine aw_iload_n S 0 rfl dX5_sound_15 rfl ?_
    refine aw_iconst (v := (3 : Int32)) S dX5_sound_16 (by decide) ?_
    refine aw_iconst (v := (5 : Int32)) S dX5_sound_17 (by decide) ?_
    refine aw_cSi S [.int y0j14, .int (3 : Int32), .int (5 : Int32)] vw_X5_in tw_1010 (s_X5_in _ _ _ y0j14 (3 : Int32) (5 : Int32) I0) ⟨by decide, by decide⟩ rfl rfl (Nat.le_of_ble_eq_true rfl) rfl rfl (by decide) (by decide) dX5_sound_18 (fun x1 I1 => ?_)
    refine aw_if_ne (y := 0) (tgt := 35) S dX5_sound_21 (by decide) ?_ ?_
    · refine aw_iconst (v := (1 : Int32)) S dX5_sound_35 (by decide) ?_
      refine aw_goto (tgt := 48) S dX5_sound_36 (by decide) ?_
      exact aw_ret S hQ (vp_nar_int _) (by decide) (by decide) dX5_sound_48
    refine aw_iload_n S 0 rfl dX5_sound_24 rfl ?_
    refine aw_bipush (v := (7 : Int32)) S dX5_sound_25 (by decide) ?_
    refine aw_bipush (v := (9 : Int32)) S dX5_sound_27 (by decide) ?_
    refine aw_cSi S [.int y0j14, .int (7 : Int32), .int (9 : Int32)] vw_X5_in tw_1010 (s_X5_in _ _ _ y0j14 (7 : Int32) (9 : Int32) I1) ⟨by decide, by decide⟩ rfl rfl (Nat.le_of_ble_eq_true rfl) rfl rfl (by decide) (by decide) dX5_sound_29 (fun x2 I2 => ?_)
    refine aw_if_eq (y := 0) (tgt := 39) S dX5_sound_32 (by decide) ?_ ?_
    · refine aw_iload_n S 0 rfl dX5_sound_39 rfl ?_
      refine aw_if_ne (y := 0) (tgt := 47) S dX5_sound_40 (by decide) ?_ ?_
      · refine aw_iconst (v := (-1 : Int32)) S dX5_sound_47 (by decide) ?_
        exact aw_ret S hQ (vp_nar_int _) (by decide) (by decide) dX5_sound_48
      refine aw_iconst (v := (0 : Int32)) S dX5_sound_43 (by decide) ?_
      refine aw_goto (tgt := 48) S dX5_sound_44 (by decide) ?_
      exact aw_ret S hQ (vp_nar_int _) (by decide) (by decide) dX5_sound_48
    refine aw_iconst (v := (1 : Int32)) S dX5_sound_35 (by decide) ?_
    refine aw_goto (tgt := 48) S dX5_sound_36 (by decide) ?_
    exact aw_ret S hQ (vp_nar_int _) (by decide) (by decide) dX5_sound_48
  refine aw_icmp_ge (tgt := 11) S dX5_sound_2 (by decide) ?_ ?_
  · refine aw_iload_n S 0 rfl dX5_sound_11 rfl ?_
    refine aw_iload_n S 1 rfl dX5_sound_12 rfl ?_
    refine aw_isub S dX5_sound_13 ?_
    refine aw_sub (L2 := []) [] rfl ?_
    exact hj14 (p1 - p2)
  refine aw_iload_n S 1 rfl dX5_sound_5 rfl ?_
  refine aw_iload_n S 0 rfl dX5_sound_6 rfl ?_
  refine aw_isub S dX5_sound_7 ?_
  refine aw_goto (tgt := 14) S dX5_sound_8 (by decide) ?_
  refine aw_sub (L2 := []) [] rfl ?_
  exact hj14 (p2 - p1)
set_option maxHeartbeats 4000000 in
set_option maxRecDepth 100000 in
theorem s_X5_sounds_L14 {X : kgCX (Int32 × kgM)} {w : Option (Nat × Nat)} (S : Cx X cX5_sounds RX5 4 5 106 0 0) (hQ : Qxv X w) (a1 : Int32) {K : kgM → Option (Int32 × kgM)} (hK : ∀  (J : kgM), AW X 4 0 0 w (K J) 103 [(0, .ref (kgO (kgHs X) 177)), (1, .int a1)] [] J) : ∀ (q : Nat) (x2h14 : Int32) (Ih14 : kgM), AW X 4 0 0 w (f_X5_sounds_L14 a1 K q x2h14 Ih14) 14 [(0, .ref (kgO (kgHs X) 177)), (1, .int a1), (2, .int x2h14)] [] Ih14 := by
  intro q
  induction q with
  | zero => intros; exact aw_none
  | succ q ih =>
    intro x2h14 Ih14
    rw [f_X5_sounds_L14]
    refine aw_iload_n S 2 rfl dX5_sounds_14 rfl ?_
    refine aw_iload_n S 1 rfl dX5_sounds_15 rfl ?_
    refine aw_icmp_ge (tgt := 103) S dX5_sounds_16 (by decide) ?_ ?_
    · refine aw_sub (L2 := [(0, .ref (kgO (kgHs X) 177)), (1, .int a1)]) [0, 1] rfl ?_
      exact hK Ih14
    refine aw_aload_n S 0 rfl dX5_sounds_19 rfl ?_
    refine aw_iload_n S 1 rfl dX5_sounds_20 rfl ?_
    refine aw_cVi S 177 [.int a1] vw_X5_whistles cl_X5 (by decide) (by decide) tw_1177 (s_X5_whistles _ _ _ a1 Ih14) ⟨by decide, by decide⟩ rfl rfl (Nat.le_of_ble_eq_true rfl) rfl rfl (by decide) (by decide) dX5_sounds_21 (fun x1 I1 => ?_)
    refine aw_letJ (fun (j54 : Int32 → kgM → Option (Int32 × kgM)) => ∀ (y0j54 : Int32) (Ij54 : kgM), AW X 4 0 0 w (j54 y0j54 Ij54) 54 [(0, .ref (kgO (kgHs X) 177)), (1, .int a1), (2, .int x2h14)] [.int y0j54] Ij54) ?_ (fun j54 hj54 => ?_)
    · intro y0j54 Ij54
      refine aw_istore_n (L2 := [(0, .ref (kgO (kgHs X) 177)), (1, .int a1), (2, .int x2h14), (3, .int y0j54)]) S [1, 2, 3, 0] dX5_sounds_54 rfl (by decide) rfl ?_
      refine aw_aload_n S 0 rfl dX5_sounds_55 rfl ?_
      refine aw_getR S 177 0 178 cl_X5 (by decide) (by decide) (by decide) (by decide) (by decide) rfl tw_963 dX5_sounds_56 ?_
      refine aw_iconst (v := (5 : Int32)) S dX5_sounds_59 (by decide) ?_
      refine aw_iconst (v := (3 : Int32)) S dX5_sounds_60 (by decide) ?_
      refine aw_aload_n S 0 rfl dX5_sounds_61 rfl ?_
      refine aw_iload_n S 1 rfl dX5_sounds_62 rfl ?_
      refine aw_iconst (v := (0 : Int32)) S dX5_sounds_63 (by decide) ?_
      refine aw_cVi S 177 [.int a1, .int (0 : Int32)] vw_X5_kt cl_X5 (by decide) (by decide) tw_1075 (s_X5_kt _ _ _ a1 (0 : Int32) Ij54) ⟨by decide, by decide⟩ rfl rfl (Nat.le_of_ble_eq_true rfl) rfl rfl (by decide) (by decide) dX5_sounds_64 (fun x2 I2 => ?_)
      refine aw_imul S dX5_sounds_67 ?_
      refine aw_iadd S dX5_sounds_68 ?_
      refine aw_iconst (v := (0 : Int32)) S dX5_sounds_69 (by decide) ?_
      refine aw_iadd S dX5_sounds_70 ?_
      refine aw_dup2 S dX5_sounds_71 rfl rfl ?_
      refine aw_iald S 178 1375 (by decide) (by decide) dX5_sounds_72 ?_
      refine aw_iload_n S 3 rfl dX5_sounds_73 rfl ?_
      refine aw_iadd S dX5_sounds_74 ?_
      refine aw_iast S 178 1375 (by decide) (by decide) dX5_sounds_75 ?_
      refine aw_wr (fun I3 => ?_)
      refine aw_aload_n S 0 rfl dX5_sounds_76 rfl ?_
      refine aw_getR S 177 0 178 cl_X5 (by decide) (by decide) (by decide) (by decide) (by decide) rfl tw_963 dX5_sounds_77 ?_
      refine aw_iconst (v := (5 : Int32)) S dX5_sounds_80 (by decide) ?_
      refine aw_iconst (v := (3 : Int32)) S dX5_sounds_81 (by decide) ?_
      refine aw_aload_n S 0 rfl dX5_sounds_82 rfl ?_
      refine aw_iload_n S 2 rfl dX5_sounds_83 rfl ?_
      refine aw_iconst (v := (0 : Int32)) S dX5_sounds_84 (by decide) ?_
      refine aw_cVi S 177 [.int x2h14, .int (0 : Int32)] vw_X5_kt cl_X5 (by decide) (by decide) tw_1075 (s_X5_kt _ _ _ x2h14 (0 : Int32) I3) ⟨by decide, by decide⟩ rfl rfl (Nat.le_of_ble_eq_true rfl) rfl rfl (by decide) (by decide) dX5_sounds_85 (fun x3 I4 => ?_)
      refine aw_imul S dX5_sounds_88 ?_
      refine aw_iadd S dX5_sounds_89 ?_
      refine aw_iconst (v := (0 : Int32)) S dX5_sounds_90 (by decide) ?_
      refine aw_iadd S dX5_sounds_91 ?_
      refine aw_dup2 S dX5_sounds_92 rfl rfl ?_
      refine aw_iald S 178 1375 (by decide) (by decide) dX5_sounds_93 ?_
      refine aw_iload_n S 3 rfl dX5_sounds_94 rfl ?_
      refine aw_iadd S dX5_sounds_95 ?_
      refine aw_iast S 178 1375 (by decide) (by decide) dX5_sounds_96 ?_
      refine aw_wr (fun I5 => ?_)
      refine aw_iinc (v := x2h14 + (1 : Int32)) (L2 := [(0, .ref (kgO (kgHs X) 177)), (1, .int a1), (2, .int (x2h14 + (1 : Int32))), (3, .int y0j54)]) S [1, 2, 0, 3] 2 dX5_sounds_97 rfl rfl (by decide) rfl ?_
      refine aw_let (Lf := fun x4 => [(0, .ref (kgO (kgHs X) 177)), (1, .int a1), (2, .int x4), (3, .int y0j54)]) (x2h14 + (1 : Int32)) (fun x4 => ?_)
      refine aw_goto (tgt := 14) S dX5_sounds_100 (by decide) ?_
      refine aw_sub (L2 := [(0, .ref (kgO (kgHs X) 177)), (1, .int a1), (2, .int x4)]) [0, 1, 2] rfl ?_
      exact ih x4 I5
    refine aw_if_eq (y := 0) (tgt := 53) S dX5_sounds_24 (by decide) ?_ ?_
    · refine aw_iconst (v := (0 : Int32)) S dX5_sounds_53 (by decide) ?_
      exact hj54 (0 : Int32) I1
    refine aw_aload_n S 0 rfl dX5_sounds_27 rfl ?_
    refine aw_iload_n S 2 rfl dX5_sounds_28 rfl ?_
    refine aw_cVi S 177 [.int x2h14] vw_X5_whistles cl_X5 (by decide) (by decide) tw_1177 (s_X5_whistles _ _ _ x2h14 I1) ⟨by decide, by decide⟩ rfl rfl (Nat.le_of_ble_eq_true rfl) rfl rfl (by decide) (by decide) dX5_sounds_29 (fun x5 I6 => ?_)
    refine aw_if_eq (y := 0) (tgt := 53) S dX5_sounds_32 (by decide) ?_ ?_
    · refine aw_iconst (v := (0 : Int32)) S dX5_sounds_53 (by decide) ?_
      exact hj54 (0 : Int32) I6
    refine aw_aload_n S 0 rfl dX5_sounds_35 rfl ?_
    refine aw_iload_n S 1 rfl dX5_sounds_36 rfl ?_
    refine aw_iconst (v := (1 : Int32)) S dX5_sounds_37 (by decide) ?_
    refine aw_cVi S 177 [.int a1, .int (1 : Int32)] vw_X5_kt cl_X5 (by decide) (by decide) tw_1075 (s_X5_kt _ _ _ a1 (1 : Int32) I6) ⟨by decide, by decide⟩ rfl rfl (Nat.le_of_ble_eq_true rfl) rfl rfl (by decide) (by decide) dX5_sounds_38 (fun x6 I7 => ?_)
    refine aw_aload_n S 0 rfl dX5_sounds_41 rfl ?_
    refine aw_iload_n S 2 rfl dX5_sounds_42 rfl ?_
    refine aw_iconst (v := (1 : Int32)) S dX5_sounds_43 (by decide) ?_
    refine aw_cVi S 177 [.int x2h14, .int (1 : Int32)] vw_X5_kt cl_X5 (by decide) (by decide) tw_1075 (s_X5_kt _ _ _ x2h14 (1 : Int32) I7) ⟨by decide, by decide⟩ rfl rfl (Nat.le_of_ble_eq_true rfl) rfl rfl (by decide) (by decide) dX5_sounds_44 (fun x7 I8 => ?_)
    refine aw_cSi S [.int x6, .int x7] vw_X5_sound tw_1181 (s_X5_sound _ _ _ x6 x7 I8) ⟨by decide, by decide⟩ rfl rfl (Nat.le_of_ble_eq_true rfl) rfl rfl (by decide) (by decide) dX5_sounds_47 (fun x8 I9 => ?_)
    refine aw_goto (tgt := 54) S dX5_sounds_50 (by decide) ?_
    exact hj54 x8 I9
set_option maxHeartbeats 4000000 in
set_option maxRecDepth 100000 in
theorem s_X5_sounds_L2 {X : kgCX (Int32 × kgM)} {w : Option (Nat × Nat)} (S : Cx X cX5_sounds RX5 4 5 106 0 0) (hQ : Qxv X w)  {K : kgM → Option (Int32 × kgM)} (hK : ∀  (J : kgM), AW X 4 0 0 w (K J) 109 [(0, .ref (kgO (kgHs X) 177))] [] J) : ∀ (q : Nat) (x1h2 : Int32) (Ih2 : kgM), AW X 4 0 0 w (f_X5_sounds_L2 K q x1h2 Ih2) 2 [(0, .ref (kgO (kgHs X) 177)), (1, .int x1h2)] [] Ih2 := by
  intro q
  induction q with
  | zero => intros; exact aw_none
  | succ q ih =>
    intro x1h2 Ih2
    rw [f_X5_sounds_L2]
    refine aw_iload_n S 1 rfl dX5_sounds_2 rfl ?_
    refine aw_aload_n S 0 rfl dX5_sounds_3 rfl ?_
    refine aw_getR S 177 0 178 cl_X5 (by decide) (by decide) (by decide) (by decide) (by decide) rfl tw_963 dX5_sounds_4 ?_
    refine aw_iconst (v := (1 : Int32)) S dX5_sounds_7 (by decide) ?_
    refine aw_iald S 178 1375 (by decide) (by decide) dX5_sounds_8 ?_
    refine aw_icmp_ge (tgt := 109) S dX5_sounds_9 (by decide) ?_ ?_
    · refine aw_sub (L2 := [(0, .ref (kgO (kgHs X) 177))]) [0] rfl ?_
      exact hK Ih2
    refine aw_iconst (v := (0 : Int32)) S dX5_sounds_12 (by decide) ?_
    refine aw_istore_n (L2 := [(0, .ref (kgO (kgHs X) 177)), (1, .int x1h2), (2, .int (0 : Int32))]) S [1, 2, 0] dX5_sounds_13 rfl (by decide) rfl ?_
    refine s_X5_sounds_L14 S hQ x1h2 (fun I10 => ?_) 200 (0 : Int32) Ih2
    refine aw_iinc (v := x1h2 + (1 : Int32)) (L2 := [(0, .ref (kgO (kgHs X) 177)), (1, .int (x1h2 + (1 : Int32)))]) S [1, 0] 1 dX5_sounds_103 rfl rfl (by decide) rfl ?_
    refine aw_let (Lf := fun x9 => [(0, .ref (kgO (kgHs X) 177)), (1, .int x9)]) (x1h2 + (1 : Int32)) (fun x9 => ?_)
    refine aw_goto (tgt := 2) S dX5_sounds_106 (by decide) ?_
    exact ih x9 I10
set_option maxHeartbeats 4000000 in
set_option maxRecDepth 100000 in
theorem s_X5_sounds_L111 {X : kgCX (Int32 × kgM)} {w : Option (Nat × Nat)} (S : Cx X cX5_sounds RX5 4 5 106 0 0) (hQ : Qxv X w)  {K : kgM → Option (Int32 × kgM)} (hK : ∀  (J : kgM), AW X 4 0 0 w (K J) 135 [] [] J) : ∀ (q : Nat) (x1h111 : Int32) (Ih111 : kgM), AW X 4 0 0 w (f_X5_sounds_L111 K q x1h111 Ih111) 111 [(0, .ref (kgO (kgHs X) 177)), (1, .int x1h111)] [] Ih111 := by
  intro q
  induction q with
  | zero => intros; exact aw_none
  | succ q ih =>
    intro x1h111 Ih111
    rw [f_X5_sounds_L111]
    refine aw_iload_n S 1 rfl dX5_sounds_111 rfl ?_
    refine aw_aload_n S 0 rfl dX5_sounds_112 rfl ?_
    refine aw_getR S 177 0 178 cl_X5 (by decide) (by decide) (by decide) (by decide) (by decide) rfl tw_963 dX5_sounds_113 ?_
    refine aw_iconst (v := (1 : Int32)) S dX5_sounds_116 (by decide) ?_
    refine aw_iald S 178 1375 (by decide) (by decide) dX5_sounds_117 ?_
    refine aw_icmp_ge (tgt := 135) S dX5_sounds_118 (by decide) ?_ ?_
    · refine aw_sub (L2 := []) [] rfl ?_
      exact hK Ih111
    refine aw_aload_n S 0 rfl dX5_sounds_121 rfl ?_
    refine aw_iload_n S 1 rfl dX5_sounds_122 rfl ?_
    refine aw_bipush (v := (7 : Int32)) S dX5_sounds_123 (by decide) ?_
    refine aw_iconst (v := (0 : Int32)) S dX5_sounds_125 (by decide) ?_
    refine aw_cVv S 177 [.int x1h111, .int (7 : Int32), .int (0 : Int32)] vw_X5_puts cl_X5 (by decide) (by decide) tw_1059 (s_X5_puts _ _ _ x1h111 (7 : Int32) (0 : Int32) Ih111) ⟨by decide, by decide⟩ rfl rfl (Nat.le_of_ble_eq_true rfl) rfl rfl (by decide) (by decide) dX5_sounds_126 (fun x10 I12 => ?_)
    refine aw_iinc (v := x1h111 + (1 : Int32)) (L2 := [(0, .ref (kgO (kgHs X) 177)), (1, .int (x1h111 + (1 : Int32)))]) S [1, 0] 1 dX5_sounds_129 rfl rfl (by decide) rfl ?_
    refine aw_let (Lf := fun x11 => [(0, .ref (kgO (kgHs X) 177)), (1, .int x11)]) (x1h111 + (1 : Int32)) (fun x11 => ?_)
    refine aw_goto (tgt := 111) S dX5_sounds_132 (by decide) ?_
    exact ih x11 I12
set_option maxHeartbeats 4000000 in
set_option maxRecDepth 100000 in
theorem s_X5_sounds (hs : kgH) (l : Launch) (w : Option (Nat × Nat))  (I0 : kgM) : Sdv hs l w yX5_sounds (kg_ws yX5_sounds cX5_sounds 4 none) { frames := 5, cells := 0, slots := 0, locals := 106 } [.ref (kgO hs 177)] I0 (f_X5_sounds I0) := by
  refine sd_v (av := fun hs => [.ref (kgO hs 177)]) (by decide +kernel) (fun hs => Nat.le_of_ble_eq_true rfl) (fun X S hQ => ?_) hs l
  refine aw_sub (L2 := [(0, .ref (kgO (kgHs X) 177))]) [0] rfl ?_
  unfold f_X5_sounds
  refine aw_iconst (v := (0 : Int32)) S dX5_sounds_0 (by decide) ?_
  refine aw_istore_n (L2 := [(0, .ref (kgO (kgHs X) 177)), (1, .int (0 : Int32))]) S [1, 0] dX5_sounds_1 rfl (by decide) rfl ?_
  refine s_X5_sounds_L2 S hQ  (fun I11 => ?_) 200 (0 : Int32) I0
  refine aw_iconst (v := (0 : Int32)) S dX5_sounds_109 (by decide) ?_
  refine aw_istore_n (L2 := [(0, .ref (kgO (kgHs X) 177)), (1, .int (0 : Int32))]) S [1, 0] dX5_sounds_110 rfl (by decide) rfl ?_
  refine s_X5_sounds_L111 S hQ  (fun I13 => ?_) 200 (0 : Int32) I11
  exact aw_retv S hQ (by decide) (by decide) dX5_sounds_135
set_option maxHeartbeats 4000000 in
set_option maxRecDepth 100000 in
theorem s_X5_boilsOn (hs : kgH) (l : Launch) (w : Option (Nat × Nat)) (p1 : Int32) (I0 : kgM) : Sdi hs l w yX5_boilsOn (kg_ws yX5_boilsOn cX5_boilsOn 2 (some .boolean)) { frames := 1, cells := 0, slots := 0, locals := 23 } [.ref (kgO hs 177), .int p1] I0 (f_X5_boilsOn p1 I0) := by
  refine sd_i (av := fun hs => [.ref (kgO hs 177), .int p1]) (by decide +kernel) (fun hs => Nat.le_of_ble_eq_true rfl) (fun X S hQ => ?_) hs l
  refine aw_sub (L2 := [(0, .ref (kgO (kgHs X) 177)), (1, .int p1)]) [0, 1] rfl ?_
  unfold f_X5_boilsOn
  refine aw_aload_n S 0 rfl dX5_boilsOn_0 rfl ?_
  refine aw_iload_n S 1 rfl dX5_boilsOn_1 rfl ?_
  refine aw_iconst (v := (2 : Int32)) S dX5_boilsOn_2 (by decide) ?_
  refine aw_cVi S 177 [.int p1, .int (2 : Int32)] vw_X5_kt cl_X5 (by decide) (by decide) tw_1075 (s_X5_kt _ _ _ p1 (2 : Int32) I0) ⟨by decide, by decide⟩ rfl rfl (Nat.le_of_ble_eq_true rfl) rfl rfl (by decide) (by decide) dX5_boilsOn_3 (fun x1 I1 => ?_)
  refine aw_letJ (fun (j33 : kgM → Option (Int32 × kgM)) => ∀ (Ij33 : kgM), AW X 2 0 0 w (j33 Ij33) 33 [(0, .ref (kgO (kgHs X) 177)), (1, .int p1)] [] Ij33) ?_ (fun j33 hj33 => ?_)
  · intro Ij33
    refine aw_aload_n S 0 rfl dX5_boilsOn_33 rfl ?_
    refine aw_iload_n S 1 rfl dX5_boilsOn_34 rfl ?_
    refine aw_iconst (v := (2 : Int32)) S dX5_boilsOn_35 (by decide) ?_
    refine aw_cVi S 177 [.int p1, .int (2 : Int32)] vw_X5_kt cl_X5 (by decide) (by decide) tw_1075 (s_X5_kt _ _ _ p1 (2 : Int32) Ij33) ⟨by decide, by decide⟩ rfl rfl (Nat.le_of_ble_eq_true rfl) rfl rfl (by decide) (by decide) dX5_boilsOn_36 (fun x2 I2 => ?_)
    refine aw_if_le (y := 0) (tgt := 44) S dX5_boilsOn_39 (by decide) ?_ ?_
    · refine aw_aload_n S 0 rfl dX5_boilsOn_44 rfl ?_
      refine aw_iload_n S 1 rfl dX5_boilsOn_45 rfl ?_
      refine aw_iconst (v := (5 : Int32)) S dX5_boilsOn_46 (by decide) ?_
      refine aw_iconst (v := (0 : Int32)) S dX5_boilsOn_47 (by decide) ?_
      refine aw_cVv S 177 [.int p1, .int (5 : Int32), .int (0 : Int32)] vw_X5_puts cl_X5 (by decide) (by decide) tw_1059 (s_X5_puts _ _ _ p1 (5 : Int32) (0 : Int32) I2) ⟨by decide, by decide⟩ rfl rfl (Nat.le_of_ble_eq_true rfl) rfl rfl (by decide) (by decide) dX5_boilsOn_48 (fun x3 I3 => ?_)
      refine aw_aload_n S 0 rfl dX5_boilsOn_51 rfl ?_
      refine aw_iload_n S 1 rfl dX5_boilsOn_52 rfl ?_
      refine aw_bipush (v := (6 : Int32)) S dX5_boilsOn_53 (by decide) ?_
      refine aw_bipush (v := (7 : Int32)) S dX5_boilsOn_55 (by decide) ?_
      refine aw_cVv S 177 [.int p1, .int (6 : Int32), .int (7 : Int32)] vw_X5_puts cl_X5 (by decide) (by decide) tw_1059 (s_X5_puts _ _ _ p1 (6 : Int32) (7 : Int32) I3) ⟨by decide, by decide⟩ rfl rfl (Nat.le_of_ble_eq_true rfl) rfl rfl (by decide) (by decide) dX5_boilsOn_57 (fun x4 I4 => ?_)
      refine aw_aload_n S 0 rfl dX5_boilsOn_60 rfl ?_
      refine aw_getR S 177 0 178 cl_X5 (by decide) (by decide) (by decide) (by decide) (by decide) rfl tw_963 dX5_boilsOn_61 ?_
      refine aw_iconst (v := (5 : Int32)) S dX5_boilsOn_64 (by decide) ?_
      refine aw_iconst (v := (3 : Int32)) S dX5_boilsOn_65 (by decide) ?_
      refine aw_aload_n S 0 rfl dX5_boilsOn_66 rfl ?_
      refine aw_iload_n S 1 rfl dX5_boilsOn_67 rfl ?_
      refine aw_iconst (v := (0 : Int32)) S dX5_boilsOn_68 (by decide) ?_
      refine aw_cVi S 177 [.int p1, .int (0 : Int32)] vw_X5_kt cl_X5 (by decide) (by decide) tw_1075 (s_X5_kt _ _ _ p1 (0 : Int32) I4) ⟨by decide, by decide⟩ rfl rfl (Nat.le_of_ble_eq_true rfl) rfl rfl (by decide) (by decide) dX5_boilsOn_69 (fun x5 I5 => ?_)
      refine aw_imul S dX5_boilsOn_72 ?_
      refine aw_iadd S dX5_boilsOn_73 ?_
      refine aw_iconst (v := (0 : Int32)) S dX5_boilsOn_74 (by decide) ?_
      refine aw_iadd S dX5_boilsOn_75 ?_
      refine aw_dup2 S dX5_boilsOn_76 rfl rfl ?_
      refine aw_iald S 178 1375 (by decide) (by decide) dX5_boilsOn_77 ?_
      refine aw_iconst (v := (2 : Int32)) S dX5_boilsOn_78 (by decide) ?_
      refine aw_isub S dX5_boilsOn_79 ?_
      refine aw_iast S 178 1375 (by decide) (by decide) dX5_boilsOn_80 ?_
      refine aw_wr (fun I6 => ?_)
      refine aw_aload_n S 0 rfl dX5_boilsOn_81 rfl ?_
      refine aw_getR S 177 0 178 cl_X5 (by decide) (by decide) (by decide) (by decide) (by decide) rfl tw_963 dX5_boilsOn_82 ?_
      refine aw_iconst (v := (5 : Int32)) S dX5_boilsOn_85 (by decide) ?_
      refine aw_iconst (v := (3 : Int32)) S dX5_boilsOn_86 (by decide) ?_
      refine aw_aload_n S 0 rfl dX5_boilsOn_87 rfl ?_
      refine aw_iload_n S 1 rfl dX5_boilsOn_88 rfl ?_
      refine aw_iconst (v := (0 : Int32)) S dX5_boilsOn_89 (by decide) ?_
      refine aw_cVi S 177 [.int p1, .int (0 : Int32)] vw_X5_kt cl_X5 (by decide) (by decide) tw_1075 (s_X5_kt _ _ _ p1 (0 : Int32) I6) ⟨by decide, by decide⟩ rfl rfl (Nat.le_of_ble_eq_true rfl) rfl rfl (by decide) (by decide) dX5_boilsOn_90 (fun x6 I7 => ?_)
      refine aw_imul S dX5_boilsOn_93 ?_
      refine aw_iadd S dX5_boilsOn_94 ?_
      refine aw_iconst (v := (1 : Int32)) S dX5_boilsOn_95 (by decide) ?_
      refine aw_iadd S dX5_boilsOn_96 ?_
      refine aw_dup2 S dX5_boilsOn_97 rfl rfl ?_
      refine aw_iald S 178 1375 (by decide) (by decide) dX5_boilsOn_98 ?_
      refine aw_iconst (v := (1 : Int32)) S dX5_boilsOn_99 (by decide) ?_
      refine aw_iadd S dX5_boilsOn_100 ?_
      refine aw_iast S 178 1375 (by decide) (by decide) dX5_boilsOn_101 ?_
      refine aw_wr (fun I8 => ?_)
      refine aw_aload_n S 0 rfl dX5_boilsOn_102 rfl ?_
      refine aw_getR S 177 0 178 cl_X5 (by decide) (by decide) (by decide) (by decide) (by decide) rfl tw_963 dX5_boilsOn_103 ?_
      refine aw_iconst (v := (4 : Int32)) S dX5_boilsOn_106 (by decide) ?_
      refine aw_dup2 S dX5_boilsOn_107 rfl rfl ?_
      refine aw_iald S 178 1375 (by decide) (by decide) dX5_boilsOn_108 ?_
      refine aw_iconst (v := (1 : Int32)) S dX5_boilsOn_109 (by decide) ?_
      refine aw_iadd S dX5_boilsOn_110 ?_
      refine aw_iast S 178 1375 (by decide) (by decide) dX5_boilsOn_111 ?_
      refine aw_wr (fun I9 => ?_)
      refine aw_iconst (v := (1 : Int32)) S dX5_boilsOn_112 (by decide) ?_
      exact aw_ret S hQ rfl (by decide) (by decide) dX5_boilsOn_113
    refine aw_iconst (v := (0 : Int32)) S dX5_boilsOn_42 (by decide) ?_
    exact aw_ret S hQ rfl (by decide) (by decide) dX5_boilsOn_43
  refine aw_if_le (y := 0) (tgt := 33) S dX5_boilsOn_6 (by decide) ?_ ?_
  · exact hj33 I1
  refine aw_aload_n S 0 rfl dX5_boilsOn_9 rfl ?_
  refine aw_iload_n S 1 rfl dX5_boilsOn_10 rfl ?_
  refine aw_iconst (v := (2 : Int32)) S dX5_boilsOn_11 (by decide) ?_
  refine aw_aload_n S 0 rfl dX5_boilsOn_12 rfl ?_
  refine aw_iload_n S 1 rfl dX5_boilsOn_13 rfl ?_
  refine aw_iconst (v := (2 : Int32)) S dX5_boilsOn_14 (by decide) ?_
  refine aw_cVi S 177 [.int p1, .int (2 : Int32)] vw_X5_kt cl_X5 (by decide) (by decide) tw_1075 (s_X5_kt _ _ _ p1 (2 : Int32) I1) ⟨by decide, by decide⟩ rfl rfl (Nat.le_of_ble_eq_true rfl) rfl rfl (by decide) (by decide) dX5_boilsOn_15 (fun x7 I10 => ?_)
  refine aw_iconst (v := (1 : Int32)) S dX5_boilsOn_18 (by decide) ?_
  refine aw_isub S dX5_boilsOn_19 ?_
  refine aw_cVv S 177 [.int p1, .int (2 : Int32), .int (x7 - (1 : Int32))] vw_X5_puts cl_X5 (by decide) (by decide) tw_1059 (s_X5_puts _ _ _ p1 (2 : Int32) (x7 - (1 : Int32)) I10) ⟨by decide, by decide⟩ rfl rfl (Nat.le_of_ble_eq_true rfl) rfl rfl (by decide) (by decide) dX5_boilsOn_20 (fun x8 I11 => ?_)
  refine aw_aload_n S 0 rfl dX5_boilsOn_23 rfl ?_
  refine aw_getR S 177 0 178 cl_X5 (by decide) (by decide) (by decide) (by decide) (by decide) rfl tw_963 dX5_boilsOn_24 ?_
  refine aw_iconst (v := (3 : Int32)) S dX5_boilsOn_27 (by decide) ?_
  refine aw_dup2 S dX5_boilsOn_28 rfl rfl ?_
  refine aw_iald S 178 1375 (by decide) (by decide) dX5_boilsOn_29 ?_
  refine aw_iconst (v := (1 : Int32)) S dX5_boilsOn_30 (by decide) ?_
  refine aw_iadd S dX5_boilsOn_31 ?_
  refine aw_iast S 178 1375 (by decide) (by decide) dX5_boilsOn_32 ?_
  refine aw_wr (fun I12 => ?_)
  exact hj33 I12
set_option maxHeartbeats 4000000 in
set_option maxRecDepth 100000 in
theorem s_X5_goesBy_L4 {X : kgCX (Int32 × kgM)} {w : Option (Nat × Nat)} (S : Cx X cX5_goesBy RX5 4 6 129 0 0) (hQ : Qxi X w .int)  {K : Int32 → kgM → Option (Int32 × kgM)} (hK : ∀ (z1 : Int32) (J : kgM), AW X 4 0 0 w (K z1 J) 44 [(0, .ref (kgO (kgHs X) 177)), (1, .int z1)] [] J) : ∀ (q : Nat) (x1h4 : Int32) (x2h4 : Int32) (Ih4 : kgM), AW X 4 0 0 w (f_X5_goesBy_L4 K q x1h4 x2h4 Ih4) 4 [(0, .ref (kgO (kgHs X) 177)), (1, .int x1h4), (2, .int x2h4)] [] Ih4 := by
  intro q
  induction q with
  | zero => intros; exact aw_none
  | succ q ih =>
    intro x1h4 x2h4 Ih4
    rw [f_X5_goesBy_L4]
    refine aw_iload_n S 2 rfl dX5_goesBy_4 rfl ?_
    refine aw_aload_n S 0 rfl dX5_goesBy_5 rfl ?_
    refine aw_getR S 177 0 178 cl_X5 (by decide) (by decide) (by decide) (by decide) (by decide) rfl tw_963 dX5_goesBy_6 ?_
    refine aw_iconst (v := (1 : Int32)) S dX5_goesBy_9 (by decide) ?_
    refine aw_iald S 178 1375 (by decide) (by decide) dX5_goesBy_10 ?_
    refine aw_icmp_ge (tgt := 44) S dX5_goesBy_11 (by decide) ?_ ?_
    · refine aw_sub (L2 := [(0, .ref (kgO (kgHs X) 177)), (1, .int x1h4)]) [0, 1] rfl ?_
      exact hK x1h4 Ih4
    refine aw_iload_n S 1 rfl dX5_goesBy_14 rfl ?_
    refine aw_aload_n S 0 rfl dX5_goesBy_15 rfl ?_
    refine aw_iload_n S 2 rfl dX5_goesBy_16 rfl ?_
    refine aw_cVi S 177 [.int x2h4] vw_X5_boils cl_X5 (by decide) (by decide) tw_1161 (s_X5_boils _ _ _ x2h4 Ih4) ⟨by decide, by decide⟩ rfl rfl (Nat.le_of_ble_eq_true rfl) rfl rfl (by decide) (by decide) dX5_goesBy_17 (fun x1 I1 => ?_)
    refine aw_if_eq (y := 0) (tgt := 35) S dX5_goesBy_20 (by decide) ?_ ?_
    · refine aw_iconst (v := (0 : Int32)) S dX5_goesBy_35 (by decide) ?_
      refine aw_iadd S dX5_goesBy_36 ?_
      refine aw_istore_n (L2 := [(0, .ref (kgO (kgHs X) 177)), (1, .int (x1h4 + (0 : Int32))), (2, .int x2h4)]) S [1, 0, 2] dX5_goesBy_37 rfl (by decide) rfl ?_
      refine aw_let (Lf := fun x2 => [(0, .ref (kgO (kgHs X) 177)), (1, .int x2), (2, .int x2h4)]) (x1h4 + (0 : Int32)) (fun x2 => ?_)
      refine aw_iinc (v := x2h4 + (1 : Int32)) (L2 := [(0, .ref (kgO (kgHs X) 177)), (1, .int x2), (2, .int (x2h4 + (1 : Int32)))]) S [1, 2, 0] 2 dX5_goesBy_38 rfl rfl (by decide) rfl ?_
      refine aw_let (Lf := fun x3 => [(0, .ref (kgO (kgHs X) 177)), (1, .int x2), (2, .int x3)]) (x2h4 + (1 : Int32)) (fun x3 => ?_)
      refine aw_goto (tgt := 4) S dX5_goesBy_41 (by decide) ?_
      exact ih x2 x3 I1
    refine aw_aload_n S 0 rfl dX5_goesBy_23 rfl ?_
    refine aw_iload_n S 2 rfl dX5_goesBy_24 rfl ?_
    refine aw_cVi S 177 [.int x2h4] vw_X5_boilsOn cl_X5 (by decide) (by decide) tw_1169 (s_X5_boilsOn _ _ _ x2h4 I1) ⟨by decide, by decide⟩ rfl rfl (Nat.le_of_ble_eq_true rfl) rfl rfl (by decide) (by decide) dX5_goesBy_25 (fun x4 I2 => ?_)
    refine aw_if_eq (y := 0) (tgt := 35) S dX5_goesBy_28 (by decide) ?_ ?_
    · refine aw_iconst (v := (0 : Int32)) S dX5_goesBy_35 (by decide) ?_
      refine aw_iadd S dX5_goesBy_36 ?_
      refine aw_istore_n (L2 := [(0, .ref (kgO (kgHs X) 177)), (1, .int (x1h4 + (0 : Int32))), (2, .int x2h4)]) S [1, 0, 2] dX5_goesBy_37 rfl (by decide) rfl ?_
      refine aw_let (Lf := fun x5 => [(0, .ref (kgO (kgHs X) 177)), (1, .int x5), (2, .int x2h4)]) (x1h4 + (0 : Int32)) (fun x5 => ?_)
      refine aw_iinc (v := x2h4 + (1 : Int32)) (L2 := [(0, .ref (kgO (kgHs X) 177)), (1, .int x5), (2, .int (x2h4 + (1 : Int32)))]) S [1, 2, 0] 2 dX5_goesBy_38 rfl rfl (by decide) rfl ?_
      refine aw_let (Lf := fun x6 => [(0, .ref (kgO (kgHs X) 177)), (1, .int x5), (2, .int x6)]) (x2h4 + (1 : Int32)) (fun x6 => ?_)
      refine aw_goto (tgt := 4) S dX5_goesBy_41 (by decide) ?_
      exact ih x5 x6 I2
    refine aw_iconst (v := (1 : Int32)) S dX5_goesBy_31 (by decide) ?_
    refine aw_goto (tgt := 36) S dX5_goesBy_32 (by decide) ?_
    refine aw_iadd S dX5_goesBy_36 ?_
    refine aw_istore_n (L2 := [(0, .ref (kgO (kgHs X) 177)), (1, .int (x1h4 + (1 : Int32))), (2, .int x2h4)]) S [1, 0, 2] dX5_goesBy_37 rfl (by decide) rfl ?_
    refine aw_let (Lf := fun x7 => [(0, .ref (kgO (kgHs X) 177)), (1, .int x7), (2, .int x2h4)]) (x1h4 + (1 : Int32)) (fun x7 => ?_)
    refine aw_iinc (v := x2h4 + (1 : Int32)) (L2 := [(0, .ref (kgO (kgHs X) 177)), (1, .int x7), (2, .int (x2h4 + (1 : Int32)))]) S [1, 2, 0] 2 dX5_goesBy_38 rfl rfl (by decide) rfl ?_
    refine aw_let (Lf := fun x8 => [(0, .ref (kgO (kgHs X) 177)), (1, .int x7), (2, .int x8)]) (x2h4 + (1 : Int32)) (fun x8 => ?_)
    refine aw_goto (tgt := 4) S dX5_goesBy_41 (by decide) ?_
    exact ih x7 x8 I2
set_option maxHeartbeats 4000000 in
set_option maxRecDepth 100000 in
theorem s_X5_goesBy_L46 {X : kgCX (Int32 × kgM)} {w : Option (Nat × Nat)} (S : Cx X cX5_goesBy RX5 4 6 129 0 0) (hQ : Qxi X w .int) (a1 : Int32) {K : kgM → Option (Int32 × kgM)} (hK : ∀  (J : kgM), AW X 4 0 0 w (K J) 149 [(0, .ref (kgO (kgHs X) 177)), (1, .int a1)] [] J) : ∀ (q : Nat) (x2h46 : Int32) (Ih46 : kgM), AW X 4 0 0 w (f_X5_goesBy_L46 a1 K q x2h46 Ih46) 46 [(0, .ref (kgO (kgHs X) 177)), (1, .int a1), (2, .int x2h46)] [] Ih46 := by
  intro q
  induction q with
  | zero => intros; exact aw_none
  | succ q ih =>
    intro x2h46 Ih46
    rw [f_X5_goesBy_L46]
    refine aw_iload_n S 2 rfl dX5_goesBy_46 rfl ?_
    refine aw_aload_n S 0 rfl dX5_goesBy_47 rfl ?_
    refine aw_getR S 177 0 178 cl_X5 (by decide) (by decide) (by decide) (by decide) (by decide) rfl tw_963 dX5_goesBy_48 ?_
    refine aw_iconst (v := (1 : Int32)) S dX5_goesBy_51 (by decide) ?_
    refine aw_iald S 178 1375 (by decide) (by decide) dX5_goesBy_52 ?_
    refine aw_icmp_ge (tgt := 149) S dX5_goesBy_53 (by decide) ?_ ?_
    · refine aw_sub (L2 := [(0, .ref (kgO (kgHs X) 177)), (1, .int a1)]) [0, 1] rfl ?_
      exact hK Ih46
    refine aw_aload_n S 0 rfl dX5_goesBy_56 rfl ?_
    refine aw_iload_n S 2 rfl dX5_goesBy_57 rfl ?_
    refine aw_iconst (v := (3 : Int32)) S dX5_goesBy_58 (by decide) ?_
    refine aw_cVi S 177 [.int x2h46, .int (3 : Int32)] vw_X5_kt cl_X5 (by decide) (by decide) tw_1075 (s_X5_kt _ _ _ x2h46 (3 : Int32) Ih46) ⟨by decide, by decide⟩ rfl rfl (Nat.le_of_ble_eq_true rfl) rfl rfl (by decide) (by decide) dX5_goesBy_59 (fun x10 I4 => ?_)
    refine aw_aload_n S 0 rfl dX5_goesBy_62 rfl ?_
    refine aw_iload_n S 2 rfl dX5_goesBy_63 rfl ?_
    refine aw_cVi S 177 [.int x2h46] vw_X5_isOnStove cl_X5 (by decide) (by decide) tw_1098 (s_X5_isOnStove _ _ _ x2h46 I4) ⟨by decide, by decide⟩ rfl rfl (Nat.le_of_ble_eq_true rfl) rfl rfl (by decide) (by decide) dX5_goesBy_64 (fun x11 I5 => ?_)
    refine aw_letJ (fun (j82 : Int32 → kgM → Option (Int32 × kgM)) => ∀ (y0j82 : Int32) (Ij82 : kgM), AW X 4 0 0 w (j82 y0j82 Ij82) 82 [(0, .ref (kgO (kgHs X) 177)), (1, .int a1), (2, .int x2h46)] [.int y0j82, .int x10] Ij82) ?_ (fun j82 hj82 => ?_)
    · intro y0j82 Ij82
      refine aw_iadd S dX5_goesBy_82 ?_
      refine aw_istore_n (L2 := [(0, .ref (kgO (kgHs X) 177)), (1, .int a1), (2, .int x2h46), (3, .int (x10 + y0j82))]) S [1, 2, 3, 0] dX5_goesBy_83 rfl (by decide) rfl ?_
      refine aw_let (Lf := fun x12 => [(0, .ref (kgO (kgHs X) 177)), (1, .int a1), (2, .int x2h46), (3, .int x12)]) (x10 + y0j82) (fun x12 => ?_)
      refine aw_aload_n S 0 rfl dX5_goesBy_84 rfl ?_
      refine aw_iload_n S 2 rfl dX5_goesBy_85 rfl ?_
      refine aw_iconst (v := (3 : Int32)) S dX5_goesBy_86 (by decide) ?_
      refine aw_iload_n S 3 rfl dX5_goesBy_87 rfl ?_
      refine aw_bipush (v := (100 : Int32)) S dX5_goesBy_88 (by decide) ?_
      refine aw_letJ (fun (j110 : Int32 → Option (Int32 × kgM)) => ∀ (y0j110 : Int32), AW X 4 0 0 w (j110 y0j110) 110 [(0, .ref (kgO (kgHs X) 177)), (1, .int a1), (2, .int x2h46)] [.int y0j110, .int (3 : Int32), .int x2h46, .ref (kgO (kgHs X) 177)] Ij82) ?_ (fun j110 hj110 => ?_)
      · intro y0j110
        refine aw_cVv S 177 [.int x2h46, .int (3 : Int32), .int y0j110] vw_X5_puts cl_X5 (by decide) (by decide) tw_1059 (s_X5_puts _ _ _ x2h46 (3 : Int32) y0j110 Ij82) ⟨by decide, by decide⟩ rfl rfl (Nat.le_of_ble_eq_true rfl) rfl rfl (by decide) (by decide) dX5_goesBy_110 (fun x13 I6 => ?_)
        refine aw_aload_n S 0 rfl dX5_goesBy_113 rfl ?_
        refine aw_iload_n S 2 rfl dX5_goesBy_114 rfl ?_
        refine aw_bipush (v := (6 : Int32)) S dX5_goesBy_115 (by decide) ?_
        refine aw_aload_n S 0 rfl dX5_goesBy_117 rfl ?_
        refine aw_iload_n S 2 rfl dX5_goesBy_118 rfl ?_
        refine aw_bipush (v := (6 : Int32)) S dX5_goesBy_119 (by decide) ?_
        refine aw_cVi S 177 [.int x2h46, .int (6 : Int32)] vw_X5_kt cl_X5 (by decide) (by decide) tw_1075 (s_X5_kt _ _ _ x2h46 (6 : Int32) I6) ⟨by decide, by decide⟩ rfl rfl (Nat.le_of_ble_eq_true rfl) rfl rfl (by decide) (by decide) dX5_goesBy_121 (fun x14 I7 => ?_)
        refine aw_if_le (y := 0) (tgt := 139) S dX5_goesBy_124 (by decide) ?_ ?_
        · refine aw_iconst (v := (0 : Int32)) S dX5_goesBy_139 (by decide) ?_
          refine aw_cVv S 177 [.int x2h46, .int (6 : Int32), .int (0 : Int32)] vw_X5_puts cl_X5 (by decide) (by decide) tw_1059 (s_X5_puts _ _ _ x2h46 (6 : Int32) (0 : Int32) I7) ⟨by decide, by decide⟩ rfl rfl (Nat.le_of_ble_eq_true rfl) rfl rfl (by decide) (by decide) dX5_goesBy_140 (fun x15 I8 => ?_)
          refine aw_iinc (v := x2h46 + (1 : Int32)) (L2 := [(0, .ref (kgO (kgHs X) 177)), (1, .int a1), (2, .int (x2h46 + (1 : Int32)))]) S [1, 2, 0] 2 dX5_goesBy_143 rfl rfl (by decide) rfl ?_
          refine aw_let (Lf := fun x16 => [(0, .ref (kgO (kgHs X) 177)), (1, .int a1), (2, .int x16)]) (x2h46 + (1 : Int32)) (fun x16 => ?_)
          refine aw_goto (tgt := 46) S dX5_goesBy_146 (by decide) ?_
          exact ih x16 I8
        refine aw_aload_n S 0 rfl dX5_goesBy_127 rfl ?_
        refine aw_iload_n S 2 rfl dX5_goesBy_128 rfl ?_
        refine aw_bipush (v := (6 : Int32)) S dX5_goesBy_129 (by decide) ?_
        refine aw_cVi S 177 [.int x2h46, .int (6 : Int32)] vw_X5_kt cl_X5 (by decide) (by decide) tw_1075 (s_X5_kt _ _ _ x2h46 (6 : Int32) I7) ⟨by decide, by decide⟩ rfl rfl (Nat.le_of_ble_eq_true rfl) rfl rfl (by decide) (by decide) dX5_goesBy_131 (fun x17 I9 => ?_)
        refine aw_iconst (v := (1 : Int32)) S dX5_goesBy_134 (by decide) ?_
        refine aw_isub S dX5_goesBy_135 ?_
        refine aw_goto (tgt := 140) S dX5_goesBy_136 (by decide) ?_
        refine aw_cVv S 177 [.int x2h46, .int (6 : Int32), .int (x17 - (1 : Int32))] vw_X5_puts cl_X5 (by decide) (by decide) tw_1059 (s_X5_puts _ _ _ x2h46 (6 : Int32) (x17 - (1 : Int32)) I9) ⟨by decide, by decide⟩ rfl rfl (Nat.le_of_ble_eq_true rfl) rfl rfl (by decide) (by decide) dX5_goesBy_140 (fun x18 I10 => ?_)
        refine aw_iinc (v := x2h46 + (1 : Int32)) (L2 := [(0, .ref (kgO (kgHs X) 177)), (1, .int a1), (2, .int (x2h46 + (1 : Int32)))]) S [1, 2, 0] 2 dX5_goesBy_143 rfl rfl (by decide) rfl ?_
        refine aw_let (Lf := fun x19 => [(0, .ref (kgO (kgHs X) 177)), (1, .int a1), (2, .int x19)]) (x2h46 + (1 : Int32)) (fun x19 => ?_)
        refine aw_goto (tgt := 46) S dX5_goesBy_146 (by decide) ?_
        exact ih x19 I10
      refine aw_icmp_le (tgt := 98) S dX5_goesBy_90 (by decide) ?_ ?_
      · refine aw_iload_n S 3 rfl dX5_goesBy_98 rfl ?_
        refine aw_bipush (v := (20 : Int32)) S dX5_goesBy_99 (by decide) ?_
        refine aw_icmp_ge (tgt := 109) S dX5_goesBy_101 (by decide) ?_ ?_
        · refine aw_iload_n S 3 rfl dX5_goesBy_109 rfl ?_
          refine aw_sub (L2 := [(0, .ref (kgO (kgHs X) 177)), (1, .int a1), (2, .int x2h46)]) [0, 1, 2] rfl ?_
          exact hj110 x12
        refine aw_bipush (v := (20 : Int32)) S dX5_goesBy_104 (by decide) ?_
        refine aw_goto (tgt := 110) S dX5_goesBy_106 (by decide) ?_
        refine aw_sub (L2 := [(0, .ref (kgO (kgHs X) 177)), (1, .int a1), (2, .int x2h46)]) [0, 1, 2] rfl ?_
        exact hj110 (20 : Int32)
      refine aw_bipush (v := (100 : Int32)) S dX5_goesBy_93 (by decide) ?_
      refine aw_goto (tgt := 110) S dX5_goesBy_95 (by decide) ?_
      refine aw_sub (L2 := [(0, .ref (kgO (kgHs X) 177)), (1, .int a1), (2, .int x2h46)]) [0, 1, 2] rfl ?_
      exact hj110 (100 : Int32)
    refine aw_if_eq (y := 0) (tgt := 80) S dX5_goesBy_67 (by decide) ?_ ?_
    · refine aw_bipush (v := (-5 : Int32)) S dX5_goesBy_80 (by decide) ?_
      exact hj82 (-5 : Int32) I5
    refine aw_iconst (v := (5 : Int32)) S dX5_goesBy_70 (by decide) ?_
    refine aw_aload_n S 0 rfl dX5_goesBy_71 rfl ?_
    refine aw_iload_n S 2 rfl dX5_goesBy_72 rfl ?_
    refine aw_cVi S 177 [.int x2h46] vw_X5_heatUnder cl_X5 (by decide) (by decide) tw_1165 (s_X5_heatUnder _ _ _ x2h46 I5) ⟨by decide, by decide⟩ rfl rfl (Nat.le_of_ble_eq_true rfl) rfl rfl (by decide) (by decide) dX5_goesBy_73 (fun x20 I11 => ?_)
    refine aw_imul S dX5_goesBy_76 ?_
    refine aw_goto (tgt := 82) S dX5_goesBy_77 (by decide) ?_
    exact hj82 ((5 : Int32) * x20) I11
set_option maxHeartbeats 4000000 in
set_option maxRecDepth 100000 in
theorem s_X5_goesBy (hs : kgH) (l : Launch) (w : Option (Nat × Nat))  (I0 : kgM) : Sdi hs l w yX5_goesBy (kg_ws yX5_goesBy cX5_goesBy 4 (some .int)) { frames := 6, cells := 0, slots := 0, locals := 129 } [.ref (kgO hs 177)] I0 (f_X5_goesBy I0) := by
  refine sd_i (av := fun hs => [.ref (kgO hs 177)]) (by decide +kernel) (fun hs => Nat.le_of_ble_eq_true rfl) (fun X S hQ => ?_) hs l
  refine aw_sub (L2 := [(0, .ref (kgO (kgHs X) 177))]) [0] rfl ?_
  unfold f_X5_goesBy
  refine aw_iconst (v := (0 : Int32)) S dX5_goesBy_0 (by decide) ?_
  refine aw_istore_n (L2 := [(0, .ref (kgO (kgHs X) 177)), (1, .int (0 : Int32))]) S [1, 0] dX5_goesBy_1 rfl (by decide) rfl ?_
  refine aw_iconst (v := (0 : Int32)) S dX5_goesBy_2 (by decide) ?_
  refine aw_istore_n (L2 := [(0, .ref (kgO (kgHs X) 177)), (1, .int (0 : Int32)), (2, .int (0 : Int32))]) S [1, 2, 0] dX5_goesBy_3 rfl (by decide) rfl ?_
  refine s_X5_goesBy_L4 S hQ  (fun x9 I3 => ?_) 200 (0 : Int32) (0 : Int32) I0
  refine aw_iconst (v := (0 : Int32)) S dX5_goesBy_44 (by decide) ?_
  refine aw_istore_n (L2 := [(0, .ref (kgO (kgHs X) 177)), (1, .int x9), (2, .int (0 : Int32))]) S [1, 2, 0] dX5_goesBy_45 rfl (by decide) rfl ?_
  refine s_X5_goesBy_L46 S hQ x9 (fun I12 => ?_) 200 (0 : Int32) I3
  refine aw_aload_n S 0 rfl dX5_goesBy_149 rfl ?_
  refine aw_getR S 177 0 178 cl_X5 (by decide) (by decide) (by decide) (by decide) (by decide) rfl tw_963 dX5_goesBy_150 ?_
  refine aw_iconst (v := (0 : Int32)) S dX5_goesBy_153 (by decide) ?_
  refine aw_dup2 S dX5_goesBy_154 rfl rfl ?_
  refine aw_iald S 178 1375 (by decide) (by decide) dX5_goesBy_155 ?_
  refine aw_iconst (v := (1 : Int32)) S dX5_goesBy_156 (by decide) ?_
  refine aw_iadd S dX5_goesBy_157 ?_
  refine aw_iast S 178 1375 (by decide) (by decide) dX5_goesBy_158 ?_
  refine aw_wr (fun I13 => ?_)
  refine aw_aload_n S 0 rfl dX5_goesBy_159 rfl ?_
  refine aw_getR S 177 0 178 cl_X5 (by decide) (by decide) (by decide) (by decide) (by decide) rfl tw_963 dX5_goesBy_160 ?_
  refine aw_iconst (v := (0 : Int32)) S dX5_goesBy_163 (by decide) ?_
  refine aw_iald S 178 1375 (by decide) (by decide) dX5_goesBy_164 ?_
  refine aw_bipush (v := (6 : Int32)) S dX5_goesBy_165 (by decide) ?_
  refine aw_iremK S dX5_goesBy_167 (by decide) ?_
  refine aw_if_ne (y := 0) (tgt := 175) S dX5_goesBy_168 (by decide) ?_ ?_
  · refine aw_iload_n S 1 rfl dX5_goesBy_175 rfl ?_
    exact aw_ret S hQ (vp_nar_int _) (by decide) (by decide) dX5_goesBy_176
  refine aw_aload_n S 0 rfl dX5_goesBy_171 rfl ?_
  refine aw_cVv S 177 [] vw_X5_sounds cl_X5 (by decide) (by decide) tw_1173 (s_X5_sounds _ _ _ I13) ⟨by decide, by decide⟩ rfl rfl (Nat.le_of_ble_eq_true rfl) rfl rfl (by decide) (by decide) dX5_goesBy_172 (fun x21 I14 => ?_)
  refine aw_iload_n S 1 rfl dX5_goesBy_175 rfl ?_
  exact aw_ret S hQ (vp_nar_int _) (by decide) (by decide) dX5_goesBy_176
set_option maxHeartbeats 4000000 in
set_option maxRecDepth 100000 in
theorem s_X5_passes_L18 {X : kgCX (Int32 × kgM)} {w : Option (Nat × Nat)} (S : Cx X cX5_passes RX5 4 7 152 0 0) (hQ : Qxi X w .int) (a1 : Int32) {K : Int32 → kgM → Option (Int32 × kgM)} (hK : ∀ (z2 : Int32) (J : kgM), AW X 4 0 0 w (K z2 J) 36 [(2, .int z2)] [] J) : ∀ (q : Nat) (x2h18 : Int32) (x3h18 : Int32) (Ih18 : kgM), AW X 4 0 0 w (f_X5_passes_L18 a1 K q x2h18 x3h18 Ih18) 18 [(0, .ref (kgO (kgHs X) 177)), (1, .int a1), (2, .int x2h18), (3, .int x3h18)] [] Ih18 := by
  intro q
  induction q with
  | zero => intros; exact aw_none
  | succ q ih =>
    intro x2h18 x3h18 Ih18
    rw [f_X5_passes_L18]
    refine aw_iload_n S 3 rfl dX5_passes_18 rfl ?_
    refine aw_iload_n S 1 rfl dX5_passes_19 rfl ?_
    refine aw_icmp_ge (tgt := 36) S dX5_passes_20 (by decide) ?_ ?_
    · refine aw_sub (L2 := [(2, .int x2h18)]) [2] rfl ?_
      exact hK x2h18 Ih18
    refine aw_iload_n S 2 rfl dX5_passes_23 rfl ?_
    refine aw_aload_n S 0 rfl dX5_passes_24 rfl ?_
    refine aw_cVi S 177 [] vw_X5_goesBy cl_X5 (by decide) (by decide) tw_1157 (s_X5_goesBy _ _ _ Ih18) ⟨by decide, by decide⟩ rfl rfl (Nat.le_of_ble_eq_true rfl) rfl rfl (by decide) (by decide) dX5_passes_25 (fun x2 I2 => ?_)
    refine aw_iadd S dX5_passes_28 ?_
    refine aw_istore_n (L2 := [(0, .ref (kgO (kgHs X) 177)), (1, .int a1), (2, .int (x2h18 + x2)), (3, .int x3h18)]) S [1, 2, 0, 3] dX5_passes_29 rfl (by decide) rfl ?_
    refine aw_let (Lf := fun x3 => [(0, .ref (kgO (kgHs X) 177)), (1, .int a1), (2, .int x3), (3, .int x3h18)]) (x2h18 + x2) (fun x3 => ?_)
    refine aw_iinc (v := x3h18 + (1 : Int32)) (L2 := [(0, .ref (kgO (kgHs X) 177)), (1, .int a1), (2, .int x3), (3, .int (x3h18 + (1 : Int32)))]) S [1, 2, 3, 0] 3 dX5_passes_30 rfl rfl (by decide) rfl ?_
    refine aw_let (Lf := fun x4 => [(0, .ref (kgO (kgHs X) 177)), (1, .int a1), (2, .int x3), (3, .int x4)]) (x3h18 + (1 : Int32)) (fun x4 => ?_)
    refine aw_goto (tgt := 18) S dX5_passes_33 (by decide) ?_
    exact ih x3 x4 I2
set_option maxHeartbeats 4000000 in
set_option maxRecDepth 100000 in
theorem s_X5_passes (hs : kgH) (l : Launch) (w : Option (Nat × Nat)) (p1 : Int32) (I0 : kgM) : Sdi hs l w yX5_passes (kg_ws yX5_passes cX5_passes 4 (some .int)) { frames := 7, cells := 0, slots := 0, locals := 152 } [.ref (kgO hs 177), .int p1] I0 (f_X5_passes p1 I0) := by
  refine sd_i (av := fun hs => [.ref (kgO hs 177), .int p1]) (by decide +kernel) (fun hs => Nat.le_of_ble_eq_true rfl) (fun X S hQ => ?_) hs l
  refine aw_sub (L2 := [(0, .ref (kgO (kgHs X) 177)), (1, .int p1)]) [0, 1] rfl ?_
  unfold f_X5_passes
  refine aw_iload_n S 1 rfl dX5_passes_0 rfl ?_
  refine aw_iconst (v := (1 : Int32)) S dX5_passes_1 (by decide) ?_
  refine aw_bipush (v := (9 : Int32)) S dX5_passes_2 (by decide) ?_
  refine aw_cSi S [.int p1, .int (1 : Int32), .int (9 : Int32)] vw_X5_in tw_1010 (s_X5_in _ _ _ p1 (1 : Int32) (9 : Int32) I0) ⟨by decide, by decide⟩ rfl rfl (Nat.le_of_ble_eq_true rfl) rfl rfl (by decide) (by decide) dX5_passes_4 (fun x1 I1 => ?_)
  refine aw_if_ne (y := 0) (tgt := 14) S dX5_passes_7 (by decide) ?_ ?_
  · refine aw_iconst (v := (0 : Int32)) S dX5_passes_14 (by decide) ?_
    refine aw_istore_n (L2 := [(0, .ref (kgO (kgHs X) 177)), (1, .int p1), (2, .int (0 : Int32))]) S [1, 2, 0] dX5_passes_15 rfl (by decide) rfl ?_
    refine aw_iconst (v := (0 : Int32)) S dX5_passes_16 (by decide) ?_
    refine aw_istore_n (L2 := [(0, .ref (kgO (kgHs X) 177)), (1, .int p1), (2, .int (0 : Int32)), (3, .int (0 : Int32))]) S [1, 2, 3, 0] dX5_passes_17 rfl (by decide) rfl ?_
    refine s_X5_passes_L18 S hQ p1 (fun x5 I3 => ?_) 200 (0 : Int32) (0 : Int32) I1
    refine aw_iload_n S 0 rfl dX5_passes_36 rfl ?_
    exact aw_ret S hQ (vp_nar_int _) (by decide) (by decide) dX5_passes_37
  refine aw_sipush (v := (-1012 : Int32)) S dX5_passes_10 (by decide) ?_
  exact aw_ret S hQ (vp_nar_int _) (by decide) (by decide) dX5_passes_13
set_option maxHeartbeats 4000000 in
set_option maxRecDepth 100000 in
theorem s_X5_minute (hs : kgH) (l : Launch) (w : Option (Nat × Nat)) (p1 : Int32) (I0 : kgM) : Sdi hs l w yX5_minute (kg_ws yX5_minute cX5_minute 2 (some .int)) { frames := 8, cells := 0, slots := 0, locals := 175 } [.ref (kgO hs 177), .int p1] I0 (f_X5_minute p1 I0) := by
  refine sd_i (av := fun hs => [.ref (kgO hs 177), .int p1]) (by decide +kernel) (fun hs => Nat.le_of_ble_eq_true rfl) (fun X S hQ => ?_) hs l
  refine aw_sub (L2 := [(0, .ref (kgO (kgHs X) 177)), (1, .int p1)]) [0, 1] rfl ?_
  unfold f_X5_minute
  refine aw_aload_n S 0 rfl dX5_minute_0 rfl ?_
  refine aw_cVv S 177 [] vw_X5_begins cl_X5 (by decide) (by decide) tw_1017 (s_X5_begins _ _ _ I0) ⟨by decide, by decide⟩ rfl rfl (Nat.le_of_ble_eq_true rfl) rfl rfl (by decide) (by decide) dX5_minute_1 (fun x1 I1 => ?_)
  refine aw_aload_n S 0 rfl dX5_minute_4 rfl ?_
  refine aw_aload_n S 0 rfl dX5_minute_5 rfl ?_
  refine aw_iload_n S 1 rfl dX5_minute_6 rfl ?_
  refine aw_cVi S 177 [.int p1] vw_X5_passes cl_X5 (by decide) (by decide) tw_1153 (s_X5_passes _ _ _ p1 I1) ⟨by decide, by decide⟩ rfl rfl (Nat.le_of_ble_eq_true rfl) rfl rfl (by decide) (by decide) dX5_minute_7 (fun x2 I2 => ?_)
  refine aw_cVi S 177 [.int x2] vw_X5_ends cl_X5 (by decide) (by decide) tw_1047 (s_X5_ends _ _ _ x2 I2) ⟨by decide, by decide⟩ rfl rfl (Nat.le_of_ble_eq_true rfl) rfl rfl (by decide) (by decide) dX5_minute_10 (fun x3 I3 => ?_)
  exact aw_ret S hQ (vp_nar_int _) (by decide) (by decide) dX5_minute_13
set_option maxHeartbeats 4000000 in
set_option maxRecDepth 100000 in
theorem s_X5_owner (hs : kgH) (l : Launch) (w : Option (Nat × Nat)) (p1 : Int32) (I0 : kgM) : Sdi hs l w yX5_owner (kg_ws yX5_owner cX5_owner 2 (some .int)) { frames := 2, cells := 0, slots := 0, locals := 42 } [.ref (kgO hs 177), .int p1] I0 (f_X5_owner p1 I0) := by
  refine sd_i (av := fun hs => [.ref (kgO hs 177), .int p1]) (by decide +kernel) (fun hs => Nat.le_of_ble_eq_true rfl) (fun X S hQ => ?_) hs l
  refine aw_sub (L2 := [(0, .ref (kgO (kgHs X) 177)), (1, .int p1)]) [0, 1] rfl ?_
  unfold f_X5_owner
  refine aw_iload_n S 1 rfl dX5_owner_0 rfl ?_
  refine aw_cSi S [.int p1] vw_X5_isPitch tw_1032 (s_X5_isPitch _ _ _ p1 I0) ⟨by decide, by decide⟩ rfl rfl (Nat.le_of_ble_eq_true rfl) rfl rfl (by decide) (by decide) dX5_owner_1 (fun x1 I1 => ?_)
  refine aw_if_ne (y := 0) (tgt := 13) S dX5_owner_4 (by decide) ?_ ?_
  · refine aw_aload_n S 0 rfl dX5_owner_13 rfl ?_
    refine aw_iload_n S 1 rfl dX5_owner_14 rfl ?_
    refine aw_cVi S 177 [.int p1] vw_X5_ownerOf cl_X5 (by decide) (by decide) tw_1035 (s_X5_ownerOf _ _ _ p1 I1) ⟨by decide, by decide⟩ rfl rfl (Nat.le_of_ble_eq_true rfl) rfl rfl (by decide) (by decide) dX5_owner_15 (fun x2 I2 => ?_)
    refine aw_if_ge (y := 0) (tgt := 27) S dX5_owner_18 (by decide) ?_ ?_
    · refine aw_aload_n S 0 rfl dX5_owner_27 rfl ?_
      refine aw_iload_n S 1 rfl dX5_owner_28 rfl ?_
      refine aw_cVi S 177 [.int p1] vw_X5_ownerOf cl_X5 (by decide) (by decide) tw_1035 (s_X5_ownerOf _ _ _ p1 I2) ⟨by decide, by decide⟩ rfl rfl (Nat.le_of_ble_eq_true rfl) rfl rfl (by decide) (by decide) dX5_owner_29 (fun x3 I3 => ?_)
      exact aw_ret S hQ (vp_nar_int _) (by decide) (by decide) dX5_owner_32
    refine aw_sipush (v := (-1015 : Int32)) S dX5_owner_21 (by decide) ?_
    refine aw_goto (tgt := 32) S dX5_owner_24 (by decide) ?_
    exact aw_ret S hQ (vp_nar_int _) (by decide) (by decide) dX5_owner_32
  refine aw_sipush (v := (-1012 : Int32)) S dX5_owner_7 (by decide) ?_
  refine aw_goto (tgt := 32) S dX5_owner_10 (by decide) ?_
  exact aw_ret S hQ (vp_nar_int _) (by decide) (by decide) dX5_owner_32
set_option maxHeartbeats 4000000 in
set_option maxRecDepth 100000 in
theorem s_X5_kettleOf (hs : kgH) (l : Launch) (w : Option (Nat × Nat)) (p1 : Int32) (p2 : Int32) (I0 : kgM) : Sdi hs l w yX5_kettleOf (kg_ws yX5_kettleOf cX5_kettleOf 3 (some .int)) { frames := 5, cells := 0, slots := 0, locals := 106 } [.ref (kgO hs 177), .int p1, .int p2] I0 (f_X5_kettleOf p1 p2 I0) := by
  refine sd_i (av := fun hs => [.ref (kgO hs 177), .int p1, .int p2]) (by decide +kernel) (fun hs => Nat.le_of_ble_eq_true rfl) (fun X S hQ => ?_) hs l
  refine aw_sub (L2 := [(0, .ref (kgO (kgHs X) 177)), (1, .int p1), (2, .int p2)]) [0, 1, 2] rfl ?_
  unfold f_X5_kettleOf
  refine aw_aload_n S 0 rfl dX5_kettleOf_0 rfl ?_
  refine aw_iload_n S 1 rfl dX5_kettleOf_1 rfl ?_
  refine aw_cVi S 177 [.int p1] vw_X5_isKettle cl_X5 (by decide) (by decide) tw_1071 (s_X5_isKettle _ _ _ p1 I0) ⟨by decide, by decide⟩ rfl rfl (Nat.le_of_ble_eq_true rfl) rfl rfl (by decide) (by decide) dX5_kettleOf_2 (fun x1 I1 => ?_)
  refine aw_if_ne (y := 0) (tgt := 12) S dX5_kettleOf_5 (by decide) ?_ ?_
  · refine aw_iload_n S 2 rfl dX5_kettleOf_12 rfl ?_
    refine aw_tableAt (tgt := 68) S 0 dX5_kettleOf_13 (by decide) (by decide) rfl (by decide) ?_ (fun n_0 => ?_)
    · refine aw_aload_n S 0 rfl dX5_kettleOf_68 rfl ?_
      refine aw_iload_n S 1 rfl dX5_kettleOf_69 rfl ?_
      refine aw_iload_n S 2 rfl dX5_kettleOf_70 rfl ?_
      refine aw_cVi S 177 [.int p1, .int p2] vw_X5_kt cl_X5 (by decide) (by decide) tw_1075 (s_X5_kt _ _ _ p1 p2 I1) ⟨by decide, by decide⟩ rfl rfl (Nat.le_of_ble_eq_true rfl) rfl rfl (by decide) (by decide) dX5_kettleOf_71 (fun x2 I2 => ?_)
      exact aw_ret S hQ (vp_nar_int _) (by decide) (by decide) dX5_kettleOf_74
    refine aw_tableAt (tgt := 68) S 1 dX5_kettleOf_13 (by decide) (by decide) rfl (by decide) ?_ (fun n_1 => ?_)
    · refine aw_aload_n S 0 rfl dX5_kettleOf_68 rfl ?_
      refine aw_iload_n S 1 rfl dX5_kettleOf_69 rfl ?_
      refine aw_iload_n S 2 rfl dX5_kettleOf_70 rfl ?_
      refine aw_cVi S 177 [.int p1, .int p2] vw_X5_kt cl_X5 (by decide) (by decide) tw_1075 (s_X5_kt _ _ _ p1 p2 I1) ⟨by decide, by decide⟩ rfl rfl (Nat.le_of_ble_eq_true rfl) rfl rfl (by decide) (by decide) dX5_kettleOf_71 (fun x3 I3 => ?_)
      exact aw_ret S hQ (vp_nar_int _) (by decide) (by decide) dX5_kettleOf_74
    refine aw_tableAt (tgt := 68) S 2 dX5_kettleOf_13 (by decide) (by decide) rfl (by decide) ?_ (fun n_2 => ?_)
    · refine aw_aload_n S 0 rfl dX5_kettleOf_68 rfl ?_
      refine aw_iload_n S 1 rfl dX5_kettleOf_69 rfl ?_
      refine aw_iload_n S 2 rfl dX5_kettleOf_70 rfl ?_
      refine aw_cVi S 177 [.int p1, .int p2] vw_X5_kt cl_X5 (by decide) (by decide) tw_1075 (s_X5_kt _ _ _ p1 p2 I1) ⟨by decide, by decide⟩ rfl rfl (Nat.le_of_ble_eq_true rfl) rfl rfl (by decide) (by decide) dX5_kettleOf_71 (fun x4 I4 => ?_)
      exact aw_ret S hQ (vp_nar_int _) (by decide) (by decide) dX5_kettleOf_74
    refine aw_tableAt (tgt := 68) S 3 dX5_kettleOf_13 (by decide) (by decide) rfl (by decide) ?_ (fun n_3 => ?_)
    · refine aw_aload_n S 0 rfl dX5_kettleOf_68 rfl ?_
      refine aw_iload_n S 1 rfl dX5_kettleOf_69 rfl ?_
      refine aw_iload_n S 2 rfl dX5_kettleOf_70 rfl ?_
      refine aw_cVi S 177 [.int p1, .int p2] vw_X5_kt cl_X5 (by decide) (by decide) tw_1075 (s_X5_kt _ _ _ p1 p2 I1) ⟨by decide, by decide⟩ rfl rfl (Nat.le_of_ble_eq_true rfl) rfl rfl (by decide) (by decide) dX5_kettleOf_71 (fun x5 I5 => ?_)
      exact aw_ret S hQ (vp_nar_int _) (by decide) (by decide) dX5_kettleOf_74
    refine aw_tableAt (tgt := 68) S 4 dX5_kettleOf_13 (by decide) (by decide) rfl (by decide) ?_ (fun n_4 => ?_)
    · refine aw_aload_n S 0 rfl dX5_kettleOf_68 rfl ?_
      refine aw_iload_n S 1 rfl dX5_kettleOf_69 rfl ?_
      refine aw_iload_n S 2 rfl dX5_kettleOf_70 rfl ?_
      refine aw_cVi S 177 [.int p1, .int p2] vw_X5_kt cl_X5 (by decide) (by decide) tw_1075 (s_X5_kt _ _ _ p1 p2 I1) ⟨by decide, by decide⟩ rfl rfl (Nat.le_of_ble_eq_true rfl) rfl rfl (by decide) (by decide) dX5_kettleOf_71 (fun x6 I6 => ?_)
      exact aw_ret S hQ (vp_nar_int _) (by decide) (by decide) dX5_kettleOf_74
    refine aw_tableAt (tgt := 75) S 5 dX5_kettleOf_13 (by decide) (by decide) rfl (by decide) ?_ (fun n_5 => ?_)
    · refine aw_aload_n S 0 rfl dX5_kettleOf_75 rfl ?_
      refine aw_iload_n S 1 rfl dX5_kettleOf_76 rfl ?_
      refine aw_cVi S 177 [.int p1] vw_X5_isOnStove cl_X5 (by decide) (by decide) tw_1098 (s_X5_isOnStove _ _ _ p1 I1) ⟨by decide, by decide⟩ rfl rfl (Nat.le_of_ble_eq_true rfl) rfl rfl (by decide) (by decide) dX5_kettleOf_77 (fun x7 I7 => ?_)
      refine aw_if_eq (y := 0) (tgt := 94) S dX5_kettleOf_80 (by decide) ?_ ?_
      · refine aw_sipush (v := (-1015 : Int32)) S dX5_kettleOf_94 (by decide) ?_
        exact aw_ret S hQ (vp_nar_int _) (by decide) (by decide) dX5_kettleOf_97
      refine aw_aload_n S 0 rfl dX5_kettleOf_83 rfl ?_
      refine aw_iload_n S 1 rfl dX5_kettleOf_84 rfl ?_
      refine aw_iconst (v := (5 : Int32)) S dX5_kettleOf_85 (by decide) ?_
      refine aw_cVi S 177 [.int p1, .int (5 : Int32)] vw_X5_kt cl_X5 (by decide) (by decide) tw_1075 (s_X5_kt _ _ _ p1 (5 : Int32) I7) ⟨by decide, by decide⟩ rfl rfl (Nat.le_of_ble_eq_true rfl) rfl rfl (by decide) (by decide) dX5_kettleOf_86 (fun x8 I8 => ?_)
      refine aw_iconst (v := (1 : Int32)) S dX5_kettleOf_89 (by decide) ?_
      refine aw_isub S dX5_kettleOf_90 ?_
      refine aw_goto (tgt := 97) S dX5_kettleOf_91 (by decide) ?_
      exact aw_ret S hQ (vp_nar_int _) (by decide) (by decide) dX5_kettleOf_97
    refine aw_tableAt (tgt := 98) S 6 dX5_kettleOf_13 (by decide) (by decide) rfl (by decide) ?_ (fun n_6 => ?_)
    · refine aw_aload_n S 0 rfl dX5_kettleOf_98 rfl ?_
      refine aw_iload_n S 1 rfl dX5_kettleOf_99 rfl ?_
      refine aw_cVi S 177 [.int p1] vw_X5_boils cl_X5 (by decide) (by decide) tw_1161 (s_X5_boils _ _ _ p1 I1) ⟨by decide, by decide⟩ rfl rfl (Nat.le_of_ble_eq_true rfl) rfl rfl (by decide) (by decide) dX5_kettleOf_100 (fun x9 I9 => ?_)
      refine aw_if_eq (y := 0) (tgt := 110) S dX5_kettleOf_103 (by decide) ?_ ?_
      · refine aw_iconst (v := (0 : Int32)) S dX5_kettleOf_110 (by decide) ?_
        exact aw_ret S hQ (vp_nar_int _) (by decide) (by decide) dX5_kettleOf_111
      refine aw_iconst (v := (1 : Int32)) S dX5_kettleOf_106 (by decide) ?_
      refine aw_goto (tgt := 111) S dX5_kettleOf_107 (by decide) ?_
      exact aw_ret S hQ (vp_nar_int _) (by decide) (by decide) dX5_kettleOf_111
    refine aw_tableAt (tgt := 112) S 7 dX5_kettleOf_13 (by decide) (by decide) rfl (by decide) ?_ (fun n_7 => ?_)
    · refine aw_aload_n S 0 rfl dX5_kettleOf_112 rfl ?_
      refine aw_iload_n S 1 rfl dX5_kettleOf_113 rfl ?_
      refine aw_cVi S 177 [.int p1] vw_X5_whistles cl_X5 (by decide) (by decide) tw_1177 (s_X5_whistles _ _ _ p1 I1) ⟨by decide, by decide⟩ rfl rfl (Nat.le_of_ble_eq_true rfl) rfl rfl (by decide) (by decide) dX5_kettleOf_114 (fun x10 I10 => ?_)
      refine aw_if_eq (y := 0) (tgt := 124) S dX5_kettleOf_117 (by decide) ?_ ?_
      · refine aw_iconst (v := (0 : Int32)) S dX5_kettleOf_124 (by decide) ?_
        exact aw_ret S hQ (vp_nar_int _) (by decide) (by decide) dX5_kettleOf_125
      refine aw_iconst (v := (1 : Int32)) S dX5_kettleOf_120 (by decide) ?_
      refine aw_goto (tgt := 125) S dX5_kettleOf_121 (by decide) ?_
      exact aw_ret S hQ (vp_nar_int _) (by decide) (by decide) dX5_kettleOf_125
    refine aw_tableAt (tgt := 126) S 8 dX5_kettleOf_13 (by decide) (by decide) rfl (by decide) ?_ (fun n_8 => ?_)
    · refine aw_aload_n S 0 rfl dX5_kettleOf_126 rfl ?_
      refine aw_iload_n S 1 rfl dX5_kettleOf_127 rfl ?_
      refine aw_bipush (v := (6 : Int32)) S dX5_kettleOf_128 (by decide) ?_
      refine aw_cVi S 177 [.int p1, .int (6 : Int32)] vw_X5_kt cl_X5 (by decide) (by decide) tw_1075 (s_X5_kt _ _ _ p1 (6 : Int32) I1) ⟨by decide, by decide⟩ rfl rfl (Nat.le_of_ble_eq_true rfl) rfl rfl (by decide) (by decide) dX5_kettleOf_130 (fun x11 I11 => ?_)
      exact aw_ret S hQ (vp_nar_int _) (by decide) (by decide) dX5_kettleOf_133
    refine aw_tableAt (tgt := 134) S 9 dX5_kettleOf_13 (by decide) (by decide) rfl (by decide) ?_ (fun n_9 => ?_)
    · refine aw_aload_n S 0 rfl dX5_kettleOf_134 rfl ?_
      refine aw_iload_n S 1 rfl dX5_kettleOf_135 rfl ?_
      refine aw_bipush (v := (8 : Int32)) S dX5_kettleOf_136 (by decide) ?_
      refine aw_cVi S 177 [.int p1, .int (8 : Int32)] vw_X5_kt cl_X5 (by decide) (by decide) tw_1075 (s_X5_kt _ _ _ p1 (8 : Int32) I1) ⟨by decide, by decide⟩ rfl rfl (Nat.le_of_ble_eq_true rfl) rfl rfl (by decide) (by decide) dX5_kettleOf_138 (fun x12 I12 => ?_)
      refine aw_cSi S [.int x12] vw_X5_bits tw_1146 (s_X5_bits _ _ _ x12 I12) ⟨by decide, by decide⟩ rfl rfl (Nat.le_of_ble_eq_true rfl) rfl rfl (by decide) (by decide) dX5_kettleOf_141 (fun x13 I13 => ?_)
      exact aw_ret S hQ (vp_nar_int _) (by decide) (by decide) dX5_kettleOf_144
    refine aw_tableD (tgt := 145) S [0, 1, 2, 3, 4, 5, 6, 7, 8, 9] dX5_kettleOf_13 (by decide) (by decide) (by intro v hv; simp only [List.mem_cons, List.not_mem_nil, or_false] at hv; rcases hv with rfl | rfl | rfl | rfl | rfl | rfl | rfl | rfl | rfl | rfl <;> assumption) (by decide) ?_
    refine aw_sipush (v := (-1012 : Int32)) S dX5_kettleOf_145 (by decide) ?_
    exact aw_ret S hQ (vp_nar_int _) (by decide) (by decide) dX5_kettleOf_148
  refine aw_sipush (v := (-1011 : Int32)) S dX5_kettleOf_8 (by decide) ?_
  exact aw_ret S hQ (vp_nar_int _) (by decide) (by decide) dX5_kettleOf_11
set_option maxHeartbeats 4000000 in
set_option maxRecDepth 100000 in
theorem s_X5_stoveOf (hs : kgH) (l : Launch) (w : Option (Nat × Nat)) (p1 : Int32) (p2 : Int32) (I0 : kgM) : Sdi hs l w yX5_stoveOf (kg_ws yX5_stoveOf cX5_stoveOf 3 (some .int)) { frames := 2, cells := 0, slots := 0, locals := 44 } [.ref (kgO hs 177), .int p1, .int p2] I0 (f_X5_stoveOf p1 p2 I0) := by
  refine sd_i (av := fun hs => [.ref (kgO hs 177), .int p1, .int p2]) (by decide +kernel) (fun hs => Nat.le_of_ble_eq_true rfl) (fun X S hQ => ?_) hs l
  refine aw_sub (L2 := [(0, .ref (kgO (kgHs X) 177)), (1, .int p1), (2, .int p2)]) [0, 1, 2] rfl ?_
  unfold f_X5_stoveOf
  refine aw_iload_n S 1 rfl dX5_stoveOf_0 rfl ?_
  refine aw_cSi S [.int p1] vw_X5_isStove tw_1087 (s_X5_isStove _ _ _ p1 I0) ⟨by decide, by decide⟩ rfl rfl (Nat.le_of_ble_eq_true rfl) rfl rfl (by decide) (by decide) dX5_stoveOf_1 (fun x1 I1 => ?_)
  refine aw_if_ne (y := 0) (tgt := 11) S dX5_stoveOf_4 (by decide) ?_ ?_
  · refine aw_iload_n S 2 rfl dX5_stoveOf_11 rfl ?_
    refine aw_if_eq (y := 0) (tgt := 27) S dX5_stoveOf_12 (by decide) ?_ ?_
    · refine aw_aload_n S 0 rfl dX5_stoveOf_27 rfl ?_
      refine aw_iload_n S 1 rfl dX5_stoveOf_28 rfl ?_
      refine aw_cVi S 177 [.int p1] vw_X5_kettleOn cl_X5 (by decide) (by decide) tw_1090 (s_X5_kettleOn _ _ _ p1 I1) ⟨by decide, by decide⟩ rfl rfl (Nat.le_of_ble_eq_true rfl) rfl rfl (by decide) (by decide) dX5_stoveOf_29 (fun x2 I2 => ?_)
      refine aw_if_ge (y := 0) (tgt := 41) S dX5_stoveOf_32 (by decide) ?_ ?_
      · refine aw_aload_n S 0 rfl dX5_stoveOf_41 rfl ?_
        refine aw_iload_n S 1 rfl dX5_stoveOf_42 rfl ?_
        refine aw_cVi S 177 [.int p1] vw_X5_kettleOn cl_X5 (by decide) (by decide) tw_1090 (s_X5_kettleOn _ _ _ p1 I2) ⟨by decide, by decide⟩ rfl rfl (Nat.le_of_ble_eq_true rfl) rfl rfl (by decide) (by decide) dX5_stoveOf_43 (fun x3 I3 => ?_)
        exact aw_ret S hQ (vp_nar_int _) (by decide) (by decide) dX5_stoveOf_46
      refine aw_sipush (v := (-1015 : Int32)) S dX5_stoveOf_35 (by decide) ?_
      refine aw_goto (tgt := 46) S dX5_stoveOf_38 (by decide) ?_
      exact aw_ret S hQ (vp_nar_int _) (by decide) (by decide) dX5_stoveOf_46
    refine aw_aload_n S 0 rfl dX5_stoveOf_15 rfl ?_
    refine aw_getR S 177 0 178 cl_X5 (by decide) (by decide) (by decide) (by decide) (by decide) rfl tw_963 dX5_stoveOf_16 ?_
    refine aw_bipush (v := (29 : Int32)) S dX5_stoveOf_19 (by decide) ?_
    refine aw_iload_n S 1 rfl dX5_stoveOf_21 rfl ?_
    refine aw_iadd S dX5_stoveOf_22 ?_
    refine aw_iald S 178 1375 (by decide) (by decide) dX5_stoveOf_23 ?_
    refine aw_goto (tgt := 46) S dX5_stoveOf_24 (by decide) ?_
    exact aw_ret S hQ (vp_nar_int _) (by decide) (by decide) dX5_stoveOf_46
  refine aw_sipush (v := (-1011 : Int32)) S dX5_stoveOf_7 (by decide) ?_
  exact aw_ret S hQ (vp_nar_int _) (by decide) (by decide) dX5_stoveOf_10
set_option maxHeartbeats 4000000 in
set_option maxRecDepth 100000 in
theorem s_X5_whistling_L4 {X : kgCX (Int32 × kgM)} {w : Option (Nat × Nat)} (S : Cx X cX5_whistling RX5 3 5 106 0 0) (hQ : Qxi X w .int)  {K : Int32 → kgM → Option (Int32 × kgM)} (hK : ∀ (z1 : Int32) (J : kgM), AW X 3 0 0 w (K z1 J) 38 [(1, .int z1)] [] J) : ∀ (q : Nat) (x1h4 : Int32) (x2h4 : Int32) (Ih4 : kgM), AW X 3 0 0 w (f_X5_whistling_L4 K q x1h4 x2h4 Ih4) 4 [(0, .ref (kgO (kgHs X) 177)), (1, .int x1h4), (2, .int x2h4)] [] Ih4 := by
  intro q
  induction q with
  | zero => intros; exact aw_none
  | succ q ih =>
    intro x1h4 x2h4 Ih4
    rw [f_X5_whistling_L4]
    refine aw_iload_n S 2 rfl dX5_whistling_4 rfl ?_
    refine aw_aload_n S 0 rfl dX5_whistling_5 rfl ?_
    refine aw_getR S 177 0 178 cl_X5 (by decide) (by decide) (by decide) (by decide) (by decide) rfl tw_963 dX5_whistling_6 ?_
    refine aw_iconst (v := (1 : Int32)) S dX5_whistling_9 (by decide) ?_
    refine aw_iald S 178 1375 (by decide) (by decide) dX5_whistling_10 ?_
    refine aw_icmp_ge (tgt := 38) S dX5_whistling_11 (by decide) ?_ ?_
    · refine aw_sub (L2 := [(1, .int x1h4)]) [1] rfl ?_
      exact hK x1h4 Ih4
    refine aw_iload_n S 1 rfl dX5_whistling_14 rfl ?_
    refine aw_aload_n S 0 rfl dX5_whistling_15 rfl ?_
    refine aw_iload_n S 2 rfl dX5_whistling_16 rfl ?_
    refine aw_cVi S 177 [.int x2h4] vw_X5_whistles cl_X5 (by decide) (by decide) tw_1177 (s_X5_whistles _ _ _ x2h4 Ih4) ⟨by decide, by decide⟩ rfl rfl (Nat.le_of_ble_eq_true rfl) rfl rfl (by decide) (by decide) dX5_whistling_17 (fun x1 I1 => ?_)
    refine aw_if_eq (y := 0) (tgt := 29) S dX5_whistling_20 (by decide) ?_ ?_
    · refine aw_iconst (v := (0 : Int32)) S dX5_whistling_29 (by decide) ?_
      refine aw_ior S dX5_whistling_30 ?_
      refine aw_istore_n (L2 := [(0, .ref (kgO (kgHs X) 177)), (1, .int (x1h4 ||| (0 : Int32))), (2, .int x2h4)]) S [1, 0, 2] dX5_whistling_31 rfl (by decide) rfl ?_
      refine aw_let (Lf := fun x2 => [(0, .ref (kgO (kgHs X) 177)), (1, .int x2), (2, .int x2h4)]) (x1h4 ||| (0 : Int32)) (fun x2 => ?_)
      refine aw_iinc (v := x2h4 + (1 : Int32)) (L2 := [(0, .ref (kgO (kgHs X) 177)), (1, .int x2), (2, .int (x2h4 + (1 : Int32)))]) S [1, 2, 0] 2 dX5_whistling_32 rfl rfl (by decide) rfl ?_
      refine aw_let (Lf := fun x3 => [(0, .ref (kgO (kgHs X) 177)), (1, .int x2), (2, .int x3)]) (x2h4 + (1 : Int32)) (fun x3 => ?_)
      refine aw_goto (tgt := 4) S dX5_whistling_35 (by decide) ?_
      exact ih x2 x3 I1
    refine aw_iconst (v := (1 : Int32)) S dX5_whistling_23 (by decide) ?_
    refine aw_iload_n S 2 rfl dX5_whistling_24 rfl ?_
    refine aw_ishl S dX5_whistling_25 ?_
    refine aw_goto (tgt := 30) S dX5_whistling_26 (by decide) ?_
    refine aw_ior S dX5_whistling_30 ?_
    refine aw_istore_n (L2 := [(0, .ref (kgO (kgHs X) 177)), (1, .int (x1h4 ||| ((1 : Int32) <<< (x2h4 &&& 31)))), (2, .int x2h4)]) S [1, 0, 2] dX5_whistling_31 rfl (by decide) rfl ?_
    refine aw_let (Lf := fun x4 => [(0, .ref (kgO (kgHs X) 177)), (1, .int x4), (2, .int x2h4)]) (x1h4 ||| ((1 : Int32) <<< (x2h4 &&& 31))) (fun x4 => ?_)
    refine aw_iinc (v := x2h4 + (1 : Int32)) (L2 := [(0, .ref (kgO (kgHs X) 177)), (1, .int x4), (2, .int (x2h4 + (1 : Int32)))]) S [1, 2, 0] 2 dX5_whistling_32 rfl rfl (by decide) rfl ?_
    refine aw_let (Lf := fun x5 => [(0, .ref (kgO (kgHs X) 177)), (1, .int x4), (2, .int x5)]) (x2h4 + (1 : Int32)) (fun x5 => ?_)
    refine aw_goto (tgt := 4) S dX5_whistling_35 (by decide) ?_
    exact ih x4 x5 I1
set_option maxHeartbeats 4000000 in
set_option maxRecDepth 100000 in
theorem s_X5_whistling (hs : kgH) (l : Launch) (w : Option (Nat × Nat))  (I0 : kgM) : Sdi hs l w yX5_whistling (kg_ws yX5_whistling cX5_whistling 3 (some .int)) { frames := 5, cells := 0, slots := 0, locals := 106 } [.ref (kgO hs 177)] I0 (f_X5_whistling I0) := by
  refine sd_i (av := fun hs => [.ref (kgO hs 177)]) (by decide +kernel) (fun hs => Nat.le_of_ble_eq_true rfl) (fun X S hQ => ?_) hs l
  refine aw_sub (L2 := [(0, .ref (kgO (kgHs X) 177))]) [0] rfl ?_
  unfold f_X5_whistling
  refine aw_iconst (v := (0 : Int32)) S dX5_whistling_0 (by decide) ?_
  refine aw_istore_n (L2 := [(0, .ref (kgO (kgHs X) 177)), (1, .int (0 : Int32))]) S [1, 0] dX5_whistling_1 rfl (by decide) rfl ?_
  refine aw_iconst (v := (0 : Int32)) S dX5_whistling_2 (by decide) ?_
  refine aw_istore_n (L2 := [(0, .ref (kgO (kgHs X) 177)), (1, .int (0 : Int32)), (2, .int (0 : Int32))]) S [1, 2, 0] dX5_whistling_3 rfl (by decide) rfl ?_
  refine s_X5_whistling_L4 S hQ  (fun x6 I2 => ?_) 200 (0 : Int32) (0 : Int32) I0
  refine aw_iload_n S 0 rfl dX5_whistling_38 rfl ?_
  exact aw_ret S hQ (vp_nar_int _) (by decide) (by decide) dX5_whistling_39
set_option maxHeartbeats 4000000 in
set_option maxRecDepth 100000 in
theorem s_X5_harmony_L16 {X : kgCX (Int32 × kgM)} {w : Option (Nat × Nat)} (S : Cx X cX5_harmony RX5 4 5 106 0 0) (hQ : Qxi X w .int) (a2 : Int32) {K : Int32 → kgM → Option (Int32 × kgM)} (hK : ∀ (z1 : Int32) (J : kgM), AW X 4 0 0 w (K z1 J) 65 [(0, .ref (kgO (kgHs X) 177)), (1, .int z1), (2, .int a2)] [] J) : ∀ (q : Nat) (x1h16 : Int32) (x3h16 : Int32) (Ih16 : kgM), AW X 4 0 0 w (f_X5_harmony_L16 a2 K q x1h16 x3h16 Ih16) 16 [(0, .ref (kgO (kgHs X) 177)), (1, .int x1h16), (2, .int a2), (3, .int x3h16)] [] Ih16 := by
  intro q
  induction q with
  | zero => intros; exact aw_none
  | succ q ih =>
    intro x1h16 x3h16 Ih16
    rw [f_X5_harmony_L16]
    refine aw_iload_n S 3 rfl dX5_harmony_16 rfl ?_
    refine aw_iload_n S 2 rfl dX5_harmony_17 rfl ?_
    refine aw_icmp_ge (tgt := 65) S dX5_harmony_18 (by decide) ?_ ?_
    · refine aw_sub (L2 := [(0, .ref (kgO (kgHs X) 177)), (1, .int x1h16), (2, .int a2)]) [0, 1, 2] rfl ?_
      exact hK x1h16 Ih16
    refine aw_iload_n S 1 rfl dX5_harmony_21 rfl ?_
    refine aw_aload_n S 0 rfl dX5_harmony_22 rfl ?_
    refine aw_iload_n S 2 rfl dX5_harmony_23 rfl ?_
    refine aw_cVi S 177 [.int a2] vw_X5_whistles cl_X5 (by decide) (by decide) tw_1177 (s_X5_whistles _ _ _ a2 Ih16) ⟨by decide, by decide⟩ rfl rfl (Nat.le_of_ble_eq_true rfl) rfl rfl (by decide) (by decide) dX5_harmony_24 (fun x1 I1 => ?_)
    refine aw_if_eq (y := 0) (tgt := 56) S dX5_harmony_27 (by decide) ?_ ?_
    · refine aw_iconst (v := (0 : Int32)) S dX5_harmony_56 (by decide) ?_
      refine aw_iadd S dX5_harmony_57 ?_
      refine aw_istore_n (L2 := [(0, .ref (kgO (kgHs X) 177)), (1, .int (x1h16 + (0 : Int32))), (2, .int a2), (3, .int x3h16)]) S [1, 0, 2, 3] dX5_harmony_58 rfl (by decide) rfl ?_
      refine aw_let (Lf := fun x2 => [(0, .ref (kgO (kgHs X) 177)), (1, .int x2), (2, .int a2), (3, .int x3h16)]) (x1h16 + (0 : Int32)) (fun x2 => ?_)
      refine aw_iinc (v := x3h16 + (1 : Int32)) (L2 := [(0, .ref (kgO (kgHs X) 177)), (1, .int x2), (2, .int a2), (3, .int (x3h16 + (1 : Int32)))]) S [1, 2, 3, 0] 3 dX5_harmony_59 rfl rfl (by decide) rfl ?_
      refine aw_let (Lf := fun x3 => [(0, .ref (kgO (kgHs X) 177)), (1, .int x2), (2, .int a2), (3, .int x3)]) (x3h16 + (1 : Int32)) (fun x3 => ?_)
      refine aw_goto (tgt := 16) S dX5_harmony_62 (by decide) ?_
      exact ih x2 x3 I1
    refine aw_aload_n S 0 rfl dX5_harmony_30 rfl ?_
    refine aw_iload_n S 3 rfl dX5_harmony_31 rfl ?_
    refine aw_cVi S 177 [.int x3h16] vw_X5_whistles cl_X5 (by decide) (by decide) tw_1177 (s_X5_whistles _ _ _ x3h16 I1) ⟨by decide, by decide⟩ rfl rfl (Nat.le_of_ble_eq_true rfl) rfl rfl (by decide) (by decide) dX5_harmony_32 (fun x4 I2 => ?_)
    refine aw_if_eq (y := 0) (tgt := 56) S dX5_harmony_35 (by decide) ?_ ?_
    · refine aw_iconst (v := (0 : Int32)) S dX5_harmony_56 (by decide) ?_
      refine aw_iadd S dX5_harmony_57 ?_
      refine aw_istore_n (L2 := [(0, .ref (kgO (kgHs X) 177)), (1, .int (x1h16 + (0 : Int32))), (2, .int a2), (3, .int x3h16)]) S [1, 0, 2, 3] dX5_harmony_58 rfl (by decide) rfl ?_
      refine aw_let (Lf := fun x5 => [(0, .ref (kgO (kgHs X) 177)), (1, .int x5), (2, .int a2), (3, .int x3h16)]) (x1h16 + (0 : Int32)) (fun x5 => ?_)
      refine aw_iinc (v := x3h16 + (1 : Int32)) (L2 := [(0, .ref (kgO (kgHs X) 177)), (1, .int x5), (2, .int a2), (3, .int (x3h16 + (1 : Int32)))]) S [1, 2, 3, 0] 3 dX5_harmony_59 rfl rfl (by decide) rfl ?_
      refine aw_let (Lf := fun x6 => [(0, .ref (kgO (kgHs X) 177)), (1, .int x5), (2, .int a2), (3, .int x6)]) (x3h16 + (1 : Int32)) (fun x6 => ?_)
      refine aw_goto (tgt := 16) S dX5_harmony_62 (by decide) ?_
      exact ih x5 x6 I2
    refine aw_aload_n S 0 rfl dX5_harmony_38 rfl ?_
    refine aw_iload_n S 2 rfl dX5_harmony_39 rfl ?_
    refine aw_iconst (v := (1 : Int32)) S dX5_harmony_40 (by decide) ?_
    refine aw_cVi S 177 [.int a2, .int (1 : Int32)] vw_X5_kt cl_X5 (by decide) (by decide) tw_1075 (s_X5_kt _ _ _ a2 (1 : Int32) I2) ⟨by decide, by decide⟩ rfl rfl (Nat.le_of_ble_eq_true rfl) rfl rfl (by decide) (by decide) dX5_harmony_41 (fun x7 I3 => ?_)
    refine aw_aload_n S 0 rfl dX5_harmony_44 rfl ?_
    refine aw_iload_n S 3 rfl dX5_harmony_45 rfl ?_
    refine aw_iconst (v := (1 : Int32)) S dX5_harmony_46 (by decide) ?_
    refine aw_cVi S 177 [.int x3h16, .int (1 : Int32)] vw_X5_kt cl_X5 (by decide) (by decide) tw_1075 (s_X5_kt _ _ _ x3h16 (1 : Int32) I3) ⟨by decide, by decide⟩ rfl rfl (Nat.le_of_ble_eq_true rfl) rfl rfl (by decide) (by decide) dX5_harmony_47 (fun x8 I4 => ?_)
    refine aw_cSi S [.int x7, .int x8] vw_X5_sound tw_1181 (s_X5_sound _ _ _ x7 x8 I4) ⟨by decide, by decide⟩ rfl rfl (Nat.le_of_ble_eq_true rfl) rfl rfl (by decide) (by decide) dX5_harmony_50 (fun x9 I5 => ?_)
    refine aw_goto (tgt := 57) S dX5_harmony_53 (by decide) ?_
    refine aw_iadd S dX5_harmony_57 ?_
    refine aw_istore_n (L2 := [(0, .ref (kgO (kgHs X) 177)), (1, .int (x1h16 + x9)), (2, .int a2), (3, .int x3h16)]) S [1, 0, 2, 3] dX5_harmony_58 rfl (by decide) rfl ?_
    refine aw_let (Lf := fun x10 => [(0, .ref (kgO (kgHs X) 177)), (1, .int x10), (2, .int a2), (3, .int x3h16)]) (x1h16 + x9) (fun x10 => ?_)
    refine aw_iinc (v := x3h16 + (1 : Int32)) (L2 := [(0, .ref (kgO (kgHs X) 177)), (1, .int x10), (2, .int a2), (3, .int (x3h16 + (1 : Int32)))]) S [1, 2, 3, 0] 3 dX5_harmony_59 rfl rfl (by decide) rfl ?_
    refine aw_let (Lf := fun x11 => [(0, .ref (kgO (kgHs X) 177)), (1, .int x10), (2, .int a2), (3, .int x11)]) (x3h16 + (1 : Int32)) (fun x11 => ?_)
    refine aw_goto (tgt := 16) S dX5_harmony_62 (by decide) ?_
    exact ih x10 x11 I5
set_option maxHeartbeats 4000000 in
set_option maxRecDepth 100000 in
theorem s_X5_harmony_L4 {X : kgCX (Int32 × kgM)} {w : Option (Nat × Nat)} (S : Cx X cX5_harmony RX5 4 5 106 0 0) (hQ : Qxi X w .int)  {K : Int32 → kgM → Option (Int32 × kgM)} (hK : ∀ (z1 : Int32) (J : kgM), AW X 4 0 0 w (K z1 J) 71 [(1, .int z1)] [] J) : ∀ (q : Nat) (x1h4 : Int32) (x2h4 : Int32) (Ih4 : kgM), AW X 4 0 0 w (f_X5_harmony_L4 K q x1h4 x2h4 Ih4) 4 [(0, .ref (kgO (kgHs X) 177)), (1, .int x1h4), (2, .int x2h4)] [] Ih4 := by
  intro q
  induction q with
  | zero => intros; exact aw_none
  | succ q ih =>
    intro x1h4 x2h4 Ih4
    rw [f_X5_harmony_L4]
    refine aw_iload_n S 2 rfl dX5_harmony_4 rfl ?_
    refine aw_aload_n S 0 rfl dX5_harmony_5 rfl ?_
    refine aw_getR S 177 0 178 cl_X5 (by decide) (by decide) (by decide) (by decide) (by decide) rfl tw_963 dX5_harmony_6 ?_
    refine aw_iconst (v := (1 : Int32)) S dX5_harmony_9 (by decide) ?_
    refine aw_iald S 178 1375 (by decide) (by decide) dX5_harmony_10 ?_
    refine aw_icmp_ge (tgt := 71) S dX5_harmony_11 (by decide) ?_ ?_
    · refine aw_sub (L2 := [(1, .int x1h4)]) [1] rfl ?_
      exact hK x1h4 Ih4
    refine aw_iconst (v := (0 : Int32)) S dX5_harmony_14 (by decide) ?_
    refine aw_istore_n (L2 := [(0, .ref (kgO (kgHs X) 177)), (1, .int x1h4), (2, .int x2h4), (3, .int (0 : Int32))]) S [1, 2, 3, 0] dX5_harmony_15 rfl (by decide) rfl ?_
    refine s_X5_harmony_L16 S hQ x2h4 (fun x12 I6 => ?_) 200 x1h4 (0 : Int32) Ih4
    refine aw_iinc (v := x2h4 + (1 : Int32)) (L2 := [(0, .ref (kgO (kgHs X) 177)), (1, .int x12), (2, .int (x2h4 + (1 : Int32)))]) S [1, 2, 0] 2 dX5_harmony_65 rfl rfl (by decide) rfl ?_
    refine aw_let (Lf := fun x13 => [(0, .ref (kgO (kgHs X) 177)), (1, .int x12), (2, .int x13)]) (x2h4 + (1 : Int32)) (fun x13 => ?_)
    refine aw_goto (tgt := 4) S dX5_harmony_68 (by decide) ?_
    exact ih x12 x13 I6
set_option maxHeartbeats 4000000 in
set_option maxRecDepth 100000 in
theorem s_X5_harmony (hs : kgH) (l : Launch) (w : Option (Nat × Nat))  (I0 : kgM) : Sdi hs l w yX5_harmony (kg_ws yX5_harmony cX5_harmony 4 (some .int)) { frames := 5, cells := 0, slots := 0, locals := 106 } [.ref (kgO hs 177)] I0 (f_X5_harmony I0) := by
  refine sd_i (av := fun hs => [.ref (kgO hs 177)]) (by decide +kernel) (fun hs => Nat.le_of_ble_eq_true rfl) (fun X S hQ => ?_) hs l
  refine aw_sub (L2 := [(0, .ref (kgO (kgHs X) 177))]) [0] rfl ?_
  unfold f_X5_harmony
  refine aw_iconst (v := (0 : Int32)) S dX5_harmony_0 (by decide) ?_
  refine aw_istore_n (L2 := [(0, .ref (kgO (kgHs X) 177)), (1, .int (0 : Int32))]) S [1, 0] dX5_harmony_1 rfl (by decide) rfl ?_
  refine aw_iconst (v := (0 : Int32)) S dX5_harmony_2 (by decide) ?_
  refine aw_istore_n (L2 := [(0, .ref (kgO (kgHs X) 177)), (1, .int (0 : Int32)), (2, .int (0 : Int32))]) S [1, 2, 0] dX5_harmony_3 rfl (by decide) rfl ?_
  refine s_X5_harmony_L4 S hQ  (fun x14 I7 => ?_) 200 (0 : Int32) (0 : Int32) I0
  refine aw_iload_n S 0 rfl dX5_harmony_71 rfl ?_
  exact aw_ret S hQ (vp_nar_int _) (by decide) (by decide) dX5_harmony_72
set_option maxHeartbeats 4000000 in
set_option maxRecDepth 100000 in
theorem s_X5_harmonyAgain (hs : kgH) (l : Launch) (w : Option (Nat × Nat))  (I0 : kgM) : Sdi hs l w yX5_harmonyAgain (kg_ws yX5_harmonyAgain cX5_harmonyAgain 1 (some .int)) { frames := 6, cells := 0, slots := 0, locals := 129 } [.ref (kgO hs 177)] I0 (f_X5_harmonyAgain I0) := by
  refine sd_i (av := fun hs => [.ref (kgO hs 177)]) (by decide +kernel) (fun hs => Nat.le_of_ble_eq_true rfl) (fun X S hQ => ?_) hs l
  refine aw_sub (L2 := [(0, .ref (kgO (kgHs X) 177))]) [0] rfl ?_
  unfold f_X5_harmonyAgain
  refine aw_aload_n S 0 rfl dX5_harmonyAgain_0 rfl ?_
  refine aw_cVi S 177 [] vw_X5_harmony cl_X5 (by decide) (by decide) tw_1208 (s_X5_harmony _ _ _ I0) ⟨by decide, by decide⟩ rfl rfl (Nat.le_of_ble_eq_true rfl) rfl rfl (by decide) (by decide) dX5_harmonyAgain_1 (fun x1 I1 => ?_)
  exact aw_ret S hQ (vp_nar_int _) (by decide) (by decide) dX5_harmonyAgain_4
set_option maxHeartbeats 4000000 in
set_option maxRecDepth 100000 in
theorem s_X5_minutesTo (hs : kgH) (l : Launch) (w : Option (Nat × Nat)) (p1 : Int32) (I0 : kgM) : Sdi hs l w yX5_minutesTo (kg_ws yX5_minutesTo cX5_minutesTo 3 (some .int)) { frames := 3, cells := 0, slots := 0, locals := 64 } [.ref (kgO hs 177), .int p1] I0 (f_X5_minutesTo p1 I0) := by
  refine sd_i (av := fun hs => [.ref (kgO hs 177), .int p1]) (by decide +kernel) (fun hs => Nat.le_of_ble_eq_true rfl) (fun X S hQ => ?_) hs l
  refine aw_sub (L2 := [(0, .ref (kgO (kgHs X) 177)), (1, .int p1)]) [0, 1] rfl ?_
  unfold f_X5_minutesTo
  refine aw_iconst (v := (5 : Int32)) S dX5_minutesTo_0 (by decide) ?_
  refine aw_aload_n S 0 rfl dX5_minutesTo_1 rfl ?_
  refine aw_iload_n S 1 rfl dX5_minutesTo_2 rfl ?_
  refine aw_cVi S 177 [.int p1] vw_X5_heatUnder cl_X5 (by decide) (by decide) tw_1165 (s_X5_heatUnder _ _ _ p1 I0) ⟨by decide, by decide⟩ rfl rfl (Nat.le_of_ble_eq_true rfl) rfl rfl (by decide) (by decide) dX5_minutesTo_3 (fun x1 I1 => ?_)
  refine aw_imul S dX5_minutesTo_6 ?_
  refine aw_istore_n (L2 := [(0, .ref (kgO (kgHs X) 177)), (1, .int p1), (2, .int ((5 : Int32) * x1))]) S [1, 2, 0] dX5_minutesTo_7 rfl (by decide) rfl ?_
  refine aw_let (Lf := fun x2 => [(0, .ref (kgO (kgHs X) 177)), (1, .int p1), (2, .int x2)]) ((5 : Int32) * x1) (fun x2 => ?_)
  refine aw_iload_n S 2 rfl dX5_minutesTo_8 rfl ?_
  refine aw_if_ne (y := 0) (tgt := 18) S dX5_minutesTo_9 (by decide) ?_ ?_
  · refine aw_bipush (v := (100 : Int32)) S dX5_minutesTo_18 (by decide) ?_
    refine aw_aload_n S 0 rfl dX5_minutesTo_20 rfl ?_
    refine aw_iload_n S 1 rfl dX5_minutesTo_21 rfl ?_
    refine aw_iconst (v := (3 : Int32)) S dX5_minutesTo_22 (by decide) ?_
    refine aw_cVi S 177 [.int p1, .int (3 : Int32)] vw_X5_kt cl_X5 (by decide) (by decide) tw_1075 (s_X5_kt _ _ _ p1 (3 : Int32) I1) ⟨by decide, by decide⟩ rfl rfl (Nat.le_of_ble_eq_true rfl) rfl rfl (by decide) (by decide) dX5_minutesTo_23 (fun x3 I2 => ?_)
    refine aw_isub S dX5_minutesTo_26 ?_
    refine aw_iload_n S 2 rfl dX5_minutesTo_27 rfl ?_
    refine aw_iadd S dX5_minutesTo_28 ?_
    refine aw_iconst (v := (1 : Int32)) S dX5_minutesTo_29 (by decide) ?_
    refine aw_isub S dX5_minutesTo_30 ?_
    refine aw_iload_n S 2 rfl dX5_minutesTo_31 rfl ?_
    refine aw_idiv S dX5_minutesTo_32 ?_
    exact aw_ret S hQ (vp_nar_int _) (by decide) (by decide) dX5_minutesTo_33
  refine aw_sipush (v := (-1015 : Int32)) S dX5_minutesTo_12 (by decide) ?_
  refine aw_goto (tgt := 33) S dX5_minutesTo_15 (by decide) ?_
  exact aw_ret S hQ (vp_nar_int _) (by decide) (by decide) dX5_minutesTo_33
set_option maxHeartbeats 4000000 in
set_option maxRecDepth 100000 in
theorem s_X5_boilsIn (hs : kgH) (l : Launch) (w : Option (Nat × Nat)) (p1 : Int32) (I0 : kgM) : Sdi hs l w yX5_boilsIn (kg_ws yX5_boilsIn cX5_boilsIn 2 (some .int)) { frames := 4, cells := 0, slots := 0, locals := 86 } [.ref (kgO hs 177), .int p1] I0 (f_X5_boilsIn p1 I0) := by
  refine sd_i (av := fun hs => [.ref (kgO hs 177), .int p1]) (by decide +kernel) (fun hs => Nat.le_of_ble_eq_true rfl) (fun X S hQ => ?_) hs l
  refine aw_sub (L2 := [(0, .ref (kgO (kgHs X) 177)), (1, .int p1)]) [0, 1] rfl ?_
  unfold f_X5_boilsIn
  refine aw_aload_n S 0 rfl dX5_boilsIn_0 rfl ?_
  refine aw_iload_n S 1 rfl dX5_boilsIn_1 rfl ?_
  refine aw_cVi S 177 [.int p1] vw_X5_isKettle cl_X5 (by decide) (by decide) tw_1071 (s_X5_isKettle _ _ _ p1 I0) ⟨by decide, by decide⟩ rfl rfl (Nat.le_of_ble_eq_true rfl) rfl rfl (by decide) (by decide) dX5_boilsIn_2 (fun x1 I1 => ?_)
  refine aw_if_eq (y := 0) (tgt := 16) S dX5_boilsIn_5 (by decide) ?_ ?_
  · refine aw_sipush (v := (-1011 : Int32)) S dX5_boilsIn_16 (by decide) ?_
    exact aw_ret S hQ (vp_nar_int _) (by decide) (by decide) dX5_boilsIn_19
  refine aw_aload_n S 0 rfl dX5_boilsIn_8 rfl ?_
  refine aw_iload_n S 1 rfl dX5_boilsIn_9 rfl ?_
  refine aw_cVi S 177 [.int p1] vw_X5_minutesTo cl_X5 (by decide) (by decide) tw_1213 (s_X5_minutesTo _ _ _ p1 I1) ⟨by decide, by decide⟩ rfl rfl (Nat.le_of_ble_eq_true rfl) rfl rfl (by decide) (by decide) dX5_boilsIn_10 (fun x2 I2 => ?_)
  refine aw_goto (tgt := 19) S dX5_boilsIn_13 (by decide) ?_
  exact aw_ret S hQ (vp_nar_int _) (by decide) (by decide) dX5_boilsIn_19
set_option maxHeartbeats 4000000 in
set_option maxRecDepth 100000 in
theorem s_X5_boilsInAgain (hs : kgH) (l : Launch) (w : Option (Nat × Nat)) (p1 : Int32) (I0 : kgM) : Sdi hs l w yX5_boilsInAgain (kg_ws yX5_boilsInAgain cX5_boilsInAgain 2 (some .int)) { frames := 5, cells := 0, slots := 0, locals := 107 } [.ref (kgO hs 177), .int p1] I0 (f_X5_boilsInAgain p1 I0) := by
  refine sd_i (av := fun hs => [.ref (kgO hs 177), .int p1]) (by decide +kernel) (fun hs => Nat.le_of_ble_eq_true rfl) (fun X S hQ => ?_) hs l
  refine aw_sub (L2 := [(0, .ref (kgO (kgHs X) 177)), (1, .int p1)]) [0, 1] rfl ?_
  unfold f_X5_boilsInAgain
  refine aw_aload_n S 0 rfl dX5_boilsInAgain_0 rfl ?_
  refine aw_iload_n S 1 rfl dX5_boilsInAgain_1 rfl ?_
  refine aw_cVi S 177 [.int p1] vw_X5_boilsIn cl_X5 (by decide) (by decide) tw_1221 (s_X5_boilsIn _ _ _ p1 I0) ⟨by decide, by decide⟩ rfl rfl (Nat.le_of_ble_eq_true rfl) rfl rfl (by decide) (by decide) dX5_boilsInAgain_2 (fun x1 I1 => ?_)
  exact aw_ret S hQ (vp_nar_int _) (by decide) (by decide) dX5_boilsInAgain_5
set_option maxHeartbeats 4000000 in
set_option maxRecDepth 100000 in
theorem s_X5_dryIn (hs : kgH) (l : Launch) (w : Option (Nat × Nat)) (p1 : Int32) (I0 : kgM) : Sdi hs l w yX5_dryIn (kg_ws yX5_dryIn cX5_dryIn 3 (some .int)) { frames := 4, cells := 0, slots := 0, locals := 86 } [.ref (kgO hs 177), .int p1] I0 (f_X5_dryIn p1 I0) := by
  refine sd_i (av := fun hs => [.ref (kgO hs 177), .int p1]) (by decide +kernel) (fun hs => Nat.le_of_ble_eq_true rfl) (fun X S hQ => ?_) hs l
  refine aw_sub (L2 := [(0, .ref (kgO (kgHs X) 177)), (1, .int p1)]) [0, 1] rfl ?_
  unfold f_X5_dryIn
  refine aw_aload_n S 0 rfl dX5_dryIn_0 rfl ?_
  refine aw_iload_n S 1 rfl dX5_dryIn_1 rfl ?_
  refine aw_cVi S 177 [.int p1] vw_X5_isKettle cl_X5 (by decide) (by decide) tw_1071 (s_X5_isKettle _ _ _ p1 I0) ⟨by decide, by decide⟩ rfl rfl (Nat.le_of_ble_eq_true rfl) rfl rfl (by decide) (by decide) dX5_dryIn_2 (fun x1 I1 => ?_)
  refine aw_if_ne (y := 0) (tgt := 12) S dX5_dryIn_5 (by decide) ?_ ?_
  · refine aw_aload_n S 0 rfl dX5_dryIn_12 rfl ?_
    refine aw_iload_n S 1 rfl dX5_dryIn_13 rfl ?_
    refine aw_iconst (v := (2 : Int32)) S dX5_dryIn_14 (by decide) ?_
    refine aw_cVi S 177 [.int p1, .int (2 : Int32)] vw_X5_kt cl_X5 (by decide) (by decide) tw_1075 (s_X5_kt _ _ _ p1 (2 : Int32) I1) ⟨by decide, by decide⟩ rfl rfl (Nat.le_of_ble_eq_true rfl) rfl rfl (by decide) (by decide) dX5_dryIn_15 (fun x2 I2 => ?_)
    refine aw_istore_n (L2 := [(0, .ref (kgO (kgHs X) 177)), (1, .int p1), (2, .int x2)]) S [1, 2, 0] dX5_dryIn_18 rfl (by decide) rfl ?_
    refine aw_aload_n S 0 rfl dX5_dryIn_19 rfl ?_
    refine aw_iload_n S 1 rfl dX5_dryIn_20 rfl ?_
    refine aw_cVi S 177 [.int p1] vw_X5_minutesTo cl_X5 (by decide) (by decide) tw_1213 (s_X5_minutesTo _ _ _ p1 I2) ⟨by decide, by decide⟩ rfl rfl (Nat.le_of_ble_eq_true rfl) rfl rfl (by decide) (by decide) dX5_dryIn_21 (fun x3 I3 => ?_)
    refine aw_sipush (v := (-1015 : Int32)) S dX5_dryIn_24 (by decide) ?_
    refine aw_icmp_ne (tgt := 36) S dX5_dryIn_27 (by decide) ?_ ?_
    · refine aw_aload_n S 0 rfl dX5_dryIn_36 rfl ?_
      refine aw_iload_n S 1 rfl dX5_dryIn_37 rfl ?_
      refine aw_cVi S 177 [.int p1] vw_X5_minutesTo cl_X5 (by decide) (by decide) tw_1213 (s_X5_minutesTo _ _ _ p1 I3) ⟨by decide, by decide⟩ rfl rfl (Nat.le_of_ble_eq_true rfl) rfl rfl (by decide) (by decide) dX5_dryIn_38 (fun x4 I4 => ?_)
      refine aw_iload_n S 2 rfl dX5_dryIn_41 rfl ?_
      refine aw_if_ne (y := 0) (tgt := 49) S dX5_dryIn_42 (by decide) ?_ ?_
      · refine aw_iload_n S 2 rfl dX5_dryIn_49 rfl ?_
        refine aw_iadd S dX5_dryIn_50 ?_
        exact aw_ret S hQ (vp_nar_int _) (by decide) (by decide) dX5_dryIn_51
      refine aw_iconst (v := (1 : Int32)) S dX5_dryIn_45 (by decide) ?_
      refine aw_goto (tgt := 50) S dX5_dryIn_46 (by decide) ?_
      refine aw_iadd S dX5_dryIn_50 ?_
      exact aw_ret S hQ (vp_nar_int _) (by decide) (by decide) dX5_dryIn_51
    refine aw_sipush (v := (-1015 : Int32)) S dX5_dryIn_30 (by decide) ?_
    refine aw_goto (tgt := 51) S dX5_dryIn_33 (by decide) ?_
    exact aw_ret S hQ (vp_nar_int _) (by decide) (by decide) dX5_dryIn_51
  refine aw_sipush (v := (-1011 : Int32)) S dX5_dryIn_8 (by decide) ?_
  exact aw_ret S hQ (vp_nar_int _) (by decide) (by decide) dX5_dryIn_11
set_option maxHeartbeats 4000000 in
set_option maxRecDepth 100000 in
theorem s_X5_fits_L4 {X : kgCX (Int32 × kgM)} {w : Option (Nat × Nat)} (S : Cx X cX5_fits RX5 4 5 106 0 0) (hQ : Qxi X w .int) (a1 : Int32) {K : Int32 → kgM → Option (Int32 × kgM)} (hK : ∀ (z2 : Int32) (J : kgM), AW X 4 0 0 w (K z2 J) 60 [(2, .int z2)] [] J) : ∀ (q : Nat) (x2h4 : Int32) (x3h4 : Int32) (Ih4 : kgM), AW X 4 0 0 w (f_X5_fits_L4 a1 K q x2h4 x3h4 Ih4) 4 [(0, .ref (kgO (kgHs X) 177)), (1, .int a1), (2, .int x2h4), (3, .int x3h4)] [] Ih4 := by
  intro q
  induction q with
  | zero => intros; exact aw_none
  | succ q ih =>
    intro x2h4 x3h4 Ih4
    rw [f_X5_fits_L4]
    refine aw_iload_n S 3 rfl dX5_fits_4 rfl ?_
    refine aw_aload_n S 0 rfl dX5_fits_5 rfl ?_
    refine aw_getR S 177 0 178 cl_X5 (by decide) (by decide) (by decide) (by decide) (by decide) rfl tw_963 dX5_fits_6 ?_
    refine aw_iconst (v := (1 : Int32)) S dX5_fits_9 (by decide) ?_
    refine aw_iald S 178 1375 (by decide) (by decide) dX5_fits_10 ?_
    refine aw_icmp_ge (tgt := 60) S dX5_fits_11 (by decide) ?_ ?_
    · refine aw_sub (L2 := [(2, .int x2h4)]) [2] rfl ?_
      exact hK x2h4 Ih4
    refine aw_iload_n S 2 rfl dX5_fits_14 rfl ?_
    refine aw_aload_n S 0 rfl dX5_fits_15 rfl ?_
    refine aw_iload_n S 3 rfl dX5_fits_16 rfl ?_
    refine aw_cVi S 177 [.int x3h4] vw_X5_whistles cl_X5 (by decide) (by decide) tw_1177 (s_X5_whistles _ _ _ x3h4 Ih4) ⟨by decide, by decide⟩ rfl rfl (Nat.le_of_ble_eq_true rfl) rfl rfl (by decide) (by decide) dX5_fits_17 (fun x1 I1 => ?_)
    refine aw_if_ne (y := 0) (tgt := 27) S dX5_fits_20 (by decide) ?_ ?_
    · refine aw_aload_n S 0 rfl dX5_fits_27 rfl ?_
      refine aw_iload_n S 3 rfl dX5_fits_28 rfl ?_
      refine aw_iconst (v := (1 : Int32)) S dX5_fits_29 (by decide) ?_
      refine aw_cVi S 177 [.int x3h4, .int (1 : Int32)] vw_X5_kt cl_X5 (by decide) (by decide) tw_1075 (s_X5_kt _ _ _ x3h4 (1 : Int32) I1) ⟨by decide, by decide⟩ rfl rfl (Nat.le_of_ble_eq_true rfl) rfl rfl (by decide) (by decide) dX5_fits_30 (fun x2 I2 => ?_)
      refine aw_iload_n S 1 rfl dX5_fits_33 rfl ?_
      refine aw_icmp_ne (tgt := 42) S dX5_fits_34 (by decide) ?_ ?_
      · refine aw_iload_n S 1 rfl dX5_fits_42 rfl ?_
        refine aw_aload_n S 0 rfl dX5_fits_43 rfl ?_
        refine aw_iload_n S 3 rfl dX5_fits_44 rfl ?_
        refine aw_iconst (v := (1 : Int32)) S dX5_fits_45 (by decide) ?_
        refine aw_cVi S 177 [.int x3h4, .int (1 : Int32)] vw_X5_kt cl_X5 (by decide) (by decide) tw_1075 (s_X5_kt _ _ _ x3h4 (1 : Int32) I2) ⟨by decide, by decide⟩ rfl rfl (Nat.le_of_ble_eq_true rfl) rfl rfl (by decide) (by decide) dX5_fits_46 (fun x3 I3 => ?_)
        refine aw_cSi S [.int a1, .int x3] vw_X5_sound tw_1181 (s_X5_sound _ _ _ a1 x3 I3) ⟨by decide, by decide⟩ rfl rfl (Nat.le_of_ble_eq_true rfl) rfl rfl (by decide) (by decide) dX5_fits_49 (fun x4 I4 => ?_)
        refine aw_iadd S dX5_fits_52 ?_
        refine aw_istore_n (L2 := [(0, .ref (kgO (kgHs X) 177)), (1, .int a1), (2, .int (x2h4 + x4)), (3, .int x3h4)]) S [1, 2, 0, 3] dX5_fits_53 rfl (by decide) rfl ?_
        refine aw_let (Lf := fun x5 => [(0, .ref (kgO (kgHs X) 177)), (1, .int a1), (2, .int x5), (3, .int x3h4)]) (x2h4 + x4) (fun x5 => ?_)
        refine aw_iinc (v := x3h4 + (1 : Int32)) (L2 := [(0, .ref (kgO (kgHs X) 177)), (1, .int a1), (2, .int x5), (3, .int (x3h4 + (1 : Int32)))]) S [1, 2, 3, 0] 3 dX5_fits_54 rfl rfl (by decide) rfl ?_
        refine aw_let (Lf := fun x6 => [(0, .ref (kgO (kgHs X) 177)), (1, .int a1), (2, .int x5), (3, .int x6)]) (x3h4 + (1 : Int32)) (fun x6 => ?_)
        refine aw_goto (tgt := 4) S dX5_fits_57 (by decide) ?_
        exact ih x5 x6 I4
      refine aw_bipush (v := (-100 : Int32)) S dX5_fits_37 (by decide) ?_
      refine aw_goto (tgt := 52) S dX5_fits_39 (by decide) ?_
      refine aw_iadd S dX5_fits_52 ?_
      refine aw_istore_n (L2 := [(0, .ref (kgO (kgHs X) 177)), (1, .int a1), (2, .int (x2h4 + (-100 : Int32))), (3, .int x3h4)]) S [1, 2, 0, 3] dX5_fits_53 rfl (by decide) rfl ?_
      refine aw_let (Lf := fun x7 => [(0, .ref (kgO (kgHs X) 177)), (1, .int a1), (2, .int x7), (3, .int x3h4)]) (x2h4 + (-100 : Int32)) (fun x7 => ?_)
      refine aw_iinc (v := x3h4 + (1 : Int32)) (L2 := [(0, .ref (kgO (kgHs X) 177)), (1, .int a1), (2, .int x7), (3, .int (x3h4 + (1 : Int32)))]) S [1, 2, 3, 0] 3 dX5_fits_54 rfl rfl (by decide) rfl ?_
      refine aw_let (Lf := fun x8 => [(0, .ref (kgO (kgHs X) 177)), (1, .int a1), (2, .int x7), (3, .int x8)]) (x3h4 + (1 : Int32)) (fun x8 => ?_)
      refine aw_goto (tgt := 4) S dX5_fits_57 (by decide) ?_
      exact ih x7 x8 I2
    refine aw_iconst (v := (0 : Int32)) S dX5_fits_23 (by decide) ?_
    refine aw_goto (tgt := 52) S dX5_fits_24 (by decide) ?_
    refine aw_iadd S dX5_fits_52 ?_
    refine aw_istore_n (L2 := [(0, .ref (kgO (kgHs X) 177)), (1, .int a1), (2, .int (x2h4 + (0 : Int32))), (3, .int x3h4)]) S [1, 2, 0, 3] dX5_fits_53 rfl (by decide) rfl ?_
    refine aw_let (Lf := fun x9 => [(0, .ref (kgO (kgHs X) 177)), (1, .int a1), (2, .int x9), (3, .int x3h4)]) (x2h4 + (0 : Int32)) (fun x9 => ?_)
    refine aw_iinc (v := x3h4 + (1 : Int32)) (L2 := [(0, .ref (kgO (kgHs X) 177)), (1, .int a1), (2, .int x9), (3, .int (x3h4 + (1 : Int32)))]) S [1, 2, 3, 0] 3 dX5_fits_54 rfl rfl (by decide) rfl ?_
    refine aw_let (Lf := fun x10 => [(0, .ref (kgO (kgHs X) 177)), (1, .int a1), (2, .int x9), (3, .int x10)]) (x3h4 + (1 : Int32)) (fun x10 => ?_)
    refine aw_goto (tgt := 4) S dX5_fits_57 (by decide) ?_
    exact ih x9 x10 I1
set_option maxHeartbeats 4000000 in
set_option maxRecDepth 100000 in
theorem s_X5_fits (hs : kgH) (l : Launch) (w : Option (Nat × Nat)) (p1 : Int32) (I0 : kgM) : Sdi hs l w yX5_fits (kg_ws yX5_fits cX5_fits 4 (some .int)) { frames := 5, cells := 0, slots := 0, locals := 106 } [.ref (kgO hs 177), .int p1] I0 (f_X5_fits p1 I0) := by
  refine sd_i (av := fun hs => [.ref (kgO hs 177), .int p1]) (by decide +kernel) (fun hs => Nat.le_of_ble_eq_true rfl) (fun X S hQ => ?_) hs l
  refine aw_sub (L2 := [(0, .ref (kgO (kgHs X) 177)), (1, .int p1)]) [0, 1] rfl ?_
  unfold f_X5_fits
  refine aw_iconst (v := (0 : Int32)) S dX5_fits_0 (by decide) ?_
  refine aw_istore_n (L2 := [(0, .ref (kgO (kgHs X) 177)), (1, .int p1), (2, .int (0 : Int32))]) S [1, 2, 0] dX5_fits_1 rfl (by decide) rfl ?_
  refine aw_iconst (v := (0 : Int32)) S dX5_fits_2 (by decide) ?_
  refine aw_istore_n (L2 := [(0, .ref (kgO (kgHs X) 177)), (1, .int p1), (2, .int (0 : Int32)), (3, .int (0 : Int32))]) S [1, 2, 3, 0] dX5_fits_3 rfl (by decide) rfl ?_
  refine s_X5_fits_L4 S hQ p1 (fun x11 I5 => ?_) 200 (0 : Int32) (0 : Int32) I0
  refine aw_iload_n S 0 rfl dX5_fits_60 rfl ?_
  exact aw_ret S hQ (vp_nar_int _) (by decide) (by decide) dX5_fits_61
set_option maxHeartbeats 4000000 in
set_option maxRecDepth 100000 in
theorem s_X5_bestPitch_L4 {X : kgCX (Int32 × kgM)} {w : Option (Nat × Nat)} (S : Cx X cX5_bestPitch RX5 3 6 129 0 0) (hQ : Qxi X w .int)  {K : Int32 → kgM → Option (Int32 × kgM)} (hK : ∀ (z1 : Int32) (J : kgM), AW X 3 0 0 w (K z1 J) 35 [(1, .int z1)] [] J) : ∀ (q : Nat) (x1h4 : Int32) (x2h4 : Int32) (Ih4 : kgM), AW X 3 0 0 w (f_X5_bestPitch_L4 K q x1h4 x2h4 Ih4) 4 [(0, .ref (kgO (kgHs X) 177)), (1, .int x1h4), (2, .int x2h4)] [] Ih4 := by
  intro q
  induction q with
  | zero => intros; exact aw_none
  | succ q ih =>
    intro x1h4 x2h4 Ih4
    rw [f_X5_bestPitch_L4]
    refine aw_iload_n S 2 rfl dX5_bestPitch_4 rfl ?_
    refine aw_bipush (v := (13 : Int32)) S dX5_bestPitch_5 (by decide) ?_
    refine aw_icmp_ge (tgt := 35) S dX5_bestPitch_7 (by decide) ?_ ?_
    · refine aw_sub (L2 := [(1, .int x1h4)]) [1] rfl ?_
      exact hK x1h4 Ih4
    refine aw_aload_n S 0 rfl dX5_bestPitch_10 rfl ?_
    refine aw_iload_n S 2 rfl dX5_bestPitch_11 rfl ?_
    refine aw_cVi S 177 [.int x2h4] vw_X5_fits cl_X5 (by decide) (by decide) tw_1230 (s_X5_fits _ _ _ x2h4 Ih4) ⟨by decide, by decide⟩ rfl rfl (Nat.le_of_ble_eq_true rfl) rfl rfl (by decide) (by decide) dX5_bestPitch_12 (fun x1 I1 => ?_)
    refine aw_aload_n S 0 rfl dX5_bestPitch_15 rfl ?_
    refine aw_iload_n S 1 rfl dX5_bestPitch_16 rfl ?_
    refine aw_cVi S 177 [.int x1h4] vw_X5_fits cl_X5 (by decide) (by decide) tw_1230 (s_X5_fits _ _ _ x1h4 I1) ⟨by decide, by decide⟩ rfl rfl (Nat.le_of_ble_eq_true rfl) rfl rfl (by decide) (by decide) dX5_bestPitch_17 (fun x2 I2 => ?_)
    refine aw_icmp_le (tgt := 27) S dX5_bestPitch_20 (by decide) ?_ ?_
    · refine aw_iload_n S 1 rfl dX5_bestPitch_27 rfl ?_
      refine aw_istore_n (L2 := [(0, .ref (kgO (kgHs X) 177)), (1, .int x1h4), (2, .int x2h4)]) S [1, 0, 2] dX5_bestPitch_28 rfl (by decide) rfl ?_
      refine aw_iinc (v := x2h4 + (1 : Int32)) (L2 := [(0, .ref (kgO (kgHs X) 177)), (1, .int x1h4), (2, .int (x2h4 + (1 : Int32)))]) S [1, 2, 0] 2 dX5_bestPitch_29 rfl rfl (by decide) rfl ?_
      refine aw_let (Lf := fun x3 => [(0, .ref (kgO (kgHs X) 177)), (1, .int x1h4), (2, .int x3)]) (x2h4 + (1 : Int32)) (fun x3 => ?_)
      refine aw_goto (tgt := 4) S dX5_bestPitch_32 (by decide) ?_
      exact ih x1h4 x3 I2
    refine aw_iload_n S 2 rfl dX5_bestPitch_23 rfl ?_
    refine aw_goto (tgt := 28) S dX5_bestPitch_24 (by decide) ?_
    refine aw_istore_n (L2 := [(0, .ref (kgO (kgHs X) 177)), (1, .int x2h4), (2, .int x2h4)]) S [1, 0, 2] dX5_bestPitch_28 rfl (by decide) rfl ?_
    refine aw_iinc (v := x2h4 + (1 : Int32)) (L2 := [(0, .ref (kgO (kgHs X) 177)), (1, .int x2h4), (2, .int (x2h4 + (1 : Int32)))]) S [1, 2, 0] 2 dX5_bestPitch_29 rfl rfl (by decide) rfl ?_
    refine aw_let (Lf := fun x4 => [(0, .ref (kgO (kgHs X) 177)), (1, .int x2h4), (2, .int x4)]) (x2h4 + (1 : Int32)) (fun x4 => ?_)
    refine aw_goto (tgt := 4) S dX5_bestPitch_32 (by decide) ?_
    exact ih x2h4 x4 I2
set_option maxHeartbeats 4000000 in
set_option maxRecDepth 100000 in
theorem s_X5_bestPitch (hs : kgH) (l : Launch) (w : Option (Nat × Nat))  (I0 : kgM) : Sdi hs l w yX5_bestPitch (kg_ws yX5_bestPitch cX5_bestPitch 3 (some .int)) { frames := 6, cells := 0, slots := 0, locals := 129 } [.ref (kgO hs 177)] I0 (f_X5_bestPitch I0) := by
  refine sd_i (av := fun hs => [.ref (kgO hs 177)]) (by decide +kernel) (fun hs => Nat.le_of_ble_eq_true rfl) (fun X S hQ => ?_) hs l
  refine aw_sub (L2 := [(0, .ref (kgO (kgHs X) 177))]) [0] rfl ?_
  unfold f_X5_bestPitch
  refine aw_iconst (v := (1 : Int32)) S dX5_bestPitch_0 (by decide) ?_
  refine aw_istore_n (L2 := [(0, .ref (kgO (kgHs X) 177)), (1, .int (1 : Int32))]) S [1, 0] dX5_bestPitch_1 rfl (by decide) rfl ?_
  refine aw_iconst (v := (2 : Int32)) S dX5_bestPitch_2 (by decide) ?_
  refine aw_istore_n (L2 := [(0, .ref (kgO (kgHs X) 177)), (1, .int (1 : Int32)), (2, .int (2 : Int32))]) S [1, 2, 0] dX5_bestPitch_3 rfl (by decide) rfl ?_
  refine s_X5_bestPitch_L4 S hQ  (fun x5 I3 => ?_) 200 (1 : Int32) (2 : Int32) I0
  refine aw_iload_n S 0 rfl dX5_bestPitch_35 rfl ?_
  exact aw_ret S hQ (vp_nar_int _) (by decide) (by decide) dX5_bestPitch_36
set_option maxHeartbeats 4000000 in
set_option maxRecDepth 100000 in
theorem s_X5_kettlesOf_L5 {X : kgCX (Int32 × kgM)} {w : Option (Nat × Nat)} (S : Cx X cX5_kettlesOf RX5 5 5 106 0 0) (hQ : Qxi X w .int) (a1 : Int32) (a2 : Int32) {K : Int32 → kgM → Option (Int32 × kgM)} (hK : ∀ (z3 : Int32) (J : kgM), AW X 5 0 0 w (K z3 J) 54 [(3, .int z3)] [] J) : ∀ (q : Nat) (x3h5 : Int32) (x4h5 : Int32) (Ih5 : kgM), AW X 5 0 0 w (f_X5_kettlesOf_L5 a1 a2 K q x3h5 x4h5 Ih5) 5 [(0, .ref (kgO (kgHs X) 177)), (1, .int a1), (2, .int a2), (3, .int x3h5), (4, .int x4h5)] [] Ih5 := by
  intro q
  induction q with
  | zero => intros; exact aw_none
  | succ q ih =>
    intro x3h5 x4h5 Ih5
    rw [f_X5_kettlesOf_L5]
    refine aw_iload S 4 rfl dX5_kettlesOf_5 ?_
    refine aw_aload_n S 0 rfl dX5_kettlesOf_7 rfl ?_
    refine aw_getR S 177 0 178 cl_X5 (by decide) (by decide) (by decide) (by decide) (by decide) rfl tw_963 dX5_kettlesOf_8 ?_
    refine aw_iconst (v := (1 : Int32)) S dX5_kettlesOf_11 (by decide) ?_
    refine aw_iald S 178 1375 (by decide) (by decide) dX5_kettlesOf_12 ?_
    refine aw_icmp_ge (tgt := 54) S dX5_kettlesOf_13 (by decide) ?_ ?_
    · refine aw_sub (L2 := [(3, .int x3h5)]) [3] rfl ?_
      exact hK x3h5 Ih5
    refine aw_iload_n S 3 rfl dX5_kettlesOf_16 rfl ?_
    refine aw_aload_n S 0 rfl dX5_kettlesOf_17 rfl ?_
    refine aw_iload S 4 rfl dX5_kettlesOf_18 ?_
    refine aw_iconst (v := (0 : Int32)) S dX5_kettlesOf_20 (by decide) ?_
    refine aw_cVi S 177 [.int x4h5, .int (0 : Int32)] vw_X5_kt cl_X5 (by decide) (by decide) tw_1075 (s_X5_kt _ _ _ x4h5 (0 : Int32) Ih5) ⟨by decide, by decide⟩ rfl rfl (Nat.le_of_ble_eq_true rfl) rfl rfl (by decide) (by decide) dX5_kettlesOf_21 (fun x1 I1 => ?_)
    refine aw_iload_n S 1 rfl dX5_kettlesOf_24 rfl ?_
    refine aw_icmp_ne (tgt := 45) S dX5_kettlesOf_25 (by decide) ?_ ?_
    · refine aw_iconst (v := (0 : Int32)) S dX5_kettlesOf_45 (by decide) ?_
      refine aw_iadd S dX5_kettlesOf_46 ?_
      refine aw_istore_n (L2 := [(0, .ref (kgO (kgHs X) 177)), (1, .int a1), (2, .int a2), (3, .int (x3h5 + (0 : Int32))), (4, .int x4h5)]) S [1, 2, 3, 0, 4] dX5_kettlesOf_47 rfl (by decide) rfl ?_
      refine aw_let (Lf := fun x2 => [(0, .ref (kgO (kgHs X) 177)), (1, .int a1), (2, .int a2), (3, .int x2), (4, .int x4h5)]) (x3h5 + (0 : Int32)) (fun x2 => ?_)
      refine aw_iinc (v := x4h5 + (1 : Int32)) (L2 := [(0, .ref (kgO (kgHs X) 177)), (1, .int a1), (2, .int a2), (3, .int x2), (4, .int (x4h5 + (1 : Int32)))]) S [1, 2, 3, 4, 0] 4 dX5_kettlesOf_48 rfl rfl (by decide) rfl ?_
      refine aw_let (Lf := fun x3 => [(0, .ref (kgO (kgHs X) 177)), (1, .int a1), (2, .int a2), (3, .int x2), (4, .int x3)]) (x4h5 + (1 : Int32)) (fun x3 => ?_)
      refine aw_goto (tgt := 5) S dX5_kettlesOf_51 (by decide) ?_
      exact ih x2 x3 I1
    refine aw_iload_n S 2 rfl dX5_kettlesOf_28 rfl ?_
    refine aw_if_eq (y := 0) (tgt := 41) S dX5_kettlesOf_29 (by decide) ?_ ?_
    · refine aw_iconst (v := (1 : Int32)) S dX5_kettlesOf_41 (by decide) ?_
      refine aw_goto (tgt := 46) S dX5_kettlesOf_42 (by decide) ?_
      refine aw_iadd S dX5_kettlesOf_46 ?_
      refine aw_istore_n (L2 := [(0, .ref (kgO (kgHs X) 177)), (1, .int a1), (2, .int a2), (3, .int (x3h5 + (1 : Int32))), (4, .int x4h5)]) S [1, 2, 3, 0, 4] dX5_kettlesOf_47 rfl (by decide) rfl ?_
      refine aw_let (Lf := fun x4 => [(0, .ref (kgO (kgHs X) 177)), (1, .int a1), (2, .int a2), (3, .int x4), (4, .int x4h5)]) (x3h5 + (1 : Int32)) (fun x4 => ?_)
      refine aw_iinc (v := x4h5 + (1 : Int32)) (L2 := [(0, .ref (kgO (kgHs X) 177)), (1, .int a1), (2, .int a2), (3, .int x4), (4, .int (x4h5 + (1 : Int32)))]) S [1, 2, 3, 4, 0] 4 dX5_kettlesOf_48 rfl rfl (by decide) rfl ?_
      refine aw_let (Lf := fun x5 => [(0, .ref (kgO (kgHs X) 177)), (1, .int a1), (2, .int a2), (3, .int x4), (4, .int x5)]) (x4h5 + (1 : Int32)) (fun x5 => ?_)
      refine aw_goto (tgt := 5) S dX5_kettlesOf_51 (by decide) ?_
      exact ih x4 x5 I1
    refine aw_aload_n S 0 rfl dX5_kettlesOf_32 rfl ?_
    refine aw_iload S 4 rfl dX5_kettlesOf_33 ?_
    refine aw_cVi S 177 [.int x4h5] vw_X5_whistles cl_X5 (by decide) (by decide) tw_1177 (s_X5_whistles _ _ _ x4h5 I1) ⟨by decide, by decide⟩ rfl rfl (Nat.le_of_ble_eq_true rfl) rfl rfl (by decide) (by decide) dX5_kettlesOf_35 (fun x6 I2 => ?_)
    refine aw_if_eq (y := 0) (tgt := 45) S dX5_kettlesOf_38 (by decide) ?_ ?_
    · refine aw_iconst (v := (0 : Int32)) S dX5_kettlesOf_45 (by decide) ?_
      refine aw_iadd S dX5_kettlesOf_46 ?_
      refine aw_istore_n (L2 := [(0, .ref (kgO (kgHs X) 177)), (1, .int a1), (2, .int a2), (3, .int (x3h5 + (0 : Int32))), (4, .int x4h5)]) S [1, 2, 3, 0, 4] dX5_kettlesOf_47 rfl (by decide) rfl ?_
      refine aw_let (Lf := fun x7 => [(0, .ref (kgO (kgHs X) 177)), (1, .int a1), (2, .int a2), (3, .int x7), (4, .int x4h5)]) (x3h5 + (0 : Int32)) (fun x7 => ?_)
      refine aw_iinc (v := x4h5 + (1 : Int32)) (L2 := [(0, .ref (kgO (kgHs X) 177)), (1, .int a1), (2, .int a2), (3, .int x7), (4, .int (x4h5 + (1 : Int32)))]) S [1, 2, 3, 4, 0] 4 dX5_kettlesOf_48 rfl rfl (by decide) rfl ?_
      refine aw_let (Lf := fun x8 => [(0, .ref (kgO (kgHs X) 177)), (1, .int a1), (2, .int a2), (3, .int x7), (4, .int x8)]) (x4h5 + (1 : Int32)) (fun x8 => ?_)
      refine aw_goto (tgt := 5) S dX5_kettlesOf_51 (by decide) ?_
      exact ih x7 x8 I2
    refine aw_iconst (v := (1 : Int32)) S dX5_kettlesOf_41 (by decide) ?_
    refine aw_goto (tgt := 46) S dX5_kettlesOf_42 (by decide) ?_
    refine aw_iadd S dX5_kettlesOf_46 ?_
    refine aw_istore_n (L2 := [(0, .ref (kgO (kgHs X) 177)), (1, .int a1), (2, .int a2), (3, .int (x3h5 + (1 : Int32))), (4, .int x4h5)]) S [1, 2, 3, 0, 4] dX5_kettlesOf_47 rfl (by decide) rfl ?_
    refine aw_let (Lf := fun x9 => [(0, .ref (kgO (kgHs X) 177)), (1, .int a1), (2, .int a2), (3, .int x9), (4, .int x4h5)]) (x3h5 + (1 : Int32)) (fun x9 => ?_)
    refine aw_iinc (v := x4h5 + (1 : Int32)) (L2 := [(0, .ref (kgO (kgHs X) 177)), (1, .int a1), (2, .int a2), (3, .int x9), (4, .int (x4h5 + (1 : Int32)))]) S [1, 2, 3, 4, 0] 4 dX5_kettlesOf_48 rfl rfl (by decide) rfl ?_
    refine aw_let (Lf := fun x10 => [(0, .ref (kgO (kgHs X) 177)), (1, .int a1), (2, .int a2), (3, .int x9), (4, .int x10)]) (x4h5 + (1 : Int32)) (fun x10 => ?_)
    refine aw_goto (tgt := 5) S dX5_kettlesOf_51 (by decide) ?_
    exact ih x9 x10 I2
set_option maxHeartbeats 4000000 in
set_option maxRecDepth 100000 in
theorem s_X5_kettlesOf (hs : kgH) (l : Launch) (w : Option (Nat × Nat)) (p1 : Int32) (p2 : Int32) (I0 : kgM) : Sdi hs l w yX5_kettlesOf (kg_ws yX5_kettlesOf cX5_kettlesOf 5 (some .int)) { frames := 5, cells := 0, slots := 0, locals := 106 } [.ref (kgO hs 177), .int p1, .int p2] I0 (f_X5_kettlesOf p1 p2 I0) := by
  refine sd_i (av := fun hs => [.ref (kgO hs 177), .int p1, .int p2]) (by decide +kernel) (fun hs => Nat.le_of_ble_eq_true rfl) (fun X S hQ => ?_) hs l
  refine aw_sub (L2 := [(0, .ref (kgO (kgHs X) 177)), (1, .int p1), (2, .int p2)]) [0, 1, 2] rfl ?_
  unfold f_X5_kettlesOf
  refine aw_iconst (v := (0 : Int32)) S dX5_kettlesOf_0 (by decide) ?_
  refine aw_istore_n (L2 := [(0, .ref (kgO (kgHs X) 177)), (1, .int p1), (2, .int p2), (3, .int (0 : Int32))]) S [1, 2, 3, 0] dX5_kettlesOf_1 rfl (by decide) rfl ?_
  refine aw_iconst (v := (0 : Int32)) S dX5_kettlesOf_2 (by decide) ?_
  refine aw_istore (L2 := [(0, .ref (kgO (kgHs X) 177)), (1, .int p1), (2, .int p2), (3, .int (0 : Int32)), (4, .int (0 : Int32))]) S [1, 2, 3, 4, 0] dX5_kettlesOf_3 (by decide) rfl ?_
  refine s_X5_kettlesOf_L5 S hQ p1 p2 (fun x11 I3 => ?_) 200 (0 : Int32) (0 : Int32) I0
  refine aw_iload_n S 0 rfl dX5_kettlesOf_54 rfl ?_
  exact aw_ret S hQ (vp_nar_int _) (by decide) (by decide) dX5_kettlesOf_55
