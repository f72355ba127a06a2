set_option maxHeartbeats 4000000 in
set_option maxRecDepth 100000 in
theorem s_X5_refuses (hs : kgH) (l : Launch) (p1 : Int32) (p2 : Int32) (p3 : Int32) (I0 : kgM) : Sdi hs l yX5_refuses (kg_ws yX5_refuses cX5_refuses 4 (some .boolean)) { frames := 0, cells := 0, slots := 0, locals := 0 } [.ref (kgB hs + 177), .int p1, .int p2, .int p3] I0 (f_X5_refuses p1 p2 p3 I0) := by
  refine sd_i (av := fun hs => [.ref (kgB hs + 177), .int p1, .int p2, .int p3]) (by decide) (fun hs => Nat.le_of_ble_eq_true rfl) (fun X S hQ => ?_) hs l
  refine aw_sub (L2 := [(0, .ref (kgB (kgHs X) + 177)), (1, .int p1), (2, .int p2), (3, .int p3)]) [0, 1, 2, 3] rfl ?_
  unfold f_X5_refuses
  refine aw_iload_n S 1 rfl dX5_refuses_0 rfl ?_
  refine aw_if_eq (y := 0) (tgt := 23) S dX5_refuses_1 (by decide) ?_ ?_
  · refine aw_iload_n S 1 rfl dX5_refuses_23 rfl ?_
    exact aw_retz S hQ (by decide) (by decide) dX5_refuses_24
  refine aw_aload_n S 0 rfl dX5_refuses_4 rfl ?_
  refine aw_getR S 177 3 179 cl_X5 (by decide) (by decide) (by decide) (by decide) (by decide) rfl tw_966 dX5_refuses_5 ?_
  refine aw_iconst (v := (0 : Int32)) S dX5_refuses_8 (by decide) ?_
  refine aw_iload_n S 2 rfl dX5_refuses_9 rfl ?_
  refine aw_iast S 179 3 (by decide) (by decide) dX5_refuses_10 ?_
  refine aw_wr (fun I1 => ?_)
  refine aw_aload_n S 0 rfl dX5_refuses_11 rfl ?_
  refine aw_getR S 177 4 180 cl_X5 (by decide) (by decide) (by decide) (by decide) (by decide) rfl tw_967 dX5_refuses_12 ?_
  refine aw_iconst (v := (0 : Int32)) S dX5_refuses_15 (by decide) ?_
  refine aw_iload_n S 3 rfl dX5_refuses_16 rfl ?_
  refine aw_iast S 180 3 (by decide) (by decide) dX5_refuses_17 ?_
  refine aw_wr (fun I2 => ?_)
  refine aw_aload_n S 0 rfl dX5_refuses_18 rfl ?_
  refine aw_iconst (v := (1 : Int32)) S dX5_refuses_19 (by decide) ?_
  refine aw_putI S 177 5 cl_X5 tyX5_ok nmX5 (by decide) (by decide) (by decide) (by decide) rfl (vp_nar_int _) rfl tw_968 dX5_refuses_20 ?_
  refine aw_wr (fun I3 => ?_)
  refine aw_iload_n S 1 rfl dX5_refuses_23 rfl ?_
  exact aw_retz S hQ (by decide) (by decide) dX5_refuses_24
set_option maxHeartbeats 4000000 in
set_option maxRecDepth 100000 in
theorem s_X5_owns (hs : kgH) (l : Launch) (p1 : Int32) (p2 : Int32) (I0 : kgM) : Sdi hs l yX5_owns (kg_ws yX5_owns cX5_owns 3 (some .int)) { frames := 2, cells := 0, slots := 0, locals := 44 } [.ref (kgB hs + 177), .int p1, .int p2] I0 (f_X5_owns p1 p2 I0) := by
  refine sd_i (av := fun hs => [.ref (kgB hs + 177), .int p1, .int p2]) (by decide) (fun hs => Nat.le_of_ble_eq_true rfl) (fun X S hQ => ?_) hs l
  refine aw_sub (L2 := [(0, .ref (kgB (kgHs X) + 177)), (1, .int p1), (2, .int p2)]) [0, 1, 2] rfl ?_
  unfold f_X5_owns
  refine aw_iload_n S 1 rfl dX5_owns_0 rfl ?_
  refine aw_cSi S [.int p1] vw_X5_isMember tw_1029 (s_X5_isMember _ _ p1 I0) ⟨by decide, by decide⟩ rfl rfl (Nat.le_of_ble_eq_true rfl) rfl rfl (by decide) (by decide) dX5_owns_1 (fun x1 I1 => ?_)
  refine aw_if_ne (y := 0) (tgt := 11) S dX5_owns_4 (by decide) ?_ ?_
  · refine aw_iload_n S 2 rfl dX5_owns_11 rfl ?_
    refine aw_cSi S [.int p2] vw_X5_isPitch tw_1032 (s_X5_isPitch _ _ p2 I1) ⟨by decide, by decide⟩ rfl rfl (Nat.le_of_ble_eq_true rfl) rfl rfl (by decide) (by decide) dX5_owns_12 (fun x2 I2 => ?_)
    refine aw_if_ne (y := 0) (tgt := 22) S dX5_owns_15 (by decide) ?_ ?_
    · refine aw_aload_n S 0 rfl dX5_owns_22 rfl ?_
      refine aw_aload_n S 0 rfl dX5_owns_23 rfl ?_
      refine aw_iload_n S 2 rfl dX5_owns_24 rfl ?_
      refine aw_cVi S 177 [.int p2] vw_X5_ownerOf cl_X5 (by decide) (by decide) tw_1035 (s_X5_ownerOf _ _ p2 I2) ⟨by decide, by decide⟩ rfl rfl (Nat.le_of_ble_eq_true rfl) rfl rfl (by decide) (by decide) dX5_owns_25 (fun x3 I3 => ?_)
      refine aw_letJ (fun (j36 : Int32 → Option (Int32 × kgM)) => ∀ (y0j36 : Int32), AW X 3 0 0 (j36 y0j36) 36 [(0, .ref (kgB (kgHs X) + 177)), (1, .int p1), (2, .int p2)] [.int y0j36, .ref (kgB (kgHs X) + 177)] I3) ?_ (fun j36 hj36 => ?_)
      · intro y0j36
        refine aw_iconst (v := (2 : Int32)) S dX5_owns_36 (by decide) ?_
        refine aw_aload_n S 0 rfl dX5_owns_37 rfl ?_
        refine aw_iload_n S 2 rfl dX5_owns_38 rfl ?_
        refine aw_cVi S 177 [.int p2] vw_X5_ownerOf cl_X5 (by decide) (by decide) tw_1035 (s_X5_ownerOf _ _ p2 I3) ⟨by decide, by decide⟩ rfl rfl (Nat.le_of_ble_eq_true rfl) rfl rfl (by decide) (by decide) dX5_owns_39 (fun x4 I4 => ?_)
        refine aw_cVi S 177 [.int y0j36, .int (2 : Int32), .int x4] vw_X5_refuses cl_X5 (by decide) (by decide) tw_1039 (s_X5_refuses _ _ y0j36 (2 : Int32) x4 I4) ⟨by decide, by decide⟩ rfl rfl (Nat.le_of_ble_eq_true rfl) rfl rfl (by decide) (by decide) dX5_owns_42 (fun x5 I5 => ?_)
        refine aw_if_ne (y := 0) (tgt := 71) S dX5_owns_45 (by decide) ?_ ?_
        · refine aw_sipush (v := (-1014 : Int32)) S dX5_owns_71 (by decide) ?_
          exact aw_ret S hQ (vp_nar_int _) (by decide) (by decide) dX5_owns_74
        refine aw_aload_n S 0 rfl dX5_owns_48 rfl ?_
        refine aw_aload_n S 0 rfl dX5_owns_49 rfl ?_
        refine aw_iload_n S 1 rfl dX5_owns_50 rfl ?_
        refine aw_cVi S 177 [.int p1] vw_X5_pitchesOf cl_X5 (by decide) (by decide) tw_1043 (s_X5_pitchesOf _ _ p1 I5) ⟨by decide, by decide⟩ rfl rfl (Nat.le_of_ble_eq_true rfl) rfl rfl (by decide) (by decide) dX5_owns_51 (fun x6 I6 => ?_)
        refine aw_iconst (v := (4 : Int32)) S dX5_owns_54 (by decide) ?_
        refine aw_letJ (fun (j63 : Int32 → Option (Int32 × kgM)) => ∀ (y0j63 : Int32), AW X 3 0 0 (j63 y0j63) 63 [(0, .ref (kgB (kgHs X) + 177)), (1, .int p1), (2, .int p2)] [.int y0j63, .ref (kgB (kgHs X) + 177)] I6) ?_ (fun j63 hj63 => ?_)
        · intro y0j63
          refine aw_iconst (v := (1 : Int32)) S dX5_owns_63 (by decide) ?_
          refine aw_iconst (v := (4 : Int32)) S dX5_owns_64 (by decide) ?_
          refine aw_cVi S 177 [.int y0j63, .int (1 : Int32), .int (4 : Int32)] vw_X5_refuses cl_X5 (by decide) (by decide) tw_1039 (s_X5_refuses _ _ y0j63 (1 : Int32) (4 : Int32) I6) ⟨by decide, by decide⟩ rfl rfl (Nat.le_of_ble_eq_true rfl) rfl rfl (by decide) (by decide) dX5_owns_65 (fun x7 I7 => ?_)
          refine aw_if_eq (y := 0) (tgt := 75) S dX5_owns_68 (by decide) ?_ ?_
          · refine aw_aload_n S 0 rfl dX5_owns_75 rfl ?_
            refine aw_getR S 177 0 178 cl_X5 (by decide) (by decide) (by decide) (by decide) (by decide) rfl tw_963 dX5_owns_76 ?_
            refine aw_bipush (v := (17 : Int32)) S dX5_owns_79 (by decide) ?_
            refine aw_iload_n S 2 rfl dX5_owns_81 rfl ?_
            refine aw_iadd S dX5_owns_82 ?_
            refine aw_iconst (v := (1 : Int32)) S dX5_owns_83 (by decide) ?_
            refine aw_isub S dX5_owns_84 ?_
            refine aw_iload_n S 1 rfl dX5_owns_85 rfl ?_
            refine aw_iconst (v := (1 : Int32)) S dX5_owns_86 (by decide) ?_
            refine aw_iadd S dX5_owns_87 ?_
            refine aw_iast S 178 1375 (by decide) (by decide) dX5_owns_88 ?_
            refine aw_wr (fun I8 => ?_)
            refine aw_aload_n S 0 rfl dX5_owns_89 rfl ?_
            refine aw_iload_n S 1 rfl dX5_owns_90 rfl ?_
            refine aw_cVi S 177 [.int p1] vw_X5_pitchesOf cl_X5 (by decide) (by decide) tw_1043 (s_X5_pitchesOf _ _ p1 I8) ⟨by decide, by decide⟩ rfl rfl (Nat.le_of_ble_eq_true rfl) rfl rfl (by decide) (by decide) dX5_owns_91 (fun x8 I9 => ?_)
            exact aw_ret S hQ (vp_nar_int _) (by decide) (by decide) dX5_owns_94
          refine aw_sipush (v := (-1014 : Int32)) S dX5_owns_71 (by decide) ?_
          exact aw_ret S hQ (vp_nar_int _) (by decide) (by decide) dX5_owns_74
        refine aw_icmp_ne (tgt := 62) S dX5_owns_55 (by decide) ?_ ?_
        · refine aw_iconst (v := (0 : Int32)) S dX5_owns_62 (by decide) ?_
          exact hj63 (0 : Int32)
        refine aw_iconst (v := (1 : Int32)) S dX5_owns_58 (by decide) ?_
        refine aw_goto (tgt := 63) S dX5_owns_59 (by decide) ?_
        exact hj63 (1 : Int32)
      refine aw_if_lt (y := 0) (tgt := 35) S dX5_owns_28 (by decide) ?_ ?_
      · refine aw_iconst (v := (0 : Int32)) S dX5_owns_35 (by decide) ?_
        exact hj36 (0 : Int32)
      refine aw_iconst (v := (1 : Int32)) S dX5_owns_31 (by decide) ?_
      refine aw_goto (tgt := 36) S dX5_owns_32 (by decide) ?_
      exact hj36 (1 : Int32)
    refine aw_sipush (v := (-1012 : Int32)) S dX5_owns_18 (by decide) ?_
    exact aw_ret S hQ (vp_nar_int _) (by decide) (by decide) dX5_owns_21
  refine aw_sipush (v := (-1011 : Int32)) S dX5_owns_7 (by decide) ?_
  exact aw_ret S hQ (vp_nar_int _) (by decide) (by decide) dX5_owns_10
set_option maxHeartbeats 4000000 in
set_option maxRecDepth 100000 in
theorem s_X5_sign (hs : kgH) (l : Launch)  (I0 : kgM) : Sdi hs l yX5_sign (kg_ws yX5_sign cX5_sign 1 (some .int)) { frames := 0, cells := 0, slots := 0, locals := 0 } [.ref (kgB hs + 177)] I0 (f_X5_sign I0) := by
  refine sd_i (av := fun hs => [.ref (kgB hs + 177)]) (by decide) (fun hs => Nat.le_of_ble_eq_true rfl) (fun X S hQ => ?_) hs l
  refine aw_sub (L2 := [(0, .ref (kgB (kgHs X) + 177))]) [0] rfl ?_
  unfold f_X5_sign
  refine aw_aload_n S 0 rfl dX5_sign_0 rfl ?_
  refine aw_getI S 177 8 cl_X5 (by decide) (by decide) (by decide) (by decide) rfl tw_971 dX5_sign_1 ?_
  refine aw_aload_n S 0 rfl dX5_sign_4 rfl ?_
  refine aw_getI S 177 7 cl_X5 (by decide) (by decide) (by decide) (by decide) rfl tw_970 dX5_sign_5 ?_
  refine aw_icmp_ge (tgt := 23) S dX5_sign_8 (by decide) ?_ ?_
  · refine aw_iconst (v := (-1 : Int32)) S dX5_sign_23 (by decide) ?_
    exact aw_ret S hQ (vp_nar_int _) (by decide) (by decide) dX5_sign_24
  refine aw_aload_n S 0 rfl dX5_sign_11 rfl ?_
  refine aw_getR S 177 6 181 cl_X5 (by decide) (by decide) (by decide) (by decide) (by decide) rfl tw_969 dX5_sign_12 ?_
  refine aw_aload_n S 0 rfl dX5_sign_15 rfl ?_
  refine aw_getI S 177 8 cl_X5 (by decide) (by decide) (by decide) (by decide) rfl tw_971 dX5_sign_16 ?_
  refine aw_cald S 181 60 (by decide) (by decide) dX5_sign_19 ?_
  refine aw_goto (tgt := 24) S dX5_sign_20 (by decide) ?_
  exact aw_ret S hQ (vp_nar_int _) (by decide) (by decide) dX5_sign_24
set_option maxHeartbeats 4000000 in
set_option maxRecDepth 100000 in
theorem s_X5_needs (hs : kgH) (l : Launch) (p1 : Int32) (I0 : kgM) : Sdv hs l yX5_needs (kg_ws yX5_needs cX5_needs 2 none) { frames := 1, cells := 0, slots := 0, locals := 20 } [.ref (kgB hs + 177), .int p1] I0 (f_X5_needs p1 I0) := by
  refine sd_v (av := fun hs => [.ref (kgB hs + 177), .int p1]) (by decide) (fun hs => Nat.le_of_ble_eq_true rfl) (fun X S hQ => ?_) hs l
  refine aw_sub (L2 := [(0, .ref (kgB (kgHs X) + 177)), (1, .int p1)]) [0, 1] rfl ?_
  unfold f_X5_needs
  refine aw_aload_n S 0 rfl dX5_needs_0 rfl ?_
  refine aw_getI S 177 9 cl_X5 (by decide) (by decide) (by decide) (by decide) rfl tw_972 dX5_needs_1 ?_
  refine aw_if_lt (y := 0) (tgt := 8) S dX5_needs_4 (by decide) ?_ ?_
  · refine aw_aload_n S 0 rfl dX5_needs_8 rfl ?_
    refine aw_cVi S 177 [] vw_X5_sign cl_X5 (by decide) (by decide) tw_1270 (s_X5_sign _ _ I0) ⟨by decide, by decide⟩ rfl rfl (Nat.le_of_ble_eq_true rfl) rfl rfl (by decide) (by decide) dX5_needs_9 (fun x1 I1 => ?_)
    refine aw_iload_n S 1 rfl dX5_needs_12 rfl ?_
    refine aw_icmp_eq (tgt := 25) S dX5_needs_13 (by decide) ?_ ?_
    · refine aw_aload_n S 0 rfl dX5_needs_25 rfl ?_
      refine aw_dup S dX5_needs_26 rfl ?_
      refine aw_getI S 177 8 cl_X5 (by decide) (by decide) (by decide) (by decide) rfl tw_971 dX5_needs_27 ?_
      refine aw_iconst (v := (1 : Int32)) S dX5_needs_30 (by decide) ?_
      refine aw_iadd S dX5_needs_31 ?_
      refine aw_putI S 177 8 cl_X5 tyX5_ok nmX5 (by decide) (by decide) (by decide) (by decide) rfl (vp_nar_int _) rfl tw_971 dX5_needs_32 ?_
      refine aw_wr (fun I2 => ?_)
      exact aw_retv S hQ (by decide) (by decide) dX5_needs_35
    refine aw_aload_n S 0 rfl dX5_needs_16 rfl ?_
    refine aw_aload_n S 0 rfl dX5_needs_17 rfl ?_
    refine aw_getI S 177 8 cl_X5 (by decide) (by decide) (by decide) (by decide) rfl tw_971 dX5_needs_18 ?_
    refine aw_putI S 177 9 cl_X5 tyX5_ok nmX5 (by decide) (by decide) (by decide) (by decide) rfl (vp_nar_int _) rfl tw_972 dX5_needs_21 ?_
    refine aw_wr (fun I3 => ?_)
    exact aw_retv S hQ (by decide) (by decide) dX5_needs_24
  exact aw_retv S hQ (by decide) (by decide) dX5_needs_7
set_option maxHeartbeats 4000000 in
set_option maxRecDepth 100000 in
theorem s_X5_signs (hs : kgH) (l : Launch) (p1 : Int32) (p2 : Int32) (p3 : Int32) (I0 : kgM) : Sdv hs l yX5_signs (kg_ws yX5_signs cX5_signs 4 none) { frames := 2, cells := 0, slots := 0, locals := 41 } [.ref (kgB hs + 177), .int p1, .int p2, .int p3] I0 (f_X5_signs p1 p2 p3 I0) := by
  refine sd_v (av := fun hs => [.ref (kgB hs + 177), .int p1, .int p2, .int p3]) (by decide) (fun hs => Nat.le_of_ble_eq_true rfl) (fun X S hQ => ?_) hs l
  refine aw_sub (L2 := [(0, .ref (kgB (kgHs X) + 177)), (1, .int p1), (2, .int p2), (3, .int p3)]) [0, 1, 2, 3] rfl ?_
  unfold f_X5_signs
  refine aw_aload_n S 0 rfl dX5_signs_0 rfl ?_
  refine aw_iload_n S 1 rfl dX5_signs_1 rfl ?_
  refine aw_cVv S 177 [.int p1] vw_X5_needs cl_X5 (by decide) (by decide) tw_1282 (s_X5_needs _ _ p1 I0) ⟨by decide, by decide⟩ rfl rfl (Nat.le_of_ble_eq_true rfl) rfl rfl (by decide) (by decide) dX5_signs_2 (fun x1 I1 => ?_)
  refine aw_aload_n S 0 rfl dX5_signs_5 rfl ?_
  refine aw_iload_n S 2 rfl dX5_signs_6 rfl ?_
  refine aw_cVv S 177 [.int p2] vw_X5_needs cl_X5 (by decide) (by decide) tw_1282 (s_X5_needs _ _ p2 I1) ⟨by decide, by decide⟩ rfl rfl (Nat.le_of_ble_eq_true rfl) rfl rfl (by decide) (by decide) dX5_signs_7 (fun x2 I2 => ?_)
  refine aw_iload_n S 3 rfl dX5_signs_10 rfl ?_
  refine aw_if_eq (y := 0) (tgt := 19) S dX5_signs_11 (by decide) ?_ ?_
  · exact aw_retv S hQ (by decide) (by decide) dX5_signs_19
  refine aw_aload_n S 0 rfl dX5_signs_14 rfl ?_
  refine aw_iload_n S 3 rfl dX5_signs_15 rfl ?_
  refine aw_cVv S 177 [.int p3] vw_X5_needs cl_X5 (by decide) (by decide) tw_1282 (s_X5_needs _ _ p3 I2) ⟨by decide, by decide⟩ rfl rfl (Nat.le_of_ble_eq_true rfl) rfl rfl (by decide) (by decide) dX5_signs_16 (fun x3 I3 => ?_)
  exact aw_retv S hQ (by decide) (by decide) dX5_signs_19
set_option maxHeartbeats 4000000 in
set_option maxRecDepth 100000 in
theorem s_X5_word (hs : kgH) (l : Launch) (p1 : Int32) (I0 : kgM) : Sdi hs l yX5_word (kg_ws yX5_word cX5_word 3 (some .int)) { frames := 3, cells := 0, slots := 0, locals := 64 } [.ref (kgB hs + 177), .int p1] I0 (f_X5_word p1 I0) := by
  refine sd_i (av := fun hs => [.ref (kgB hs + 177), .int p1]) (by decide) (fun hs => Nat.le_of_ble_eq_true rfl) (fun X S hQ => ?_) hs l
  refine aw_sub (L2 := [(0, .ref (kgB (kgHs X) + 177)), (1, .int p1)]) [0, 1] rfl ?_
  unfold f_X5_word
  refine aw_aload_n S 0 rfl dX5_word_0 rfl ?_
  refine aw_cVi S 177 [] vw_X5_sign cl_X5 (by decide) (by decide) tw_1270 (s_X5_sign _ _ I0) ⟨by decide, by decide⟩ rfl rfl (Nat.le_of_ble_eq_true rfl) rfl rfl (by decide) (by decide) dX5_word_1 (fun x1 I1 => ?_)
  refine aw_istore_n (L2 := [(0, .ref (kgB (kgHs X) + 177)), (1, .int p1), (2, .int x1)]) S [1, 2, 0] dX5_word_4 rfl (by decide) rfl ?_
  refine aw_iload_n S 1 rfl dX5_word_5 rfl ?_
  refine aw_tableAt (tgt := 168) S 97 dX5_word_6 (by decide) (by decide) rfl (by decide) ?_ (fun n_97 => ?_)
  · refine aw_aload_n S 0 rfl dX5_word_168 rfl ?_
    refine aw_bipush (v := (112 : Int32)) S dX5_word_169 (by decide) ?_
    refine aw_bipush (v := (112 : Int32)) S dX5_word_171 (by decide) ?_
    refine aw_bipush (v := (101 : Int32)) S dX5_word_173 (by decide) ?_
    refine aw_cVv S 177 [.int (112 : Int32), .int (112 : Int32), .int (101 : Int32)] vw_X5_signs cl_X5 (by decide) (by decide) tw_1278 (s_X5_signs _ _ (112 : Int32) (112 : Int32) (101 : Int32) I1) ⟨by decide, by decide⟩ rfl rfl (Nat.le_of_ble_eq_true rfl) rfl rfl (by decide) (by decide) dX5_word_175 (fun x2 I2 => ?_)
    refine aw_aload_n S 0 rfl dX5_word_178 rfl ?_
    refine aw_bipush (v := (97 : Int32)) S dX5_word_179 (by decide) ?_
    refine aw_bipush (v := (108 : Int32)) S dX5_word_181 (by decide) ?_
    refine aw_iconst (v := (0 : Int32)) S dX5_word_183 (by decide) ?_
    refine aw_cVv S 177 [.int (97 : Int32), .int (108 : Int32), .int (0 : Int32)] vw_X5_signs cl_X5 (by decide) (by decide) tw_1278 (s_X5_signs _ _ (97 : Int32) (108 : Int32) (0 : Int32) I2) ⟨by decide, by decide⟩ rfl rfl (Nat.le_of_ble_eq_true rfl) rfl rfl (by decide) (by decide) dX5_word_184 (fun x3 I3 => ?_)
    refine aw_bipush (v := (97 : Int32)) S dX5_word_187 (by decide) ?_
    exact aw_ret S hQ (vp_nar_int _) (by decide) (by decide) dX5_word_189
  refine aw_tableAt (tgt := 143) S 102 dX5_word_6 (by decide) (by decide) rfl (by decide) ?_ (fun n_102 => ?_)
  · refine aw_aload_n S 0 rfl dX5_word_143 rfl ?_
    refine aw_bipush (v := (105 : Int32)) S dX5_word_144 (by decide) ?_
    refine aw_bipush (v := (108 : Int32)) S dX5_word_146 (by decide) ?_
    refine aw_bipush (v := (108 : Int32)) S dX5_word_148 (by decide) ?_
    refine aw_cVv S 177 [.int (105 : Int32), .int (108 : Int32), .int (108 : Int32)] vw_X5_signs cl_X5 (by decide) (by decide) tw_1278 (s_X5_signs _ _ (105 : Int32) (108 : Int32) (108 : Int32) I1) ⟨by decide, by decide⟩ rfl rfl (Nat.le_of_ble_eq_true rfl) rfl rfl (by decide) (by decide) dX5_word_150 (fun x4 I4 => ?_)
    refine aw_bipush (v := (102 : Int32)) S dX5_word_153 (by decide) ?_
    exact aw_ret S hQ (vp_nar_int _) (by decide) (by decide) dX5_word_155
  refine aw_tableAt (tgt := 130) S 104 dX5_word_6 (by decide) (by decide) rfl (by decide) ?_ (fun n_104 => ?_)
  · refine aw_aload_n S 0 rfl dX5_word_130 rfl ?_
    refine aw_bipush (v := (101 : Int32)) S dX5_word_131 (by decide) ?_
    refine aw_bipush (v := (97 : Int32)) S dX5_word_133 (by decide) ?_
    refine aw_bipush (v := (116 : Int32)) S dX5_word_135 (by decide) ?_
    refine aw_cVv S 177 [.int (101 : Int32), .int (97 : Int32), .int (116 : Int32)] vw_X5_signs cl_X5 (by decide) (by decide) tw_1278 (s_X5_signs _ _ (101 : Int32) (97 : Int32) (116 : Int32) I1) ⟨by decide, by decide⟩ rfl rfl (Nat.le_of_ble_eq_true rfl) rfl rfl (by decide) (by decide) dX5_word_137 (fun x5 I5 => ?_)
    refine aw_bipush (v := (104 : Int32)) S dX5_word_140 (by decide) ?_
    exact aw_ret S hQ (vp_nar_int _) (by decide) (by decide) dX5_word_142
  refine aw_tableAt (tgt := 96) S 107 dX5_word_6 (by decide) (by decide) rfl (by decide) ?_ (fun n_107 => ?_)
  · refine aw_aload_n S 0 rfl dX5_word_96 rfl ?_
    refine aw_bipush (v := (101 : Int32)) S dX5_word_97 (by decide) ?_
    refine aw_bipush (v := (116 : Int32)) S dX5_word_99 (by decide) ?_
    refine aw_bipush (v := (116 : Int32)) S dX5_word_101 (by decide) ?_
    refine aw_cVv S 177 [.int (101 : Int32), .int (116 : Int32), .int (116 : Int32)] vw_X5_signs cl_X5 (by decide) (by decide) tw_1278 (s_X5_signs _ _ (101 : Int32) (116 : Int32) (116 : Int32) I1) ⟨by decide, by decide⟩ rfl rfl (Nat.le_of_ble_eq_true rfl) rfl rfl (by decide) (by decide) dX5_word_103 (fun x6 I6 => ?_)
    refine aw_aload_n S 0 rfl dX5_word_106 rfl ?_
    refine aw_bipush (v := (108 : Int32)) S dX5_word_107 (by decide) ?_
    refine aw_bipush (v := (101 : Int32)) S dX5_word_109 (by decide) ?_
    refine aw_iconst (v := (0 : Int32)) S dX5_word_111 (by decide) ?_
    refine aw_cVv S 177 [.int (108 : Int32), .int (101 : Int32), .int (0 : Int32)] vw_X5_signs cl_X5 (by decide) (by decide) tw_1278 (s_X5_signs _ _ (108 : Int32) (101 : Int32) (0 : Int32) I6) ⟨by decide, by decide⟩ rfl rfl (Nat.le_of_ble_eq_true rfl) rfl rfl (by decide) (by decide) dX5_word_112 (fun x7 I7 => ?_)
    refine aw_bipush (v := (107 : Int32)) S dX5_word_115 (by decide) ?_
    exact aw_ret S hQ (vp_nar_int _) (by decide) (by decide) dX5_word_117
  refine aw_tableAt (tgt := 156) S 108 dX5_word_6 (by decide) (by decide) rfl (by decide) ?_ (fun n_108 => ?_)
  · refine aw_aload_n S 0 rfl dX5_word_156 rfl ?_
    refine aw_bipush (v := (105 : Int32)) S dX5_word_157 (by decide) ?_
    refine aw_bipush (v := (100 : Int32)) S dX5_word_159 (by decide) ?_
    refine aw_iconst (v := (0 : Int32)) S dX5_word_161 (by decide) ?_
    refine aw_cVv S 177 [.int (105 : Int32), .int (100 : Int32), .int (0 : Int32)] vw_X5_signs cl_X5 (by decide) (by decide) tw_1278 (s_X5_signs _ _ (105 : Int32) (100 : Int32) (0 : Int32) I1) ⟨by decide, by decide⟩ rfl rfl (Nat.le_of_ble_eq_true rfl) rfl rfl (by decide) (by decide) dX5_word_162 (fun x8 I8 => ?_)
    refine aw_bipush (v := (108 : Int32)) S dX5_word_165 (by decide) ?_
    exact aw_ret S hQ (vp_nar_int _) (by decide) (by decide) dX5_word_167
  refine aw_tableAt (tgt := 190) S 109 dX5_word_6 (by decide) (by decide) rfl (by decide) ?_ (fun n_109 => ?_)
  · refine aw_aload_n S 0 rfl dX5_word_190 rfl ?_
    refine aw_bipush (v := (105 : Int32)) S dX5_word_191 (by decide) ?_
    refine aw_bipush (v := (110 : Int32)) S dX5_word_193 (by decide) ?_
    refine aw_bipush (v := (117 : Int32)) S dX5_word_195 (by decide) ?_
    refine aw_cVv S 177 [.int (105 : Int32), .int (110 : Int32), .int (117 : Int32)] vw_X5_signs cl_X5 (by decide) (by decide) tw_1278 (s_X5_signs _ _ (105 : Int32) (110 : Int32) (117 : Int32) I1) ⟨by decide, by decide⟩ rfl rfl (Nat.le_of_ble_eq_true rfl) rfl rfl (by decide) (by decide) dX5_word_197 (fun x9 I9 => ?_)
    refine aw_aload_n S 0 rfl dX5_word_200 rfl ?_
    refine aw_bipush (v := (116 : Int32)) S dX5_word_201 (by decide) ?_
    refine aw_bipush (v := (101 : Int32)) S dX5_word_203 (by decide) ?_
    refine aw_iconst (v := (0 : Int32)) S dX5_word_205 (by decide) ?_
    refine aw_cVv S 177 [.int (116 : Int32), .int (101 : Int32), .int (0 : Int32)] vw_X5_signs cl_X5 (by decide) (by decide) tw_1278 (s_X5_signs _ _ (116 : Int32) (101 : Int32) (0 : Int32) I9) ⟨by decide, by decide⟩ rfl rfl (Nat.le_of_ble_eq_true rfl) rfl rfl (by decide) (by decide) dX5_word_206 (fun x10 I10 => ?_)
    refine aw_bipush (v := (109 : Int32)) S dX5_word_209 (by decide) ?_
    exact aw_ret S hQ (vp_nar_int _) (by decide) (by decide) dX5_word_211
  refine aw_tableAt (tgt := 118) S 115 dX5_word_6 (by decide) (by decide) rfl (by decide) ?_ (fun n_115 => ?_)
  · refine aw_aload_n S 0 rfl dX5_word_118 rfl ?_
    refine aw_bipush (v := (101 : Int32)) S dX5_word_119 (by decide) ?_
    refine aw_bipush (v := (116 : Int32)) S dX5_word_121 (by decide) ?_
    refine aw_iconst (v := (0 : Int32)) S dX5_word_123 (by decide) ?_
    refine aw_cVv S 177 [.int (101 : Int32), .int (116 : Int32), .int (0 : Int32)] vw_X5_signs cl_X5 (by decide) (by decide) tw_1278 (s_X5_signs _ _ (101 : Int32) (116 : Int32) (0 : Int32) I1) ⟨by decide, by decide⟩ rfl rfl (Nat.le_of_ble_eq_true rfl) rfl rfl (by decide) (by decide) dX5_word_124 (fun x11 I11 => ?_)
    refine aw_bipush (v := (115 : Int32)) S dX5_word_127 (by decide) ?_
    exact aw_ret S hQ (vp_nar_int _) (by decide) (by decide) dX5_word_129
  refine aw_tableD (tgt := 212) S [97, 102, 104, 107, 108, 109, 115] dX5_word_6 (by decide) (by decide) (by intro v hv; simp only [List.mem_cons, List.not_mem_nil, or_false] at hv; rcases hv with rfl | rfl | rfl | rfl | rfl | rfl | rfl <;> assumption) (by decide) ?_
  refine aw_iload_n S 2 rfl dX5_word_212 rfl ?_
  refine aw_bipush (v := (102 : Int32)) S dX5_word_213 (by decide) ?_
  refine aw_icmp_ne (tgt := 230) S dX5_word_215 (by decide) ?_ ?_
  · refine aw_aload_n S 0 rfl dX5_word_230 rfl ?_
    refine aw_bipush (v := (119 : Int32)) S dX5_word_231 (by decide) ?_
    refine aw_bipush (v := (110 : Int32)) S dX5_word_233 (by decide) ?_
    refine aw_iconst (v := (0 : Int32)) S dX5_word_235 (by decide) ?_
    refine aw_cVv S 177 [.int (119 : Int32), .int (110 : Int32), .int (0 : Int32)] vw_X5_signs cl_X5 (by decide) (by decide) tw_1278 (s_X5_signs _ _ (119 : Int32) (110 : Int32) (0 : Int32) I1) ⟨by decide, by decide⟩ rfl rfl (Nat.le_of_ble_eq_true rfl) rfl rfl (by decide) (by decide) dX5_word_236 (fun x12 I12 => ?_)
    refine aw_bipush (v := (110 : Int32)) S dX5_word_239 (by decide) ?_
    exact aw_ret S hQ (vp_nar_int _) (by decide) (by decide) dX5_word_241
  refine aw_aload_n S 0 rfl dX5_word_218 rfl ?_
  refine aw_bipush (v := (102 : Int32)) S dX5_word_219 (by decide) ?_
  refine aw_bipush (v := (102 : Int32)) S dX5_word_221 (by decide) ?_
  refine aw_iconst (v := (0 : Int32)) S dX5_word_223 (by decide) ?_
  refine aw_cVv S 177 [.int (102 : Int32), .int (102 : Int32), .int (0 : Int32)] vw_X5_signs cl_X5 (by decide) (by decide) tw_1278 (s_X5_signs _ _ (102 : Int32) (102 : Int32) (0 : Int32) I1) ⟨by decide, by decide⟩ rfl rfl (Nat.le_of_ble_eq_true rfl) rfl rfl (by decide) (by decide) dX5_word_224 (fun x13 I13 => ?_)
  refine aw_bipush (v := (116 : Int32)) S dX5_word_227 (by decide) ?_
  exact aw_ret S hQ (vp_nar_int _) (by decide) (by decide) dX5_word_229
