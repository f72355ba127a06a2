set_option maxHeartbeats 4000000 in
set_option maxRecDepth 100000 in
theorem s_X5_in (hs : kgH) (l : Launch) (w : Option (Nat × Nat)) (p1 : Int32) (p2 : Int32) (p3 : Int32) (I0 : kgM) : Sdi hs l w yX5_in (kg_ws yX5_in cX5_in 3 (some .boolean)) { frames := 0, cells := 0, slots := 0, locals := 0 } [.int p1, .int p2, .int p3] I0 (f_X5_in p1 p2 p3 I0) := by
  refine sd_i (av := fun hs => [.int p1, .int p2, .int p3]) (by decide +kernel) (fun hs => Nat.le_of_ble_eq_true rfl) (fun X S hQ => ?_) hs l
  refine aw_sub (L2 := [(0, .int p1), (1, .int p2), (2, .int p3)]) [0, 1, 2] rfl ?_
  unfold f_X5_in
  refine aw_iload_n S 0 rfl dX5_in_0 rfl ?_
  refine aw_iload_n S 1 rfl dX5_in_1 rfl ?_
  refine aw_icmp_lt (tgt := 14) S dX5_in_2 (by decide) ?_ ?_
  · refine aw_iconst (v := (0 : Int32)) S dX5_in_14 (by decide) ?_
    exact aw_ret S hQ rfl (by decide) (by decide) dX5_in_15
  refine aw_iload_n S 0 rfl dX5_in_5 rfl ?_
  refine aw_iload_n S 2 rfl dX5_in_6 rfl ?_
  refine aw_icmp_gt (tgt := 14) S dX5_in_7 (by decide) ?_ ?_
  · refine aw_iconst (v := (0 : Int32)) S dX5_in_14 (by decide) ?_
    exact aw_ret S hQ rfl (by decide) (by decide) dX5_in_15
  refine aw_iconst (v := (1 : Int32)) S dX5_in_10 (by decide) ?_
  refine aw_goto (tgt := 15) S dX5_in_11 (by decide) ?_
  exact aw_ret S hQ rfl (by decide) (by decide) dX5_in_15
set_option maxHeartbeats 4000000 in
set_option maxRecDepth 100000 in
theorem s_X5_copies_L2 {X : kgCX (Int32 × kgM)} {w : Option (Nat × Nat)} (S : Cx X cX5_copies RX5 4 0 0 0 0) (hQ : Qxv X w) (a1 : Int32) (a2 : Int32) {K : kgM → Option (Int32 × kgM)} (hK : ∀  (J : kgM), AW X 4 0 0 w (K J) 36 [] [] J) : ∀ (q : Nat) (x3h2 : Int32) (Ih2 : kgM), AW X 4 0 0 w (f_X5_copies_L2 a1 a2 K q x3h2 Ih2) 2 [(0, .ref (kgO (kgHs X) 177)), (1, .int a1), (2, .int a2), (3, .int x3h2)] [] Ih2 := by
  intro q
  induction q with
  | zero => intros; exact aw_none
  | succ q ih =>
    intro x3h2 Ih2
    rw [f_X5_copies_L2]
    refine aw_iload_n S 3 rfl dX5_copies_2 rfl ?_
    refine aw_bipush (v := (125 : Int32)) S dX5_copies_3 (by decide) ?_
    refine aw_icmp_ge (tgt := 36) S dX5_copies_5 (by decide) ?_ ?_
    · refine aw_sub (L2 := []) [] rfl ?_
      exact hK Ih2
    refine aw_aload_n S 0 rfl dX5_copies_8 rfl ?_
    refine aw_getR S 177 0 178 cl_X5 (by decide) (by decide) (by decide) (by decide) (by decide) rfl tw_963 dX5_copies_9 ?_
    refine aw_bipush (v := (125 : Int32)) S dX5_copies_12 (by decide) ?_
    refine aw_iload_n S 2 rfl dX5_copies_14 rfl ?_
    refine aw_imul S dX5_copies_15 ?_
    refine aw_iload_n S 3 rfl dX5_copies_16 rfl ?_
    refine aw_iadd S dX5_copies_17 ?_
    refine aw_aload_n S 0 rfl dX5_copies_18 rfl ?_
    refine aw_getR S 177 0 178 cl_X5 (by decide) (by decide) (by decide) (by decide) (by decide) rfl tw_963 dX5_copies_19 ?_
    refine aw_bipush (v := (125 : Int32)) S dX5_copies_22 (by decide) ?_
    refine aw_iload_n S 1 rfl dX5_copies_24 rfl ?_
    refine aw_imul S dX5_copies_25 ?_
    refine aw_iload_n S 3 rfl dX5_copies_26 rfl ?_
    refine aw_iadd S dX5_copies_27 ?_
    refine aw_iald S 178 1375 (by decide) (by decide) dX5_copies_28 ?_
    refine aw_iast S 178 1375 (by decide) (by decide) dX5_copies_29 ?_
    refine aw_wr (fun I1 => ?_)
    refine aw_iinc (v := x3h2 + (1 : Int32)) (L2 := [(0, .ref (kgO (kgHs X) 177)), (1, .int a1), (2, .int a2), (3, .int (x3h2 + (1 : Int32)))]) S [1, 2, 3, 0] 3 dX5_copies_30 rfl rfl (by decide) rfl ?_
    refine aw_let (Lf := fun x1 => [(0, .ref (kgO (kgHs X) 177)), (1, .int a1), (2, .int a2), (3, .int x1)]) (x3h2 + (1 : Int32)) (fun x1 => ?_)
    refine aw_goto (tgt := 2) S dX5_copies_33 (by decide) ?_
    exact ih x1 I1
set_option maxHeartbeats 4000000 in
set_option maxRecDepth 100000 in
theorem s_X5_copies (hs : kgH) (l : Launch) (w : Option (Nat × Nat)) (p1 : Int32) (p2 : Int32) (I0 : kgM) : Sdv hs l w yX5_copies (kg_ws yX5_copies cX5_copies 4 none) { frames := 0, cells := 0, slots := 0, locals := 0 } [.ref (kgO hs 177), .int p1, .int p2] I0 (f_X5_copies p1 p2 I0) := by
  refine sd_v (av := fun hs => [.ref (kgO hs 177), .int p1, .int p2]) (by decide +kernel) (fun hs => Nat.le_of_ble_eq_true rfl) (fun X S hQ => ?_) hs l
  refine aw_sub (L2 := [(0, .ref (kgO (kgHs X) 177)), (1, .int p1), (2, .int p2)]) [0, 1, 2] rfl ?_
  unfold f_X5_copies
  refine aw_iconst (v := (0 : Int32)) S dX5_copies_0 (by decide) ?_
  refine aw_istore_n (L2 := [(0, .ref (kgO (kgHs X) 177)), (1, .int p1), (2, .int p2), (3, .int (0 : Int32))]) S [1, 2, 3, 0] dX5_copies_1 rfl (by decide) rfl ?_
  refine s_X5_copies_L2 S hQ p1 p2 (fun I2 => ?_) 200 (0 : Int32) I0
  exact aw_retv S hQ (by decide) (by decide) dX5_copies_36
set_option maxHeartbeats 4000000 in
set_option maxRecDepth 100000 in
theorem s_X5_begins (hs : kgH) (l : Launch) (w : Option (Nat × Nat))  (I0 : kgM) : Sdv hs l w yX5_begins (kg_ws yX5_begins cX5_begins 1 none) { frames := 1, cells := 0, slots := 0, locals := 23 } [.ref (kgO hs 177)] I0 (f_X5_begins I0) := by
  refine sd_v (av := fun hs => [.ref (kgO hs 177)]) (by decide +kernel) (fun hs => Nat.le_of_ble_eq_true rfl) (fun X S hQ => ?_) hs l
  refine aw_sub (L2 := [(0, .ref (kgO (kgHs X) 177))]) [0] rfl ?_
  unfold f_X5_begins
  refine aw_aload_n S 0 rfl dX5_begins_0 rfl ?_
  refine aw_iconst (v := (0 : Int32)) S dX5_begins_1 (by decide) ?_
  refine aw_bipush (v := (10 : Int32)) S dX5_begins_2 (by decide) ?_
  refine aw_cVv S 177 [.int (0 : Int32), .int (10 : Int32)] vw_X5_copies cl_X5 (by decide) (by decide) tw_1021 (s_X5_copies _ _ _ (0 : Int32) (10 : Int32) I0) ⟨by decide, by decide⟩ rfl rfl (Nat.le_of_ble_eq_true rfl) rfl rfl (by decide) (by decide) dX5_begins_4 (fun x1 I1 => ?_)
  exact aw_retv S hQ (by decide) (by decide) dX5_begins_7
set_option maxHeartbeats 4000000 in
set_option maxRecDepth 100000 in
theorem s_X5_ends_L27 {X : kgCX (Int32 × kgM)} {w : Option (Nat × Nat)} (S : Cx X cX5_ends RX5 3 1 23 0 0) (hQ : Qxi X w .int) (a1 : Int32) {K : kgM → Option (Int32 × kgM)} (hK : ∀  (J : kgM), AW X 3 0 0 w (K J) 47 [(0, .ref (kgO (kgHs X) 177)), (1, .int a1)] [] J) : ∀ (q : Nat) (x2h27 : Int32) (Ih27 : kgM), AW X 3 0 0 w (f_X5_ends_L27 a1 K q x2h27 Ih27) 27 [(0, .ref (kgO (kgHs X) 177)), (1, .int a1), (2, .int x2h27)] [] Ih27 := by
  intro q
  induction q with
  | zero => intros; exact aw_none
  | succ q ih =>
    intro x2h27 Ih27
    rw [f_X5_ends_L27]
    refine aw_iload_n S 2 rfl dX5_ends_27 rfl ?_
    refine aw_bipush (v := (8 : Int32)) S dX5_ends_28 (by decide) ?_
    refine aw_icmp_ge (tgt := 47) S dX5_ends_30 (by decide) ?_ ?_
    · refine aw_sub (L2 := [(0, .ref (kgO (kgHs X) 177)), (1, .int a1)]) [0, 1] rfl ?_
      exact hK Ih27
    refine aw_aload_n S 0 rfl dX5_ends_33 rfl ?_
    refine aw_iload_n S 2 rfl dX5_ends_34 rfl ?_
    refine aw_iconst (v := (1 : Int32)) S dX5_ends_35 (by decide) ?_
    refine aw_iadd S dX5_ends_36 ?_
    refine aw_iload_n S 2 rfl dX5_ends_37 rfl ?_
    refine aw_cVv S 177 [.int (x2h27 + (1 : Int32)), .int x2h27] vw_X5_copies cl_X5 (by decide) (by decide) tw_1021 (s_X5_copies _ _ _ (x2h27 + (1 : Int32)) x2h27 Ih27) ⟨by decide, by decide⟩ rfl rfl (Nat.le_of_ble_eq_true rfl) rfl rfl (by decide) (by decide) dX5_ends_38 (fun x2 I3 => ?_)
    refine aw_iinc (v := x2h27 + (1 : Int32)) (L2 := [(0, .ref (kgO (kgHs X) 177)), (1, .int a1), (2, .int (x2h27 + (1 : Int32)))]) S [1, 2, 0] 2 dX5_ends_41 rfl rfl (by decide) rfl ?_
    refine aw_let (Lf := fun x3 => [(0, .ref (kgO (kgHs X) 177)), (1, .int a1), (2, .int x3)]) (x2h27 + (1 : Int32)) (fun x3 => ?_)
    refine aw_goto (tgt := 27) S dX5_ends_44 (by decide) ?_
    exact ih x3 I3
set_option maxHeartbeats 4000000 in
set_option maxRecDepth 100000 in
theorem s_X5_ends (hs : kgH) (l : Launch) (w : Option (Nat × Nat)) (p1 : Int32) (I0 : kgM) : Sdi hs l w yX5_ends (kg_ws yX5_ends cX5_ends 3 (some .int)) { frames := 1, cells := 0, slots := 0, locals := 23 } [.ref (kgO hs 177), .int p1] I0 (f_X5_ends p1 I0) := by
  refine sd_i (av := fun hs => [.ref (kgO hs 177), .int p1]) (by decide +kernel) (fun hs => Nat.le_of_ble_eq_true rfl) (fun X S hQ => ?_) hs l
  refine aw_sub (L2 := [(0, .ref (kgO (kgHs X) 177)), (1, .int p1)]) [0, 1] rfl ?_
  unfold f_X5_ends
  refine aw_iload_n S 1 rfl dX5_ends_0 rfl ?_
  refine aw_sipush (v := (-1011 : Int32)) S dX5_ends_1 (by decide) ?_
  refine aw_icmp_gt (tgt := 16) S dX5_ends_4 (by decide) ?_ ?_
  · refine aw_aload_n S 0 rfl dX5_ends_16 rfl ?_
    refine aw_getI S 177 1 cl_X5 (by decide) (by decide) (by decide) (by decide) rfl tw_964 dX5_ends_17 ?_
    refine aw_bipush (v := (8 : Int32)) S dX5_ends_20 (by decide) ?_
    refine aw_letJ (fun (j57 : kgM → Option (Int32 × kgM)) => ∀ (Ij57 : kgM), AW X 3 0 0 w (j57 Ij57) 57 [(0, .ref (kgO (kgHs X) 177)), (1, .int p1)] [] Ij57) ?_ (fun j57 hj57 => ?_)
    · intro Ij57
      refine aw_aload_n S 0 rfl dX5_ends_57 rfl ?_
      refine aw_dup S dX5_ends_58 rfl ?_
      refine aw_getI S 177 1 cl_X5 (by decide) (by decide) (by decide) (by decide) rfl tw_964 dX5_ends_59 ?_
      refine aw_iconst (v := (1 : Int32)) S dX5_ends_62 (by decide) ?_
      refine aw_iadd S dX5_ends_63 ?_
      refine aw_putI S 177 1 cl_X5 tyX5_ok nmX5 (by decide) (by decide) (by decide) (by decide) rfl (vp_nar_int _) rfl tw_964 dX5_ends_64 ?_
      refine aw_wr (fun I1 => ?_)
      refine aw_aload_n S 0 rfl dX5_ends_67 rfl ?_
      refine aw_bipush (v := (10 : Int32)) S dX5_ends_68 (by decide) ?_
      refine aw_aload_n S 0 rfl dX5_ends_70 rfl ?_
      refine aw_getI S 177 1 cl_X5 (by decide) (by decide) (by decide) (by decide) rfl tw_964 dX5_ends_71 ?_
      refine aw_cVv S 177 [.int (10 : Int32), .int (I1 177 1)] vw_X5_copies cl_X5 (by decide) (by decide) tw_1021 (s_X5_copies _ _ _ (10 : Int32) (I1 177 1) I1) ⟨by decide, by decide⟩ rfl rfl (Nat.le_of_ble_eq_true rfl) rfl rfl (by decide) (by decide) dX5_ends_74 (fun x1 I2 => ?_)
      refine aw_iload_n S 1 rfl dX5_ends_77 rfl ?_
      exact aw_ret S hQ (vp_nar_int _) (by decide) (by decide) dX5_ends_78
    refine aw_icmp_ne (tgt := 57) S dX5_ends_22 (by decide) ?_ ?_
    · exact hj57 I0
    refine aw_iconst (v := (1 : Int32)) S dX5_ends_25 (by decide) ?_
    refine aw_istore_n (L2 := [(0, .ref (kgO (kgHs X) 177)), (1, .int p1), (2, .int (1 : Int32))]) S [1, 2, 0] dX5_ends_26 rfl (by decide) rfl ?_
    refine s_X5_ends_L27 S hQ p1 (fun I4 => ?_) 200 (1 : Int32) I0
    refine aw_aload_n S 0 rfl dX5_ends_47 rfl ?_
    refine aw_dup S dX5_ends_48 rfl ?_
    refine aw_getI S 177 1 cl_X5 (by decide) (by decide) (by decide) (by decide) rfl tw_964 dX5_ends_49 ?_
    refine aw_iconst (v := (1 : Int32)) S dX5_ends_52 (by decide) ?_
    refine aw_isub S dX5_ends_53 ?_
    refine aw_putI S 177 1 cl_X5 tyX5_ok nmX5 (by decide) (by decide) (by decide) (by decide) rfl (vp_nar_int _) rfl tw_964 dX5_ends_54 ?_
    refine aw_wr (fun I5 => ?_)
    exact hj57 I5
  refine aw_aload_n S 0 rfl dX5_ends_7 rfl ?_
  refine aw_bipush (v := (10 : Int32)) S dX5_ends_8 (by decide) ?_
  refine aw_iconst (v := (0 : Int32)) S dX5_ends_10 (by decide) ?_
  refine aw_cVv S 177 [.int (10 : Int32), .int (0 : Int32)] vw_X5_copies cl_X5 (by decide) (by decide) tw_1021 (s_X5_copies _ _ _ (10 : Int32) (0 : Int32) I0) ⟨by decide, by decide⟩ rfl rfl (Nat.le_of_ble_eq_true rfl) rfl rfl (by decide) (by decide) dX5_ends_11 (fun x4 I6 => ?_)
  refine aw_iload_n S 1 rfl dX5_ends_14 rfl ?_
  exact aw_ret S hQ (vp_nar_int _) (by decide) (by decide) dX5_ends_15
set_option maxHeartbeats 4000000 in
set_option maxRecDepth 100000 in
theorem s_X5_refuses (hs : kgH) (l : Launch) (w : Option (Nat × Nat)) (p1 : Int32) (p2 : Int32) (p3 : Int32) (I0 : kgM) : Sdi hs l w yX5_refuses (kg_ws yX5_refuses cX5_refuses 4 (some .boolean)) { frames := 0, cells := 0, slots := 0, locals := 0 } [.ref (kgO hs 177), .int p1, .int p2, .int p3] I0 (f_X5_refuses p1 p2 p3 I0) := by
  refine sd_i (av := fun hs => [.ref (kgO hs 177), .int p1, .int p2, .int p3]) (by decide +kernel) (fun hs => Nat.le_of_ble_eq_true rfl) (fun X S hQ => ?_) hs l
  refine aw_sub (L2 := [(0, .ref (kgO (kgHs X) 177)), (1, .int p1), (2, .int p2), (3, .int p3)]) [0, 1, 2, 3] rfl ?_
  unfold f_X5_refuses
  refine aw_iload_n S 1 rfl dX5_refuses_0 rfl ?_
  refine aw_if_eq (y := 0) (tgt := 23) S dX5_refuses_1 (by decide) ?_ ?_
  · refine aw_iload_n S 1 rfl dX5_refuses_23 rfl ?_
    exact aw_retz S hQ (by decide) (by decide) dX5_refuses_24
  refine aw_aload_n S 0 rfl dX5_refuses_4 rfl ?_
  refine aw_getR S 177 3 179 cl_X5 (by decide) (by decide) (by decide) (by decide) (by decide) rfl tw_966 dX5_refuses_5 ?_
  refine aw_iconst (v := (0 : Int32)) S dX5_refuses_8 (by decide) ?_
  refine aw_iload_n S 2 rfl dX5_refuses_9 rfl ?_
  refine aw_iast S 179 3 (by decide) (by decide) dX5_refuses_10 ?_
  refine aw_wr (fun I1 => ?_)
  refine aw_aload_n S 0 rfl dX5_refuses_11 rfl ?_
  refine aw_getR S 177 4 180 cl_X5 (by decide) (by decide) (by decide) (by decide) (by decide) rfl tw_967 dX5_refuses_12 ?_
  refine aw_iconst (v := (0 : Int32)) S dX5_refuses_15 (by decide) ?_
  refine aw_iload_n S 3 rfl dX5_refuses_16 rfl ?_
  refine aw_iast S 180 3 (by decide) (by decide) dX5_refuses_17 ?_
  refine aw_wr (fun I2 => ?_)
  refine aw_aload_n S 0 rfl dX5_refuses_18 rfl ?_
  refine aw_iconst (v := (1 : Int32)) S dX5_refuses_19 (by decide) ?_
  refine aw_putI S 177 5 cl_X5 tyX5_ok nmX5 (by decide) (by decide) (by decide) (by decide) rfl (vp_nar_int _) rfl tw_968 dX5_refuses_20 ?_
  refine aw_wr (fun I3 => ?_)
  refine aw_iload_n S 1 rfl dX5_refuses_23 rfl ?_
  exact aw_retz S hQ (by decide) (by decide) dX5_refuses_24
set_option maxHeartbeats 4000000 in
set_option maxRecDepth 100000 in
theorem s_X5_causes_L5 {X : kgCX (Int32 × kgM)} {w : Option (Nat × Nat)} (S : Cx X cX5_causes RX5 4 0 0 0 0) (hQ : Qxv X w) (a1 : Int32) (a2 : Int32) {K : kgM → Option (Int32 × kgM)} (hK : ∀  (J : kgM), AW X 4 0 0 w (K J) 43 [(0, .ref (kgO (kgHs X) 177)), (1, .int a1), (2, .int a2)] [] J) : ∀ (q : Nat) (x3h5 : Int32) (Ih5 : kgM), AW X 4 0 0 w (f_X5_causes_L5 a1 a2 K q x3h5 Ih5) 5 [(0, .ref (kgO (kgHs X) 177)), (1, .int a1), (2, .int a2), (3, .int x3h5)] [] Ih5 := by
  intro q
  induction q with
  | zero => intros; exact aw_none
  | succ q ih =>
    intro x3h5 Ih5
    rw [f_X5_causes_L5]
    refine aw_iload_n S 3 rfl dX5_causes_5 rfl ?_
    refine aw_if_le (y := 0) (tgt := 43) S dX5_causes_6 (by decide) ?_ ?_
    · refine aw_sub (L2 := [(0, .ref (kgO (kgHs X) 177)), (1, .int a1), (2, .int a2)]) [0, 1, 2] rfl ?_
      exact hK Ih5
    refine aw_aload_n S 0 rfl dX5_causes_9 rfl ?_
    refine aw_getR S 177 3 179 cl_X5 (by decide) (by decide) (by decide) (by decide) (by decide) rfl tw_966 dX5_causes_10 ?_
    refine aw_iload_n S 3 rfl dX5_causes_13 rfl ?_
    refine aw_aload_n S 0 rfl dX5_causes_14 rfl ?_
    refine aw_getR S 177 3 179 cl_X5 (by decide) (by decide) (by decide) (by decide) (by decide) rfl tw_966 dX5_causes_15 ?_
    refine aw_iload_n S 3 rfl dX5_causes_18 rfl ?_
    refine aw_iconst (v := (1 : Int32)) S dX5_causes_19 (by decide) ?_
    refine aw_isub S dX5_causes_20 ?_
    refine aw_iald S 179 3 (by decide) (by decide) dX5_causes_21 ?_
    refine aw_iast S 179 3 (by decide) (by decide) dX5_causes_22 ?_
    refine aw_wr (fun I1 => ?_)
    refine aw_aload_n S 0 rfl dX5_causes_23 rfl ?_
    refine aw_getR S 177 4 180 cl_X5 (by decide) (by decide) (by decide) (by decide) (by decide) rfl tw_967 dX5_causes_24 ?_
    refine aw_iload_n S 3 rfl dX5_causes_27 rfl ?_
    refine aw_aload_n S 0 rfl dX5_causes_28 rfl ?_
    refine aw_getR S 177 4 180 cl_X5 (by decide) (by decide) (by decide) (by decide) (by decide) rfl tw_967 dX5_causes_29 ?_
    refine aw_iload_n S 3 rfl dX5_causes_32 rfl ?_
    refine aw_iconst (v := (1 : Int32)) S dX5_causes_33 (by decide) ?_
    refine aw_isub S dX5_causes_34 ?_
    refine aw_iald S 180 3 (by decide) (by decide) dX5_causes_35 ?_
    refine aw_iast S 180 3 (by decide) (by decide) dX5_causes_36 ?_
    refine aw_wr (fun I2 => ?_)
    refine aw_iinc (v := x3h5 + (-1 : Int32)) (L2 := [(0, .ref (kgO (kgHs X) 177)), (1, .int a1), (2, .int a2), (3, .int (x3h5 + (-1 : Int32)))]) S [1, 2, 3, 0] 3 dX5_causes_37 rfl rfl (by decide) rfl ?_
    refine aw_let (Lf := fun x2 => [(0, .ref (kgO (kgHs X) 177)), (1, .int a1), (2, .int a2), (3, .int x2)]) (x3h5 + (-1 : Int32)) (fun x2 => ?_)
    refine aw_goto (tgt := 5) S dX5_causes_40 (by decide) ?_
    exact ih x2 I2
set_option maxHeartbeats 4000000 in
set_option maxRecDepth 100000 in
theorem s_X5_causes (hs : kgH) (l : Launch) (w : Option (Nat × Nat)) (p1 : Int32) (p2 : Int32) (I0 : kgM) : Sdv hs l w yX5_causes (kg_ws yX5_causes cX5_causes 4 none) { frames := 0, cells := 0, slots := 0, locals := 0 } [.ref (kgO hs 177), .int p1, .int p2] I0 (f_X5_causes p1 p2 I0) := by
  refine sd_v (av := fun hs => [.ref (kgO hs 177), .int p1, .int p2]) (by decide +kernel) (fun hs => Nat.le_of_ble_eq_true rfl) (fun X S hQ => ?_) hs l
  refine aw_sub (L2 := [(0, .ref (kgO (kgHs X) 177)), (1, .int p1), (2, .int p2)]) [0, 1, 2] rfl ?_
  unfold f_X5_causes
  refine aw_aload_n S 0 rfl dX5_causes_0 rfl ?_
  refine aw_getI S 177 5 cl_X5 (by decide) (by decide) (by decide) (by decide) rfl tw_968 dX5_causes_1 ?_
  refine aw_istore_n (L2 := [(0, .ref (kgO (kgHs X) 177)), (1, .int p1), (2, .int p2), (3, .int (I0 177 5))]) S [1, 2, 3, 0] dX5_causes_4 rfl (by decide) rfl ?_
  refine aw_let (Lf := fun x1 => [(0, .ref (kgO (kgHs X) 177)), (1, .int p1), (2, .int p2), (3, .int x1)]) (I0 177 5) (fun x1 => ?_)
  refine s_X5_causes_L5 S hQ p1 p2 (fun I3 => ?_) 200 x1 I0
  refine aw_aload_n S 0 rfl dX5_causes_43 rfl ?_
  refine aw_getR S 177 3 179 cl_X5 (by decide) (by decide) (by decide) (by decide) (by decide) rfl tw_966 dX5_causes_44 ?_
  refine aw_iconst (v := (0 : Int32)) S dX5_causes_47 (by decide) ?_
  refine aw_iload_n S 1 rfl dX5_causes_48 rfl ?_
  refine aw_iast S 179 3 (by decide) (by decide) dX5_causes_49 ?_
  refine aw_wr (fun I4 => ?_)
  refine aw_aload_n S 0 rfl dX5_causes_50 rfl ?_
  refine aw_getR S 177 4 180 cl_X5 (by decide) (by decide) (by decide) (by decide) (by decide) rfl tw_967 dX5_causes_51 ?_
  refine aw_iconst (v := (0 : Int32)) S dX5_causes_54 (by decide) ?_
  refine aw_iload_n S 2 rfl dX5_causes_55 rfl ?_
  refine aw_iast S 180 3 (by decide) (by decide) dX5_causes_56 ?_
  refine aw_wr (fun I5 => ?_)
  refine aw_aload_n S 0 rfl dX5_causes_57 rfl ?_
  refine aw_dup S dX5_causes_58 rfl ?_
  refine aw_getI S 177 5 cl_X5 (by decide) (by decide) (by decide) (by decide) rfl tw_968 dX5_causes_59 ?_
  refine aw_iconst (v := (1 : Int32)) S dX5_causes_62 (by decide) ?_
  refine aw_iadd S dX5_causes_63 ?_
  refine aw_putI S 177 5 cl_X5 tyX5_ok nmX5 (by decide) (by decide) (by decide) (by decide) rfl (vp_nar_int _) rfl tw_968 dX5_causes_64 ?_
  refine aw_wr (fun I6 => ?_)
  exact aw_retv S hQ (by decide) (by decide) dX5_causes_67
set_option maxHeartbeats 4000000 in
set_option maxRecDepth 100000 in
theorem s_X5_reason (hs : kgH) (l : Launch) (w : Option (Nat × Nat)) (p1 : Int32) (p2 : Int32) (I0 : kgM) : Sdi hs l w yX5_reason (kg_ws yX5_reason cX5_reason 3 (some .int)) { frames := 1, cells := 0, slots := 0, locals := 22 } [.ref (kgO hs 177), .int p1, .int p2] I0 (f_X5_reason p1 p2 I0) := by
  refine sd_i (av := fun hs => [.ref (kgO hs 177), .int p1, .int p2]) (by decide +kernel) (fun hs => Nat.le_of_ble_eq_true rfl) (fun X S hQ => ?_) hs l
  refine aw_sub (L2 := [(0, .ref (kgO (kgHs X) 177)), (1, .int p1), (2, .int p2)]) [0, 1, 2] rfl ?_
  unfold f_X5_reason
  refine aw_iload_n S 1 rfl dX5_reason_0 rfl ?_
  refine aw_iconst (v := (0 : Int32)) S dX5_reason_1 (by decide) ?_
  refine aw_iconst (v := (2 : Int32)) S dX5_reason_2 (by decide) ?_
  refine aw_cSi S [.int p1, .int (0 : Int32), .int (2 : Int32)] vw_X5_in tw_1010 (s_X5_in _ _ _ p1 (0 : Int32) (2 : Int32) I0) ⟨by decide, by decide⟩ rfl rfl (Nat.le_of_ble_eq_true rfl) rfl rfl (by decide) (by decide) dX5_reason_3 (fun x1 I1 => ?_)
  refine aw_if_ne (y := 0) (tgt := 13) S dX5_reason_6 (by decide) ?_ ?_
  · refine aw_iload_n S 1 rfl dX5_reason_13 rfl ?_
    refine aw_aload_n S 0 rfl dX5_reason_14 rfl ?_
    refine aw_getI S 177 5 cl_X5 (by decide) (by decide) (by decide) (by decide) rfl tw_968 dX5_reason_15 ?_
    refine aw_icmp_lt (tgt := 27) S dX5_reason_18 (by decide) ?_ ?_
    · refine aw_iload_n S 2 rfl dX5_reason_27 rfl ?_
      refine aw_if_eq (y := 0) (tgt := 40) S dX5_reason_28 (by decide) ?_ ?_
      · refine aw_aload_n S 0 rfl dX5_reason_40 rfl ?_
        refine aw_getR S 177 3 179 cl_X5 (by decide) (by decide) (by decide) (by decide) (by decide) rfl tw_966 dX5_reason_41 ?_
        refine aw_iload_n S 1 rfl dX5_reason_44 rfl ?_
        refine aw_iald S 179 3 (by decide) (by decide) dX5_reason_45 ?_
        exact aw_ret S hQ (vp_nar_int _) (by decide) (by decide) dX5_reason_46
      refine aw_aload_n S 0 rfl dX5_reason_31 rfl ?_
      refine aw_getR S 177 4 180 cl_X5 (by decide) (by decide) (by decide) (by decide) (by decide) rfl tw_967 dX5_reason_32 ?_
      refine aw_iload_n S 1 rfl dX5_reason_35 rfl ?_
      refine aw_iald S 180 3 (by decide) (by decide) dX5_reason_36 ?_
      refine aw_goto (tgt := 46) S dX5_reason_37 (by decide) ?_
      exact aw_ret S hQ (vp_nar_int _) (by decide) (by decide) dX5_reason_46
    refine aw_sipush (v := (-1015 : Int32)) S dX5_reason_21 (by decide) ?_
    refine aw_goto (tgt := 46) S dX5_reason_24 (by decide) ?_
    exact aw_ret S hQ (vp_nar_int _) (by decide) (by decide) dX5_reason_46
  refine aw_sipush (v := (-1012 : Int32)) S dX5_reason_9 (by decide) ?_
  exact aw_ret S hQ (vp_nar_int _) (by decide) (by decide) dX5_reason_12
set_option maxHeartbeats 4000000 in
set_option maxRecDepth 100000 in
theorem s_X5_m (hs : kgH) (l : Launch) (w : Option (Nat × Nat)) (p1 : Int32) (p2 : Int32) (I0 : kgM) : Sdi hs l w yX5_m (kg_ws yX5_m cX5_m 3 (some .int)) { frames := 0, cells := 0, slots := 0, locals := 0 } [.ref (kgO hs 177), .int p1, .int p2] I0 (f_X5_m p1 p2 I0) := by
  refine sd_i (av := fun hs => [.ref (kgO hs 177), .int p1, .int p2]) (by decide +kernel) (fun hs => Nat.le_of_ble_eq_true rfl) (fun X S hQ => ?_) hs l
  refine aw_sub (L2 := [(0, .ref (kgO (kgHs X) 177)), (1, .int p1), (2, .int p2)]) [0, 1, 2] rfl ?_
  unfold f_X5_m
  refine aw_aload_n S 0 rfl dX5_m_0 rfl ?_
  refine aw_getR S 177 0 178 cl_X5 (by decide) (by decide) (by decide) (by decide) (by decide) rfl tw_963 dX5_m_1 ?_
  refine aw_iconst (v := (5 : Int32)) S dX5_m_4 (by decide) ?_
  refine aw_iconst (v := (3 : Int32)) S dX5_m_5 (by decide) ?_
  refine aw_iload_n S 1 rfl dX5_m_6 rfl ?_
  refine aw_imul S dX5_m_7 ?_
  refine aw_iadd S dX5_m_8 ?_
  refine aw_iload_n S 2 rfl dX5_m_9 rfl ?_
  refine aw_iadd S dX5_m_10 ?_
  refine aw_iald S 178 1375 (by decide) (by decide) dX5_m_11 ?_
  exact aw_ret S hQ (vp_nar_int _) (by decide) (by decide) dX5_m_12
set_option maxHeartbeats 4000000 in
set_option maxRecDepth 100000 in
theorem s_X5_kt (hs : kgH) (l : Launch) (w : Option (Nat × Nat)) (p1 : Int32) (p2 : Int32) (I0 : kgM) : Sdi hs l w yX5_kt (kg_ws yX5_kt cX5_kt 3 (some .int)) { frames := 0, cells := 0, slots := 0, locals := 0 } [.ref (kgO hs 177), .int p1, .int p2] I0 (f_X5_kt p1 p2 I0) := by
  refine sd_i (av := fun hs => [.ref (kgO hs 177), .int p1, .int p2]) (by decide +kernel) (fun hs => Nat.le_of_ble_eq_true rfl) (fun X S hQ => ?_) hs l
  refine aw_sub (L2 := [(0, .ref (kgO (kgHs X) 177)), (1, .int p1), (2, .int p2)]) [0, 1, 2] rfl ?_
  unfold f_X5_kt
  refine aw_aload_n S 0 rfl dX5_kt_0 rfl ?_
  refine aw_getR S 177 0 178 cl_X5 (by decide) (by decide) (by decide) (by decide) (by decide) rfl tw_963 dX5_kt_1 ?_
  refine aw_bipush (v := (35 : Int32)) S dX5_kt_4 (by decide) ?_
  refine aw_bipush (v := (9 : Int32)) S dX5_kt_6 (by decide) ?_
  refine aw_iload_n S 1 rfl dX5_kt_8 rfl ?_
  refine aw_imul S dX5_kt_9 ?_
  refine aw_iadd S dX5_kt_10 ?_
  refine aw_iload_n S 2 rfl dX5_kt_11 rfl ?_
  refine aw_iadd S dX5_kt_12 ?_
  refine aw_iald S 178 1375 (by decide) (by decide) dX5_kt_13 ?_
  exact aw_ret S hQ (vp_nar_int _) (by decide) (by decide) dX5_kt_14
set_option maxHeartbeats 4000000 in
set_option maxRecDepth 100000 in
theorem s_X5_puts (hs : kgH) (l : Launch) (w : Option (Nat × Nat)) (p1 : Int32) (p2 : Int32) (p3 : Int32) (I0 : kgM) : Sdv hs l w yX5_puts (kg_ws yX5_puts cX5_puts 4 none) { frames := 0, cells := 0, slots := 0, locals := 0 } [.ref (kgO hs 177), .int p1, .int p2, .int p3] I0 (f_X5_puts p1 p2 p3 I0) := by
  refine sd_v (av := fun hs => [.ref (kgO hs 177), .int p1, .int p2, .int p3]) (by decide +kernel) (fun hs => Nat.le_of_ble_eq_true rfl) (fun X S hQ => ?_) hs l
  refine aw_sub (L2 := [(0, .ref (kgO (kgHs X) 177)), (1, .int p1), (2, .int p2), (3, .int p3)]) [0, 1, 2, 3] rfl ?_
  unfold f_X5_puts
  refine aw_aload_n S 0 rfl dX5_puts_0 rfl ?_
  refine aw_getR S 177 0 178 cl_X5 (by decide) (by decide) (by decide) (by decide) (by decide) rfl tw_963 dX5_puts_1 ?_
  refine aw_bipush (v := (35 : Int32)) S dX5_puts_4 (by decide) ?_
  refine aw_bipush (v := (9 : Int32)) S dX5_puts_6 (by decide) ?_
  refine aw_iload_n S 1 rfl dX5_puts_8 rfl ?_
  refine aw_imul S dX5_puts_9 ?_
  refine aw_iadd S dX5_puts_10 ?_
  refine aw_iload_n S 2 rfl dX5_puts_11 rfl ?_
  refine aw_iadd S dX5_puts_12 ?_
  refine aw_iload_n S 3 rfl dX5_puts_13 rfl ?_
  refine aw_iast S 178 1375 (by decide) (by decide) dX5_puts_14 ?_
  refine aw_wr (fun I1 => ?_)
  exact aw_retv S hQ (by decide) (by decide) dX5_puts_15
set_option maxHeartbeats 4000000 in
set_option maxRecDepth 100000 in
theorem s_X5_isKettle (hs : kgH) (l : Launch) (w : Option (Nat × Nat)) (p1 : Int32) (I0 : kgM) : Sdi hs l w yX5_isKettle (kg_ws yX5_isKettle cX5_isKettle 2 (some .boolean)) { frames := 1, cells := 0, slots := 0, locals := 22 } [.ref (kgO hs 177), .int p1] I0 (f_X5_isKettle p1 I0) := by
  refine sd_i (av := fun hs => [.ref (kgO hs 177), .int p1]) (by decide +kernel) (fun hs => Nat.le_of_ble_eq_true rfl) (fun X S hQ => ?_) hs l
  refine aw_sub (L2 := [(0, .ref (kgO (kgHs X) 177)), (1, .int p1)]) [0, 1] rfl ?_
  unfold f_X5_isKettle
  refine aw_iload_n S 1 rfl dX5_isKettle_0 rfl ?_
  refine aw_iconst (v := (0 : Int32)) S dX5_isKettle_1 (by decide) ?_
  refine aw_aload_n S 0 rfl dX5_isKettle_2 rfl ?_
  refine aw_getR S 177 0 178 cl_X5 (by decide) (by decide) (by decide) (by decide) (by decide) rfl tw_963 dX5_isKettle_3 ?_
  refine aw_iconst (v := (1 : Int32)) S dX5_isKettle_6 (by decide) ?_
  refine aw_iald S 178 1375 (by decide) (by decide) dX5_isKettle_7 ?_
  refine aw_iconst (v := (1 : Int32)) S dX5_isKettle_8 (by decide) ?_
  refine aw_isub S dX5_isKettle_9 ?_
  refine aw_cSi S [.int p1, .int (0 : Int32), .int ((I0 178 (1 : Int32).toNatClampNeg) - (1 : Int32))] vw_X5_in tw_1010 (s_X5_in _ _ _ p1 (0 : Int32) ((I0 178 (1 : Int32).toNatClampNeg) - (1 : Int32)) I0) ⟨by decide, by decide⟩ rfl rfl (Nat.le_of_ble_eq_true rfl) rfl rfl (by decide) (by decide) dX5_isKettle_10 (fun x1 I1 => ?_)
  exact aw_retz S hQ (by decide) (by decide) dX5_isKettle_13
set_option maxHeartbeats 4000000 in
set_option maxRecDepth 100000 in
theorem s_X5_isMember (hs : kgH) (l : Launch) (w : Option (Nat × Nat)) (p1 : Int32) (I0 : kgM) : Sdi hs l w yX5_isMember (kg_ws yX5_isMember cX5_isMember 1 (some .boolean)) { frames := 1, cells := 0, slots := 0, locals := 22 } [.int p1] I0 (f_X5_isMember p1 I0) := by
  refine sd_i (av := fun hs => [.int p1]) (by decide +kernel) (fun hs => Nat.le_of_ble_eq_true rfl) (fun X S hQ => ?_) hs l
  refine aw_sub (L2 := [(0, .int p1)]) [0] rfl ?_
  unfold f_X5_isMember
  refine aw_iload_n S 0 rfl dX5_isMember_0 rfl ?_
  refine aw_iconst (v := (0 : Int32)) S dX5_isMember_1 (by decide) ?_
  refine aw_iconst (v := (3 : Int32)) S dX5_isMember_2 (by decide) ?_
  refine aw_cSi S [.int p1, .int (0 : Int32), .int (3 : Int32)] vw_X5_in tw_1010 (s_X5_in _ _ _ p1 (0 : Int32) (3 : Int32) I0) ⟨by decide, by decide⟩ rfl rfl (Nat.le_of_ble_eq_true rfl) rfl rfl (by decide) (by decide) dX5_isMember_3 (fun x1 I1 => ?_)
  exact aw_retz S hQ (by decide) (by decide) dX5_isMember_6
set_option maxHeartbeats 4000000 in
set_option maxRecDepth 100000 in
theorem s_X5_isStove (hs : kgH) (l : Launch) (w : Option (Nat × Nat)) (p1 : Int32) (I0 : kgM) : Sdi hs l w yX5_isStove (kg_ws yX5_isStove cX5_isStove 1 (some .boolean)) { frames := 1, cells := 0, slots := 0, locals := 22 } [.int p1] I0 (f_X5_isStove p1 I0) := by
  refine sd_i (av := fun hs => [.int p1]) (by decide +kernel) (fun hs => Nat.le_of_ble_eq_true rfl) (fun X S hQ => ?_) hs l
  refine aw_sub (L2 := [(0, .int p1)]) [0] rfl ?_
  unfold f_X5_isStove
  refine aw_iload_n S 0 rfl dX5_isStove_0 rfl ?_
  refine aw_iconst (v := (0 : Int32)) S dX5_isStove_1 (by decide) ?_
  refine aw_iconst (v := (5 : Int32)) S dX5_isStove_2 (by decide) ?_
  refine aw_cSi S [.int p1, .int (0 : Int32), .int (5 : Int32)] vw_X5_in tw_1010 (s_X5_in _ _ _ p1 (0 : Int32) (5 : Int32) I0) ⟨by decide, by decide⟩ rfl rfl (Nat.le_of_ble_eq_true rfl) rfl rfl (by decide) (by decide) dX5_isStove_3 (fun x1 I1 => ?_)
  exact aw_retz S hQ (by decide) (by decide) dX5_isStove_6
set_option maxHeartbeats 4000000 in
set_option maxRecDepth 100000 in
theorem s_X5_isPitch (hs : kgH) (l : Launch) (w : Option (Nat × Nat)) (p1 : Int32) (I0 : kgM) : Sdi hs l w yX5_isPitch (kg_ws yX5_isPitch cX5_isPitch 1 (some .boolean)) { frames := 1, cells := 0, slots := 0, locals := 22 } [.int p1] I0 (f_X5_isPitch p1 I0) := by
  refine sd_i (av := fun hs => [.int p1]) (by decide +kernel) (fun hs => Nat.le_of_ble_eq_true rfl) (fun X S hQ => ?_) hs l
  refine aw_sub (L2 := [(0, .int p1)]) [0] rfl ?_
  unfold f_X5_isPitch
  refine aw_iload_n S 0 rfl dX5_isPitch_0 rfl ?_
  refine aw_iconst (v := (1 : Int32)) S dX5_isPitch_1 (by decide) ?_
  refine aw_bipush (v := (12 : Int32)) S dX5_isPitch_2 (by decide) ?_
  refine aw_cSi S [.int p1, .int (1 : Int32), .int (12 : Int32)] vw_X5_in tw_1010 (s_X5_in _ _ _ p1 (1 : Int32) (12 : Int32) I0) ⟨by decide, by decide⟩ rfl rfl (Nat.le_of_ble_eq_true rfl) rfl rfl (by decide) (by decide) dX5_isPitch_4 (fun x1 I1 => ?_)
  exact aw_retz S hQ (by decide) (by decide) dX5_isPitch_7
set_option maxHeartbeats 4000000 in
set_option maxRecDepth 100000 in
theorem s_X5_ownerOf (hs : kgH) (l : Launch) (w : Option (Nat × Nat)) (p1 : Int32) (I0 : kgM) : Sdi hs l w yX5_ownerOf (kg_ws yX5_ownerOf cX5_ownerOf 2 (some .int)) { frames := 0, cells := 0, slots := 0, locals := 0 } [.ref (kgO hs 177), .int p1] I0 (f_X5_ownerOf p1 I0) := by
  refine sd_i (av := fun hs => [.ref (kgO hs 177), .int p1]) (by decide +kernel) (fun hs => Nat.le_of_ble_eq_true rfl) (fun X S hQ => ?_) hs l
  refine aw_sub (L2 := [(0, .ref (kgO (kgHs X) 177)), (1, .int p1)]) [0, 1] rfl ?_
  unfold f_X5_ownerOf
  refine aw_aload_n S 0 rfl dX5_ownerOf_0 rfl ?_
  refine aw_getR S 177 0 178 cl_X5 (by decide) (by decide) (by decide) (by decide) (by decide) rfl tw_963 dX5_ownerOf_1 ?_
  refine aw_bipush (v := (17 : Int32)) S dX5_ownerOf_4 (by decide) ?_
  refine aw_iload_n S 1 rfl dX5_ownerOf_6 rfl ?_
  refine aw_iadd S dX5_ownerOf_7 ?_
  refine aw_iconst (v := (1 : Int32)) S dX5_ownerOf_8 (by decide) ?_
  refine aw_isub S dX5_ownerOf_9 ?_
  refine aw_iald S 178 1375 (by decide) (by decide) dX5_ownerOf_10 ?_
  refine aw_iconst (v := (1 : Int32)) S dX5_ownerOf_11 (by decide) ?_
  refine aw_isub S dX5_ownerOf_12 ?_
  exact aw_ret S hQ (vp_nar_int _) (by decide) (by decide) dX5_ownerOf_13
set_option maxHeartbeats 4000000 in
set_option maxRecDepth 100000 in
theorem s_X5_pitchesOf_L4 {X : kgCX (Int32 × kgM)} {w : Option (Nat × Nat)} (S : Cx X cX5_pitchesOf RX5 4 1 21 0 0) (hQ : Qxi X w .int) (a1 : Int32) {K : Int32 → kgM → Option (Int32 × kgM)} (hK : ∀ (z2 : Int32) (J : kgM), AW X 4 0 0 w (K z2 J) 33 [(2, .int z2)] [] J) : ∀ (q : Nat) (x2h4 : Int32) (x3h4 : Int32) (Ih4 : kgM), AW X 4 0 0 w (f_X5_pitchesOf_L4 a1 K q x2h4 x3h4 Ih4) 4 [(0, .ref (kgO (kgHs X) 177)), (1, .int a1), (2, .int x2h4), (3, .int x3h4)] [] Ih4 := by
  intro q
  induction q with
  | zero => intros; exact aw_none
  | succ q ih =>
    intro x2h4 x3h4 Ih4
    rw [f_X5_pitchesOf_L4]
    refine aw_iload_n S 3 rfl dX5_pitchesOf_4 rfl ?_
    refine aw_bipush (v := (13 : Int32)) S dX5_pitchesOf_5 (by decide) ?_
    refine aw_icmp_ge (tgt := 33) S dX5_pitchesOf_7 (by decide) ?_ ?_
    · refine aw_sub (L2 := [(2, .int x2h4)]) [2] rfl ?_
      exact hK x2h4 Ih4
    refine aw_iload_n S 2 rfl dX5_pitchesOf_10 rfl ?_
    refine aw_aload_n S 0 rfl dX5_pitchesOf_11 rfl ?_
    refine aw_iload_n S 3 rfl dX5_pitchesOf_12 rfl ?_
    refine aw_cVi S 177 [.int x3h4] vw_X5_ownerOf cl_X5 (by decide) (by decide) tw_1035 (s_X5_ownerOf _ _ _ x3h4 Ih4) ⟨by decide, by decide⟩ rfl rfl (Nat.le_of_ble_eq_true rfl) rfl rfl (by decide) (by decide) dX5_pitchesOf_13 (fun x1 I1 => ?_)
    refine aw_iload_n S 1 rfl dX5_pitchesOf_16 rfl ?_
    refine aw_icmp_ne (tgt := 24) S dX5_pitchesOf_17 (by decide) ?_ ?_
    · refine aw_iconst (v := (0 : Int32)) S dX5_pitchesOf_24 (by decide) ?_
      refine aw_iadd S dX5_pitchesOf_25 ?_
      refine aw_istore_n (L2 := [(0, .ref (kgO (kgHs X) 177)), (1, .int a1), (2, .int (x2h4 + (0 : Int32))), (3, .int x3h4)]) S [1, 2, 0, 3] dX5_pitchesOf_26 rfl (by decide) rfl ?_
      refine aw_let (Lf := fun x2 => [(0, .ref (kgO (kgHs X) 177)), (1, .int a1), (2, .int x2), (3, .int x3h4)]) (x2h4 + (0 : Int32)) (fun x2 => ?_)
      refine aw_iinc (v := x3h4 + (1 : Int32)) (L2 := [(0, .ref (kgO (kgHs X) 177)), (1, .int a1), (2, .int x2), (3, .int (x3h4 + (1 : Int32)))]) S [1, 2, 3, 0] 3 dX5_pitchesOf_27 rfl rfl (by decide) rfl ?_
      refine aw_let (Lf := fun x3 => [(0, .ref (kgO (kgHs X) 177)), (1, .int a1), (2, .int x2), (3, .int x3)]) (x3h4 + (1 : Int32)) (fun x3 => ?_)
      refine aw_goto (tgt := 4) S dX5_pitchesOf_30 (by decide) ?_
      exact ih x2 x3 I1
    refine aw_iconst (v := (1 : Int32)) S dX5_pitchesOf_20 (by decide) ?_
    refine aw_goto (tgt := 25) S dX5_pitchesOf_21 (by decide) ?_
    refine aw_iadd S dX5_pitchesOf_25 ?_
    refine aw_istore_n (L2 := [(0, .ref (kgO (kgHs X) 177)), (1, .int a1), (2, .int (x2h4 + (1 : Int32))), (3, .int x3h4)]) S [1, 2, 0, 3] dX5_pitchesOf_26 rfl (by decide) rfl ?_
    refine aw_let (Lf := fun x4 => [(0, .ref (kgO (kgHs X) 177)), (1, .int a1), (2, .int x4), (3, .int x3h4)]) (x2h4 + (1 : Int32)) (fun x4 => ?_)
    refine aw_iinc (v := x3h4 + (1 : Int32)) (L2 := [(0, .ref (kgO (kgHs X) 177)), (1, .int a1), (2, .int x4), (3, .int (x3h4 + (1 : Int32)))]) S [1, 2, 3, 0] 3 dX5_pitchesOf_27 rfl rfl (by decide) rfl ?_
    refine aw_let (Lf := fun x5 => [(0, .ref (kgO (kgHs X) 177)), (1, .int a1), (2, .int x4), (3, .int x5)]) (x3h4 + (1 : Int32)) (fun x5 => ?_)
    refine aw_goto (tgt := 4) S dX5_pitchesOf_30 (by decide) ?_
    exact ih x4 x5 I1
set_option maxHeartbeats 4000000 in
set_option maxRecDepth 100000 in
theorem s_X5_pitchesOf (hs : kgH) (l : Launch) (w : Option (Nat × Nat)) (p1 : Int32) (I0 : kgM) : Sdi hs l w yX5_pitchesOf (kg_ws yX5_pitchesOf cX5_pitchesOf 4 (some .int)) { frames := 1, cells := 0, slots := 0, locals := 21 } [.ref (kgO hs 177), .int p1] I0 (f_X5_pitchesOf p1 I0) := by
  refine sd_i (av := fun hs => [.ref (kgO hs 177), .int p1]) (by decide +kernel) (fun hs => Nat.le_of_ble_eq_true rfl) (fun X S hQ => ?_) hs l
  refine aw_sub (L2 := [(0, .ref (kgO (kgHs X) 177)), (1, .int p1)]) [0, 1] rfl ?_
  unfold f_X5_pitchesOf
  refine aw_iconst (v := (0 : Int32)) S dX5_pitchesOf_0 (by decide) ?_
  refine aw_istore_n (L2 := [(0, .ref (kgO (kgHs X) 177)), (1, .int p1), (2, .int (0 : Int32))]) S [1, 2, 0] dX5_pitchesOf_1 rfl (by decide) rfl ?_
  refine aw_iconst (v := (1 : Int32)) S dX5_pitchesOf_2 (by decide) ?_
  refine aw_istore_n (L2 := [(0, .ref (kgO (kgHs X) 177)), (1, .int p1), (2, .int (0 : Int32)), (3, .int (1 : Int32))]) S [1, 2, 3, 0] dX5_pitchesOf_3 rfl (by decide) rfl ?_
  refine s_X5_pitchesOf_L4 S hQ p1 (fun x6 I2 => ?_) 200 (0 : Int32) (1 : Int32) I0
  refine aw_iload_n S 0 rfl dX5_pitchesOf_33 rfl ?_
  exact aw_ret S hQ (vp_nar_int _) (by decide) (by decide) dX5_pitchesOf_34
set_option maxHeartbeats 4000000 in
set_option maxRecDepth 100000 in
theorem s_X5_isOnStove (hs : kgH) (l : Launch) (w : Option (Nat × Nat)) (p1 : Int32) (I0 : kgM) : Sdi hs l w yX5_isOnStove (kg_ws yX5_isOnStove cX5_isOnStove 2 (some .boolean)) { frames := 1, cells := 0, slots := 0, locals := 22 } [.ref (kgO hs 177), .int p1] I0 (f_X5_isOnStove p1 I0) := by
  refine sd_i (av := fun hs => [.ref (kgO hs 177), .int p1]) (by decide +kernel) (fun hs => Nat.le_of_ble_eq_true rfl) (fun X S hQ => ?_) hs l
  refine aw_sub (L2 := [(0, .ref (kgO (kgHs X) 177)), (1, .int p1)]) [0, 1] rfl ?_
  unfold f_X5_isOnStove
  refine aw_aload_n S 0 rfl dX5_isOnStove_0 rfl ?_
  refine aw_iload_n S 1 rfl dX5_isOnStove_1 rfl ?_
  refine aw_iconst (v := (5 : Int32)) S dX5_isOnStove_2 (by decide) ?_
  refine aw_cVi S 177 [.int p1, .int (5 : Int32)] vw_X5_kt cl_X5 (by decide) (by decide) tw_1075 (s_X5_kt _ _ _ p1 (5 : Int32) I0) ⟨by decide, by decide⟩ rfl rfl (Nat.le_of_ble_eq_true rfl) rfl rfl (by decide) (by decide) dX5_isOnStove_3 (fun x1 I1 => ?_)
  refine aw_if_le (y := 0) (tgt := 13) S dX5_isOnStove_6 (by decide) ?_ ?_
  · refine aw_iconst (v := (0 : Int32)) S dX5_isOnStove_13 (by decide) ?_
    exact aw_ret S hQ rfl (by decide) (by decide) dX5_isOnStove_14
  refine aw_iconst (v := (1 : Int32)) S dX5_isOnStove_9 (by decide) ?_
  refine aw_goto (tgt := 14) S dX5_isOnStove_10 (by decide) ?_
  exact aw_ret S hQ rfl (by decide) (by decide) dX5_isOnStove_14
set_option maxHeartbeats 4000000 in
set_option maxRecDepth 100000 in
theorem s_X5_heatUnder (hs : kgH) (l : Launch) (w : Option (Nat × Nat)) (p1 : Int32) (I0 : kgM) : Sdi hs l w yX5_heatUnder (kg_ws yX5_heatUnder cX5_heatUnder 2 (some .int)) { frames := 2, cells := 0, slots := 0, locals := 43 } [.ref (kgO hs 177), .int p1] I0 (f_X5_heatUnder p1 I0) := by
  refine sd_i (av := fun hs => [.ref (kgO hs 177), .int p1]) (by decide +kernel) (fun hs => Nat.le_of_ble_eq_true rfl) (fun X S hQ => ?_) hs l
  refine aw_sub (L2 := [(0, .ref (kgO (kgHs X) 177)), (1, .int p1)]) [0, 1] rfl ?_
  unfold f_X5_heatUnder
  refine aw_aload_n S 0 rfl dX5_heatUnder_0 rfl ?_
  refine aw_iload_n S 1 rfl dX5_heatUnder_1 rfl ?_
  refine aw_cVi S 177 [.int p1] vw_X5_isOnStove cl_X5 (by decide) (by decide) tw_1098 (s_X5_isOnStove _ _ _ p1 I0) ⟨by decide, by decide⟩ rfl rfl (Nat.le_of_ble_eq_true rfl) rfl rfl (by decide) (by decide) dX5_heatUnder_2 (fun x1 I1 => ?_)
  refine aw_if_eq (y := 0) (tgt := 27) S dX5_heatUnder_5 (by decide) ?_ ?_
  · refine aw_iconst (v := (0 : Int32)) S dX5_heatUnder_27 (by decide) ?_
    exact aw_ret S hQ (vp_nar_int _) (by decide) (by decide) dX5_heatUnder_28
  refine aw_aload_n S 0 rfl dX5_heatUnder_8 rfl ?_
  refine aw_getR S 177 0 178 cl_X5 (by decide) (by decide) (by decide) (by decide) (by decide) rfl tw_963 dX5_heatUnder_9 ?_
  refine aw_bipush (v := (29 : Int32)) S dX5_heatUnder_12 (by decide) ?_
  refine aw_aload_n S 0 rfl dX5_heatUnder_14 rfl ?_
  refine aw_iload_n S 1 rfl dX5_heatUnder_15 rfl ?_
  refine aw_iconst (v := (5 : Int32)) S dX5_heatUnder_16 (by decide) ?_
  refine aw_cVi S 177 [.int p1, .int (5 : Int32)] vw_X5_kt cl_X5 (by decide) (by decide) tw_1075 (s_X5_kt _ _ _ p1 (5 : Int32) I1) ⟨by decide, by decide⟩ rfl rfl (Nat.le_of_ble_eq_true rfl) rfl rfl (by decide) (by decide) dX5_heatUnder_17 (fun x2 I2 => ?_)
  refine aw_iadd S dX5_heatUnder_20 ?_
  refine aw_iconst (v := (1 : Int32)) S dX5_heatUnder_21 (by decide) ?_
  refine aw_isub S dX5_heatUnder_22 ?_
  refine aw_iald S 178 1375 (by decide) (by decide) dX5_heatUnder_23 ?_
  refine aw_goto (tgt := 28) S dX5_heatUnder_24 (by decide) ?_
  exact aw_ret S hQ (vp_nar_int _) (by decide) (by decide) dX5_heatUnder_28
set_option maxHeartbeats 4000000 in
set_option maxRecDepth 100000 in
theorem s_X5_boils (hs : kgH) (l : Launch) (w : Option (Nat × Nat)) (p1 : Int32) (I0 : kgM) : Sdi hs l w yX5_boils (kg_ws yX5_boils cX5_boils 2 (some .boolean)) { frames := 3, cells := 0, slots := 0, locals := 64 } [.ref (kgO hs 177), .int p1] I0 (f_X5_boils p1 I0) := by
  refine sd_i (av := fun hs => [.ref (kgO hs 177), .int p1]) (by decide +kernel) (fun hs => Nat.le_of_ble_eq_true rfl) (fun X S hQ => ?_) hs l
  refine aw_sub (L2 := [(0, .ref (kgO (kgHs X) 177)), (1, .int p1)]) [0, 1] rfl ?_
  unfold f_X5_boils
  refine aw_aload_n S 0 rfl dX5_boils_0 rfl ?_
  refine aw_iload_n S 1 rfl dX5_boils_1 rfl ?_
  refine aw_cVi S 177 [.int p1] vw_X5_heatUnder cl_X5 (by decide) (by decide) tw_1165 (s_X5_heatUnder _ _ _ p1 I0) ⟨by decide, by decide⟩ rfl rfl (Nat.le_of_ble_eq_true rfl) rfl rfl (by decide) (by decide) dX5_boils_2 (fun x1 I1 => ?_)
  refine aw_if_le (y := 0) (tgt := 23) S dX5_boils_5 (by decide) ?_ ?_
  · refine aw_iconst (v := (0 : Int32)) S dX5_boils_23 (by decide) ?_
    exact aw_ret S hQ rfl (by decide) (by decide) dX5_boils_24
  refine aw_aload_n S 0 rfl dX5_boils_8 rfl ?_
  refine aw_iload_n S 1 rfl dX5_boils_9 rfl ?_
  refine aw_iconst (v := (3 : Int32)) S dX5_boils_10 (by decide) ?_
  refine aw_cVi S 177 [.int p1, .int (3 : Int32)] vw_X5_kt cl_X5 (by decide) (by decide) tw_1075 (s_X5_kt _ _ _ p1 (3 : Int32) I1) ⟨by decide, by decide⟩ rfl rfl (Nat.le_of_ble_eq_true rfl) rfl rfl (by decide) (by decide) dX5_boils_11 (fun x2 I2 => ?_)
  refine aw_bipush (v := (100 : Int32)) S dX5_boils_14 (by decide) ?_
  refine aw_icmp_ne (tgt := 23) S dX5_boils_16 (by decide) ?_ ?_
  · refine aw_iconst (v := (0 : Int32)) S dX5_boils_23 (by decide) ?_
    exact aw_ret S hQ rfl (by decide) (by decide) dX5_boils_24
  refine aw_iconst (v := (1 : Int32)) S dX5_boils_19 (by decide) ?_
  refine aw_goto (tgt := 24) S dX5_boils_20 (by decide) ?_
  exact aw_ret S hQ rfl (by decide) (by decide) dX5_boils_24
set_option maxHeartbeats 4000000 in
set_option maxRecDepth 100000 in
theorem s_X5_whistles (hs : kgH) (l : Launch) (w : Option (Nat × Nat)) (p1 : Int32) (I0 : kgM) : Sdi hs l w yX5_whistles (kg_ws yX5_whistles cX5_whistles 2 (some .boolean)) { frames := 4, cells := 0, slots := 0, locals := 85 } [.ref (kgO hs 177), .int p1] I0 (f_X5_whistles p1 I0) := by
  refine sd_i (av := fun hs => [.ref (kgO hs 177), .int p1]) (by decide +kernel) (fun hs => Nat.le_of_ble_eq_true rfl) (fun X S hQ => ?_) hs l
  refine aw_sub (L2 := [(0, .ref (kgO (kgHs X) 177)), (1, .int p1)]) [0, 1] rfl ?_
  unfold f_X5_whistles
  refine aw_aload_n S 0 rfl dX5_whistles_0 rfl ?_
  refine aw_iload_n S 1 rfl dX5_whistles_1 rfl ?_
  refine aw_cVi S 177 [.int p1] vw_X5_boils cl_X5 (by decide) (by decide) tw_1161 (s_X5_boils _ _ _ p1 I0) ⟨by decide, by decide⟩ rfl rfl (Nat.le_of_ble_eq_true rfl) rfl rfl (by decide) (by decide) dX5_whistles_2 (fun x1 I1 => ?_)
  refine aw_if_eq (y := 0) (tgt := 31) S dX5_whistles_5 (by decide) ?_ ?_
  · refine aw_iconst (v := (0 : Int32)) S dX5_whistles_31 (by decide) ?_
    exact aw_ret S hQ rfl (by decide) (by decide) dX5_whistles_32
  refine aw_aload_n S 0 rfl dX5_whistles_8 rfl ?_
  refine aw_iload_n S 1 rfl dX5_whistles_9 rfl ?_
  refine aw_iconst (v := (2 : Int32)) S dX5_whistles_10 (by decide) ?_
  refine aw_cVi S 177 [.int p1, .int (2 : Int32)] vw_X5_kt cl_X5 (by decide) (by decide) tw_1075 (s_X5_kt _ _ _ p1 (2 : Int32) I1) ⟨by decide, by decide⟩ rfl rfl (Nat.le_of_ble_eq_true rfl) rfl rfl (by decide) (by decide) dX5_whistles_11 (fun x2 I2 => ?_)
  refine aw_if_le (y := 0) (tgt := 31) S dX5_whistles_14 (by decide) ?_ ?_
  · refine aw_iconst (v := (0 : Int32)) S dX5_whistles_31 (by decide) ?_
    exact aw_ret S hQ rfl (by decide) (by decide) dX5_whistles_32
  refine aw_aload_n S 0 rfl dX5_whistles_17 rfl ?_
  refine aw_iload_n S 1 rfl dX5_whistles_18 rfl ?_
  refine aw_iconst (v := (4 : Int32)) S dX5_whistles_19 (by decide) ?_
  refine aw_cVi S 177 [.int p1, .int (4 : Int32)] vw_X5_kt cl_X5 (by decide) (by decide) tw_1075 (s_X5_kt _ _ _ p1 (4 : Int32) I2) ⟨by decide, by decide⟩ rfl rfl (Nat.le_of_ble_eq_true rfl) rfl rfl (by decide) (by decide) dX5_whistles_20 (fun x3 I3 => ?_)
  refine aw_iconst (v := (1 : Int32)) S dX5_whistles_23 (by decide) ?_
  refine aw_icmp_ne (tgt := 31) S dX5_whistles_24 (by decide) ?_ ?_
  · refine aw_iconst (v := (0 : Int32)) S dX5_whistles_31 (by decide) ?_
    exact aw_ret S hQ rfl (by decide) (by decide) dX5_whistles_32
  refine aw_iconst (v := (1 : Int32)) S dX5_whistles_27 (by decide) ?_
  refine aw_goto (tgt := 32) S dX5_whistles_28 (by decide) ?_
  exact aw_ret S hQ rfl (by decide) (by decide) dX5_whistles_32
set_option maxHeartbeats 4000000 in
set_option maxRecDepth 100000 in
theorem s_X5_onStoves_L4 {X : kgCX (Int32 × kgM)} {w : Option (Nat × Nat)} (S : Cx X cX5_onStoves RX5 3 2 43 0 0) (hQ : Qxi X w .int)  {K : Int32 → kgM → Option (Int32 × kgM)} (hK : ∀ (z1 : Int32) (J : kgM), AW X 3 0 0 w (K z1 J) 36 [(1, .int z1)] [] J) : ∀ (q : Nat) (x1h4 : Int32) (x2h4 : Int32) (Ih4 : kgM), AW X 3 0 0 w (f_X5_onStoves_L4 K q x1h4 x2h4 Ih4) 4 [(0, .ref (kgO (kgHs X) 177)), (1, .int x1h4), (2, .int x2h4)] [] Ih4 := by
  intro q
  induction q with
  | zero => intros; exact aw_none
  | succ q ih =>
    intro x1h4 x2h4 Ih4
    rw [f_X5_onStoves_L4]
    refine aw_iload_n S 2 rfl dX5_onStoves_4 rfl ?_
    refine aw_aload_n S 0 rfl dX5_onStoves_5 rfl ?_
    refine aw_getR S 177 0 178 cl_X5 (by decide) (by decide) (by decide) (by decide) (by decide) rfl tw_963 dX5_onStoves_6 ?_
    refine aw_iconst (v := (1 : Int32)) S dX5_onStoves_9 (by decide) ?_
    refine aw_iald S 178 1375 (by decide) (by decide) dX5_onStoves_10 ?_
    refine aw_icmp_ge (tgt := 36) S dX5_onStoves_11 (by decide) ?_ ?_
    · refine aw_sub (L2 := [(1, .int x1h4)]) [1] rfl ?_
      exact hK x1h4 Ih4
    refine aw_iload_n S 1 rfl dX5_onStoves_14 rfl ?_
    refine aw_aload_n S 0 rfl dX5_onStoves_15 rfl ?_
    refine aw_iload_n S 2 rfl dX5_onStoves_16 rfl ?_
    refine aw_cVi S 177 [.int x2h4] vw_X5_isOnStove cl_X5 (by decide) (by decide) tw_1098 (s_X5_isOnStove _ _ _ x2h4 Ih4) ⟨by decide, by decide⟩ rfl rfl (Nat.le_of_ble_eq_true rfl) rfl rfl (by decide) (by decide) dX5_onStoves_17 (fun x1 I1 => ?_)
    refine aw_if_eq (y := 0) (tgt := 27) S dX5_onStoves_20 (by decide) ?_ ?_
    · refine aw_iconst (v := (0 : Int32)) S dX5_onStoves_27 (by decide) ?_
      refine aw_iadd S dX5_onStoves_28 ?_
      refine aw_istore_n (L2 := [(0, .ref (kgO (kgHs X) 177)), (1, .int (x1h4 + (0 : Int32))), (2, .int x2h4)]) S [1, 0, 2] dX5_onStoves_29 rfl (by decide) rfl ?_
      refine aw_let (Lf := fun x2 => [(0, .ref (kgO (kgHs X) 177)), (1, .int x2), (2, .int x2h4)]) (x1h4 + (0 : Int32)) (fun x2 => ?_)
      refine aw_iinc (v := x2h4 + (1 : Int32)) (L2 := [(0, .ref (kgO (kgHs X) 177)), (1, .int x2), (2, .int (x2h4 + (1 : Int32)))]) S [1, 2, 0] 2 dX5_onStoves_30 rfl rfl (by decide) rfl ?_
      refine aw_let (Lf := fun x3 => [(0, .ref (kgO (kgHs X) 177)), (1, .int x2), (2, .int x3)]) (x2h4 + (1 : Int32)) (fun x3 => ?_)
      refine aw_goto (tgt := 4) S dX5_onStoves_33 (by decide) ?_
      exact ih x2 x3 I1
    refine aw_iconst (v := (1 : Int32)) S dX5_onStoves_23 (by decide) ?_
    refine aw_goto (tgt := 28) S dX5_onStoves_24 (by decide) ?_
    refine aw_iadd S dX5_onStoves_28 ?_
    refine aw_istore_n (L2 := [(0, .ref (kgO (kgHs X) 177)), (1, .int (x1h4 + (1 : Int32))), (2, .int x2h4)]) S [1, 0, 2] dX5_onStoves_29 rfl (by decide) rfl ?_
    refine aw_let (Lf := fun x4 => [(0, .ref (kgO (kgHs X) 177)), (1, .int x4), (2, .int x2h4)]) (x1h4 + (1 : Int32)) (fun x4 => ?_)
    refine aw_iinc (v := x2h4 + (1 : Int32)) (L2 := [(0, .ref (kgO (kgHs X) 177)), (1, .int x4), (2, .int (x2h4 + (1 : Int32)))]) S [1, 2, 0] 2 dX5_onStoves_30 rfl rfl (by decide) rfl ?_
    refine aw_let (Lf := fun x5 => [(0, .ref (kgO (kgHs X) 177)), (1, .int x4), (2, .int x5)]) (x2h4 + (1 : Int32)) (fun x5 => ?_)
    refine aw_goto (tgt := 4) S dX5_onStoves_33 (by decide) ?_
    exact ih x4 x5 I1
set_option maxHeartbeats 4000000 in
set_option maxRecDepth 100000 in
theorem s_X5_onStoves (hs : kgH) (l : Launch) (w : Option (Nat × Nat))  (I0 : kgM) : Sdi hs l w yX5_onStoves (kg_ws yX5_onStoves cX5_onStoves 3 (some .int)) { frames := 2, cells := 0, slots := 0, locals := 43 } [.ref (kgO hs 177)] I0 (f_X5_onStoves I0) := by
  refine sd_i (av := fun hs => [.ref (kgO hs 177)]) (by decide +kernel) (fun hs => Nat.le_of_ble_eq_true rfl) (fun X S hQ => ?_) hs l
  refine aw_sub (L2 := [(0, .ref (kgO (kgHs X) 177))]) [0] rfl ?_
  unfold f_X5_onStoves
  refine aw_iconst (v := (0 : Int32)) S dX5_onStoves_0 (by decide) ?_
  refine aw_istore_n (L2 := [(0, .ref (kgO (kgHs X) 177)), (1, .int (0 : Int32))]) S [1, 0] dX5_onStoves_1 rfl (by decide) rfl ?_
  refine aw_iconst (v := (0 : Int32)) S dX5_onStoves_2 (by decide) ?_
  refine aw_istore_n (L2 := [(0, .ref (kgO (kgHs X) 177)), (1, .int (0 : Int32)), (2, .int (0 : Int32))]) S [1, 2, 0] dX5_onStoves_3 rfl (by decide) rfl ?_
  refine s_X5_onStoves_L4 S hQ  (fun x6 I2 => ?_) 200 (0 : Int32) (0 : Int32) I0
  refine aw_iload_n S 0 rfl dX5_onStoves_36 rfl ?_
  exact aw_ret S hQ (vp_nar_int _) (by decide) (by decide) dX5_onStoves_37
set_option maxHeartbeats 4000000 in
set_option maxRecDepth 100000 in
theorem s_X5_lidsOn_L4 {X : kgCX (Int32 × kgM)} {w : Option (Nat × Nat)} (S : Cx X cX5_lidsOn RX5 3 1 22 0 0) (hQ : Qxi X w .int)  {K : Int32 → kgM → Option (Int32 × kgM)} (hK : ∀ (z1 : Int32) (J : kgM), AW X 3 0 0 w (K z1 J) 29 [(1, .int z1)] [] J) : ∀ (q : Nat) (x1h4 : Int32) (x2h4 : Int32) (Ih4 : kgM), AW X 3 0 0 w (f_X5_lidsOn_L4 K q x1h4 x2h4 Ih4) 4 [(0, .ref (kgO (kgHs X) 177)), (1, .int x1h4), (2, .int x2h4)] [] Ih4 := by
  intro q
  induction q with
  | zero => intros; exact aw_none
  | succ q ih =>
    intro x1h4 x2h4 Ih4
    rw [f_X5_lidsOn_L4]
    refine aw_iload_n S 2 rfl dX5_lidsOn_4 rfl ?_
    refine aw_aload_n S 0 rfl dX5_lidsOn_5 rfl ?_
    refine aw_getR S 177 0 178 cl_X5 (by decide) (by decide) (by decide) (by decide) (by decide) rfl tw_963 dX5_lidsOn_6 ?_
    refine aw_iconst (v := (1 : Int32)) S dX5_lidsOn_9 (by decide) ?_
    refine aw_iald S 178 1375 (by decide) (by decide) dX5_lidsOn_10 ?_
    refine aw_icmp_ge (tgt := 29) S dX5_lidsOn_11 (by decide) ?_ ?_
    · refine aw_sub (L2 := [(1, .int x1h4)]) [1] rfl ?_
      exact hK x1h4 Ih4
    refine aw_iload_n S 1 rfl dX5_lidsOn_14 rfl ?_
    refine aw_aload_n S 0 rfl dX5_lidsOn_15 rfl ?_
    refine aw_iload_n S 2 rfl dX5_lidsOn_16 rfl ?_
    refine aw_iconst (v := (4 : Int32)) S dX5_lidsOn_17 (by decide) ?_
    refine aw_cVi S 177 [.int x2h4, .int (4 : Int32)] vw_X5_kt cl_X5 (by decide) (by decide) tw_1075 (s_X5_kt _ _ _ x2h4 (4 : Int32) Ih4) ⟨by decide, by decide⟩ rfl rfl (Nat.le_of_ble_eq_true rfl) rfl rfl (by decide) (by decide) dX5_lidsOn_18 (fun x1 I1 => ?_)
    refine aw_iadd S dX5_lidsOn_21 ?_
    refine aw_istore_n (L2 := [(0, .ref (kgO (kgHs X) 177)), (1, .int (x1h4 + x1)), (2, .int x2h4)]) S [1, 0, 2] dX5_lidsOn_22 rfl (by decide) rfl ?_
    refine aw_let (Lf := fun x2 => [(0, .ref (kgO (kgHs X) 177)), (1, .int x2), (2, .int x2h4)]) (x1h4 + x1) (fun x2 => ?_)
    refine aw_iinc (v := x2h4 + (1 : Int32)) (L2 := [(0, .ref (kgO (kgHs X) 177)), (1, .int x2), (2, .int (x2h4 + (1 : Int32)))]) S [1, 2, 0] 2 dX5_lidsOn_23 rfl rfl (by decide) rfl ?_
    refine aw_let (Lf := fun x3 => [(0, .ref (kgO (kgHs X) 177)), (1, .int x2), (2, .int x3)]) (x2h4 + (1 : Int32)) (fun x3 => ?_)
    refine aw_goto (tgt := 4) S dX5_lidsOn_26 (by decide) ?_
    exact ih x2 x3 I1
set_option maxHeartbeats 4000000 in
set_option maxRecDepth 100000 in
theorem s_X5_lidsOn (hs : kgH) (l : Launch) (w : Option (Nat × Nat))  (I0 : kgM) : Sdi hs l w yX5_lidsOn (kg_ws yX5_lidsOn cX5_lidsOn 3 (some .int)) { frames := 1, cells := 0, slots := 0, locals := 22 } [.ref (kgO hs 177)] I0 (f_X5_lidsOn I0) := by
  refine sd_i (av := fun hs => [.ref (kgO hs 177)]) (by decide +kernel) (fun hs => Nat.le_of_ble_eq_true rfl) (fun X S hQ => ?_) hs l
  refine aw_sub (L2 := [(0, .ref (kgO (kgHs X) 177))]) [0] rfl ?_
  unfold f_X5_lidsOn
  refine aw_iconst (v := (0 : Int32)) S dX5_lidsOn_0 (by decide) ?_
  refine aw_istore_n (L2 := [(0, .ref (kgO (kgHs X) 177)), (1, .int (0 : Int32))]) S [1, 0] dX5_lidsOn_1 rfl (by decide) rfl ?_
  refine aw_iconst (v := (0 : Int32)) S dX5_lidsOn_2 (by decide) ?_
  refine aw_istore_n (L2 := [(0, .ref (kgO (kgHs X) 177)), (1, .int (0 : Int32)), (2, .int (0 : Int32))]) S [1, 2, 0] dX5_lidsOn_3 rfl (by decide) rfl ?_
  refine s_X5_lidsOn_L4 S hQ  (fun x4 I2 => ?_) 200 (0 : Int32) (0 : Int32) I0
  refine aw_iload_n S 0 rfl dX5_lidsOn_29 rfl ?_
  exact aw_ret S hQ (vp_nar_int _) (by decide) (by decide) dX5_lidsOn_30
set_option maxHeartbeats 4000000 in
set_option maxRecDepth 100000 in
theorem s_X5_kettleOn_L2 {X : kgCX (Int32 × kgM)} {w : Option (Nat × Nat)} (S : Cx X cX5_kettleOn RX5 3 1 22 0 0) (hQ : Qxi X w .int) (a1 : Int32) {K : kgM → Option (Int32 × kgM)} (hK : ∀  (J : kgM), AW X 3 0 0 w (K J) 32 [] [] J) : ∀ (q : Nat) (x2h2 : Int32) (Ih2 : kgM), AW X 3 0 0 w (f_X5_kettleOn_L2 a1 K q x2h2 Ih2) 2 [(0, .ref (kgO (kgHs X) 177)), (1, .int a1), (2, .int x2h2)] [] Ih2 := by
  intro q
  induction q with
  | zero => intros; exact aw_none
  | succ q ih =>
    intro x2h2 Ih2
    rw [f_X5_kettleOn_L2]
    refine aw_iload_n S 2 rfl dX5_kettleOn_2 rfl ?_
    refine aw_aload_n S 0 rfl dX5_kettleOn_3 rfl ?_
    refine aw_getR S 177 0 178 cl_X5 (by decide) (by decide) (by decide) (by decide) (by decide) rfl tw_963 dX5_kettleOn_4 ?_
    refine aw_iconst (v := (1 : Int32)) S dX5_kettleOn_7 (by decide) ?_
    refine aw_iald S 178 1375 (by decide) (by decide) dX5_kettleOn_8 ?_
    refine aw_icmp_ge (tgt := 32) S dX5_kettleOn_9 (by decide) ?_ ?_
    · refine aw_sub (L2 := []) [] rfl ?_
      exact hK Ih2
    refine aw_aload_n S 0 rfl dX5_kettleOn_12 rfl ?_
    refine aw_iload_n S 2 rfl dX5_kettleOn_13 rfl ?_
    refine aw_iconst (v := (5 : Int32)) S dX5_kettleOn_14 (by decide) ?_
    refine aw_cVi S 177 [.int x2h2, .int (5 : Int32)] vw_X5_kt cl_X5 (by decide) (by decide) tw_1075 (s_X5_kt _ _ _ x2h2 (5 : Int32) Ih2) ⟨by decide, by decide⟩ rfl rfl (Nat.le_of_ble_eq_true rfl) rfl rfl (by decide) (by decide) dX5_kettleOn_15 (fun x1 I1 => ?_)
    refine aw_iload_n S 1 rfl dX5_kettleOn_18 rfl ?_
    refine aw_iconst (v := (1 : Int32)) S dX5_kettleOn_19 (by decide) ?_
    refine aw_iadd S dX5_kettleOn_20 ?_
    refine aw_icmp_ne (tgt := 26) S dX5_kettleOn_21 (by decide) ?_ ?_
    · refine aw_iinc (v := x2h2 + (1 : Int32)) (L2 := [(0, .ref (kgO (kgHs X) 177)), (1, .int a1), (2, .int (x2h2 + (1 : Int32)))]) S [1, 2, 0] 2 dX5_kettleOn_26 rfl rfl (by decide) rfl ?_
      refine aw_let (Lf := fun x2 => [(0, .ref (kgO (kgHs X) 177)), (1, .int a1), (2, .int x2)]) (x2h2 + (1 : Int32)) (fun x2 => ?_)
      refine aw_goto (tgt := 2) S dX5_kettleOn_29 (by decide) ?_
      exact ih x2 I1
    refine aw_iload_n S 2 rfl dX5_kettleOn_24 rfl ?_
    exact aw_ret S hQ (vp_nar_int _) (by decide) (by decide) dX5_kettleOn_25
set_option maxHeartbeats 4000000 in
set_option maxRecDepth 100000 in
theorem s_X5_kettleOn (hs : kgH) (l : Launch) (w : Option (Nat × Nat)) (p1 : Int32) (I0 : kgM) : Sdi hs l w yX5_kettleOn (kg_ws yX5_kettleOn cX5_kettleOn 3 (some .int)) { frames := 1, cells := 0, slots := 0, locals := 22 } [.ref (kgO hs 177), .int p1] I0 (f_X5_kettleOn p1 I0) := by
  refine sd_i (av := fun hs => [.ref (kgO hs 177), .int p1]) (by decide +kernel) (fun hs => Nat.le_of_ble_eq_true rfl) (fun X S hQ => ?_) hs l
  refine aw_sub (L2 := [(0, .ref (kgO (kgHs X) 177)), (1, .int p1)]) [0, 1] rfl ?_
  unfold f_X5_kettleOn
  refine aw_iconst (v := (0 : Int32)) S dX5_kettleOn_0 (by decide) ?_
  refine aw_istore_n (L2 := [(0, .ref (kgO (kgHs X) 177)), (1, .int p1), (2, .int (0 : Int32))]) S [1, 2, 0] dX5_kettleOn_1 rfl (by decide) rfl ?_
  refine s_X5_kettleOn_L2 S hQ p1 (fun I2 => ?_) 200 (0 : Int32) I0
  refine aw_iconst (v := (-1 : Int32)) S dX5_kettleOn_32 (by decide) ?_
  exact aw_ret S hQ (vp_nar_int _) (by decide) (by decide) dX5_kettleOn_33
set_option maxHeartbeats 4000000 in
set_option maxRecDepth 100000 in
theorem s_X5_stoveWith_L2 {X : kgCX (Int32 × kgM)} {w : Option (Nat × Nat)} (S : Cx X cX5_stoveWith RX5 3 2 43 0 0) (hQ : Qxi X w .int) (a1 : Int32) {K : kgM → Option (Int32 × kgM)} (hK : ∀  (J : kgM), AW X 3 0 0 w (K J) 45 [] [] J) : ∀ (q : Nat) (x2h2 : Int32) (Ih2 : kgM), AW X 3 0 0 w (f_X5_stoveWith_L2 a1 K q x2h2 Ih2) 2 [(0, .ref (kgO (kgHs X) 177)), (1, .int a1), (2, .int x2h2)] [] Ih2 := by
  intro q
  induction q with
  | zero => intros; exact aw_none
  | succ q ih =>
    intro x2h2 Ih2
    rw [f_X5_stoveWith_L2]
    refine aw_iload_n S 2 rfl dX5_stoveWith_2 rfl ?_
    refine aw_aload_n S 0 rfl dX5_stoveWith_3 rfl ?_
    refine aw_getR S 177 0 178 cl_X5 (by decide) (by decide) (by decide) (by decide) (by decide) rfl tw_963 dX5_stoveWith_4 ?_
    refine aw_iconst (v := (1 : Int32)) S dX5_stoveWith_7 (by decide) ?_
    refine aw_iald S 178 1375 (by decide) (by decide) dX5_stoveWith_8 ?_
    refine aw_icmp_ge (tgt := 45) S dX5_stoveWith_9 (by decide) ?_ ?_
    · refine aw_sub (L2 := []) [] rfl ?_
      exact hK Ih2
    refine aw_aload_n S 0 rfl dX5_stoveWith_12 rfl ?_
    refine aw_iload_n S 2 rfl dX5_stoveWith_13 rfl ?_
    refine aw_cVi S 177 [.int x2h2] vw_X5_isOnStove cl_X5 (by decide) (by decide) tw_1098 (s_X5_isOnStove _ _ _ x2h2 Ih2) ⟨by decide, by decide⟩ rfl rfl (Nat.le_of_ble_eq_true rfl) rfl rfl (by decide) (by decide) dX5_stoveWith_14 (fun x1 I1 => ?_)
    refine aw_if_eq (y := 0) (tgt := 39) S dX5_stoveWith_17 (by decide) ?_ ?_
    · refine aw_iinc (v := x2h2 + (1 : Int32)) (L2 := [(0, .ref (kgO (kgHs X) 177)), (1, .int a1), (2, .int (x2h2 + (1 : Int32)))]) S [1, 2, 0] 2 dX5_stoveWith_39 rfl rfl (by decide) rfl ?_
      refine aw_let (Lf := fun x2 => [(0, .ref (kgO (kgHs X) 177)), (1, .int a1), (2, .int x2)]) (x2h2 + (1 : Int32)) (fun x2 => ?_)
      refine aw_goto (tgt := 2) S dX5_stoveWith_42 (by decide) ?_
      exact ih x2 I1
    refine aw_aload_n S 0 rfl dX5_stoveWith_20 rfl ?_
    refine aw_iload_n S 2 rfl dX5_stoveWith_21 rfl ?_
    refine aw_iconst (v := (1 : Int32)) S dX5_stoveWith_22 (by decide) ?_
    refine aw_cVi S 177 [.int x2h2, .int (1 : Int32)] vw_X5_kt cl_X5 (by decide) (by decide) tw_1075 (s_X5_kt _ _ _ x2h2 (1 : Int32) I1) ⟨by decide, by decide⟩ rfl rfl (Nat.le_of_ble_eq_true rfl) rfl rfl (by decide) (by decide) dX5_stoveWith_23 (fun x3 I2 => ?_)
    refine aw_iload_n S 1 rfl dX5_stoveWith_26 rfl ?_
    refine aw_icmp_ne (tgt := 39) S dX5_stoveWith_27 (by decide) ?_ ?_
    · refine aw_iinc (v := x2h2 + (1 : Int32)) (L2 := [(0, .ref (kgO (kgHs X) 177)), (1, .int a1), (2, .int (x2h2 + (1 : Int32)))]) S [1, 2, 0] 2 dX5_stoveWith_39 rfl rfl (by decide) rfl ?_
      refine aw_let (Lf := fun x4 => [(0, .ref (kgO (kgHs X) 177)), (1, .int a1), (2, .int x4)]) (x2h2 + (1 : Int32)) (fun x4 => ?_)
      refine aw_goto (tgt := 2) S dX5_stoveWith_42 (by decide) ?_
      exact ih x4 I2
    refine aw_aload_n S 0 rfl dX5_stoveWith_30 rfl ?_
    refine aw_iload_n S 2 rfl dX5_stoveWith_31 rfl ?_
    refine aw_iconst (v := (5 : Int32)) S dX5_stoveWith_32 (by decide) ?_
    refine aw_cVi S 177 [.int x2h2, .int (5 : Int32)] vw_X5_kt cl_X5 (by decide) (by decide) tw_1075 (s_X5_kt _ _ _ x2h2 (5 : Int32) I2) ⟨by decide, by decide⟩ rfl rfl (Nat.le_of_ble_eq_true rfl) rfl rfl (by decide) (by decide) dX5_stoveWith_33 (fun x5 I3 => ?_)
    refine aw_iconst (v := (1 : Int32)) S dX5_stoveWith_36 (by decide) ?_
    refine aw_isub S dX5_stoveWith_37 ?_
    exact aw_ret S hQ (vp_nar_int _) (by decide) (by decide) dX5_stoveWith_38
set_option maxHeartbeats 4000000 in
set_option maxRecDepth 100000 in
theorem s_X5_stoveWith (hs : kgH) (l : Launch) (w : Option (Nat × Nat)) (p1 : Int32) (I0 : kgM) : Sdi hs l w yX5_stoveWith (kg_ws yX5_stoveWith cX5_stoveWith 3 (some .int)) { frames := 2, cells := 0, slots := 0, locals := 43 } [.ref (kgO hs 177), .int p1] I0 (f_X5_stoveWith p1 I0) := by
  refine sd_i (av := fun hs => [.ref (kgO hs 177), .int p1]) (by decide +kernel) (fun hs => Nat.le_of_ble_eq_true rfl) (fun X S hQ => ?_) hs l
  refine aw_sub (L2 := [(0, .ref (kgO (kgHs X) 177)), (1, .int p1)]) [0, 1] rfl ?_
  unfold f_X5_stoveWith
  refine aw_iconst (v := (0 : Int32)) S dX5_stoveWith_0 (by decide) ?_
  refine aw_istore_n (L2 := [(0, .ref (kgO (kgHs X) 177)), (1, .int p1), (2, .int (0 : Int32))]) S [1, 2, 0] dX5_stoveWith_1 rfl (by decide) rfl ?_
  refine s_X5_stoveWith_L2 S hQ p1 (fun I4 => ?_) 200 (0 : Int32) I0
  refine aw_iconst (v := (-1 : Int32)) S dX5_stoveWith_45 (by decide) ?_
  exact aw_ret S hQ (vp_nar_int _) (by decide) (by decide) dX5_stoveWith_46
set_option maxHeartbeats 4000000 in
set_option maxRecDepth 100000 in
theorem s_X5_owns (hs : kgH) (l : Launch) (w : Option (Nat × Nat)) (p1 : Int32) (p2 : Int32) (I0 : kgM) : Sdi hs l w yX5_owns (kg_ws yX5_owns cX5_owns 3 (some .int)) { frames := 2, cells := 0, slots := 0, locals := 44 } [.ref (kgO hs 177), .int p1, .int p2] I0 (f_X5_owns p1 p2 I0) := by
  refine sd_i (av := fun hs => [.ref (kgO hs 177), .int p1, .int p2]) (by decide +kernel) (fun hs => Nat.le_of_ble_eq_true rfl) (fun X S hQ => ?_) hs l
  refine aw_sub (L2 := [(0, .ref (kgO (kgHs X) 177)), (1, .int p1), (2, .int p2)]) [0, 1, 2] rfl ?_
  unfold f_X5_owns
  refine aw_iload_n S 1 rfl dX5_owns_0 rfl ?_
  refine aw_cSi S [.int p1] vw_X5_isMember tw_1029 (s_X5_isMember _ _ _ p1 I0) ⟨by decide, by decide⟩ rfl rfl (Nat.le_of_ble_eq_true rfl) rfl rfl (by decide) (by decide) dX5_owns_1 (fun x1 I1 => ?_)
  refine aw_if_ne (y := 0) (tgt := 11) S dX5_owns_4 (by decide) ?_ ?_
  · refine aw_iload_n S 2 rfl dX5_owns_11 rfl ?_
    refine aw_cSi S [.int p2] vw_X5_isPitch tw_1032 (s_X5_isPitch _ _ _ p2 I1) ⟨by decide, by decide⟩ rfl rfl (Nat.le_of_ble_eq_true rfl) rfl rfl (by decide) (by decide) dX5_owns_12 (fun x2 I2 => ?_)
    refine aw_if_ne (y := 0) (tgt := 22) S dX5_owns_15 (by decide) ?_ ?_
    · refine aw_aload_n S 0 rfl dX5_owns_22 rfl ?_
      refine aw_aload_n S 0 rfl dX5_owns_23 rfl ?_
      refine aw_iload_n S 2 rfl dX5_owns_24 rfl ?_
      refine aw_cVi S 177 [.int p2] vw_X5_ownerOf cl_X5 (by decide) (by decide) tw_1035 (s_X5_ownerOf _ _ _ p2 I2) ⟨by decide, by decide⟩ rfl rfl (Nat.le_of_ble_eq_true rfl) rfl rfl (by decide) (by decide) dX5_owns_25 (fun x3 I3 => ?_)
      refine aw_letJ (fun (j36 : Int32 → Option (Int32 × kgM)) => ∀ (y0j36 : Int32), AW X 3 0 0 w (j36 y0j36) 36 [(0, .ref (kgO (kgHs X) 177)), (1, .int p1), (2, .int p2)] [.int y0j36, .ref (kgO (kgHs X) 177)] I3) ?_ (fun j36 hj36 => ?_)
      · intro y0j36
        refine aw_iconst (v := (2 : Int32)) S dX5_owns_36 (by decide) ?_
        refine aw_aload_n S 0 rfl dX5_owns_37 rfl ?_
        refine aw_iload_n S 2 rfl dX5_owns_38 rfl ?_
        refine aw_cVi S 177 [.int p2] vw_X5_ownerOf cl_X5 (by decide) (by decide) tw_1035 (s_X5_ownerOf _ _ _ p2 I3) ⟨by decide, by decide⟩ rfl rfl (Nat.le_of_ble_eq_true rfl) rfl rfl (by decide) (by decide) dX5_owns_39 (fun x4 I4 => ?_)
        refine aw_cVi S 177 [.int y0j36, .int (2 : Int32), .int x4] vw_X5_refuses cl_X5 (by decide) (by decide) tw_1039 (s_X5_refuses _ _ _ y0j36 (2 : Int32) x4 I4) ⟨by decide, by decide⟩ rfl rfl (Nat.le_of_ble_eq_true rfl) rfl rfl (by decide) (by decide) dX5_owns_42 (fun x5 I5 => ?_)
        refine aw_if_ne (y := 0) (tgt := 71) S dX5_owns_45 (by decide) ?_ ?_
        · refine aw_sipush (v := (-1014 : Int32)) S dX5_owns_71 (by decide) ?_
          exact aw_ret S hQ (vp_nar_int _) (by decide) (by decide) dX5_owns_74
        refine aw_aload_n S 0 rfl dX5_owns_48 rfl ?_
        refine aw_aload_n S 0 rfl dX5_owns_49 rfl ?_
        refine aw_iload_n S 1 rfl dX5_owns_50 rfl ?_
        refine aw_cVi S 177 [.int p1] vw_X5_pitchesOf cl_X5 (by decide) (by decide) tw_1043 (s_X5_pitchesOf _ _ _ p1 I5) ⟨by decide, by decide⟩ rfl rfl (Nat.le_of_ble_eq_true rfl) rfl rfl (by decide) (by decide) dX5_owns_51 (fun x6 I6 => ?_)
        refine aw_iconst (v := (4 : Int32)) S dX5_owns_54 (by decide) ?_
        refine aw_letJ (fun (j63 : Int32 → Option (Int32 × kgM)) => ∀ (y0j63 : Int32), AW X 3 0 0 w (j63 y0j63) 63 [(0, .ref (kgO (kgHs X) 177)), (1, .int p1), (2, .int p2)] [.int y0j63, .ref (kgO (kgHs X) 177)] I6) ?_ (fun j63 hj63 => ?_)
        · intro y0j63
          refine aw_iconst (v := (1 : Int32)) S dX5_owns_63 (by decide) ?_
          refine aw_iconst (v := (4 : Int32)) S dX5_owns_64 (by decide) ?_
          refine aw_cVi S 177 [.int y0j63, .int (1 : Int32), .int (4 : Int32)] vw_X5_refuses cl_X5 (by decide) (by decide) tw_1039 (s_X5_refuses _ _ _ y0j63 (1 : Int32) (4 : Int32) I6) ⟨by decide, by decide⟩ rfl rfl (Nat.le_of_ble_eq_true rfl) rfl rfl (by decide) (by decide) dX5_owns_65 (fun x7 I7 => ?_)
          refine aw_if_eq (y := 0) (tgt := 75) S dX5_owns_68 (by decide) ?_ ?_
          · refine aw_aload_n S 0 rfl dX5_owns_75 rfl ?_
            refine aw_getR S 177 0 178 cl_X5 (by decide) (by decide) (by decide) (by decide) (by decide) rfl tw_963 dX5_owns_76 ?_
            refine aw_bipush (v := (17 : Int32)) S dX5_owns_79 (by decide) ?_
            refine aw_iload_n S 2 rfl dX5_owns_81 rfl ?_
            refine aw_iadd S dX5_owns_82 ?_
            refine aw_iconst (v := (1 : Int32)) S dX5_owns_83 (by decide) ?_
            refine aw_isub S dX5_owns_84 ?_
            refine aw_iload_n S 1 rfl dX5_owns_85 rfl ?_
            refine aw_iconst (v := (1 : Int32)) S dX5_owns_86 (by decide) ?_
            refine aw_iadd S dX5_owns_87 ?_
            refine aw_iast S 178 1375 (by decide) (by decide) dX5_owns_88 ?_
            refine aw_wr (fun I8 => ?_)
            refine aw_aload_n S 0 rfl dX5_owns_89 rfl ?_
            refine aw_iload_n S 1 rfl dX5_owns_90 rfl ?_
            refine aw_cVi S 177 [.int p1] vw_X5_pitchesOf cl_X5 (by decide) (by decide) tw_1043 (s_X5_pitchesOf _ _ _ p1 I8) ⟨by decide, by decide⟩ rfl rfl (Nat.le_of_ble_eq_true rfl) rfl rfl (by decide) (by decide) dX5_owns_91 (fun x8 I9 => ?_)
            exact aw_ret S hQ (vp_nar_int _) (by decide) (by decide) dX5_owns_94
          refine aw_sipush (v := (-1014 : Int32)) S dX5_owns_71 (by decide) ?_
          exact aw_ret S hQ (vp_nar_int _) (by decide) (by decide) dX5_owns_74
        refine aw_icmp_ne (tgt := 62) S dX5_owns_55 (by decide) ?_ ?_
        · refine aw_iconst (v := (0 : Int32)) S dX5_owns_62 (by decide) ?_
          exact hj63 (0 : Int32)
        refine aw_iconst (v := (1 : Int32)) S dX5_owns_58 (by decide) ?_
        refine aw_goto (tgt := 63) S dX5_owns_59 (by decide) ?_
        exact hj63 (1 : Int32)
      refine aw_if_lt (y := 0) (tgt := 35) S dX5_owns_28 (by decide) ?_ ?_
      · refine aw_iconst (v := (0 : Int32)) S dX5_owns_35 (by decide) ?_
        exact hj36 (0 : Int32)
      refine aw_iconst (v := (1 : Int32)) S dX5_owns_31 (by decide) ?_
      refine aw_goto (tgt := 36) S dX5_owns_32 (by decide) ?_
      exact hj36 (1 : Int32)
    refine aw_sipush (v := (-1012 : Int32)) S dX5_owns_18 (by decide) ?_
    exact aw_ret S hQ (vp_nar_int _) (by decide) (by decide) dX5_owns_21
  refine aw_sipush (v := (-1011 : Int32)) S dX5_owns_7 (by decide) ?_
  exact aw_ret S hQ (vp_nar_int _) (by decide) (by decide) dX5_owns_10
set_option maxHeartbeats 4000000 in
set_option maxRecDepth 100000 in
theorem s_X5_own (hs : kgH) (l : Launch) (w : Option (Nat × Nat)) (p1 : Int32) (p2 : Int32) (I0 : kgM) : Sdi hs l w yX5_own (kg_ws yX5_own cX5_own 3 (some .int)) { frames := 3, cells := 0, slots := 0, locals := 66 } [.ref (kgO hs 177), .int p1, .int p2] I0 (f_X5_own p1 p2 I0) := by
  refine sd_i (av := fun hs => [.ref (kgO hs 177), .int p1, .int p2]) (by decide +kernel) (fun hs => Nat.le_of_ble_eq_true rfl) (fun X S hQ => ?_) hs l
  refine aw_sub (L2 := [(0, .ref (kgO (kgHs X) 177)), (1, .int p1), (2, .int p2)]) [0, 1, 2] rfl ?_
  unfold f_X5_own
  refine aw_aload_n S 0 rfl dX5_own_0 rfl ?_
  refine aw_cVv S 177 [] vw_X5_begins cl_X5 (by decide) (by decide) tw_1017 (s_X5_begins _ _ _ I0) ⟨by decide, by decide⟩ rfl rfl (Nat.le_of_ble_eq_true rfl) rfl rfl (by decide) (by decide) dX5_own_1 (fun x1 I1 => ?_)
  refine aw_aload_n S 0 rfl dX5_own_4 rfl ?_
  refine aw_aload_n S 0 rfl dX5_own_5 rfl ?_
  refine aw_iload_n S 1 rfl dX5_own_6 rfl ?_
  refine aw_iload_n S 2 rfl dX5_own_7 rfl ?_
  refine aw_cVi S 177 [.int p1, .int p2] vw_X5_owns cl_X5 (by decide) (by decide) tw_1025 (s_X5_owns _ _ _ p1 p2 I1) ⟨by decide, by decide⟩ rfl rfl (Nat.le_of_ble_eq_true rfl) rfl rfl (by decide) (by decide) dX5_own_8 (fun x2 I2 => ?_)
  refine aw_cVi S 177 [.int x2] vw_X5_ends cl_X5 (by decide) (by decide) tw_1047 (s_X5_ends _ _ _ x2 I2) ⟨by decide, by decide⟩ rfl rfl (Nat.le_of_ble_eq_true rfl) rfl rfl (by decide) (by decide) dX5_own_11 (fun x3 I3 => ?_)
  exact aw_ret S hQ (vp_nar_int _) (by decide) (by decide) dX5_own_14
set_option maxHeartbeats 4000000 in
set_option maxRecDepth 100000 in
theorem s_X5_brings_L106 {X : kgCX (Int32 × kgM)} {w : Option (Nat × Nat)} (S : Cx X cX5_brings RX5 6 2 42 0 0) (hQ : Qxi X w .int) (a1 : Int32) (a2 : Int32) (a3 : Int32) (a4 : Int32) {K : kgM → Option (Int32 × kgM)} (hK : ∀  (J : kgM), AW X 6 0 0 w (K J) 128 [(0, .ref (kgO (kgHs X) 177)), (1, .int a1), (2, .int a2), (3, .int a3), (4, .int a4)] [] J) : ∀ (q : Nat) (x5h106 : Int32) (Ih106 : kgM), AW X 6 0 0 w (f_X5_brings_L106 a1 a2 a3 a4 K q x5h106 Ih106) 106 [(0, .ref (kgO (kgHs X) 177)), (1, .int a1), (2, .int a2), (3, .int a3), (4, .int a4), (5, .int x5h106)] [] Ih106 := by
  intro q
  induction q with
  | zero => intros; exact aw_none
  | succ q ih =>
    intro x5h106 Ih106
    rw [f_X5_brings_L106]
    refine aw_iload S 5 rfl dX5_brings_106 ?_
    refine aw_bipush (v := (9 : Int32)) S dX5_brings_108 (by decide) ?_
    refine aw_icmp_ge (tgt := 128) S dX5_brings_110 (by decide) ?_ ?_
    · refine aw_sub (L2 := [(0, .ref (kgO (kgHs X) 177)), (1, .int a1), (2, .int a2), (3, .int a3), (4, .int a4)]) [0, 1, 2, 3, 4] rfl ?_
      exact hK Ih106
    refine aw_aload_n S 0 rfl dX5_brings_113 rfl ?_
    refine aw_iload S 4 rfl dX5_brings_114 ?_
    refine aw_iload S 5 rfl dX5_brings_116 ?_
    refine aw_iconst (v := (0 : Int32)) S dX5_brings_118 (by decide) ?_
    refine aw_cVv S 177 [.int a4, .int x5h106, .int (0 : Int32)] vw_X5_puts cl_X5 (by decide) (by decide) tw_1059 (s_X5_puts _ _ _ a4 x5h106 (0 : Int32) Ih106) ⟨by decide, by decide⟩ rfl rfl (Nat.le_of_ble_eq_true rfl) rfl rfl (by decide) (by decide) dX5_brings_119 (fun x9 I9 => ?_)
    refine aw_iinc (v := x5h106 + (1 : Int32)) (L2 := [(0, .ref (kgO (kgHs X) 177)), (1, .int a1), (2, .int a2), (3, .int a3), (4, .int a4), (5, .int (x5h106 + (1 : Int32)))]) S [1, 2, 3, 4, 5, 0] 5 dX5_brings_122 rfl rfl (by decide) rfl ?_
    refine aw_let (Lf := fun x10 => [(0, .ref (kgO (kgHs X) 177)), (1, .int a1), (2, .int a2), (3, .int a3), (4, .int a4), (5, .int x10)]) (x5h106 + (1 : Int32)) (fun x10 => ?_)
    refine aw_goto (tgt := 106) S dX5_brings_125 (by decide) ?_
    exact ih x10 I9
set_option maxHeartbeats 4000000 in
set_option maxRecDepth 100000 in
theorem s_X5_brings (hs : kgH) (l : Launch) (w : Option (Nat × Nat)) (p1 : Int32) (p2 : Int32) (p3 : Int32) (I0 : kgM) : Sdi hs l w yX5_brings (kg_ws yX5_brings cX5_brings 6 (some .int)) { frames := 2, cells := 0, slots := 0, locals := 42 } [.ref (kgO hs 177), .int p1, .int p2, .int p3] I0 (f_X5_brings p1 p2 p3 I0) := by
  refine sd_i (av := fun hs => [.ref (kgO hs 177), .int p1, .int p2, .int p3]) (by decide +kernel) (fun hs => Nat.le_of_ble_eq_true rfl) (fun X S hQ => ?_) hs l
  refine aw_sub (L2 := [(0, .ref (kgO (kgHs X) 177)), (1, .int p1), (2, .int p2), (3, .int p3)]) [0, 1, 2, 3] rfl ?_
  unfold f_X5_brings
  refine aw_iload_n S 1 rfl dX5_brings_0 rfl ?_
  refine aw_cSi S [.int p1] vw_X5_isMember tw_1029 (s_X5_isMember _ _ _ p1 I0) ⟨by decide, by decide⟩ rfl rfl (Nat.le_of_ble_eq_true rfl) rfl rfl (by decide) (by decide) dX5_brings_1 (fun x1 I1 => ?_)
  refine aw_if_ne (y := 0) (tgt := 11) S dX5_brings_4 (by decide) ?_ ?_
  · refine aw_iload_n S 2 rfl dX5_brings_11 rfl ?_
    refine aw_cSi S [.int p2] vw_X5_isPitch tw_1032 (s_X5_isPitch _ _ _ p2 I1) ⟨by decide, by decide⟩ rfl rfl (Nat.le_of_ble_eq_true rfl) rfl rfl (by decide) (by decide) dX5_brings_12 (fun x2 I2 => ?_)
    refine aw_if_eq (y := 0) (tgt := 28) S dX5_brings_15 (by decide) ?_ ?_
    · refine aw_sipush (v := (-1012 : Int32)) S dX5_brings_28 (by decide) ?_
      exact aw_ret S hQ (vp_nar_int _) (by decide) (by decide) dX5_brings_31
    refine aw_iload_n S 3 rfl dX5_brings_18 rfl ?_
    refine aw_iconst (v := (0 : Int32)) S dX5_brings_19 (by decide) ?_
    refine aw_bipush (v := (20 : Int32)) S dX5_brings_20 (by decide) ?_
    refine aw_cSi S [.int p3, .int (0 : Int32), .int (20 : Int32)] vw_X5_in tw_1010 (s_X5_in _ _ _ p3 (0 : Int32) (20 : Int32) I2) ⟨by decide, by decide⟩ rfl rfl (Nat.le_of_ble_eq_true rfl) rfl rfl (by decide) (by decide) dX5_brings_22 (fun x3 I3 => ?_)
    refine aw_if_ne (y := 0) (tgt := 32) S dX5_brings_25 (by decide) ?_ ?_
    · refine aw_aload_n S 0 rfl dX5_brings_32 rfl ?_
      refine aw_getR S 177 0 178 cl_X5 (by decide) (by decide) (by decide) (by decide) (by decide) rfl tw_963 dX5_brings_33 ?_
      refine aw_iconst (v := (1 : Int32)) S dX5_brings_36 (by decide) ?_
      refine aw_iald S 178 1375 (by decide) (by decide) dX5_brings_37 ?_
      refine aw_istore (L2 := [(0, .ref (kgO (kgHs X) 177)), (1, .int p1), (2, .int p2), (3, .int p3), (4, .int (I3 178 (1 : Int32).toNatClampNeg))]) S [1, 2, 3, 4, 0] dX5_brings_38 (by decide) rfl ?_
      refine aw_let (Lf := fun x4 => [(0, .ref (kgO (kgHs X) 177)), (1, .int p1), (2, .int p2), (3, .int p3), (4, .int x4)]) (I3 178 (1 : Int32).toNatClampNeg) (fun x4 => ?_)
      refine aw_aload_n S 0 rfl dX5_brings_40 rfl ?_
      refine aw_aload_n S 0 rfl dX5_brings_41 rfl ?_
      refine aw_iload_n S 2 rfl dX5_brings_42 rfl ?_
      refine aw_cVi S 177 [.int p2] vw_X5_ownerOf cl_X5 (by decide) (by decide) tw_1035 (s_X5_ownerOf _ _ _ p2 I3) ⟨by decide, by decide⟩ rfl rfl (Nat.le_of_ble_eq_true rfl) rfl rfl (by decide) (by decide) dX5_brings_43 (fun x5 I4 => ?_)
      refine aw_iload_n S 1 rfl dX5_brings_46 rfl ?_
      refine aw_letJ (fun (j55 : Int32 → Option (Int32 × kgM)) => ∀ (y0j55 : Int32), AW X 6 0 0 w (j55 y0j55) 55 [(0, .ref (kgO (kgHs X) 177)), (1, .int p1), (2, .int p2), (3, .int p3), (4, .int x4)] [.int y0j55, .ref (kgO (kgHs X) 177)] I4) ?_ (fun j55 hj55 => ?_)
      · intro y0j55
        refine aw_iconst (v := (3 : Int32)) S dX5_brings_55 (by decide) ?_
        refine aw_aload_n S 0 rfl dX5_brings_56 rfl ?_
        refine aw_iload_n S 2 rfl dX5_brings_57 rfl ?_
        refine aw_cVi S 177 [.int p2] vw_X5_ownerOf cl_X5 (by decide) (by decide) tw_1035 (s_X5_ownerOf _ _ _ p2 I4) ⟨by decide, by decide⟩ rfl rfl (Nat.le_of_ble_eq_true rfl) rfl rfl (by decide) (by decide) dX5_brings_58 (fun x6 I5 => ?_)
        refine aw_cVi S 177 [.int y0j55, .int (3 : Int32), .int x6] vw_X5_refuses cl_X5 (by decide) (by decide) tw_1039 (s_X5_refuses _ _ _ y0j55 (3 : Int32) x6 I5) ⟨by decide, by decide⟩ rfl rfl (Nat.le_of_ble_eq_true rfl) rfl rfl (by decide) (by decide) dX5_brings_61 (fun x7 I6 => ?_)
        refine aw_if_ne (y := 0) (tgt := 89) S dX5_brings_64 (by decide) ?_ ?_
        · refine aw_sipush (v := (-1014 : Int32)) S dX5_brings_89 (by decide) ?_
          exact aw_ret S hQ (vp_nar_int _) (by decide) (by decide) dX5_brings_92
        refine aw_aload_n S 0 rfl dX5_brings_67 rfl ?_
        refine aw_iload S 4 rfl dX5_brings_68 ?_
        refine aw_bipush (v := (10 : Int32)) S dX5_brings_70 (by decide) ?_
        refine aw_letJ (fun (j80 : Int32 → Option (Int32 × kgM)) => ∀ (y0j80 : Int32), AW X 6 0 0 w (j80 y0j80) 80 [(0, .ref (kgO (kgHs X) 177)), (1, .int p1), (2, .int p2), (3, .int p3), (4, .int x4)] [.int y0j80, .ref (kgO (kgHs X) 177)] I6) ?_ (fun j80 hj80 => ?_)
        · intro y0j80
          refine aw_iconst (v := (1 : Int32)) S dX5_brings_80 (by decide) ?_
          refine aw_bipush (v := (10 : Int32)) S dX5_brings_81 (by decide) ?_
          refine aw_cVi S 177 [.int y0j80, .int (1 : Int32), .int (10 : Int32)] vw_X5_refuses cl_X5 (by decide) (by decide) tw_1039 (s_X5_refuses _ _ _ y0j80 (1 : Int32) (10 : Int32) I6) ⟨by decide, by decide⟩ rfl rfl (Nat.le_of_ble_eq_true rfl) rfl rfl (by decide) (by decide) dX5_brings_83 (fun x8 I7 => ?_)
          refine aw_if_eq (y := 0) (tgt := 93) S dX5_brings_86 (by decide) ?_ ?_
          · refine aw_aload_n S 0 rfl dX5_brings_93 rfl ?_
            refine aw_getR S 177 0 178 cl_X5 (by decide) (by decide) (by decide) (by decide) (by decide) rfl tw_963 dX5_brings_94 ?_
            refine aw_iconst (v := (1 : Int32)) S dX5_brings_97 (by decide) ?_
            refine aw_dup2 S dX5_brings_98 rfl rfl ?_
            refine aw_iald S 178 1375 (by decide) (by decide) dX5_brings_99 ?_
            refine aw_iconst (v := (1 : Int32)) S dX5_brings_100 (by decide) ?_
            refine aw_iadd S dX5_brings_101 ?_
            refine aw_iast S 178 1375 (by decide) (by decide) dX5_brings_102 ?_
            refine aw_wr (fun I8 => ?_)
            refine aw_iconst (v := (0 : Int32)) S dX5_brings_103 (by decide) ?_
            refine aw_istore (L2 := [(0, .ref (kgO (kgHs X) 177)), (1, .int p1), (2, .int p2), (3, .int p3), (4, .int x4), (5, .int (0 : Int32))]) S [1, 2, 3, 4, 5, 0] dX5_brings_104 (by decide) rfl ?_
            refine s_X5_brings_L106 S hQ p1 p2 p3 x4 (fun I10 => ?_) 200 (0 : Int32) I8
            refine aw_aload_n S 0 rfl dX5_brings_128 rfl ?_
            refine aw_iload S 4 rfl dX5_brings_129 ?_
            refine aw_iconst (v := (0 : Int32)) S dX5_brings_131 (by decide) ?_
            refine aw_iload_n S 1 rfl dX5_brings_132 rfl ?_
            refine aw_cVv S 177 [.int x4, .int (0 : Int32), .int p1] vw_X5_puts cl_X5 (by decide) (by decide) tw_1059 (s_X5_puts _ _ _ x4 (0 : Int32) p1 I10) ⟨by decide, by decide⟩ rfl rfl (Nat.le_of_ble_eq_true rfl) rfl rfl (by decide) (by decide) dX5_brings_133 (fun x11 I11 => ?_)
            refine aw_aload_n S 0 rfl dX5_brings_136 rfl ?_
            refine aw_iload S 4 rfl dX5_brings_137 ?_
            refine aw_iconst (v := (1 : Int32)) S dX5_brings_139 (by decide) ?_
            refine aw_iload_n S 2 rfl dX5_brings_140 rfl ?_
            refine aw_cVv S 177 [.int x4, .int (1 : Int32), .int p2] vw_X5_puts cl_X5 (by decide) (by decide) tw_1059 (s_X5_puts _ _ _ x4 (1 : Int32) p2 I11) ⟨by decide, by decide⟩ rfl rfl (Nat.le_of_ble_eq_true rfl) rfl rfl (by decide) (by decide) dX5_brings_141 (fun x12 I12 => ?_)
            refine aw_aload_n S 0 rfl dX5_brings_144 rfl ?_
            refine aw_iload S 4 rfl dX5_brings_145 ?_
            refine aw_iconst (v := (2 : Int32)) S dX5_brings_147 (by decide) ?_
            refine aw_iload_n S 3 rfl dX5_brings_148 rfl ?_
            refine aw_cVv S 177 [.int x4, .int (2 : Int32), .int p3] vw_X5_puts cl_X5 (by decide) (by decide) tw_1059 (s_X5_puts _ _ _ x4 (2 : Int32) p3 I12) ⟨by decide, by decide⟩ rfl rfl (Nat.le_of_ble_eq_true rfl) rfl rfl (by decide) (by decide) dX5_brings_149 (fun x13 I13 => ?_)
            refine aw_aload_n S 0 rfl dX5_brings_152 rfl ?_
            refine aw_iload S 4 rfl dX5_brings_153 ?_
            refine aw_iconst (v := (3 : Int32)) S dX5_brings_155 (by decide) ?_
            refine aw_bipush (v := (20 : Int32)) S dX5_brings_156 (by decide) ?_
            refine aw_cVv S 177 [.int x4, .int (3 : Int32), .int (20 : Int32)] vw_X5_puts cl_X5 (by decide) (by decide) tw_1059 (s_X5_puts _ _ _ x4 (3 : Int32) (20 : Int32) I13) ⟨by decide, by decide⟩ rfl rfl (Nat.le_of_ble_eq_true rfl) rfl rfl (by decide) (by decide) dX5_brings_158 (fun x14 I14 => ?_)
            refine aw_aload_n S 0 rfl dX5_brings_161 rfl ?_
            refine aw_iload S 4 rfl dX5_brings_162 ?_
            refine aw_iconst (v := (4 : Int32)) S dX5_brings_164 (by decide) ?_
            refine aw_iconst (v := (1 : Int32)) S dX5_brings_165 (by decide) ?_
            refine aw_cVv S 177 [.int x4, .int (4 : Int32), .int (1 : Int32)] vw_X5_puts cl_X5 (by decide) (by decide) tw_1059 (s_X5_puts _ _ _ x4 (4 : Int32) (1 : Int32) I14) ⟨by decide, by decide⟩ rfl rfl (Nat.le_of_ble_eq_true rfl) rfl rfl (by decide) (by decide) dX5_brings_166 (fun x15 I15 => ?_)
            refine aw_aload_n S 0 rfl dX5_brings_169 rfl ?_
            refine aw_getR S 177 0 178 cl_X5 (by decide) (by decide) (by decide) (by decide) (by decide) rfl tw_963 dX5_brings_170 ?_
            refine aw_iconst (v := (2 : Int32)) S dX5_brings_173 (by decide) ?_
            refine aw_dup2 S dX5_brings_174 rfl rfl ?_
            refine aw_iald S 178 1375 (by decide) (by decide) dX5_brings_175 ?_
            refine aw_iload_n S 3 rfl dX5_brings_176 rfl ?_
            refine aw_iadd S dX5_brings_177 ?_
            refine aw_iast S 178 1375 (by decide) (by decide) dX5_brings_178 ?_
            refine aw_wr (fun I16 => ?_)
            refine aw_iload S 4 rfl dX5_brings_179 ?_
            exact aw_ret S hQ (vp_nar_int _) (by decide) (by decide) dX5_brings_181
          refine aw_sipush (v := (-1014 : Int32)) S dX5_brings_89 (by decide) ?_
          exact aw_ret S hQ (vp_nar_int _) (by decide) (by decide) dX5_brings_92
        refine aw_icmp_ne (tgt := 79) S dX5_brings_72 (by decide) ?_ ?_
        · refine aw_iconst (v := (0 : Int32)) S dX5_brings_79 (by decide) ?_
          exact hj80 (0 : Int32)
        refine aw_iconst (v := (1 : Int32)) S dX5_brings_75 (by decide) ?_
        refine aw_goto (tgt := 80) S dX5_brings_76 (by decide) ?_
        exact hj80 (1 : Int32)
      refine aw_icmp_eq (tgt := 54) S dX5_brings_47 (by decide) ?_ ?_
      · refine aw_iconst (v := (0 : Int32)) S dX5_brings_54 (by decide) ?_
        exact hj55 (0 : Int32)
      refine aw_iconst (v := (1 : Int32)) S dX5_brings_50 (by decide) ?_
      refine aw_goto (tgt := 55) S dX5_brings_51 (by decide) ?_
      exact hj55 (1 : Int32)
    refine aw_sipush (v := (-1012 : Int32)) S dX5_brings_28 (by decide) ?_
    exact aw_ret S hQ (vp_nar_int _) (by decide) (by decide) dX5_brings_31
  refine aw_sipush (v := (-1011 : Int32)) S dX5_brings_7 (by decide) ?_
  exact aw_ret S hQ (vp_nar_int _) (by decide) (by decide) dX5_brings_10
set_option maxHeartbeats 4000000 in
set_option maxRecDepth 100000 in
theorem s_X5_kettle (hs : kgH) (l : Launch) (w : Option (Nat × Nat)) (p1 : Int32) (p2 : Int32) (p3 : Int32) (I0 : kgM) : Sdi hs l w yX5_kettle (kg_ws yX5_kettle cX5_kettle 4 (some .int)) { frames := 3, cells := 0, slots := 0, locals := 67 } [.ref (kgO hs 177), .int p1, .int p2, .int p3] I0 (f_X5_kettle p1 p2 p3 I0) := by
  refine sd_i (av := fun hs => [.ref (kgO hs 177), .int p1, .int p2, .int p3]) (by decide +kernel) (fun hs => Nat.le_of_ble_eq_true rfl) (fun X S hQ => ?_) hs l
  refine aw_sub (L2 := [(0, .ref (kgO (kgHs X) 177)), (1, .int p1), (2, .int p2), (3, .int p3)]) [0, 1, 2, 3] rfl ?_
  unfold f_X5_kettle
  refine aw_aload_n S 0 rfl dX5_kettle_0 rfl ?_
  refine aw_cVv S 177 [] vw_X5_begins cl_X5 (by decide) (by decide) tw_1017 (s_X5_begins _ _ _ I0) ⟨by decide, by decide⟩ rfl rfl (Nat.le_of_ble_eq_true rfl) rfl rfl (by decide) (by decide) dX5_kettle_1 (fun x1 I1 => ?_)
  refine aw_aload_n S 0 rfl dX5_kettle_4 rfl ?_
  refine aw_aload_n S 0 rfl dX5_kettle_5 rfl ?_
  refine aw_iload_n S 1 rfl dX5_kettle_6 rfl ?_
  refine aw_iload_n S 2 rfl dX5_kettle_7 rfl ?_
  refine aw_iload_n S 3 rfl dX5_kettle_8 rfl ?_
  refine aw_cVi S 177 [.int p1, .int p2, .int p3] vw_X5_brings cl_X5 (by decide) (by decide) tw_1055 (s_X5_brings _ _ _ p1 p2 p3 I1) ⟨by decide, by decide⟩ rfl rfl (Nat.le_of_ble_eq_true rfl) rfl rfl (by decide) (by decide) dX5_kettle_9 (fun x2 I2 => ?_)
  refine aw_cVi S 177 [.int x2] vw_X5_ends cl_X5 (by decide) (by decide) tw_1047 (s_X5_ends _ _ _ x2 I2) ⟨by decide, by decide⟩ rfl rfl (Nat.le_of_ble_eq_true rfl) rfl rfl (by decide) (by decide) dX5_kettle_12 (fun x3 I3 => ?_)
  exact aw_ret S hQ (vp_nar_int _) (by decide) (by decide) dX5_kettle_15
set_option maxHeartbeats 4000000 in
set_option maxRecDepth 100000 in
theorem s_X5_fills (hs : kgH) (l : Launch) (w : Option (Nat × Nat)) (p1 : Int32) (p2 : Int32) (I0 : kgM) : Sdi hs l w yX5_fills (kg_ws yX5_fills cX5_fills 4 (some .int)) { frames := 2, cells := 0, slots := 0, locals := 43 } [.ref (kgO hs 177), .int p1, .int p2] I0 (f_X5_fills p1 p2 I0) := by
  refine sd_i (av := fun hs => [.ref (kgO hs 177), .int p1, .int p2]) (by decide +kernel) (fun hs => Nat.le_of_ble_eq_true rfl) (fun X S hQ => ?_) hs l
  refine aw_sub (L2 := [(0, .ref (kgO (kgHs X) 177)), (1, .int p1), (2, .int p2)]) [0, 1, 2] rfl ?_
  unfold f_X5_fills
  refine aw_aload_n S 0 rfl dX5_fills_0 rfl ?_
  refine aw_iload_n S 1 rfl dX5_fills_1 rfl ?_
  refine aw_cVi S 177 [.int p1] vw_X5_isKettle cl_X5 (by decide) (by decide) tw_1071 (s_X5_isKettle _ _ _ p1 I0) ⟨by decide, by decide⟩ rfl rfl (Nat.le_of_ble_eq_true rfl) rfl rfl (by decide) (by decide) dX5_fills_2 (fun x1 I1 => ?_)
  refine aw_if_ne (y := 0) (tgt := 12) S dX5_fills_5 (by decide) ?_ ?_
  · refine aw_iload_n S 2 rfl dX5_fills_12 rfl ?_
    refine aw_iconst (v := (1 : Int32)) S dX5_fills_13 (by decide) ?_
    refine aw_bipush (v := (20 : Int32)) S dX5_fills_14 (by decide) ?_
    refine aw_cSi S [.int p2, .int (1 : Int32), .int (20 : Int32)] vw_X5_in tw_1010 (s_X5_in _ _ _ p2 (1 : Int32) (20 : Int32) I1) ⟨by decide, by decide⟩ rfl rfl (Nat.le_of_ble_eq_true rfl) rfl rfl (by decide) (by decide) dX5_fills_16 (fun x2 I2 => ?_)
    refine aw_if_ne (y := 0) (tgt := 26) S dX5_fills_19 (by decide) ?_ ?_
    · refine aw_aload_n S 0 rfl dX5_fills_26 rfl ?_
      refine aw_iload_n S 1 rfl dX5_fills_27 rfl ?_
      refine aw_iconst (v := (2 : Int32)) S dX5_fills_28 (by decide) ?_
      refine aw_cVi S 177 [.int p1, .int (2 : Int32)] vw_X5_kt cl_X5 (by decide) (by decide) tw_1075 (s_X5_kt _ _ _ p1 (2 : Int32) I2) ⟨by decide, by decide⟩ rfl rfl (Nat.le_of_ble_eq_true rfl) rfl rfl (by decide) (by decide) dX5_fills_29 (fun x3 I3 => ?_)
      refine aw_iload_n S 2 rfl dX5_fills_32 rfl ?_
      refine aw_iadd S dX5_fills_33 ?_
      refine aw_istore_n (L2 := [(0, .ref (kgO (kgHs X) 177)), (1, .int p1), (2, .int p2), (3, .int (x3 + p2))]) S [1, 2, 3, 0] dX5_fills_34 rfl (by decide) rfl ?_
      refine aw_let (Lf := fun x4 => [(0, .ref (kgO (kgHs X) 177)), (1, .int p1), (2, .int p2), (3, .int x4)]) (x3 + p2) (fun x4 => ?_)
      refine aw_aload_n S 0 rfl dX5_fills_35 rfl ?_
      refine aw_iload_n S 3 rfl dX5_fills_36 rfl ?_
      refine aw_bipush (v := (20 : Int32)) S dX5_fills_37 (by decide) ?_
      refine aw_letJ (fun (j47 : Int32 → Option (Int32 × kgM)) => ∀ (y0j47 : Int32), AW X 4 0 0 w (j47 y0j47) 47 [(0, .ref (kgO (kgHs X) 177)), (1, .int p1), (2, .int p2), (3, .int x4)] [.int y0j47, .ref (kgO (kgHs X) 177)] I3) ?_ (fun j47 hj47 => ?_)
      · intro y0j47
        refine aw_bipush (v := (11 : Int32)) S dX5_fills_47 (by decide) ?_
        refine aw_iload_n S 3 rfl dX5_fills_49 rfl ?_
        refine aw_cVi S 177 [.int y0j47, .int (11 : Int32), .int x4] vw_X5_refuses cl_X5 (by decide) (by decide) tw_1039 (s_X5_refuses _ _ _ y0j47 (11 : Int32) x4 I3) ⟨by decide, by decide⟩ rfl rfl (Nat.le_of_ble_eq_true rfl) rfl rfl (by decide) (by decide) dX5_fills_50 (fun x5 I4 => ?_)
        refine aw_if_eq (y := 0) (tgt := 60) S dX5_fills_53 (by decide) ?_ ?_
        · refine aw_aload_n S 0 rfl dX5_fills_60 rfl ?_
          refine aw_iload_n S 1 rfl dX5_fills_61 rfl ?_
          refine aw_iconst (v := (2 : Int32)) S dX5_fills_62 (by decide) ?_
          refine aw_iload_n S 3 rfl dX5_fills_63 rfl ?_
          refine aw_cVv S 177 [.int p1, .int (2 : Int32), .int x4] vw_X5_puts cl_X5 (by decide) (by decide) tw_1059 (s_X5_puts _ _ _ p1 (2 : Int32) x4 I4) ⟨by decide, by decide⟩ rfl rfl (Nat.le_of_ble_eq_true rfl) rfl rfl (by decide) (by decide) dX5_fills_64 (fun x6 I5 => ?_)
          refine aw_aload_n S 0 rfl dX5_fills_67 rfl ?_
          refine aw_getR S 177 0 178 cl_X5 (by decide) (by decide) (by decide) (by decide) (by decide) rfl tw_963 dX5_fills_68 ?_
          refine aw_iconst (v := (2 : Int32)) S dX5_fills_71 (by decide) ?_
          refine aw_dup2 S dX5_fills_72 rfl rfl ?_
          refine aw_iald S 178 1375 (by decide) (by decide) dX5_fills_73 ?_
          refine aw_iload_n S 2 rfl dX5_fills_74 rfl ?_
          refine aw_iadd S dX5_fills_75 ?_
          refine aw_iast S 178 1375 (by decide) (by decide) dX5_fills_76 ?_
          refine aw_wr (fun I6 => ?_)
          refine aw_iload_n S 3 rfl dX5_fills_77 rfl ?_
          exact aw_ret S hQ (vp_nar_int _) (by decide) (by decide) dX5_fills_78
        refine aw_sipush (v := (-1014 : Int32)) S dX5_fills_56 (by decide) ?_
        exact aw_ret S hQ (vp_nar_int _) (by decide) (by decide) dX5_fills_59
      refine aw_icmp_le (tgt := 46) S dX5_fills_39 (by decide) ?_ ?_
      · refine aw_iconst (v := (0 : Int32)) S dX5_fills_46 (by decide) ?_
        exact hj47 (0 : Int32)
      refine aw_iconst (v := (1 : Int32)) S dX5_fills_42 (by decide) ?_
      refine aw_goto (tgt := 47) S dX5_fills_43 (by decide) ?_
      exact hj47 (1 : Int32)
    refine aw_sipush (v := (-1012 : Int32)) S dX5_fills_22 (by decide) ?_
    exact aw_ret S hQ (vp_nar_int _) (by decide) (by decide) dX5_fills_25
  refine aw_sipush (v := (-1011 : Int32)) S dX5_fills_8 (by decide) ?_
  exact aw_ret S hQ (vp_nar_int _) (by decide) (by decide) dX5_fills_11
set_option maxHeartbeats 4000000 in
set_option maxRecDepth 100000 in
theorem s_X5_fill (hs : kgH) (l : Launch) (w : Option (Nat × Nat)) (p1 : Int32) (p2 : Int32) (I0 : kgM) : Sdi hs l w yX5_fill (kg_ws yX5_fill cX5_fill 3 (some .int)) { frames := 3, cells := 0, slots := 0, locals := 66 } [.ref (kgO hs 177), .int p1, .int p2] I0 (f_X5_fill p1 p2 I0) := by
  refine sd_i (av := fun hs => [.ref (kgO hs 177), .int p1, .int p2]) (by decide +kernel) (fun hs => Nat.le_of_ble_eq_true rfl) (fun X S hQ => ?_) hs l
  refine aw_sub (L2 := [(0, .ref (kgO (kgHs X) 177)), (1, .int p1), (2, .int p2)]) [0, 1, 2] rfl ?_
  unfold f_X5_fill
  refine aw_aload_n S 0 rfl dX5_fill_0 rfl ?_
  refine aw_cVv S 177 [] vw_X5_begins cl_X5 (by decide) (by decide) tw_1017 (s_X5_begins _ _ _ I0) ⟨by decide, by decide⟩ rfl rfl (Nat.le_of_ble_eq_true rfl) rfl rfl (by decide) (by decide) dX5_fill_1 (fun x1 I1 => ?_)
  refine aw_aload_n S 0 rfl dX5_fill_4 rfl ?_
  refine aw_aload_n S 0 rfl dX5_fill_5 rfl ?_
  refine aw_iload_n S 1 rfl dX5_fill_6 rfl ?_
  refine aw_iload_n S 2 rfl dX5_fill_7 rfl ?_
  refine aw_cVi S 177 [.int p1, .int p2] vw_X5_fills cl_X5 (by decide) (by decide) tw_1067 (s_X5_fills _ _ _ p1 p2 I1) ⟨by decide, by decide⟩ rfl rfl (Nat.le_of_ble_eq_true rfl) rfl rfl (by decide) (by decide) dX5_fill_8 (fun x2 I2 => ?_)
  refine aw_cVi S 177 [.int x2] vw_X5_ends cl_X5 (by decide) (by decide) tw_1047 (s_X5_ends _ _ _ x2 I2) ⟨by decide, by decide⟩ rfl rfl (Nat.le_of_ble_eq_true rfl) rfl rfl (by decide) (by decide) dX5_fill_11 (fun x3 I3 => ?_)
  exact aw_ret S hQ (vp_nar_int _) (by decide) (by decide) dX5_fill_14
